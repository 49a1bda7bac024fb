section
-- ===== PART A: goes FIRST, ahead of the names: the tables' words, and 'selects' of the private methods out of them =====
/-- a private method of a class that the tables say can be made, by its rows of tables_1 -/
def lw_okq (q : MethodName × Nat) : Prop := (q.1.cls ≠ "java/lang/invoke/MethodHandle" ∧ q.1.cls ≠ "java/lang/invoke/VarHandle") ∧ Cond.instantiable q.1.cls q.2 ∈ tables_1 ∧ Cond.privateMethod q.1 ∈ tables_1 ∧ Cond.instanceMethod q.1 ∈ tables_1
theorem lw_p0 : lw_okq (⟨"ExchangeSystem", "processesAlive", "()I"⟩, 12) := ⟨⟨by decide +kernel, by decide +kernel⟩, List.mem_of_getElem? (i := 21) (by decide +kernel), List.mem_of_getElem? (i := 145) (by decide +kernel), List.mem_of_getElem? (i := 146) (by decide +kernel)⟩
theorem lw_p1 : lw_okq (⟨"ExchangeSystem", "blocksInUse", "()I"⟩, 12) := ⟨⟨by decide +kernel, by decide +kernel⟩, List.mem_of_getElem? (i := 21) (by decide +kernel), List.mem_of_getElem? (i := 149) (by decide +kernel), List.mem_of_getElem? (i := 150) (by decide +kernel)⟩
theorem lw_p2 : lw_okq (⟨"ExchangeSystem", "cellsInUse", "()I"⟩, 12) := ⟨⟨by decide +kernel, by decide +kernel⟩, List.mem_of_getElem? (i := 21) (by decide +kernel), List.mem_of_getElem? (i := 157) (by decide +kernel), List.mem_of_getElem? (i := 158) (by decide +kernel)⟩
theorem lw_p3 : lw_okq (⟨"ExchangeSystem", "endsOpen", "()I"⟩, 12) := ⟨⟨by decide +kernel, by decide +kernel⟩, List.mem_of_getElem? (i := 21) (by decide +kernel), List.mem_of_getElem? (i := 161) (by decide +kernel), List.mem_of_getElem? (i := 162) (by decide +kernel)⟩
theorem lw_p4 : lw_okq (⟨"ExchangeSystem", "messagesWaiting", "()I"⟩, 12) := ⟨⟨by decide +kernel, by decide +kernel⟩, List.mem_of_getElem? (i := 21) (by decide +kernel), List.mem_of_getElem? (i := 169) (by decide +kernel), List.mem_of_getElem? (i := 170) (by decide +kernel)⟩
theorem lw_p5 : lw_okq (⟨"ExchangeSystem", "contractsMade", "()I"⟩, 12) := ⟨⟨by decide +kernel, by decide +kernel⟩, List.mem_of_getElem? (i := 21) (by decide +kernel), List.mem_of_getElem? (i := 173) (by decide +kernel), List.mem_of_getElem? (i := 174) (by decide +kernel)⟩
theorem lw_p6 : lw_okq (⟨"java/lang/Throwable", "fillInStackTrace", "(I)Ljava/lang/Throwable;"⟩, 6) := ⟨⟨by decide +kernel, by decide +kernel⟩, List.mem_of_getElem? (i := 235) (by decide +kernel), List.mem_of_getElem? (i := 233) (by decide +kernel), List.mem_of_getElem? (i := 234) (by decide +kernel)⟩
theorem lw_p7 : lw_okq (⟨"ExchangeSystem", "draftFromText", "()Z"⟩, 12) := ⟨⟨by decide +kernel, by decide +kernel⟩, List.mem_of_getElem? (i := 21) (by decide +kernel), List.mem_of_getElem? (i := 291) (by decide +kernel), List.mem_of_getElem? (i := 292) (by decide +kernel)⟩
theorem lw_p8 : lw_okq (⟨"ExchangeSystem", "draftRuleAt", "(I)Z"⟩, 12) := ⟨⟨by decide +kernel, by decide +kernel⟩, List.mem_of_getElem? (i := 21) (by decide +kernel), List.mem_of_getElem? (i := 299) (by decide +kernel), List.mem_of_getElem? (i := 300) (by decide +kernel)⟩
theorem lw_p9 : lw_okq (⟨"ExchangeSystem$Contract", "ruleFor", "(II)I"⟩, 5) := ⟨⟨by decide +kernel, by decide +kernel⟩, List.mem_of_getElem? (i := 29) (by decide +kernel), List.mem_of_getElem? (i := 395) (by decide +kernel), List.mem_of_getElem? (i := 396) (by decide +kernel)⟩
theorem lw_p10 : lw_okq (⟨"ExchangeSystem", "needAlive", "(I)V"⟩, 12) := ⟨⟨by decide +kernel, by decide +kernel⟩, List.mem_of_getElem? (i := 21) (by decide +kernel), List.mem_of_getElem? (i := 420) (by decide +kernel), List.mem_of_getElem? (i := 421) (by decide +kernel)⟩
theorem lw_p11 : lw_okq (⟨"ExchangeSystem", "closeEnd", "(II)I"⟩, 12) := ⟨⟨by decide +kernel, by decide +kernel⟩, List.mem_of_getElem? (i := 21) (by decide +kernel), List.mem_of_getElem? (i := 444) (by decide +kernel), List.mem_of_getElem? (i := 445) (by decide +kernel)⟩
theorem lw_p12 : lw_okq (⟨"ExchangeSystem", "dropMessage", "(III)I"⟩, 12) := ⟨⟨by decide +kernel, by decide +kernel⟩, List.mem_of_getElem? (i := 21) (by decide +kernel), List.mem_of_getElem? (i := 448) (by decide +kernel), List.mem_of_getElem? (i := 449) (by decide +kernel)⟩
theorem lw_p13 : lw_okq (⟨"ExchangeSystem", "leastFreeBlock", "()I"⟩, 12) := ⟨⟨by decide +kernel, by decide +kernel⟩, List.mem_of_getElem? (i := 21) (by decide +kernel), List.mem_of_getElem? (i := 465) (by decide +kernel), List.mem_of_getElem? (i := 466) (by decide +kernel)⟩
theorem lw_p14 : lw_okq (⟨"ExchangeSystem", "needOwnBlock", "(II)V"⟩, 12) := ⟨⟨by decide +kernel, by decide +kernel⟩, List.mem_of_getElem? (i := 21) (by decide +kernel), List.mem_of_getElem? (i := 484) (by decide +kernel), List.mem_of_getElem? (i := 485) (by decide +kernel)⟩
theorem lw_p15 : lw_okq (⟨"ExchangeSystem", "needCell", "(II)V"⟩, 12) := ⟨⟨by decide +kernel, by decide +kernel⟩, List.mem_of_getElem? (i := 21) (by decide +kernel), List.mem_of_getElem? (i := 497) (by decide +kernel), List.mem_of_getElem? (i := 498) (by decide +kernel)⟩
def lw_privs_1 : List (MethodName × Nat) := [(⟨"ExchangeSystem", "processesAlive", "()I"⟩, 12), (⟨"ExchangeSystem", "blocksInUse", "()I"⟩, 12), (⟨"ExchangeSystem", "cellsInUse", "()I"⟩, 12), (⟨"ExchangeSystem", "endsOpen", "()I"⟩, 12), (⟨"ExchangeSystem", "messagesWaiting", "()I"⟩, 12), (⟨"ExchangeSystem", "contractsMade", "()I"⟩, 12), (⟨"java/lang/Throwable", "fillInStackTrace", "(I)Ljava/lang/Throwable;"⟩, 6), (⟨"ExchangeSystem", "draftFromText", "()Z"⟩, 12), (⟨"ExchangeSystem", "draftRuleAt", "(I)Z"⟩, 12), (⟨"ExchangeSystem$Contract", "ruleFor", "(II)I"⟩, 5), (⟨"ExchangeSystem", "needAlive", "(I)V"⟩, 12), (⟨"ExchangeSystem", "closeEnd", "(II)I"⟩, 12), (⟨"ExchangeSystem", "dropMessage", "(III)I"⟩, 12), (⟨"ExchangeSystem", "leastFreeBlock", "()I"⟩, 12), (⟨"ExchangeSystem", "needOwnBlock", "(II)V"⟩, 12), (⟨"ExchangeSystem", "needCell", "(II)V"⟩, 12)]
theorem lw_r1 : ∀ q ∈ lw_privs_1, lw_okq q := List.forall_mem_cons.mpr ⟨lw_p0, List.forall_mem_cons.mpr ⟨lw_p1, List.forall_mem_cons.mpr ⟨lw_p2, List.forall_mem_cons.mpr ⟨lw_p3, List.forall_mem_cons.mpr ⟨lw_p4, List.forall_mem_cons.mpr ⟨lw_p5, List.forall_mem_cons.mpr ⟨lw_p6, List.forall_mem_cons.mpr ⟨lw_p7, List.forall_mem_cons.mpr ⟨lw_p8, List.forall_mem_cons.mpr ⟨lw_p9, List.forall_mem_cons.mpr ⟨lw_p10, List.forall_mem_cons.mpr ⟨lw_p11, List.forall_mem_cons.mpr ⟨lw_p12, List.forall_mem_cons.mpr ⟨lw_p13, List.forall_mem_cons.mpr ⟨lw_p14, List.forall_mem_cons.mpr ⟨lw_p15, fun _ h => absurd h List.not_mem_nil⟩⟩⟩⟩⟩⟩⟩⟩⟩⟩⟩⟩⟩⟩⟩⟩
theorem lw_p16 : lw_okq (⟨"ExchangeSystem", "leastFreeChannel", "()I"⟩, 12) := ⟨⟨by decide +kernel, by decide +kernel⟩, List.mem_of_getElem? (i := 21) (by decide +kernel), List.mem_of_getElem? (i := 532) (by decide +kernel), List.mem_of_getElem? (i := 533) (by decide +kernel)⟩
theorem lw_p17 : lw_okq (⟨"ExchangeSystem", "needOwnEnd", "(II)V"⟩, 12) := ⟨⟨by decide +kernel, by decide +kernel⟩, List.mem_of_getElem? (i := 21) (by decide +kernel), List.mem_of_getElem? (i := 549) (by decide +kernel), List.mem_of_getElem? (i := 550) (by decide +kernel)⟩
theorem lw_p18 : lw_okq (⟨"ExchangeSystem", "needOwnLoad", "(IIII)V"⟩, 12) := ⟨⟨by decide +kernel, by decide +kernel⟩, List.mem_of_getElem? (i := 21) (by decide +kernel), List.mem_of_getElem? (i := 565) (by decide +kernel), List.mem_of_getElem? (i := 566) (by decide +kernel)⟩
theorem lw_p19 : lw_okq (⟨"ExchangeSystem", "ownsBlock", "(II)Z"⟩, 12) := ⟨⟨by decide +kernel, by decide +kernel⟩, List.mem_of_getElem? (i := 21) (by decide +kernel), List.mem_of_getElem? (i := 569) (by decide +kernel), List.mem_of_getElem? (i := 570) (by decide +kernel)⟩
theorem lw_p20 : lw_okq (⟨"ExchangeSystem", "ownsEndOfOtherChannel", "(III)Z"⟩, 12) := ⟨⟨by decide +kernel, by decide +kernel⟩, List.mem_of_getElem? (i := 21) (by decide +kernel), List.mem_of_getElem? (i := 574) (by decide +kernel), List.mem_of_getElem? (i := 575) (by decide +kernel)⟩
theorem lw_p21 : lw_okq (⟨"ExchangeSystem", "giveLoad", "(III)V"⟩, 12) := ⟨⟨by decide +kernel, by decide +kernel⟩, List.mem_of_getElem? (i := 21) (by decide +kernel), List.mem_of_getElem? (i := 584) (by decide +kernel), List.mem_of_getElem? (i := 585) (by decide +kernel)⟩
theorem lw_p22 : lw_okq (⟨"ExchangeSystemModel", "bad", "(Z)Z"⟩, 24) := ⟨⟨by decide +kernel, by decide +kernel⟩, List.mem_of_getElem? (i := 633) (by decide +kernel), List.mem_of_getElem? (i := 723) (by decide +kernel), List.mem_of_getElem? (i := 724) (by decide +kernel)⟩
theorem lw_p23 : lw_okq (⟨"ExchangeSystemModel", "fail", "(I)I"⟩, 24) := ⟨⟨by decide +kernel, by decide +kernel⟩, List.mem_of_getElem? (i := 633) (by decide +kernel), List.mem_of_getElem? (i := 727) (by decide +kernel), List.mem_of_getElem? (i := 728) (by decide +kernel)⟩
theorem lw_p24 : lw_okq (⟨"ExchangeSystemModel", "readRules", "()I"⟩, 24) := ⟨⟨by decide +kernel, by decide +kernel⟩, List.mem_of_getElem? (i := 633) (by decide +kernel), List.mem_of_getElem? (i := 735) (by decide +kernel), List.mem_of_getElem? (i := 736) (by decide +kernel)⟩
theorem lw_p25 : lw_okq (⟨"ExchangeSystemModel", "freeBlock", "(I)V"⟩, 24) := ⟨⟨by decide +kernel, by decide +kernel⟩, List.mem_of_getElem? (i := 633) (by decide +kernel), List.mem_of_getElem? (i := 750) (by decide +kernel), List.mem_of_getElem? (i := 751) (by decide +kernel)⟩
theorem lw_p26 : lw_okq (⟨"ExchangeSystemModel", "closeEnd", "(I)V"⟩, 24) := ⟨⟨by decide +kernel, by decide +kernel⟩, List.mem_of_getElem? (i := 633) (by decide +kernel), List.mem_of_getElem? (i := 754) (by decide +kernel), List.mem_of_getElem? (i := 755) (by decide +kernel)⟩
theorem lw_p27 : lw_okq (⟨"ExchangeSystemModel", "clear", "()V"⟩, 24) := ⟨⟨by decide +kernel, by decide +kernel⟩, List.mem_of_getElem? (i := 633) (by decide +kernel), List.mem_of_getElem? (i := 758) (by decide +kernel), List.mem_of_getElem? (i := 759) (by decide +kernel)⟩
theorem lw_p28 : lw_okq (⟨"ExchangeSystemModel", "allCells", "()I"⟩, 24) := ⟨⟨by decide +kernel, by decide +kernel⟩, List.mem_of_getElem? (i := 633) (by decide +kernel), List.mem_of_getElem? (i := 766) (by decide +kernel), List.mem_of_getElem? (i := 767) (by decide +kernel)⟩
theorem lw_p29 : lw_okq (⟨"ExchangeSystemModel", "notYours", "(II)Z"⟩, 24) := ⟨⟨by decide +kernel, by decide +kernel⟩, List.mem_of_getElem? (i := 633) (by decide +kernel), List.mem_of_getElem? (i := 774) (by decide +kernel), List.mem_of_getElem? (i := 775) (by decide +kernel)⟩
theorem lw_p30 : lw_okq (⟨"ExchangeSystemModel", "notYourEnd", "(II)Z"⟩, 24) := ⟨⟨by decide +kernel, by decide +kernel⟩, List.mem_of_getElem? (i := 633) (by decide +kernel), List.mem_of_getElem? (i := 794) (by decide +kernel), List.mem_of_getElem? (i := 795) (by decide +kernel)⟩
theorem lw_p31 : lw_okq (⟨"ExchangeSystemModel", "lets", "(III)Z"⟩, 24) := ⟨⟨by decide +kernel, by decide +kernel⟩, List.mem_of_getElem? (i := 633) (by decide +kernel), List.mem_of_getElem? (i := 798) (by decide +kernel), List.mem_of_getElem? (i := 799) (by decide +kernel)⟩
def lw_privs_2 : List (MethodName × Nat) := [(⟨"ExchangeSystem", "leastFreeChannel", "()I"⟩, 12), (⟨"ExchangeSystem", "needOwnEnd", "(II)V"⟩, 12), (⟨"ExchangeSystem", "needOwnLoad", "(IIII)V"⟩, 12), (⟨"ExchangeSystem", "ownsBlock", "(II)Z"⟩, 12), (⟨"ExchangeSystem", "ownsEndOfOtherChannel", "(III)Z"⟩, 12), (⟨"ExchangeSystem", "giveLoad", "(III)V"⟩, 12), (⟨"ExchangeSystemModel", "bad", "(Z)Z"⟩, 24), (⟨"ExchangeSystemModel", "fail", "(I)I"⟩, 24), (⟨"ExchangeSystemModel", "readRules", "()I"⟩, 24), (⟨"ExchangeSystemModel", "freeBlock", "(I)V"⟩, 24), (⟨"ExchangeSystemModel", "closeEnd", "(I)V"⟩, 24), (⟨"ExchangeSystemModel", "clear", "()V"⟩, 24), (⟨"ExchangeSystemModel", "allCells", "()I"⟩, 24), (⟨"ExchangeSystemModel", "notYours", "(II)Z"⟩, 24), (⟨"ExchangeSystemModel", "notYourEnd", "(II)Z"⟩, 24), (⟨"ExchangeSystemModel", "lets", "(III)Z"⟩, 24)]
theorem lw_r2 : ∀ q ∈ lw_privs_2, lw_okq q := List.forall_mem_cons.mpr ⟨lw_p16, List.forall_mem_cons.mpr ⟨lw_p17, List.forall_mem_cons.mpr ⟨lw_p18, List.forall_mem_cons.mpr ⟨lw_p19, List.forall_mem_cons.mpr ⟨lw_p20, List.forall_mem_cons.mpr ⟨lw_p21, List.forall_mem_cons.mpr ⟨lw_p22, List.forall_mem_cons.mpr ⟨lw_p23, List.forall_mem_cons.mpr ⟨lw_p24, List.forall_mem_cons.mpr ⟨lw_p25, List.forall_mem_cons.mpr ⟨lw_p26, List.forall_mem_cons.mpr ⟨lw_p27, List.forall_mem_cons.mpr ⟨lw_p28, List.forall_mem_cons.mpr ⟨lw_p29, List.forall_mem_cons.mpr ⟨lw_p30, List.forall_mem_cons.mpr ⟨lw_p31, fun _ h => absurd h List.not_mem_nil⟩⟩⟩⟩⟩⟩⟩⟩⟩⟩⟩⟩⟩⟩⟩⟩
def lw_privs : List (MethodName × Nat) := lw_privs_1 ++ (lw_privs_2)
def lw_tbl : List Cond := k2_sels lw_privs ++ tables_1
theorem lw_privs_ok : ∀ q ∈ lw_privs, lw_okq q := by
  show ∀ q ∈ lw_privs_1 ++ (lw_privs_2), lw_okq q
  exact List.forall_mem_append.mpr ⟨lw_r1, lw_r2⟩
end
section
/-! ===== BEGIN exceptions that leave a method, and their catching by the caller (launches without stack traces) ===== -/
section VXA
/-! The laws vx_back, vx_callV, vx_callS, vx_callSW, vx_throw0, vx_throwS follow proofs of the library, with one case more: JvmDerived/Free/Laws.lean (Back.of_free), Shelf42/LK1.lean (callV, callS), Shelf/KitTraced.lean (throwNew0V, throwNewS). -/
/-- where a method has thrown q: the class by its name, the cell, what was written, the world -/
def vx_T (XC : String → State → State → Prop) (st : State) (q : Addr) (t : State) (mc ms : Nat) (free : Addr → Prop) : Prop :=
  ∃ (E : String) (ce : Cell) (L : List Loc), XC E st t ∧ t.heap[q]? = some ce ∧ ce.vm = .none ∧ st.vm.findClass E = some ce.cls ∧ st.WarmedH t.vm ∧ st.sameButNew ({ t with vm := st.vm } : State) L mc ms ∧ ∀ z ∈ L, free z.base
def vx_Q (Qc : Array Value → State → Outcome → State → Prop) (XC : String → State → State → Prop) (mc ms : Nat) (free : Addr → Prop) : Array Value → State → Outcome → State → Prop := fun a st o t =>
  (Qc a st o t ∧ ∃ L, FrameEnd st o t L mc ms ∧ ∀ q ∈ L, free q.base) ∨ ∃ q, o = .threw q ∧ vx_T XC st q t mc ms free
/-- a callee that returns or throws -/
def vx_Met (l : Launch) (y : MethodName) (ws : List Cond) (rm : Room) (Pc : Array Value → State → Prop) (Qc : Array Value → State → Outcome → State → Prop) (XC : String → State → State → Prop) (mc ms : Nat) (free : Addr → Prop) : Prop :=
  MetFree l y (headSpec ws rm) Pc (fun _ _ _ _ _ => True) (vx_Q Qc XC mc ms free)
def vx_Post (XC : String → State → State → Prop) (mc ms : Nat) (free : Addr → Prop) : Pt → Array Value → Addr → Pt → Prop := fun A a q B =>
  ∃ (g : JFrame) (mk : MethodId) (t : State) (L : List Loc) (E : String) (ce : Cell), B.U.heap = t.heap ∧ B.U.vm = t.vm ∧ XC E (A.U.calling g mk a) t ∧ t.heap[q]? = some ce ∧ ce.vm = .none ∧ A.U.vm.findClass E = some ce.cls ∧ B.locs = A.locs ++ L ∧ (∀ z ∈ L, free z.base) ∧ B.cells = A.cells + mc ∧ B.slots = A.slots + ms
def vx_Back (l : Launch) (R : Room) (p : Program) (e : Env) (below : List Frame) (s : State) (sargs : Array Value) (y : MethodName) (len W9 : Nat)
    (Pre : Pt → Array Value → Prop) (Post : Pt → Array Value → Option Value → Pt → Prop) (PostX : Pt → Array Value → Addr → Pt → Prop) : Prop :=
  ∀ (m : MethodId) (meth : Method) (c : Code) (A : Pt) (g : JFrame) (ig : Instr) (mk : MethodId) (a : Array Value),
    Stand p l e R s m sargs below meth c A.U A.locs A.cells A.slots → g.method = m → g.locals.size = c.maxLocals → decode c.code g.pc = .ok (ig, len) →
    2 * g.monitorRoom + (g.stack.map fun v => v.category).sum ≤ W9 → A.U.methodNamed? y = some mk → Pre A a →
    (∃ (v : Option Value) (B : Pt), Stand p l e R s m sargs below meth c B.U B.locs B.cells B.slots ∧ Post A a v B ∧
      Steps p.tables e below (doInvoke e (A.U.setTop g) [] mk a).1 (B.U.setTop { g with pc := g.pc + len, stack := v.toList ++ g.stack })) ∨
    (∃ (q : Addr) (B : Pt), Stand p l e R s m sargs below meth c B.U B.locs B.cells B.slots ∧ PostX A a q B ∧
      Steps p.tables e below (doInvoke e (A.U.setTop g) [] mk a).1 ((B.U.setTop g).pushFrame (.throwing q)))
section Payer
variable {l : Launch} {R : Room} {p : Program} {e : Env} {below : List Frame} {s : State} {sargs : Array Value} {y : MethodName} {len W9 : Nat}
theorem vx_back {ws : List Cond} {rm : Room} {Pc : Array Value → State → Prop} {Qc : Array Value → State → Outcome → State → Prop} {XC : String → State → State → Prop} {mc ms : Nat} {free : Addr → Prop} {bytes : ByteArray} {maxL : Nat} {ret : Option FieldType}
    (hM : vx_Met l y ws rm Pc Qc XC mc ms free) (hblind : FrameBlind Pc) (hrc : rm.cells = mc) (hrs : rm.slots = ms)
    (hframes : rm.frames + 1 ≤ R.frames) (hlocals : W9 + (maxL + 11) + rm.locals ≤ R.locals)
    (hws : ∀ w ∈ ws, ∀ a' U, s.WarmedH U.vm → w.before a' U = true) (hcode : Cond.code y bytes maxL ret ∈ ws) (hinit : ∀ a' U, s.WarmedH U.vm → (Cond.initialized y.cls).before a' U = true) :
    vx_Back l R p e below s sargs y len W9 (PreOf R mc ms Pc) (PostOf Qc mc ms free) (vx_Post XC mc ms free) := by
  intro m meth c A g ig mk a X hg hsize hdg hW hn hp
  have h1 : (headSpec ws rm).pre.before a A.U = true := atoms_intro fun w hw => hws w hw _ _ X.warmed
  have h2 : (Cond.code y bytes maxL ret).before a A.U = true := hws _ hcode _ _ X.warmed
  have h3 : (Cond.initialized y.cls).before a A.U = true := hinit _ _ X.warmed
  have h4 : A.cells + (headSpec ws rm).room.cells ≤ R.cells := by rw [show (headSpec ws rm).room.cells = mc from hrc]; exact hp.1
  have h5 : A.slots + (headSpec ws rm).room.slots ≤ R.slots := by rw [show (headSpec ws rm).room.slots = ms from hrs]; exact hp.2.1
  have hPc : Pc a (A.U.calling g mk a) := hblind _ _ _ _ hp.2.2
  obtain ⟨U, Ls, c0, s0⟩ := A
  dsimp only [Pt.U, Pt.locs, Pt.cells, Pt.slots] at h1 h2 h3 h4 h5 X hn hPc ⊢
  obtain ⟨methY, cY, hmY, hcY, -, hlY, -, -, -, -⟩ := Cond.code_spec hn h2
  obtain ⟨kY, hkY, -⟩ := className_of_methodNamed hn
  have hinitY : kY.init = .initialized := Cond.initialized_spec (findClass_of_methodNamed hn) hkY h3
  have h : At U g.method c below := by rw [hg]; exact X.here
  have hlocals9 : W9 + (maxL + 11) + (headSpec ws rm).room.locals ≤ R.locals := hlocals
  have happ : (headSpec ws rm).appliesLoose y e.platform (U.calling g mk a) = true :=
    Spec.appliesLoose_calling (g := g) h hdg hn hkY hinitY
      (X.room_calling (g := g) (R' := (headSpec ws rm).room) hsize hmY hcY hframes (by rw [hlY]; omega) h4 h5) h1
  obtain ⟨mid, hmid⟩ := h.above
  have hfr : (U.setTop g).frames = (.java g :: mid) ++ below := by rw [State.frames_setTop' g h.top, hmid]; rfl
  obtain ⟨o, s₂, hsteps, -, hend, hq⟩ := Steps.callFree hM p X.admits X.cas X.clock (acts := []) hfr happ hPc trivial
  have hq' : vx_Q Qc XC mc ms free a (U.calling g mk a) o s₂ := hq
  rw [State.frames_setTop' g h.top] at hend
  obtain ⟨g₀, hg0⟩ := Option.isSome_iff_exists.mp h.top
  obtain ⟨r, hr⟩ := State.topJava?_eq_some.mp hg0
  have hr' : (({ U with heap := s₂.heap, slotsUsed := s₂.slotsUsed } : State).setVm s₂.vm).frames = .java g₀ :: r := hr
  rcases hq' with ⟨hqc, L, hfe, hL⟩ | ⟨q, rfl, E, ce, L, hx, hce, hcv, hcl, hW₂, hsm, hL⟩
  · obtain ⟨⟨v, rfl⟩, hW₂, e2, q2, q3, q4, q5, q6⟩ := id hfe
    have e3 : s₂ = ({ (U.calling g mk a).setFrames s₂.frames with heap := s₂.heap, slotsUsed := s₂.slotsUsed } : State).setVm s₂.vm := by
      have : s₂ = ({ s₂ with vm := (U.calling g mk a).vm } : State).setVm s₂.vm := rfl
      rw [e2] at this
      exact this
    obtain ⟨c₂, i₂, len₂, hc₂, hd₂, hf₂⟩ := hend
    have hW' : U.WarmedH s₂.vm := hW₂
    have hcc : c₂ = c := by
      have h1 : s₂.code? g.method = U.code? g.method := by
        rw [State.code?_eq, State.code?_eq, hW'.alike.method?]
      exact Option.some.inj (hc₂.symm.trans (h1.trans h.code))
    subst hcc
    have hlen : len₂ = len := by rw [hdg] at hd₂; cases hd₂; rfl
    subst hlen
    have hs₂ : s₂ = (({ U with heap := s₂.heap, slotsUsed := s₂.slotsUsed } : State).setVm s₂.vm).setTop { g with pc := g.pc + len₂, stack := v.toList ++ g.stack } := by
      refine e3.trans ?_
      rw [hf₂, State.calling_eq h.top, State.setFrames_setFrames, State.setTop_of_frames _ hr', hr]
      rfl
    have hsame : U.sameButNew ({ U with heap := s₂.heap, slotsUsed := s₂.slotsUsed } : State) L mc ms := by
      refine ⟨?_, q2, q3, q4, q5, q6⟩
      obtain ⟨t, ht, -⟩ := State.frames_cons hr
      show ({ U with heap := s₂.heap, slotsUsed := s₂.slotsUsed } : State) = { U.setFrames U.frames with heap := s₂.heap, slotsUsed := s₂.slotsUsed }
      rw [State.setFrames_self ht]
    subst hg
    refine Or.inl ⟨v, ⟨(({ U with heap := s₂.heap, slotsUsed := s₂.slotsUsed } : State).setVm s₂.vm), Ls ++ L, c0 + mc, s0 + ms⟩,
      ⟨X.admits, X.cas, X.clock, X.frames, X.room, X.hears, X.method, X.code, (X.here.setHeapUsed s₂.heap s₂.slotsUsed).setVm hW'.alike, X.tail, State.WarmedH.trans X.warmed hW', X.limits, X.bytes, X.same.trans (hsame.setVm s.vm)⟩,
      ⟨g, mk, s₂, L, rfl, rfl, hqc, rfl, hL, rfl, rfl⟩, ?_⟩
    show Steps p.tables e below _ ((({ U with heap := s₂.heap, slotsUsed := s₂.slotsUsed } : State).setVm s₂.vm).setTop { g with pc := g.pc + len₂, stack := v.toList ++ g.stack })
    rw [← hs₂]
    exact hsteps
  · obtain ⟨e2, q2, q3, q4, q5, q6⟩ := id hsm
    have e3 : s₂ = ({ (U.calling g mk a).setFrames s₂.frames with heap := s₂.heap, slotsUsed := s₂.slotsUsed } : State).setVm s₂.vm := by
      have : s₂ = ({ s₂ with vm := (U.calling g mk a).vm } : State).setVm s₂.vm := rfl
      rw [e2] at this
      exact this
    have hf₂ : s₂.frames = .throwing q :: .java g :: U.frames.tail := hend
    have hW' : U.WarmedH s₂.vm := hW₂
    have hs₂ : s₂ = ((({ U with heap := s₂.heap, slotsUsed := s₂.slotsUsed } : State).setVm s₂.vm).setTop g).pushFrame (.throwing q) := by
      refine e3.trans ?_
      rw [hf₂, State.calling_eq h.top, State.setFrames_setFrames, State.pushFrame, State.frames_setTop _ hr', State.setTop_of_frames _ hr', State.setFrames_setFrames, hr]
      rfl
    have hsame : U.sameButNew ({ U with heap := s₂.heap, slotsUsed := s₂.slotsUsed } : State) L mc ms := by
      refine ⟨?_, q2, q3, q4, q5, q6⟩
      obtain ⟨t, ht, -⟩ := State.frames_cons hr
      show ({ U with heap := s₂.heap, slotsUsed := s₂.slotsUsed } : State) = { U.setFrames U.frames with heap := s₂.heap, slotsUsed := s₂.slotsUsed }
      rw [State.setFrames_self ht]
    subst hg
    refine Or.inr ⟨q, ⟨(({ U with heap := s₂.heap, slotsUsed := s₂.slotsUsed } : State).setVm s₂.vm), Ls ++ L, c0 + mc, s0 + ms⟩,
      ⟨X.admits, X.cas, X.clock, X.frames, X.room, X.hears, X.method, X.code, (X.here.setHeapUsed s₂.heap s₂.slotsUsed).setVm hW'.alike, X.tail, State.WarmedH.trans X.warmed hW', X.limits, X.bytes, X.same.trans (hsame.setVm s.vm)⟩,
      ⟨g, mk, s₂, L, E, ce, rfl, rfl, hx, hce, hcv, hcl, rfl, hL, rfl, rfl⟩, ?_⟩
    show Steps p.tables e below _ (((({ U with heap := s₂.heap, slotsUsed := s₂.slotsUsed } : State).setVm s₂.vm).setTop g).pushFrame (.throwing q))
    rw [← hs₂]
    exact hsteps
end Payer
section Calls
variable {p : Program} {l : Launch} {e : Env} {R : Room} {s : State} {m : MethodId} {args : Array Value} {below : List Frame} {meth : Method} {c : Code} {T : State} {locs : List Loc} {cells slots : Nat}
theorem vx_callV (X : Stand p l e R s m args below meth c T locs cells slots) (hexec : p.tables.exec = Jvm.exec) {own C : String} {index : Nat} {y : MethodName} {bytes : ByteArray} {maxL : Nat} {ret : Option FieldType}
    (hown : s.vm.findClass own = some m.cls) (hlink : (Cond.methodLink own index y).before args s = true) (hinst : (Cond.instanceMethod y).before args s = true) (hsel : (Cond.selects C y y).before args s = true)
    (hcode : (Cond.code y bytes maxL ret).before args s = true) (hy : y.cls ≠ "java/lang/invoke/MethodHandle" ∧ y.cls ≠ "java/lang/invoke/VarHandle")
    {W9 : Nat} {Pre : Pt → Array Value → Prop} {Post : Pt → Array Value → Option Value → Pt → Prop} {PostX : Pt → Array Value → Addr → Pt → Prop} (hK : vx_Back l R p e below s args y 3 W9 Pre Post PostX)
    {b : Addr} {cellB : Cell} (hcell : T.heap[b]? = some cellB) (hobj : cellB.vm.isStatics = false) (hcls : s.vm.findClass C = some cellB.cls)
    {g : JFrame} (hg : g.method = m) (hsize : g.locals.size = c.maxLocals) {argsL rest : List Value} (hlen : ∀ sig, parseMethodDescriptor y.desc = some sig → argsL.length = sig.parameters.length)
    (hstack : g.stack = argsL.reverse ++ .ref b :: rest) (hW : 2 * g.monitorRoom + (rest.map fun v => v.category).sum ≤ W9) (hdg : decode c.code g.pc = .ok (.invokevirtual index, 3))
    (hpre : ∀ vm₁, s.WarmedH vm₁ → Pre ⟨T.setVm vm₁, locs, cells, slots⟩ (Value.ref b :: argsL).toArray) :
    (∃ (v : Option Value) (vm₁ : Vm) (B : Pt), s.WarmedH vm₁ ∧ Stand p l e R s m args below meth c B.U B.locs B.cells B.slots ∧ Post ⟨T.setVm vm₁, locs, cells, slots⟩ (Value.ref b :: argsL).toArray v B ∧
      ∀ target, Steps p.tables e below (B.U.setTop { g with pc := g.pc + 3, stack := v.toList ++ rest }) target → Steps p.tables e below (T.setTop g) target) ∨
    (∃ (q : Addr) (vm₁ : Vm) (B : Pt), s.WarmedH vm₁ ∧ Stand p l e R s m args below meth c B.U B.locs B.cells B.slots ∧ PostX ⟨T.setVm vm₁, locs, cells, slots⟩ (Value.ref b :: argsL).toArray q B ∧
      Steps p.tables e below (T.setTop g) ((B.U.setTop { g with stack := rest }).pushFrame (.throwing q))) := by
  obtain ⟨mk, methM, hnamed, hmethM, hstM, habM⟩ := Cond.instanceMethod_spec hinst
  obtain ⟨methM', cM, hmethM', -, -, -, -, -, -, hsigM⟩ := Cond.code_spec hnamed hcode
  cases hmethM.symm.trans hmethM'
  obtain ⟨c2, r2, m2, q1, q2, q3, q4, kP, hkP, hkPi⟩ := Cond.selects_spec hsel
  cases hcls.symm.trans q1
  cases (State.methodFound?_of_named hnamed hy).symm.trans q2
  cases hnamed.symm.trans q3
  have hselP : selectMethod e.platform s.vm cellB.cls mk = .method mk := by rw [Launch.admits_selectMethod X.admits]; exact q4
  obtain ⟨vm₁, X₁, hstep₁⟩ := X.invokevirtual hexec hown hlink hnamed hmethM hstM hkP hkPi hy (a := b) (cell := cellB) hcell
    (fun z h => by rw [h] at hobj; cases hobj) hselP hmethM habM hkP hkPi (g := g) hg (argsL := argsL) (rest := rest) (hlen _ hsigM) hstack hdg
  rcases hK m meth c ⟨T.setVm vm₁, locs, cells, slots⟩ { g with stack := rest } (.invokevirtual index) mk (Value.ref b :: argsL).toArray X₁ hg hsize hdg hW (X₁.named hnamed) (hpre vm₁ X₁.warmed) with ⟨v, B, X', hpost, hsteps⟩ | ⟨q, B, X', hpost, hsteps⟩
  · exact Or.inl ⟨v, vm₁, B, X₁.warmed, X', hpost, fun target h => hstep₁ _ fun acts => by rw [doInvoke_state]; exact hsteps.trans h⟩
  · exact Or.inr ⟨q, vm₁, B, X₁.warmed, X', hpost, hstep₁ _ fun acts => by rw [doInvoke_state]; exact hsteps⟩
theorem vx_callS (X : Stand p l e R s m args below meth c T locs cells slots) (hexec : p.tables.exec = Jvm.exec) {own : String} {index : Nat} {y : MethodName} {bytes : ByteArray} {maxL : Nat} {ret : Option FieldType}
    (hown : s.vm.findClass own = some m.cls) (hlink : (Cond.methodLink own index y).before args s = true) (hstat : (Cond.static y).before args s = true) (hinit : (Cond.initialized y.cls).before args s = true)
    (hcode : (Cond.code y bytes maxL ret).before args s = true) (hy : y.cls ≠ "java/lang/invoke/MethodHandle" ∧ y.cls ≠ "java/lang/invoke/VarHandle")
    {W9 : Nat} {Pre : Pt → Array Value → Prop} {Post : Pt → Array Value → Option Value → Pt → Prop} {PostX : Pt → Array Value → Addr → Pt → Prop} (hK : vx_Back l R p e below s args y 3 W9 Pre Post PostX)
    {g : JFrame} (hg : g.method = m) (hsize : g.locals.size = c.maxLocals) {argsL rest : List Value} (hlen : ∀ sig, parseMethodDescriptor y.desc = some sig → argsL.length = sig.parameters.length)
    (hstack : g.stack = argsL.reverse ++ rest) (hW : 2 * g.monitorRoom + (rest.map fun v => v.category).sum ≤ W9) (hdg : decode c.code g.pc = .ok (.invokestatic index, 3))
    (hpre : ∀ vm₁, s.WarmedH vm₁ → Pre ⟨T.setVm vm₁, locs, cells, slots⟩ argsL.toArray) :
    (∃ (v : Option Value) (vm₁ : Vm) (B : Pt), s.WarmedH vm₁ ∧ Stand p l e R s m args below meth c B.U B.locs B.cells B.slots ∧ Post ⟨T.setVm vm₁, locs, cells, slots⟩ argsL.toArray v B ∧
      ∀ target, Steps p.tables e below (B.U.setTop { g with pc := g.pc + 3, stack := v.toList ++ rest }) target → Steps p.tables e below (T.setTop g) target) ∨
    (∃ (q : Addr) (vm₁ : Vm) (B : Pt), s.WarmedH vm₁ ∧ Stand p l e R s m args below meth c B.U B.locs B.cells B.slots ∧ PostX ⟨T.setVm vm₁, locs, cells, slots⟩ argsL.toArray q B ∧
      Steps p.tables e below (T.setTop g) ((B.U.setTop { g with stack := rest }).pushFrame (.throwing q))) := by
  obtain ⟨mk, hnamed⟩ := Cond.code_named hcode
  obtain ⟨methM, cM, hmethM, -, -, -, -, -, -, hsigM⟩ := Cond.code_spec hnamed hcode
  have hstatic : methM.isStatic = true := Cond.static_spec hnamed hmethM hstat
  obtain ⟨kP, hkP, -⟩ := className_of_methodNamed hnamed
  have hinitP : kP.init = .initialized := Cond.initialized_spec (findClass_of_methodNamed hnamed) hkP hinit
  obtain ⟨vm₁, X₁, hstep₁⟩ := X.invokestatic hexec hown hlink hnamed hmethM hstatic hkP hinitP hy (g := g) hg (argsL := argsL) (rest := rest) (hlen _ hsigM) hstack hdg
  rcases hK m meth c ⟨T.setVm vm₁, locs, cells, slots⟩ { g with stack := rest } (.invokestatic index) mk argsL.toArray X₁ hg hsize hdg hW (X₁.named hnamed) (hpre vm₁ X₁.warmed) with ⟨v, B, X', hpost, hsteps⟩ | ⟨q, B, X', hpost, hsteps⟩
  · exact Or.inl ⟨v, vm₁, B, X₁.warmed, X', hpost, fun target h => hstep₁ _ fun acts => by rw [doInvoke_state]; exact hsteps.trans h⟩
  · exact Or.inr ⟨q, vm₁, B, X₁.warmed, X', hpost, hstep₁ _ fun acts => by rw [doInvoke_state]; exact hsteps⟩
end Calls
theorem vx_cls {s : State} {T : State} {vm₁ : Vm} {E : String} {k : ClassId} (hW : s.WarmedH vm₁) (h : (T.setVm vm₁).vm.findClass E = some k) : s.vm.findClass E = some k := by
  have h1 : vm₁.findClass E = some k := h
  rw [hW.alike.findClass] at h1
  exact h1
/-- the method's frame g, with q thrown over it -/
def vx_W (p : Program) (l : Launch) (e : Env) (R : Room) (s : State) (m : MethodId) (args : Array Value) (below : List Frame) (meth : Method) (c : Code) (H : Heap) (locs : List Loc) (cells slots : Nat) (Q : State → Prop) (g : JFrame) (q : Addr) : Prop :=
  ∀ T : State, T.heap = H → Stand p l e R s m args below meth c T locs cells slots → ∃ t, Steps p.tables e below ((T.setTop g).pushFrame (.throwing q)) t ∧ Q t
def vx_Run (p : Program) (l : Launch) (e : Env) (R : Room) (s : State) (m : MethodId) (args : Array Value) (below : List Frame) (meth : Method) (c : Code) (H : Heap) (locs : List Loc) (cells slots mc ms : Nat) (g : JFrame) (rest : List Value) (Qa : State → Outcome → State → Prop) (XC : String → State → State → Prop) (free : Addr → Prop) : Prop :=
  ∀ T : State, T.heap = H → Stand p l e R s m args below meth c T locs cells slots →
    (∃ (v : Option Value) (st₀ t T' : State) (L : List Loc), st₀.heap = H ∧ Stand p l e R s m args below meth c T' (locs ++ L) (cells + mc) (slots + ms) ∧ (∀ q ∈ L, free q.base) ∧ T'.heap = t.heap ∧ T'.vm = t.vm ∧ Qa st₀ (.returned v) t ∧
      Goes p e below T g T' { g with pc := g.pc + 3, stack := v.toList ++ rest }) ∨
    (∃ (q : Addr) (st₀ t T' : State) (L : List Loc) (E : String) (ce : Cell), st₀.heap = H ∧ Stand p l e R s m args below meth c T' (locs ++ L) (cells + mc) (slots + ms) ∧ (∀ z ∈ L, free z.base) ∧ T'.heap = t.heap ∧ T'.vm = t.vm ∧ XC E st₀ t ∧ t.heap[q]? = some ce ∧ ce.vm = .none ∧ s.vm.findClass E = some ce.cls ∧
      Steps p.tables e below (T.setTop g) ((T'.setTop { g with stack := rest }).pushFrame (.throwing q)))
def vx_X {S : Type} (px : S → Prop) (B : String → S → State → Prop) (A : Nat → Prop) : String → State → State → Prop := fun E st t => ∃ u : S, px u ∧ B E u t ∧ va_F A st t
section Runs
variable {p : Program} {l : Launch} {e : Env} {R : Room} {s : State} {m : MethodId} {args : Array Value} {below : List Frame} {meth : Method} {c : Code} {H : Heap} {locs : List Loc} {cells slots : Nat}
variable {y : MethodName} {bytes cc : ByteArray} {maxL nL mc ms n index : Nat} {ret : Option FieldType} {ws : List Cond} {rm : Room} {Pc : Array Value → State → Prop} {Qc : Array Value → State → Outcome → State → Prop} {XC : String → State → State → Prop} {free : Addr → Prop} {Ts : List Cond} {own C : String} {b : Addr} {As rest : List Value} {g : JFrame}
theorem vx_callBack (cb : CallB R s args own index y bytes maxL ret ws rm mc ms n) (hM : vx_Met l y ws rm Pc Qc XC mc ms free) (hbl : FrameBlind Pc) : vx_Back l R p e below s args y 3 8 (PreOf R mc ms Pc) (PostOf Qc mc ms free) (vx_Post XC mc ms free) := by
  obtain ⟨hrc, hrs, hfr, hlo, hws, hcw, -, hini, -⟩ := cb
  exact vx_back (bytes := bytes) (maxL := maxL) (ret := ret) hM hbl hrc hrs hfr hlo hws hcw (fun a' U hW => word_at hW (Or.inl (by first | rfl | simp [Cond.onTables, Cond.keeps, Cond.steady])) hini)
theorem vx_runV (S : CallFix p m c cc nL s args Ts own) (hM : vx_Met l y ws rm Pc Qc XC mc ms free) (cw : CallW R s args own C index y bytes maxL ret ws rm mc ms n) (hp : PreV s H C b Pc As)
    (hg : g.method = m) (hn : As.length = n) (hsize : g.locals.size = nL) (hstack : g.stack = As.reverse ++ .ref b :: rest) (hW : 2 * g.monitorRoom + (rest.map fun v => v.category).sum ≤ 8) (hdg : decode cc g.pc = .ok (.invokevirtual index, 3)) (hf : cells + mc ≤ R.cells ∧ slots + ms ≤ R.slots) :
    vx_Run p l e R s m args below meth c H locs cells slots mc ms g rest (Qc (Value.ref b :: As).toArray) XC free := by
  have hK : vx_Back l R p e below s args y 3 8 (PreOf R mc ms Pc) (PostOf Qc mc ms free) (vx_Post XC mc ms free) := vx_callBack cw.1 hM hp.1
  obtain ⟨⟨-, -, -, -, -, -, hcode, -, hy, hlen, hl⟩, hin, hse⟩ := cw
  obtain ⟨hx, hb, hml, ho, -⟩ := S
  obtain ⟨-, ⟨cellB, hcB, hoB, hclB⟩, hPc⟩ := hp
  intro T hT X
  rcases vx_callV X hx (C := C) (bytes := bytes) (maxL := maxL) (ret := ret) ho hl hin hse hcode hy hK (by rw [hT]; exact hcB) hoB hclB hg (hsize.trans hml.symm) (argsL := As) (rest := rest) (fun sig h => hn.trans (hlen sig h)) hstack hW (by rw [hb]; exact hdg)
    (fun vm₁ hW₁ => ⟨hf.1, hf.2, hPc (T.setVm vm₁) hT hW₁⟩) with ⟨v, vm₁, ⟨U', l2, c2, s2⟩, hW₁, X', ⟨g', mk, t, L, e1, e2, hq, h1, hL, h2, h3⟩, st⟩ | ⟨q, vm₁, ⟨U', l2, c2, s2⟩, hW₁, X', ⟨g', mk, t, L, E, ce, e1, e2, hq, hce, hcv, hcl, h1, hL, h2, h3⟩, st⟩
  · dsimp only [Pt.U, Pt.locs, Pt.cells, Pt.slots] at X' e1 e2 h1 h2 h3 st
    subst h1; subst h2; subst h3
    exact Or.inl ⟨v, (T.setVm vm₁).calling g' mk (Value.ref b :: As).toArray, t, U', L, hT, X', hL, e1, e2, hq, st⟩
  · dsimp only [Pt.U, Pt.locs, Pt.cells, Pt.slots] at X' e1 e2 h1 h2 h3 st hcl
    subst h1; subst h2; subst h3
    exact Or.inr ⟨q, (T.setVm vm₁).calling g' mk (Value.ref b :: As).toArray, t, U', L, E, ce, hT, X', hL, e1, e2, hq, hce, hcv, vx_cls hW₁ hcl, st⟩
theorem vx_runS (S : CallFix p m c cc nL s args Ts own) (hM : vx_Met l y ws rm Pc Qc XC mc ms free) (cw : CallB R s args own index y bytes maxL ret ws rm mc ms n ∧ (Cond.static y).before args s = true) (hp : PreS s H Pc As)
    (hg : g.method = m) (hn : As.length = n) (hsize : g.locals.size = nL) (hstack : g.stack = As.reverse ++ rest) (hW : 2 * g.monitorRoom + (rest.map fun v => v.category).sum ≤ 8) (hdg : decode cc g.pc = .ok (.invokestatic index, 3)) (hf : cells + mc ≤ R.cells ∧ slots + ms ≤ R.slots) :
    vx_Run p l e R s m args below meth c H locs cells slots mc ms g rest (Qc As.toArray) XC free := by
  have hK : vx_Back l R p e below s args y 3 8 (PreOf R mc ms Pc) (PostOf Qc mc ms free) (vx_Post XC mc ms free) := vx_callBack cw.1 hM hp.1
  obtain ⟨⟨-, -, -, -, -, -, hcode, hini, hy, hlen, hl⟩, hstt⟩ := cw
  obtain ⟨hx, hb, hml, ho, -⟩ := S
  intro T hT X
  rcases vx_callS X hx (bytes := bytes) (maxL := maxL) (ret := ret) ho hl hstt hini hcode hy hK hg (hsize.trans hml.symm) (argsL := As) (rest := rest) (fun sig h => hn.trans (hlen sig h)) hstack hW (by rw [hb]; exact hdg)
    (fun vm₁ hW₁ => ⟨hf.1, hf.2, hp.2 (T.setVm vm₁) hT hW₁⟩) with ⟨v, vm₁, ⟨U', l2, c2, s2⟩, hW₁, X', ⟨g', mk, t, L, e1, e2, hq, h1, hL, h2, h3⟩, st⟩ | ⟨q, vm₁, ⟨U', l2, c2, s2⟩, hW₁, X', ⟨g', mk, t, L, E, ce, e1, e2, hq, hce, hcv, hcl, h1, hL, h2, h3⟩, st⟩
  · dsimp only [Pt.U, Pt.locs, Pt.cells, Pt.slots] at X' e1 e2 h1 h2 h3 st
    subst h1; subst h2; subst h3
    exact Or.inl ⟨v, (T.setVm vm₁).calling g' mk As.toArray, t, U', L, hT, X', hL, e1, e2, hq, st⟩
  · dsimp only [Pt.U, Pt.locs, Pt.cells, Pt.slots] at X' e1 e2 h1 h2 h3 st hcl
    subst h1; subst h2; subst h3
    exact Or.inr ⟨q, (T.setVm vm₁).calling g' mk As.toArray, t, U', L, E, ce, hT, X', hL, e1, e2, hq, hce, hcv, vx_cls hW₁ hcl, st⟩
end Runs
section Rows
variable {p : Program} {l : Launch} {e : Env} {R : Room} {s : State} {m : MethodId} {args : Array Value} {below : List Frame} {meth : Method} {c : Code} {H : Heap} {locs : List Loc} {cells slots : Nat} {Q : State → Prop}
variable {mc ms : Nat} {free : Addr → Prop} {A0 A1 : Nat → Prop} {H0 : Heap} {a : Array Value} {pc : Nat} {ls : Array Slot} {st0 rest : List Value}
theorem vx_keep {st₀ t T' : State} {L : List Loc} (h0 : st₀.heap = H) (e1 : T'.heap = t.heap) (hS : va_S A0 H0 H locs) (hA : ∀ q, q < H.size → A1 q → A0 q) (hf : ∀ q, free q → A0 q) (hL : ∀ q ∈ L, free q.base) (hF : va_F A1 st₀ t) :
    H.size ≤ T'.heap.size ∧ (∀ q : Nat, q < H.size → ¬ A1 q → T'.heap[q]? = H[q]?) ∧ va_S A0 H0 T'.heap (locs ++ L) := by
  obtain ⟨hz, hk⟩ := hF
  rw [h0] at hz hk
  exact ⟨by rw [e1]; exact hz, fun q h1 h2 => by rw [e1]; exact hk q h1 h2,
    ⟨Nat.le_trans hS.1 (by rw [e1]; exact hz), fun q h1 h2 => by rw [e1, hk q (Nat.lt_of_lt_of_le h1 hS.1) (fun z => h2 (hA q (Nat.lt_of_lt_of_le h1 hS.1) z))]; exact hS.2.1 q h1 h2, fun q hq => by
      rcases List.mem_append.mp hq with h | h
      · exact hS.2.2 q h
      · exact hf _ (hL q h)⟩⟩
theorem vx_calli {S SX : Type} {post : Int32 → S → Prop} {px : SX → Prop} {B : S → State → Prop} {BX : String → SX → State → Prop} {AX : Nat → Prop} (hr : vx_Run p l e R s m args below meth c H locs cells slots mc ms (F0 m pc ls st0) rest (va_Qi post B A1 a) (vx_X px BX AX) free) (hS : va_S A0 H0 H locs) (hA : ∀ q, q < H.size → A1 q → A0 q) (hf : ∀ q, free q → A0 q) (hAX : ∀ q, q < H.size → AX q → A0 q)
    (kx : ∀ (E : String) (ce : Cell) (q9 : Addr) (u : SX) (t : State) (H1 : Heap) (locs1 : List Loc), t.heap = H1 → s.vm.Alike t.vm → px u → BX E u t → H.size ≤ H1.size → (∀ q : Nat, q < H.size → ¬ AX q → H1[q]? = H[q]?) → va_S A0 H0 H1 locs1 → H1[q9]? = some ce → ce.vm = .none → s.vm.findClass E = some ce.cls → vx_W p l e R s m args below meth c H1 locs1 (cells + mc) (slots + ms) Q (F0 m pc ls rest) q9)
    (kk : ∀ (r : Int32) (u : S) (t : State) (H1 : Heap) (locs1 : List Loc), t.heap = H1 → s.vm.Alike t.vm → post r u → B u t → H.size ≤ H1.size → (∀ q : Nat, q < H.size → ¬ A1 q → H1[q]? = H[q]?) → va_S A0 H0 H1 locs1 → W p l e R s m args below meth c H1 locs1 (cells + mc) (slots + ms) Q (F0 m (pc + 3) ls (.int r :: rest))) : W p l e R s m args below meth c H locs cells slots Q (F0 m pc ls st0) := by
  intro T hT X
  rcases hr T hT X with ⟨v, st₀, t, T', L, h0, X', hL, e1, e2, ⟨⟨r, u, hv, hp, hb⟩, hF⟩, st⟩ | ⟨q, st₀, t, T', L, E, ce, h0, X', hL, e1, e2, ⟨u, hp, hb, hF⟩, hce, hcv, hcl, st⟩
  · cases hv
    obtain ⟨k1, k2, k3⟩ := vx_keep h0 e1 hS hA hf hL hF
    obtain ⟨t2, a1, b1⟩ := kk r u t T'.heap (locs ++ L) e1.symm (by rw [← e2]; exact X'.warmed.alike) hp hb k1 k2 k3 T' rfl X'
    exact ⟨t2, st t2 a1, b1⟩
  · obtain ⟨k1, k2, k3⟩ := vx_keep h0 e1 hS hAX hf hL hF
    obtain ⟨t2, a1, b1⟩ := kx E ce q u t T'.heap (locs ++ L) e1.symm (by rw [← e2]; exact X'.warmed.alike) hp hb k1 k2 k3 (by rw [e1]; exact hce) hcv hcl T' rfl X'
    exact ⟨t2, st.trans a1, b1⟩
theorem vx_calll {S SX : Type} {post : Int64 → S → Prop} {px : SX → Prop} {B : S → State → Prop} {BX : String → SX → State → Prop} {AX : Nat → Prop} (hr : vx_Run p l e R s m args below meth c H locs cells slots mc ms (F0 m pc ls st0) rest (va_Ql post B A1 a) (vx_X px BX AX) free) (hS : va_S A0 H0 H locs) (hA : ∀ q, q < H.size → A1 q → A0 q) (hf : ∀ q, free q → A0 q) (hAX : ∀ q, q < H.size → AX q → A0 q)
    (kx : ∀ (E : String) (ce : Cell) (q9 : Addr) (u : SX) (t : State) (H1 : Heap) (locs1 : List Loc), t.heap = H1 → s.vm.Alike t.vm → px u → BX E u t → H.size ≤ H1.size → (∀ q : Nat, q < H.size → ¬ AX q → H1[q]? = H[q]?) → va_S A0 H0 H1 locs1 → H1[q9]? = some ce → ce.vm = .none → s.vm.findClass E = some ce.cls → vx_W p l e R s m args below meth c H1 locs1 (cells + mc) (slots + ms) Q (F0 m pc ls rest) q9)
    (kk : ∀ (r : Int64) (u : S) (t : State) (H1 : Heap) (locs1 : List Loc), t.heap = H1 → s.vm.Alike t.vm → post r u → B u t → H.size ≤ H1.size → (∀ q : Nat, q < H.size → ¬ A1 q → H1[q]? = H[q]?) → va_S A0 H0 H1 locs1 → W p l e R s m args below meth c H1 locs1 (cells + mc) (slots + ms) Q (F0 m (pc + 3) ls (.long r :: rest))) : W p l e R s m args below meth c H locs cells slots Q (F0 m pc ls st0) := by
  intro T hT X
  rcases hr T hT X with ⟨v, st₀, t, T', L, h0, X', hL, e1, e2, ⟨⟨r, u, hv, hp, hb⟩, hF⟩, st⟩ | ⟨q, st₀, t, T', L, E, ce, h0, X', hL, e1, e2, ⟨u, hp, hb, hF⟩, hce, hcv, hcl, st⟩
  · cases hv
    obtain ⟨k1, k2, k3⟩ := vx_keep h0 e1 hS hA hf hL hF
    obtain ⟨t2, a1, b1⟩ := kk r u t T'.heap (locs ++ L) e1.symm (by rw [← e2]; exact X'.warmed.alike) hp hb k1 k2 k3 T' rfl X'
    exact ⟨t2, st t2 a1, b1⟩
  · obtain ⟨k1, k2, k3⟩ := vx_keep h0 e1 hS hAX hf hL hF
    obtain ⟨t2, a1, b1⟩ := kx E ce q u t T'.heap (locs ++ L) e1.symm (by rw [← e2]; exact X'.warmed.alike) hp hb k1 k2 k3 (by rw [e1]; exact hce) hcv hcl T' rfl X'
    exact ⟨t2, st.trans a1, b1⟩
theorem vx_callf {S SX : Type} {post : UInt32 → S → Prop} {px : SX → Prop} {B : S → State → Prop} {BX : String → SX → State → Prop} {AX : Nat → Prop} (hr : vx_Run p l e R s m args below meth c H locs cells slots mc ms (F0 m pc ls st0) rest (va_Qf post B A1 a) (vx_X px BX AX) free) (hS : va_S A0 H0 H locs) (hA : ∀ q, q < H.size → A1 q → A0 q) (hf : ∀ q, free q → A0 q) (hAX : ∀ q, q < H.size → AX q → A0 q)
    (kx : ∀ (E : String) (ce : Cell) (q9 : Addr) (u : SX) (t : State) (H1 : Heap) (locs1 : List Loc), t.heap = H1 → s.vm.Alike t.vm → px u → BX E u t → H.size ≤ H1.size → (∀ q : Nat, q < H.size → ¬ AX q → H1[q]? = H[q]?) → va_S A0 H0 H1 locs1 → H1[q9]? = some ce → ce.vm = .none → s.vm.findClass E = some ce.cls → vx_W p l e R s m args below meth c H1 locs1 (cells + mc) (slots + ms) Q (F0 m pc ls rest) q9)
    (kk : ∀ (r : UInt32) (u : S) (t : State) (H1 : Heap) (locs1 : List Loc), t.heap = H1 → s.vm.Alike t.vm → post r u → B u t → H.size ≤ H1.size → (∀ q : Nat, q < H.size → ¬ A1 q → H1[q]? = H[q]?) → va_S A0 H0 H1 locs1 → W p l e R s m args below meth c H1 locs1 (cells + mc) (slots + ms) Q (F0 m (pc + 3) ls (.float r :: rest))) : W p l e R s m args below meth c H locs cells slots Q (F0 m pc ls st0) := by
  intro T hT X
  rcases hr T hT X with ⟨v, st₀, t, T', L, h0, X', hL, e1, e2, ⟨⟨r, u, hv, hp, hb⟩, hF⟩, st⟩ | ⟨q, st₀, t, T', L, E, ce, h0, X', hL, e1, e2, ⟨u, hp, hb, hF⟩, hce, hcv, hcl, st⟩
  · cases hv
    obtain ⟨k1, k2, k3⟩ := vx_keep h0 e1 hS hA hf hL hF
    obtain ⟨t2, a1, b1⟩ := kk r u t T'.heap (locs ++ L) e1.symm (by rw [← e2]; exact X'.warmed.alike) hp hb k1 k2 k3 T' rfl X'
    exact ⟨t2, st t2 a1, b1⟩
  · obtain ⟨k1, k2, k3⟩ := vx_keep h0 e1 hS hAX hf hL hF
    obtain ⟨t2, a1, b1⟩ := kx E ce q u t T'.heap (locs ++ L) e1.symm (by rw [← e2]; exact X'.warmed.alike) hp hb k1 k2 k3 (by rw [e1]; exact hce) hcv hcl T' rfl X'
    exact ⟨t2, st.trans a1, b1⟩
theorem vx_calld {S SX : Type} {post : UInt64 → S → Prop} {px : SX → Prop} {B : S → State → Prop} {BX : String → SX → State → Prop} {AX : Nat → Prop} (hr : vx_Run p l e R s m args below meth c H locs cells slots mc ms (F0 m pc ls st0) rest (va_Qd post B A1 a) (vx_X px BX AX) free) (hS : va_S A0 H0 H locs) (hA : ∀ q, q < H.size → A1 q → A0 q) (hf : ∀ q, free q → A0 q) (hAX : ∀ q, q < H.size → AX q → A0 q)
    (kx : ∀ (E : String) (ce : Cell) (q9 : Addr) (u : SX) (t : State) (H1 : Heap) (locs1 : List Loc), t.heap = H1 → s.vm.Alike t.vm → px u → BX E u t → H.size ≤ H1.size → (∀ q : Nat, q < H.size → ¬ AX q → H1[q]? = H[q]?) → va_S A0 H0 H1 locs1 → H1[q9]? = some ce → ce.vm = .none → s.vm.findClass E = some ce.cls → vx_W p l e R s m args below meth c H1 locs1 (cells + mc) (slots + ms) Q (F0 m pc ls rest) q9)
    (kk : ∀ (r : UInt64) (u : S) (t : State) (H1 : Heap) (locs1 : List Loc), t.heap = H1 → s.vm.Alike t.vm → post r u → B u t → H.size ≤ H1.size → (∀ q : Nat, q < H.size → ¬ A1 q → H1[q]? = H[q]?) → va_S A0 H0 H1 locs1 → W p l e R s m args below meth c H1 locs1 (cells + mc) (slots + ms) Q (F0 m (pc + 3) ls (.double r :: rest))) : W p l e R s m args below meth c H locs cells slots Q (F0 m pc ls st0) := by
  intro T hT X
  rcases hr T hT X with ⟨v, st₀, t, T', L, h0, X', hL, e1, e2, ⟨⟨r, u, hv, hp, hb⟩, hF⟩, st⟩ | ⟨q, st₀, t, T', L, E, ce, h0, X', hL, e1, e2, ⟨u, hp, hb, hF⟩, hce, hcv, hcl, st⟩
  · cases hv
    obtain ⟨k1, k2, k3⟩ := vx_keep h0 e1 hS hA hf hL hF
    obtain ⟨t2, a1, b1⟩ := kk r u t T'.heap (locs ++ L) e1.symm (by rw [← e2]; exact X'.warmed.alike) hp hb k1 k2 k3 T' rfl X'
    exact ⟨t2, st t2 a1, b1⟩
  · obtain ⟨k1, k2, k3⟩ := vx_keep h0 e1 hS hAX hf hL hF
    obtain ⟨t2, a1, b1⟩ := kx E ce q u t T'.heap (locs ++ L) e1.symm (by rw [← e2]; exact X'.warmed.alike) hp hb k1 k2 k3 (by rw [e1]; exact hce) hcv hcl T' rfl X'
    exact ⟨t2, st.trans a1, b1⟩
theorem vx_callv {S SX : Type} {post : S → Prop} {px : SX → Prop} {B : S → State → Prop} {BX : String → SX → State → Prop} {AX : Nat → Prop} (hr : vx_Run p l e R s m args below meth c H locs cells slots mc ms (F0 m pc ls st0) rest (va_Qv post B A1 a) (vx_X px BX AX) free) (hS : va_S A0 H0 H locs) (hA : ∀ q, q < H.size → A1 q → A0 q) (hf : ∀ q, free q → A0 q) (hAX : ∀ q, q < H.size → AX q → A0 q)
    (kx : ∀ (E : String) (ce : Cell) (q9 : Addr) (u : SX) (t : State) (H1 : Heap) (locs1 : List Loc), t.heap = H1 → s.vm.Alike t.vm → px u → BX E u t → H.size ≤ H1.size → (∀ q : Nat, q < H.size → ¬ AX q → H1[q]? = H[q]?) → va_S A0 H0 H1 locs1 → H1[q9]? = some ce → ce.vm = .none → s.vm.findClass E = some ce.cls → vx_W p l e R s m args below meth c H1 locs1 (cells + mc) (slots + ms) Q (F0 m pc ls rest) q9)
    (kk : ∀ (u : S) (t : State) (H1 : Heap) (locs1 : List Loc), t.heap = H1 → s.vm.Alike t.vm → post u → B u t → H.size ≤ H1.size → (∀ q : Nat, q < H.size → ¬ A1 q → H1[q]? = H[q]?) → va_S A0 H0 H1 locs1 → W p l e R s m args below meth c H1 locs1 (cells + mc) (slots + ms) Q (F0 m (pc + 3) ls (rest))) : W p l e R s m args below meth c H locs cells slots Q (F0 m pc ls st0) := by
  intro T hT X
  rcases hr T hT X with ⟨v, st₀, t, T', L, h0, X', hL, e1, e2, ⟨⟨u, hv, hp, hb⟩, hF⟩, st⟩ | ⟨q, st₀, t, T', L, E, ce, h0, X', hL, e1, e2, ⟨u, hp, hb, hF⟩, hce, hcv, hcl, st⟩
  · cases hv
    obtain ⟨k1, k2, k3⟩ := vx_keep h0 e1 hS hA hf hL hF
    obtain ⟨t2, a1, b1⟩ := kk u t T'.heap (locs ++ L) e1.symm (by rw [← e2]; exact X'.warmed.alike) hp hb k1 k2 k3 T' rfl X'
    exact ⟨t2, st t2 a1, b1⟩
  · obtain ⟨k1, k2, k3⟩ := vx_keep h0 e1 hS hAX hf hL hF
    obtain ⟨t2, a1, b1⟩ := kx E ce q u t T'.heap (locs ++ L) e1.symm (by rw [← e2]; exact X'.warmed.alike) hp hb k1 k2 k3 (by rw [e1]; exact hce) hcv hcl T' rfl X'
    exact ⟨t2, st.trans a1, b1⟩
/-- caught by the row x of this method's table; the rows ahead don't take it -/
theorem vx_catch {own name : String} {E : String} {ce : Cell} {q : Addr} (hown : s.vm.findClass own = some m.cls) (pre : List ExceptionTableEntry) (x : ExceptionTableEntry) (suf : List ExceptionTableEntry) (hsplit : c.exceptionTable.toList = pre ++ x :: suf)
    (hpass : ∀ z ∈ pre, covers z pc = false ∨ (z.catchType ≠ 0 ∧ ∃ nm : String, (Cond.classLink own z.catchType nm).before args s = true ∧ va_Nc E nm s)) (hx : covers x pc = true) (h0 : x.catchType ≠ 0)
    (hlink : (Cond.classLink own x.catchType name).before args s = true) (hcast : (Cond.castable E name).before args s = true) (hcell : H[q]? = some ce) (hv : ce.vm = .none) (hcl : s.vm.findClass E = some ce.cls)
    (kk : W p l e R s m args below meth c H locs cells slots Q (F0 m x.handlerPc ls [.ref q])) : vx_W p l e R s m args below meth c H locs cells slots Q (F0 m pc ls rest) q := by
  intro T hT X
  have hpl : e.platform.magicAccessors = ({} : Platform).magicAccessors := by rw [X.admits.platform]
  obtain ⟨c3, c4, hc3, hc4, hasg⟩ := Cond.castable_spec hcast
  cases Option.some.inj (hc3.symm.trans hcl)
  obtain ⟨c5, hc5, hcl5⟩ := Cond.classLink_spec hown hlink e.platform hpl
  cases Option.some.inj (hc4.symm.trans hc5)
  obtain ⟨vm', X', st⟩ := X.thenCaughtThrough q (g := F0 m pc ls rest) rfl (Steps.refl _) (by rw [hT]; exact hcell) (by rw [hv]; rfl) (by obtain ⟨k9, h9, -⟩ := Vm.findClass_spec hcl; exact ⟨k9, h9⟩) pre x suf hsplit
    (fun z hz => by
      rcases hpass z hz with h | ⟨hz0, nm, hl1, hn1⟩
      · exact Or.inl h
      · obtain ⟨c6, hc6, hcl6⟩ := Cond.classLink_spec hown hl1 e.platform hpl
        obtain ⟨a8, b8, h1, h2, h3⟩ := hn1
        cases Option.some.inj (h1.symm.trans hcl)
        cases Option.some.inj (h2.symm.trans hc6)
        exact Or.inr ⟨hz0, _, hcl6, h3⟩) hx (Or.inr ⟨h0, c4, hcl5, hasg⟩)
  obtain ⟨t, a1, b1⟩ := kk (T.setVm vm') hT X'
  exact ⟨t, st.trans a1, b1⟩
end Rows
section Ends
variable {p : Program} {l : Launch} {e : Env} {R : Room} {s : State} {m : MethodId} {args : Array Value} {below : List Frame} {meth : Method} {c : Code} {H : Heap} {locs : List Loc} {cells slots : Nat} {Q : State → Prop}
variable {mc ms : Nat} {free : Addr → Prop} {A0 A1 : Nat → Prop} {H0 : Heap} {a : Array Value} {ls : Array Slot} {st0 rest : List Value}
variable {Qc : Array Value → State → Outcome → State → Prop} {XC : String → State → State → Prop}
/-- what a body that may throw owes at its end -/
def vx_MQ (below : List Frame) (Qc : Array Value → State → Outcome → State → Prop) (XC : String → State → State → Prop) (a : Array Value) (s : State) (mc ms : Nat) (free : Addr → Prop) : State → Prop := fun t =>
  ∃ o, t.status = .running ∧ Ended t below o ∧ vx_Q Qc XC mc ms free a s o t
theorem vx_ret {g : JFrame} {mc ms : Nat} (k : W p l e R s m args below meth c H locs cells slots (MQ below Qc args s mc ms free) g) : W p l e R s m args below meth c H locs cells slots (vx_MQ below Qc XC args s mc ms free) g := by
  intro T hT X
  obtain ⟨t, a1, o, b1, b2, b3, b4⟩ := k T hT X
  exact ⟨t, a1, o, b1, b2, Or.inl ⟨b3, b4⟩⟩
/-- not caught here: it goes on to the caller -/
theorem vx_widen {g : JFrame} {q : Addr} {k n : Nat} (h1 : cells ≤ k) (h2 : slots ≤ n) (kk : vx_W p l e R s m args below meth c H locs k n Q g q) : vx_W p l e R s m args below meth c H locs cells slots Q g q := fun T hT X => kk T hT (stand_widen X h1 h2)
theorem vx_out {pc : Nat} {E : String} {ce : Cell} {q : Addr} {mc ms : Nat} (hout : ∀ x ∈ c.exceptionTable.toList, covers x pc = false) (hlocks : meth.locks = false) (hcell : H[q]? = some ce) (hv : ce.vm = .none) (hcl : s.vm.findClass E = some ce.cls)
    (hx : ∀ t : State, t.heap = H → s.vm.Alike t.vm → XC E s t) (hf : ∀ z ∈ locs, free z.base) (hc : cells ≤ mc) (hs : slots ≤ ms) :
    vx_W p l e R s m args below meth c H locs cells slots (vx_MQ below Qc XC args s mc ms free) (F0 m pc ls rest) q := by
  intro T hT X
  obtain ⟨st1, hrun, hend, hW, hsm⟩ := X.leaveThrown q (g := F0 m pc ls rest) rfl rfl rfl hout hlocks
  have hcell9 : (T.setFrames (.throwing q :: below)).heap[q]? = some ce := by
    show T.heap[q]? = some ce
    rw [hT]; exact hcell
  exact ⟨_, st1, .threw q, hrun, hend, Or.inr ⟨q, rfl, E, ce, locs, hx _ hT hW.alike, hcell9, hv, hcl, hW, hsm.mono hc hs, hf⟩⟩
theorem vx_frame {U : State} {k n : Nat} (h : s.sameButNew ({ U with vm := s.vm } : State) locs k n) : s.heap.size ≤ U.heap.size ∧ ∀ q : Nat, q < s.heap.size → (∀ z ∈ locs, z.base ≠ q) → U.heap[q]? = s.heap[q]? := by
  obtain ⟨-, h2, -, -, -, h6⟩ := h
  refine ⟨h2, fun q hq hz => ?_⟩
  obtain ⟨c9, e1, e2, e3, e4⟩ := h6 q _ (Array.getElem?_eq_getElem hq)
  have hs : c9.slots = (s.heap[q]).slots := Array.ext_getElem? fun i => e4 i fun hm => hz _ hm rfl
  have h9 : c9 = s.heap[q] := by
    rw [hs] at e2
    exact e2
  have e5 : U.heap[q]? = some c9 := e1
  rw [e5, h9, Array.getElem?_eq_getElem hq]
/-- the words of a throw but the four that speak of the heap -/
def vx_no (w : Cond) : Bool := decide (w ≠ .isRef (.static Bundle.tN "UNASSIGNED_STACK" Bundle.steD)) && decide (w ≠ .isRef (.static Bundle.tN "SUPPRESSED_SENTINEL" Bundle.listD)) && decide (w ≠ .laysStatic Bundle.tN "UNASSIGNED_STACK" Bundle.steD) && decide (w ≠ .laysStatic Bundle.tN "SUPPRESSED_SENTINEL" Bundle.listD)
def vx_at0 (own : String) (ic : Nat) (X : String) (names : List String) : List Cond := (Bundle.ownAtoms0 own ic X names).filter vx_no
def vx_atS (own : String) (ic : Nat) (X : String) (names : List String) : List Cond := (Bundle.ownAtoms own ic X names).filter vx_no
/-- a word that the tables alone decide, or a good one -/
def vx_ot (w : Cond) : Bool := w.onTables || goodWord w
theorem vx_ot_at {args a' : Array Value} {s U : State} {w : Cond} (hW : s.WarmedH U.vm) (hvm : s.vm = U.vm) (hg : vx_ot w = true) (h : w.before args s = true) : w.before a' U = true := by
  simp only [vx_ot, Bool.or_eq_true] at hg
  rcases hg with hg | hg
  · exact va_tabs hg hvm h
  · exact word_at hW (good_of_word hg) h
/-- a list's words: the good ones out of the method's own list, the others by premises of their own -/
theorem vx_hat {args : Array Value} {s : State} {L B : List Cond} (h1 : ∀ w ∈ L.filter goodWord, w.before args s = true) (h2 : ∀ w ∈ L.filter (fun w => !goodWord w), w ∈ B) (h3 : ∀ w ∈ B, w.before args s = true) : ∀ w ∈ L, w.before args s = true := by
  intro w hw
  by_cases g : goodWord w = true
  · exact h1 w (List.mem_filter.mpr ⟨hw, g⟩)
  · refine h3 w (h2 w (List.mem_filter.mpr ⟨hw, ?_⟩))
    show (!goodWord w) = true
    cases hgw : goodWord w
    · rfl
    · exact absurd hgw g
theorem vx_c {args : Array Value} {s : State} {w : Cond} {B : List Cond} (h : w.before args s = true) (t : ∀ w ∈ B, w.before args s = true) : ∀ w' ∈ w :: B, w'.before args s = true := fun w' h' => (List.mem_cons.mp h').elim (fun e => by rw [e]; exact h) (t w')
theorem vx_n {args : Array Value} {s : State} : ∀ w ∈ ([] : List Cond), w.before args s = true := fun _ h => nomatch h
theorem vx_own {args : Array Value} {s : State} {L : List Cond} (h1 : ∀ w ∈ L.filter vx_no, w.before args s = true)
    (hU : (Cond.isRef (.static Bundle.tN "UNASSIGNED_STACK" Bundle.steD)).before args s = true) (hN : (Cond.isRef (.static Bundle.tN "SUPPRESSED_SENTINEL" Bundle.listD)).before args s = true)
    (lU : (Cond.laysStatic Bundle.tN "UNASSIGNED_STACK" Bundle.steD).before args s = true) (lN : (Cond.laysStatic Bundle.tN "SUPPRESSED_SENTINEL" Bundle.listD).before args s = true) : ∀ w ∈ L, w.before args s = true := by
  intro w hw
  by_cases e1 : w = .isRef (.static Bundle.tN "UNASSIGNED_STACK" Bundle.steD)
  · rw [e1]; exact hU
  · by_cases e2 : w = .isRef (.static Bundle.tN "SUPPRESSED_SENTINEL" Bundle.listD)
    · rw [e2]; exact hN
    · by_cases e3 : w = .laysStatic Bundle.tN "UNASSIGNED_STACK" Bundle.steD
      · rw [e3]; exact lU
      · by_cases e4 : w = .laysStatic Bundle.tN "SUPPRESSED_SENTINEL" Bundle.listD
        · rw [e4]; exact lN
        · exact h1 w (List.mem_filter.mpr ⟨hw, by unfold vx_no; rw [decide_eq_true e1, decide_eq_true e2, decide_eq_true e3, decide_eq_true e4]; rfl⟩)
/-- where a static field lies, its class's statics cell in H -/
def vx_L (C n d : String) (A : Nat → Prop) (U : State) (H : Heap) : Prop := ∃ (c : ClassId) (k : Class) (i : Nat) (f : Field) (a : Nat) (cell : Cell), U.vm.findClass C = some c ∧ U.fieldFound? C n d = some (c, k, i, f) ∧ f.isStatic = true ∧ k.statics = some a ∧ H[a]? = some cell ∧ cell.vm.isStatics = true ∧ cell.cls = c ∧ f.slot < cell.slots.size ∧ k.staticTypes[f.slot]? = some f.type ∧ ¬ A a
theorem vx_L.moved {C n d : String} {A : Nat → Prop} {u U : State} {H : Heap} (hvm : u.vm.Alike U.vm) (h : vx_L C n d A u H) : vx_L C n d A U H := by
  obtain ⟨c, k, i, f, a, cell, h1, h2, h3, h4, h5, h6, h7, h8, h9, h10⟩ := h
  obtain ⟨k', hi', he⟩ := State.fieldFound?_setVm hvm h2
  exact ⟨c, k', i, f, a, cell, by rw [hvm.findClass]; exact h1, hi', h3, by rw [he]; exact h4, h5, h6, h7, h8, by rw [he]; exact h9, h10⟩
theorem vx_L.kept {C n d : String} {A : Nat → Prop} {U : State} {H H1 : Heap} (h : vx_L C n d A U H) (hq : ∀ a : Nat, a < H.size → ¬ A a → H1[a]? = H[a]?) : vx_L C n d A U H1 := by
  obtain ⟨c, k, i, f, a, cell, h1, h2, h3, h4, h5, h6, h7, h8, h9, h10⟩ := h
  exact ⟨c, k, i, f, a, cell, h1, h2, h3, h4, by rw [hq a (Array.getElem?_eq_some_iff.mp h5).1 h10]; exact h5, h6, h7, h8, h9, h10⟩
theorem vx_L.narrow {C n d : String} {A B : Nat → Prop} {U : State} {H : Heap} (h : vx_L C n d A U H) (hAB : ∀ q, B q → A q) : vx_L C n d B U H := by
  obtain ⟨c, k, i, f, a, cell, h1, h2, h3, h4, h5, h6, h7, h8, h9, h10⟩ := h
  exact ⟨c, k, i, f, a, cell, h1, h2, h3, h4, h5, h6, h7, h8, h9, fun z => h10 (hAB _ z)⟩
theorem vx_L.word {C n d : String} {A : Nat → Prop} {s : State} {args : Array Value} (h : vx_L C n d A s s.heap) : (Cond.laysStatic C n d).before args s = true := by
  obtain ⟨c, k, i, f, a, cell, h1, h2, h3, h4, h5, h6, h7, h8, h9, -⟩ := h
  show (Cond.laysStatic C n d).holds args s none s [] = true
  exact Cond.laysStatic_of h1 h2 h3 h4 h5 h6 h7 h8 h9
/-- .. and what it holds: null or some reference -/
def vx_Zq (C n d : String) (A : Nat → Prop) (U : State) (H : Heap) : Prop := va_Zq C n d A U H ∧ vx_L C n d A U H
theorem vx_Zq.moved {C n d : String} {A : Nat → Prop} {u U : State} {H : Heap} (hvm : u.vm.Alike U.vm) (h : vx_Zq C n d A u H) : vx_Zq C n d A U H := ⟨va_Zq.moved hvm h.1, vx_L.moved hvm h.2⟩
theorem vx_Zq.kept {C n d : String} {A : Nat → Prop} {U : State} {H H1 : Heap} (h : vx_Zq C n d A U H) (hq : ∀ a : Nat, a < H.size → ¬ A a → H1[a]? = H[a]?) : vx_Zq C n d A U H1 := ⟨va_Zq.kept h.1 hq, vx_L.kept h.2 hq⟩
theorem vx_Zq.narrow {C n d : String} {A B : Nat → Prop} {U : State} {H : Heap} (h : vx_Zq C n d A U H) (hAB : ∀ q, B q → A q) : vx_Zq C n d B U H := ⟨va_Zq.narrow h.1 hAB, vx_L.narrow h.2 hAB⟩
theorem vx_Zqof {args : Array Value} {s : State} {C n d : String} {A : Nat → Prop} (hl : (Cond.laysStatic C n d).before args s = true) (hini : (Cond.initialized C).before args s = true) (h : (Cond.isRef (.static C n d)).before args s = true) (hA : ∀ a : Nat, a < s.heap.size → ¬ A a) : vx_Zq C n d A s s.heap := by
  refine ⟨va_Zqof hl hini h hA, ?_⟩
  obtain ⟨c, k, i, f, a, cell, h1, h2, h3, h4, h5, h6, h7, h8, h9⟩ := Cond.laysStatic_spec hl
  exact ⟨c, k, i, f, a, cell, h1, h2, h3, h4, h5, h6, h7, h8, h9, hA a (Array.getElem?_eq_some_iff.mp h5).1⟩
theorem vx_isRef {C n d : String} {v : Value} {A : Nat → Prop} {s : State} {args : Array Value} (h : va_Z C n d v A s s.heap) (hv : v.isRef = true) : (Cond.isRef (.static C n d)).before args s = true := by
  obtain ⟨cf, kf, fi, f, a, cell, h1, h2, h3, h4, h5, h6, h7, -⟩ := h
  have he : (Term.static C n d).eval args s none [] s = some v := by
    simp [Term.eval, State.fieldNamed?, h1, h2, h4, h5, h6, h7]
  simp only [Cond.before, Cond.holds, Cond.value, he]
  cases v <;> simp_all [Value.isRef]
theorem vx_isRefq {C n d : String} {A : Nat → Prop} {s : State} {args : Array Value} (h : va_Zq C n d A s s.heap) : (Cond.isRef (.static C n d)).before args s = true := by
  rcases h with h | ⟨t, h⟩
  · exact vx_isRef h rfl
  · exact vx_isRef h rfl
/-- the same frame, seen from here: as if the method were called anew in this heap -/
theorem vx_rebase {T : State} (X : Stand p l e R s m args below meth c T locs cells slots) {R' : Room} (hf : R'.frames ≤ R.frames) (hl : R'.locals ≤ R.locals) (hc : cells + R'.cells ≤ R.cells) (hs : slots + R'.slots ≤ R.slots) :
    Stand p l e R' ((T.setVm s.vm).setFrames (.invoking m args :: below)) m args below meth c T [] 0 0 := by
  have htop : (T.setVm s.vm).topJava?.isSome := X.here.top
  have hF : ((T.setVm s.vm).setFrames (.invoking m args :: below)).frames = .invoking m args :: below := State.frames_setFrames _ (State.cur_lt_of_top htop)
  obtain ⟨g₀, hg0⟩ := Option.isSome_iff_exists.mp htop
  obtain ⟨r, hr⟩ := State.topJava?_eq_some.mp hg0
  have hl9 : e.platform.stackLimits (T.setVm s.vm).me = e.platform.stackLimits s.me := X.limits
  have hb9 : (T.setVm s.vm).me.stackBytes = s.me.stackBytes := X.bytes
  refine ⟨X.admits, X.cas, X.clock, hF, ?_, X.hears, X.method, X.code, X.here, X.tail, X.warmed, ?_, ?_, ?_⟩
  · have h := X.room
    have hU : ((T.setVm s.vm).setFrames (.invoking m args :: below)).localsInUse = s.localsInUse := by
      rw [State.localsInUse_invoking hF (meth := meth) (c := c) X.method X.code, State.localsInUse_invoking X.frames X.method X.code]
    simp only [State.hasRoom, Bool.and_eq_true, decide_eq_true_eq] at h ⊢
    obtain ⟨⟨⟨⟨h1, h2, h3, h4, h5, h6⟩, h7⟩, h8⟩, h9⟩ := h
    rw [X.frames, List.length_cons] at h2 h3
    have q1 := X.heapSize
    have q2 := X.used
    simp only [hF, hU, List.length_cons, State.stackLimits_setFrames, State.stackBytes_setFrames, hl9, hb9]
    refine ⟨⟨⟨⟨by omega, by omega, by omega, by omega, by omega, h6⟩, ?_⟩, ?_⟩, X.book⟩
    · show T.heap.size + R'.cells ≤ e.platform.maxCells
      omega
    · show T.slotsUsed + R'.slots ≤ e.platform.maxSlots
      omega
  · rw [State.stackLimits_setFrames]; rfl
  · rw [State.stackBytes_setFrames]; rfl
  · refine ⟨?_, Nat.le_refl _, Nat.le_refl _, ?_, ?_, fun a c9 h9 => ⟨c9, h9, rfl, rfl, fun _ _ => rfl⟩⟩
    · obtain ⟨t, ht, -⟩ := State.frames_cons hr
      show T.setVm s.vm = { ((T.setVm s.vm).setFrames (.invoking m args :: below)).setFrames (T.setVm s.vm).frames with heap := T.heap, slotsUsed := T.slotsUsed }
      rw [State.setFrames_setFrames, State.setFrames_self ht]
      rfl
    · show T.slotsUsed = T.slotsUsed + ((T.heap.toList.drop T.heap.size).map (·.slots.size)).sum
      rw [List.drop_eq_nil_of_le (Nat.le_of_eq Array.length_toList)]
      rfl
    · show ((T.heap.toList.drop T.heap.size).map (·.slots.size)).sum ≤ 0
      rw [List.drop_eq_nil_of_le (Nat.le_of_eq Array.length_toList)]
      exact Nat.le_refl _
/-- 'throw new E()': new; dup; invokespecial; athrow -/
theorem vx_throw0 {cc : ByteArray} {pc : Nat} (hexec : p.tables.exec = Jvm.exec) (hb : c.code = cc) (hl : l.stackTraces = false) {own cls : String} {names : List String} {ik ic mc ms : Nat} {A : Nat → Prop}
    (hown : s.vm.findClass own = some m.cls) (hcls : Bundle.fit cls = true) (hnames : ∀ n ∈ names, Bundle.fit n = true)
    (hk : (Cond.classLink own ik cls).before args s = true) (hini : (Cond.initialized cls).before args s = true) (hat : ∀ w ∈ vx_at0 own ic cls names, w.before args s = true)
    (hgood : ∀ w ∈ Cond.classLink own ik cls :: Cond.initialized cls :: vx_at0 own ic cls names, vx_ot w = true)
    (hU : vx_Zq Bundle.tN "UNASSIGNED_STACK" Bundle.steD A s s.heap) (hN : vx_Zq Bundle.tN "SUPPRESSED_SENTINEL" Bundle.listD A s s.heap) (hS : va_S A s.heap H locs) (hsize : ls.size = c.maxLocals)
    (d0 : decode cc pc = .ok (.new ik, 3)) (d3 : decode cc (pc + 3) = .ok (.dup, 1)) (d4 : decode cc (pc + 4) = .ok (.invokespecial ic, 3)) (d7 : decode cc (pc + 7) = .ok (.athrow, 1))
    (hout : ∀ x ∈ c.exceptionTable.toList, covers x (pc + 7) = false)
    (hRframes : names.length + 3 < R.frames) (hRlocals : (rest.map fun v => v.category).sum + (13 * (names.length + 1) + 42) ≤ R.locals) (hRcells : cells + 1 ≤ R.cells) (hRslots : slots + 6 ≤ R.slots) (hlocks : meth.locks = false)
    (hx : ∀ t : State, s.vm.Alike t.vm → H.size ≤ t.heap.size → (∀ q : Nat, q < H.size → t.heap[q]? = H[q]?) → XC cls s t)
    (hf : ∀ z ∈ locs, free z.base) (hc : cells + 1 ≤ mc) (hs : slots + 6 ≤ ms) :
    W p l e R s m args below meth c H locs cells slots (vx_MQ below Qc XC args s mc ms free) (F0 m pc ls rest) := by
  intro T hT X
  have htr : e.platform.stackTraces = false := (show e.platform.stackTraces = l.stackTraces by rw [X.admits.platform]).trans hl
  have Y := vx_rebase X (R' := { frames := R.frames, locals := R.locals, cells := 1, slots := 6 }) (Nat.le_refl _) (Nat.le_refl _) hRcells hRslots
  obtain ⟨s', hA⟩ : ∃ z, z = (T.setVm s.vm).setFrames (.invoking m args :: below) := ⟨_, rfl⟩
  rw [← hA] at Y
  have hvm : s'.vm = s.vm := by rw [hA]; rfl
  have hhp : s'.heap = H := by rw [hA]; exact hT
  have hW0 : s.WarmedH s'.vm := by rw [hvm]; exact State.WarmedH.refl s
  have hat' : ∀ w ∈ vx_at0 own ic cls names, w.before args s' = true := fun w hw => vx_ot_at hW0 hvm.symm (hgood w (List.mem_cons_of_mem _ (List.mem_cons_of_mem _ hw))) (hat w hw)
  have hk' : (Cond.classLink own ik cls).before args s' = true := vx_ot_at hW0 hvm.symm (hgood _ List.mem_cons_self) hk
  have hini' : (Cond.initialized cls).before args s' = true := vx_ot_at hW0 hvm.symm (hgood _ (List.mem_cons_of_mem _ List.mem_cons_self)) hini
  have hU' : vx_Zq Bundle.tN "UNASSIGNED_STACK" Bundle.steD A s' s'.heap := by rw [hhp]; exact vx_Zq.moved hW0.alike (hU.kept hS.2.1)
  have hN' : vx_Zq Bundle.tN "SUPPRESSED_SENTINEL" Bundle.listD A s' s'.heap := by rw [hhp]; exact vx_Zq.moved hW0.alike (hN.kept hS.2.1)
  have h : ∀ w ∈ Bundle.ownAtoms0 own ic cls names, w.before args s' = true := vx_own hat' (vx_isRefq hU'.1) (vx_isRefq hN'.1) hU'.2.word hN'.2.word
  have hown' : s'.vm.findClass own = some m.cls := by rw [hvm]; exact hown
  have hins : (Cond.instantiable cls 6).before args s' = true := h _ (by simp [Bundle.ownAtoms0])
  obtain ⟨vm₁, cX, kX, hfX, hkX, -, -, X₁, st1⟩ := Y.newCold hexec (own := own) (C := cls) (index := ik) (n := 6) hown' hk' hins hini'
    (g := F0 m pc ls rest) rfl (by rw [hb]; exact d0) (Nat.le_refl _) (Nat.le_refl _)
  generalize hT1 : (T.setVm vm₁).pushCell { cls := cX, slots := kX.instanceTypes.map defaultValue, vm := .none } = T1 at X₁ st1
  have hcat : (Value.ref T.heap.size).category = 1 := rfl
  have hcellA : T1.heap[T.heap.size]? = some (freshCell cX kX) := by rw [← hT1]; exact State.heap_pushCell_size _ _
  have d3' : decode c.code (pc + 3) = .ok (.dup, 1) := by rw [hb]; exact d3
  obtain ⟨U, hsteps, hrun, hend, hW, hsame, ce, hce, hO⟩ := X₁.ctorThrow0 hexec htr (own := own) (cls := cls) (names := names) (ic := ic) hown' hcls hnames h (fun x hx => nomatch hx) hfX hkX hcellA (by rw [hhp, hT]; exact Nat.le_refl _)
    (g := { method := m, pc := pc + 4, locals := ls, stack := .ref T.heap.size :: .ref T.heap.size :: rest, locked := none }) rfl hsize rfl rfl (rest := rest) rfl
    (by rw [hb]; exact d4) (by rw [hb]; exact d7) hout hRframes (by simp only [List.map_cons, List.sum_cons, hcat]; omega) hlocks
  obtain ⟨f1, f2⟩ := vx_frame hsame
  rw [hhp] at f1 f2
  have hWs : s.WarmedH U.vm := State.WarmedH.trans hW0 hW
  have hcl : s.vm.findClass cls = some ce.cls := by
    have h9 := hO.cls
    rw [hvm] at h9
    exact h9
  have hall : s.sameButNew ({ U with vm := s.vm } : State) locs mc ms := by
    subst hA
    obtain ⟨e1, e2⟩ := hsame
    rw [State.setFrames_setFrames] at e1
    have h2 : (T.setVm s.vm).sameButNew ({ U with vm := s.vm } : State) [] (0 + 1) (0 + 6) := ⟨e1, e2⟩
    have h3 := X.same.trans h2
    rw [List.append_nil] at h3
    exact h3.mono hc hs
  refine ⟨U, ?_, .threw T.heap.size, hrun, hend, Or.inr ⟨T.heap.size, rfl, cls, ce, locs, hx U hWs.alike f1 (fun q hq => f2 q hq (fun z hz => nomatch hz)), hce, hO.vm, hcl, hWs, hall, hf⟩⟩
  refine st1 _ ?_
  show Steps p.tables e below (T1.setTop { method := m, pc := pc + 3, locals := ls, stack := .ref T.heap.size :: rest, locked := none }) _
  jvm_step X₁.here [X₁.here.top, hexec, d3', Value.category]
  exact hsteps
/-- 'throw new E("text")': new; dup; ldc; invokespecial; athrow -/
theorem vx_throwS {cc : ByteArray} {pc : Nat} (hexec : p.tables.exec = Jvm.exec) (hb : c.code = cc) (hl : l.stackTraces = false) {own cls text : String} {names : List String} {ik is ic mc ms sa : Nat} {A : Nat → Prop}
    (hown : s.vm.findClass own = some m.cls) (hcls : Bundle.fit cls = true) (hnames : ∀ n ∈ names, Bundle.fit n = true)
    (hk : (Cond.classLink own ik cls).before args s = true) (hini : (Cond.initialized cls).before args s = true) (hstr : vk_R own is text sa s) (hat : ∀ w ∈ vx_atS own ic cls names, w.before args s = true)
    (hgood : ∀ w ∈ Cond.classLink own ik cls :: Cond.initialized cls :: vx_atS own ic cls names, vx_ot w = true)
    (hU : vx_Zq Bundle.tN "UNASSIGNED_STACK" Bundle.steD A s s.heap) (hN : vx_Zq Bundle.tN "SUPPRESSED_SENTINEL" Bundle.listD A s s.heap) (hS : va_S A s.heap H locs) (hsize : ls.size = c.maxLocals)
    (d0 : decode cc pc = .ok (.new ik, 3)) (d3 : decode cc (pc + 3) = .ok (.dup, 1)) (d4 : decode cc (pc + 4) = .ok (.ldc is, 2)) (d6 : decode cc (pc + 6) = .ok (.invokespecial ic, 3)) (d9 : decode cc (pc + 9) = .ok (.athrow, 1))
    (hout : ∀ x ∈ c.exceptionTable.toList, covers x (pc + 9) = false)
    (hRframes : names.length + 3 < R.frames) (hRlocals : (rest.map fun v => v.category).sum + (13 * (names.length + 1) + 43) ≤ R.locals) (hRcells : cells + 1 ≤ R.cells) (hRslots : slots + 6 ≤ R.slots) (hlocks : meth.locks = false)
    (hx : ∀ t : State, s.vm.Alike t.vm → H.size ≤ t.heap.size → (∀ q : Nat, q < H.size → t.heap[q]? = H[q]?) → XC cls s t)
    (hf : ∀ z ∈ locs, free z.base) (hc : cells + 1 ≤ mc) (hs : slots + 6 ≤ ms) :
    W p l e R s m args below meth c H locs cells slots (vx_MQ below Qc XC args s mc ms free) (F0 m pc ls rest) := by
  intro T hT X
  have htr : e.platform.stackTraces = false := (show e.platform.stackTraces = l.stackTraces by rw [X.admits.platform]).trans hl
  have Y := vx_rebase X (R' := { frames := R.frames, locals := R.locals, cells := 1, slots := 6 }) (Nat.le_refl _) (Nat.le_refl _) hRcells hRslots
  obtain ⟨s', hA⟩ : ∃ z, z = (T.setVm s.vm).setFrames (.invoking m args :: below) := ⟨_, rfl⟩
  rw [← hA] at Y
  have hvm : s'.vm = s.vm := by rw [hA]; rfl
  have hhp : s'.heap = H := by rw [hA]; exact hT
  have hW0 : s.WarmedH s'.vm := by rw [hvm]; exact State.WarmedH.refl s
  have hat' : ∀ w ∈ vx_atS own ic cls names, w.before args s' = true := fun w hw => vx_ot_at hW0 hvm.symm (hgood w (List.mem_cons_of_mem _ (List.mem_cons_of_mem _ hw))) (hat w hw)
  have hk' : (Cond.classLink own ik cls).before args s' = true := vx_ot_at hW0 hvm.symm (hgood _ List.mem_cons_self) hk
  have hini' : (Cond.initialized cls).before args s' = true := vx_ot_at hW0 hvm.symm (hgood _ (List.mem_cons_of_mem _ List.mem_cons_self)) hini
  have hU' : vx_Zq Bundle.tN "UNASSIGNED_STACK" Bundle.steD A s' s'.heap := by rw [hhp]; exact vx_Zq.moved hW0.alike (hU.kept hS.2.1)
  have hN' : vx_Zq Bundle.tN "SUPPRESSED_SENTINEL" Bundle.listD A s' s'.heap := by rw [hhp]; exact vx_Zq.moved hW0.alike (hN.kept hS.2.1)
  have h : ∀ w ∈ Bundle.ownAtoms own ic cls names, w.before args s' = true := vx_own hat' (vx_isRefq hU'.1) (vx_isRefq hN'.1) hU'.2.word hN'.2.word
  have hown' : s'.vm.findClass own = some m.cls := by rw [hvm]; exact hown
  have hins : (Cond.instantiable cls 6).before args s' = true := h _ (by simp [Bundle.ownAtoms])
  obtain ⟨vm₁, cX, kX, hfX, hkX, -, -, X₁, st1⟩ := Y.newCold hexec (own := own) (C := cls) (index := ik) (n := 6) hown' hk' hins hini'
    (g := F0 m pc ls rest) rfl (by rw [hb]; exact d0) (Nat.le_refl _) (Nat.le_refl _)
  generalize hT1 : (T.setVm vm₁).pushCell { cls := cX, slots := kX.instanceTypes.map defaultValue, vm := .none } = T1 at X₁ st1
  have hcat : (Value.ref T.heap.size).category = 1 := rfl
  have hcellA : T1.heap[T.heap.size]? = some (freshCell cX kX) := by rw [← hT1]; exact State.heap_pushCell_size _ _
  have d3' : decode c.code (pc + 3) = .ok (.dup, 1) := by rw [hb]; exact d3
  have d4' : decode c.code (pc + 4) = .ok (.ldc is, 2) := by rw [hb]; exact d4
  have hstr' : vk_R own is text sa s' := vk_R.warm hW0 hstr
  obtain ⟨U, hsteps, hrun, hend, hW, hsame, ce, hce, hO⟩ := X₁.ctorThrowS hexec htr (own := own) (cls := cls) (names := names) (ic := ic) hown' hcls hnames h (fun x hx => nomatch hx) hfX hkX hcellA (by rw [hhp, hT]; exact Nat.le_refl _) (msg := .ref sa) rfl
    (g := { method := m, pc := pc + 6, locals := ls, stack := .ref sa :: .ref T.heap.size :: .ref T.heap.size :: rest, locked := none }) rfl hsize rfl rfl (rest := rest) rfl
    (by rw [hb]; exact d6) (by rw [hb]; exact d9) hout hRframes (by simp only [List.map_cons, List.sum_cons, hcat]; omega) hlocks
  obtain ⟨f1, f2⟩ := vx_frame hsame
  rw [hhp] at f1 f2
  have hWs : s.WarmedH U.vm := State.WarmedH.trans hW0 hW
  have hcl : s.vm.findClass cls = some ce.cls := by
    have h9 := hO.cls
    rw [hvm] at h9
    exact h9
  have hall : s.sameButNew ({ U with vm := s.vm } : State) locs mc ms := by
    subst hA
    obtain ⟨e1, e2⟩ := hsame
    rw [State.setFrames_setFrames] at e1
    have h2 : (T.setVm s.vm).sameButNew ({ U with vm := s.vm } : State) [] (0 + 1) (0 + 6) := ⟨e1, e2⟩
    have h3 := X.same.trans h2
    rw [List.append_nil] at h3
    exact h3.mono hc hs
  refine ⟨U, ?_, .threw T.heap.size, hrun, hend, Or.inr ⟨T.heap.size, rfl, cls, ce, locs, hx U hWs.alike f1 (fun q hq => f2 q hq (fun z hz => nomatch hz)), hce, hO.vm, hcl, hWs, hall, hf⟩⟩
  refine st1 _ ?_
  show Steps p.tables e below (T1.setTop { method := m, pc := pc + 3, locals := ls, stack := .ref T.heap.size :: rest, locked := none }) _
  jvm_step X₁.here [X₁.here.top, hexec, d3', Value.category]
  exact X₁.ldcString hexec (own := own) (text := text) (index := is) (a := sa) hown' hstr'.1 hstr'.2
    (g := { method := m, pc := pc + 4, locals := ls, stack := .ref T.heap.size :: .ref T.heap.size :: rest, locked := none }) rfl d4' _ hsteps
/-- 'throw new E("text")', the text by a wide index -/
theorem vx_throwSW {cc : ByteArray} {pc : Nat} (hexec : p.tables.exec = Jvm.exec) (hb : c.code = cc) (hl : l.stackTraces = false) {own cls text : String} {names : List String} {ik is ic mc ms sa : Nat} {A : Nat → Prop}
    (hown : s.vm.findClass own = some m.cls) (hcls : Bundle.fit cls = true) (hnames : ∀ n ∈ names, Bundle.fit n = true)
    (hk : (Cond.classLink own ik cls).before args s = true) (hini : (Cond.initialized cls).before args s = true) (hstr : vk_R own is text sa s) (hat : ∀ w ∈ vx_atS own ic cls names, w.before args s = true)
    (hgood : ∀ w ∈ Cond.classLink own ik cls :: Cond.initialized cls :: vx_atS own ic cls names, vx_ot w = true)
    (hU : vx_Zq Bundle.tN "UNASSIGNED_STACK" Bundle.steD A s s.heap) (hN : vx_Zq Bundle.tN "SUPPRESSED_SENTINEL" Bundle.listD A s s.heap) (hS : va_S A s.heap H locs) (hsize : ls.size = c.maxLocals)
    (d0 : decode cc pc = .ok (.new ik, 3)) (d3 : decode cc (pc + 3) = .ok (.dup, 1)) (d4 : decode cc (pc + 4) = .ok (.ldc_w is, 3)) (d7 : decode cc (pc + 7) = .ok (.invokespecial ic, 3)) (d10 : decode cc (pc + 10) = .ok (.athrow, 1))
    (hout : ∀ x ∈ c.exceptionTable.toList, covers x (pc + 10) = false)
    (hRframes : names.length + 3 < R.frames) (hRlocals : (rest.map fun v => v.category).sum + (13 * (names.length + 1) + 43) ≤ R.locals) (hRcells : cells + 1 ≤ R.cells) (hRslots : slots + 6 ≤ R.slots) (hlocks : meth.locks = false)
    (hx : ∀ t : State, s.vm.Alike t.vm → H.size ≤ t.heap.size → (∀ q : Nat, q < H.size → t.heap[q]? = H[q]?) → XC cls s t)
    (hf : ∀ z ∈ locs, free z.base) (hc : cells + 1 ≤ mc) (hs : slots + 6 ≤ ms) :
    W p l e R s m args below meth c H locs cells slots (vx_MQ below Qc XC args s mc ms free) (F0 m pc ls rest) := by
  intro T hT X
  have htr : e.platform.stackTraces = false := (show e.platform.stackTraces = l.stackTraces by rw [X.admits.platform]).trans hl
  have Y := vx_rebase X (R' := { frames := R.frames, locals := R.locals, cells := 1, slots := 6 }) (Nat.le_refl _) (Nat.le_refl _) hRcells hRslots
  obtain ⟨s', hA⟩ : ∃ z, z = (T.setVm s.vm).setFrames (.invoking m args :: below) := ⟨_, rfl⟩
  rw [← hA] at Y
  have hvm : s'.vm = s.vm := by rw [hA]; rfl
  have hhp : s'.heap = H := by rw [hA]; exact hT
  have hW0 : s.WarmedH s'.vm := by rw [hvm]; exact State.WarmedH.refl s
  have hat' : ∀ w ∈ vx_atS own ic cls names, w.before args s' = true := fun w hw => vx_ot_at hW0 hvm.symm (hgood w (List.mem_cons_of_mem _ (List.mem_cons_of_mem _ hw))) (hat w hw)
  have hk' : (Cond.classLink own ik cls).before args s' = true := vx_ot_at hW0 hvm.symm (hgood _ List.mem_cons_self) hk
  have hini' : (Cond.initialized cls).before args s' = true := vx_ot_at hW0 hvm.symm (hgood _ (List.mem_cons_of_mem _ List.mem_cons_self)) hini
  have hU' : vx_Zq Bundle.tN "UNASSIGNED_STACK" Bundle.steD A s' s'.heap := by rw [hhp]; exact vx_Zq.moved hW0.alike (hU.kept hS.2.1)
  have hN' : vx_Zq Bundle.tN "SUPPRESSED_SENTINEL" Bundle.listD A s' s'.heap := by rw [hhp]; exact vx_Zq.moved hW0.alike (hN.kept hS.2.1)
  have h : ∀ w ∈ Bundle.ownAtoms own ic cls names, w.before args s' = true := vx_own hat' (vx_isRefq hU'.1) (vx_isRefq hN'.1) hU'.2.word hN'.2.word
  have hown' : s'.vm.findClass own = some m.cls := by rw [hvm]; exact hown
  have hins : (Cond.instantiable cls 6).before args s' = true := h _ (by simp [Bundle.ownAtoms])
  obtain ⟨vm₁, cX, kX, hfX, hkX, -, -, X₁, st1⟩ := Y.newCold hexec (own := own) (C := cls) (index := ik) (n := 6) hown' hk' hins hini'
    (g := F0 m pc ls rest) rfl (by rw [hb]; exact d0) (Nat.le_refl _) (Nat.le_refl _)
  generalize hT1 : (T.setVm vm₁).pushCell { cls := cX, slots := kX.instanceTypes.map defaultValue, vm := .none } = T1 at X₁ st1
  have hcat : (Value.ref T.heap.size).category = 1 := rfl
  have hcellA : T1.heap[T.heap.size]? = some (freshCell cX kX) := by rw [← hT1]; exact State.heap_pushCell_size _ _
  have d3' : decode c.code (pc + 3) = .ok (.dup, 1) := by rw [hb]; exact d3
  have d4' : decode c.code (pc + 4) = .ok (.ldc_w is, 3) := by rw [hb]; exact d4
  have hstr' : vk_R own is text sa s' := vk_R.warm hW0 hstr
  obtain ⟨U, hsteps, hrun, hend, hW, hsame, ce, hce, hO⟩ := X₁.ctorThrowS hexec htr (own := own) (cls := cls) (names := names) (ic := ic) hown' hcls hnames h (fun x hx => nomatch hx) hfX hkX hcellA (by rw [hhp, hT]; exact Nat.le_refl _) (msg := .ref sa) rfl
    (g := { method := m, pc := pc + 7, locals := ls, stack := .ref sa :: .ref T.heap.size :: .ref T.heap.size :: rest, locked := none }) rfl hsize rfl rfl (rest := rest) rfl
    (by rw [hb]; exact d7) (by rw [hb]; exact d10) hout hRframes (by simp only [List.map_cons, List.sum_cons, hcat]; omega) hlocks
  obtain ⟨f1, f2⟩ := vx_frame hsame
  rw [hhp] at f1 f2
  have hWs : s.WarmedH U.vm := State.WarmedH.trans hW0 hW
  have hcl : s.vm.findClass cls = some ce.cls := by
    have h9 := hO.cls
    rw [hvm] at h9
    exact h9
  have hall : s.sameButNew ({ U with vm := s.vm } : State) locs mc ms := by
    subst hA
    obtain ⟨e1, e2⟩ := hsame
    rw [State.setFrames_setFrames] at e1
    have h2 : (T.setVm s.vm).sameButNew ({ U with vm := s.vm } : State) [] (0 + 1) (0 + 6) := ⟨e1, e2⟩
    have h3 := X.same.trans h2
    rw [List.append_nil] at h3
    exact h3.mono hc hs
  refine ⟨U, ?_, .threw T.heap.size, hrun, hend, Or.inr ⟨T.heap.size, rfl, cls, ce, locs, hx U hWs.alike f1 (fun q hq => f2 q hq (fun z hz => nomatch hz)), hce, hO.vm, hcl, hWs, hall, hf⟩⟩
  refine st1 _ ?_
  show Steps p.tables e below (T1.setTop { method := m, pc := pc + 3, locals := ls, stack := .ref T.heap.size :: rest, locked := none }) _
  jvm_step X₁.here [X₁.here.top, hexec, d3', Value.category]
  exact X₁.ldcStringW hexec (own := own) (text := text) (index := is) (a := sa) hown' hstr'.1 hstr'.2
    (g := { method := m, pc := pc + 4, locals := ls, stack := .ref T.heap.size :: .ref T.heap.size :: rest, locked := none }) rfl d4' _ hsteps
end Ends
section Bodies
variable {l : Launch}
theorem vx_ofW {y : MethodName} {ws ws' : List Cond} {rm : Room} {Pc : Array Value → State → Prop} {Qc : Array Value → State → Outcome → State → Prop} {XC : String → State → State → Prop} {mc ms : Nat} {free : Addr → Prop} {cc : ByteArray} {maxL : Nat} {ret : Option FieldType}
    (hy : plainName y.cls = true) (hw : ws = Cond.code y cc maxL ret :: ws')
    (body : ∀ p e s m args below meth c s₁, BodyLoose p l y (headSpec ws rm) cc maxL ret e s m args below meth c s₁ → c.maxLocals = maxL → (∀ x ∈ c.exceptionTable.toList, False) → Pc args s →
      W p l e (headSpec ws rm).room s m args below meth c s.heap [] 0 0 (vx_MQ below Qc XC args s mc ms free) (entryFrame m args maxL)) : vx_Met l y ws rm Pc Qc XC mc ms free := by
  refine MetFree.of_bodyS (code := cc) (maxLocals := maxL) (ret := ret) hy ?_ ?_
  · intro args s m h hn
    obtain ⟨meth, c, h1, h2, h3, h4, h5, h6, -, -⟩ := Cond.code_spec hn (atoms_spec (ws := ws) h _ (by rw [hw]; exact List.mem_cons_self))
    exact ⟨meth, c, h1, h2, h3, h4, h5, h6⟩
  · intro p e s m args below meth c s₁ B hml hP _
    have hh0 : s₁.heap = s.heap := by rw [B.state]; rfl
    have ht : ∀ x ∈ c.exceptionTable.toList, False := by
      obtain ⟨meth9, c9, h1, h2, -, -, -, -, h7, -⟩ := Cond.code_spec B.named (atoms_spec (ws := ws) B.pre _ (by rw [hw]; exact List.mem_cons_self))
      cases Option.some.inj (h1.symm.trans B.method)
      cases Option.some.inj (h2.symm.trans (Stand.of_body B).code)
      intro x hx
      rw [Array.isEmpty_iff.mp h7] at hx
      cases hx
    obtain ⟨t, a1, o, b1, b2, b3⟩ := body p e s m args below meth c s₁ B hml ht hP s₁ hh0 (Stand.of_body B)
    exact ⟨t, o, a1, b1, b2, b3⟩
/-- the table of a body with handlers -/
theorem vx_table {p : Program} {x y : MethodName} {S : Spec} {cc bytes : ByteArray} {maxL maxL' : Nat} {ret ret' : Option FieldType} {e : Env} {s s₁ : State} {m : MethodId} {args : Array Value} {below : List Frame} {meth : Method} {c : Code} {hh : List (Nat × Nat × Nat × Nat)}
    (B : BodyLoose p l y S cc maxL ret e s m args below meth c s₁) (h : (Cond.codeWith y bytes maxL' ret' hh).before args s = true) : c.exceptionTable.toList = tableOf hh := by
  obtain ⟨m9, meth9, c9, hn9, h1, h2, -, -, h6, -⟩ := Cond.codeWith_spec h
  cases Option.some.inj (hn9.symm.trans B.named)
  cases Option.some.inj (h1.symm.trans B.method)
  cases Option.some.inj (h2.symm.trans (Stand.of_body B).code)
  rw [← h6, table_eq]
end Bodies
end VXA
end
section
-- names, field tables, words: written by gen/names.py
def R_Sy : String := "ExchangeSystem"
def R_Co : String := "ExchangeSystem$Contract"
def R_Bl : String := "ExchangeSystem$Block"
def R_En : String := "ExchangeSystem$End"
def R_Mo : String := "ExchangeSystemModel"
def R_La : String := "ExchangeSystemLaw"
def F_Sy : u_T := fun k => match k with
  | 0 => ("ExchangeSystem", "text", "[C", true)
  | 1 => ("ExchangeSystem", "textLength", "I", false)
  | 2 => ("ExchangeSystem", "draft", "LExchangeSystem$Contract;", true)
  | 3 => ("ExchangeSystem", "contracts", "[LExchangeSystem$Contract;", true)
  | 4 => ("ExchangeSystem", "alive", "[Z", true)
  | 5 => ("ExchangeSystem", "blocks", "[LExchangeSystem$Block;", true)
  | 6 => ("ExchangeSystem", "contractOfChannel", "[LExchangeSystem$Contract;", true)
  | 7 => ("ExchangeSystem", "ends", "[LExchangeSystem$End;", true)
  | 8 => ("ExchangeSystem", "said", "I", false)
  | 9 => ("ExchangeSystem", "heard", "I", false)
  | 10 => ("ExchangeSystem", "dropped", "I", false)
  | _ => ("ExchangeSystem", "killed", "I", false)
def t_Sy : Nat → FieldType := fun k => match k with
  | 0 => .array .char
  | 1 => .int
  | 2 => .object "ExchangeSystem$Contract"
  | 3 => .array (.object "ExchangeSystem$Contract")
  | 4 => .array .boolean
  | 5 => .array (.object "ExchangeSystem$Block")
  | 6 => .array (.object "ExchangeSystem$Contract")
  | 7 => .array (.object "ExchangeSystem$End")
  | 8 => .int
  | 9 => .int
  | 10 => .int
  | _ => .int
theorem n_Sy : ∀ a, a < 12 → ∀ b, b < 12 → a ≠ b → (F_Sy a).2.1 ≠ (F_Sy b).2.1 := by decide +kernel
theorem t_Sy_ok : ∀ k, k < 12 → parseFieldDescriptor (F_Sy k).2.2.1 = some (t_Sy k) := by decide +kernel
def F_Co : u_T := fun k => match k with
  | 0 => ("ExchangeSystem$Contract", "states", "[I", true)
  | 1 => ("ExchangeSystem$Contract", "letters", "[I", true)
  | 2 => ("ExchangeSystem$Contract", "sides", "[I", true)
  | 3 => ("ExchangeSystem$Contract", "nexts", "[I", true)
  | _ => ("ExchangeSystem$Contract", "size", "I", false)
def t_Co : Nat → FieldType := fun k => match k with
  | 0 => .array .int
  | 1 => .array .int
  | 2 => .array .int
  | 3 => .array .int
  | _ => .int
theorem n_Co : ∀ a, a < 5 → ∀ b, b < 5 → a ≠ b → (F_Co a).2.1 ≠ (F_Co b).2.1 := by decide +kernel
theorem t_Co_ok : ∀ k, k < 5 → parseFieldDescriptor (F_Co k).2.2.1 = some (t_Co k) := by decide +kernel
def F_Bl : u_T := fun k => match k with
  | 0 => ("ExchangeSystem$Block", "cells", "[I", true)
  | 1 => ("ExchangeSystem$Block", "owner", "I", false)
  | _ => ("ExchangeSystem$Block", "size", "I", false)
def t_Bl : Nat → FieldType := fun k => match k with
  | 0 => .array .int
  | 1 => .int
  | _ => .int
theorem n_Bl : ∀ a, a < 3 → ∀ b, b < 3 → a ≠ b → (F_Bl a).2.1 ≠ (F_Bl b).2.1 := by decide +kernel
theorem t_Bl_ok : ∀ k, k < 3 → parseFieldDescriptor (F_Bl k).2.2.1 = some (t_Bl k) := by decide +kernel
def F_En : u_T := fun k => match k with
  | 0 => ("ExchangeSystem$End", "letters", "[I", true)
  | 1 => ("ExchangeSystem$End", "values", "[I", true)
  | 2 => ("ExchangeSystem$End", "owner", "I", false)
  | 3 => ("ExchangeSystem$End", "state", "I", false)
  | _ => ("ExchangeSystem$End", "waiting", "I", false)
def t_En : Nat → FieldType := fun k => match k with
  | 0 => .array .int
  | 1 => .array .int
  | 2 => .int
  | 3 => .int
  | _ => .int
theorem n_En : ∀ a, a < 5 → ∀ b, b < 5 → a ≠ b → (F_En a).2.1 ≠ (F_En b).2.1 := by decide +kernel
theorem t_En_ok : ∀ k, k < 5 → parseFieldDescriptor (F_En k).2.2.1 = some (t_En k) := by decide +kernel
def F_Mo : u_T := fun k => match k with
  | 0 => ("ExchangeSystemModel", "text", "[I", true)
  | 1 => ("ExchangeSystemModel", "rules", "[I", true)
  | 2 => ("ExchangeSystemModel", "ruleCount", "[I", true)
  | 3 => ("ExchangeSystemModel", "used", "[I", true)
  | 4 => ("ExchangeSystemModel", "usedCount", "[I", true)
  | 5 => ("ExchangeSystemModel", "alive", "[Z", true)
  | 6 => ("ExchangeSystemModel", "blockOwner", "[I", true)
  | 7 => ("ExchangeSystemModel", "cells", "[I", true)
  | 8 => ("ExchangeSystemModel", "cell", "[I", true)
  | 9 => ("ExchangeSystemModel", "endOwner", "[I", true)
  | 10 => ("ExchangeSystemModel", "state", "[I", true)
  | 11 => ("ExchangeSystemModel", "waiting", "[I", true)
  | 12 => ("ExchangeSystemModel", "letter", "[I", true)
  | 13 => ("ExchangeSystemModel", "value", "[I", true)
  | 14 => ("ExchangeSystemModel", "toClose", "[I", true)
  | 15 => ("ExchangeSystemModel", "size", "I", false)
  | 16 => ("ExchangeSystemModel", "thrown", "I", false)
  | 17 => ("ExchangeSystemModel", "said", "I", false)
  | 18 => ("ExchangeSystemModel", "heard", "I", false)
  | 19 => ("ExchangeSystemModel", "dropped", "I", false)
  | 20 => ("ExchangeSystemModel", "killed", "I", false)
  | 21 => ("ExchangeSystemModel", "toCloseCount", "I", false)
  | 22 => ("ExchangeSystemModel", "cleared", "I", false)
  | _ => ("ExchangeSystemModel", "next", "I", false)
def t_Mo : Nat → FieldType := fun k => match k with
  | 0 => .array .int
  | 1 => .array .int
  | 2 => .array .int
  | 3 => .array .int
  | 4 => .array .int
  | 5 => .array .boolean
  | 6 => .array .int
  | 7 => .array .int
  | 8 => .array .int
  | 9 => .array .int
  | 10 => .array .int
  | 11 => .array .int
  | 12 => .array .int
  | 13 => .array .int
  | 14 => .array .int
  | 15 => .int
  | 16 => .int
  | 17 => .int
  | 18 => .int
  | 19 => .int
  | 20 => .int
  | 21 => .int
  | 22 => .int
  | _ => .int
theorem n_Mo : ∀ a, a < 24 → ∀ b, b < 24 → a ≠ b → (F_Mo a).2.1 ≠ (F_Mo b).2.1 := by decide +kernel
theorem t_Mo_ok : ∀ k, k < 24 → parseFieldDescriptor (F_Mo k).2.2.1 = some (t_Mo k) := by decide +kernel
abbrev classes : List vw_C := [(R_Sy, F_Sy, 12), (R_Co, F_Co, 5), (R_Bl, F_Bl, 3), (R_En, F_En, 5), (R_Mo, F_Mo, 24)]
abbrev b_Sy_init : ByteArray := prog_1_method_1_code
def y_Sy_init : MethodName := ⟨R_Sy, "<init>", "()V"⟩
abbrev b_Object_init_ : ByteArray := object_method_1_code
def y_Object_init_ : MethodName := ⟨"java/lang/Object", "<init>", "()V"⟩
abbrev b_Co_init : ByteArray := prog_3_method_1_code
def y_Co_init : MethodName := ⟨R_Co, "<init>", "()V"⟩
abbrev b_Bl_init : ByteArray := prog_2_method_1_code
def y_Bl_init : MethodName := ⟨R_Bl, "<init>", "()V"⟩
abbrev b_En_init : ByteArray := prog_4_method_1_code
def y_En_init : MethodName := ⟨R_En, "<init>", "()V"⟩
abbrev b_Sy_count : ByteArray := prog_1_method_17_code
def y_Sy_count : MethodName := ⟨R_Sy, "count", "(I)I"⟩
abbrev b_Sy_processesAlive : ByteArray := prog_1_method_40_code
def y_Sy_processesAlive : MethodName := ⟨R_Sy, "processesAlive", "()I"⟩
abbrev b_Sy_blocksInUse : ByteArray := prog_1_method_41_code
def y_Sy_blocksInUse : MethodName := ⟨R_Sy, "blocksInUse", "()I"⟩
abbrev b_Bl_isFree : ByteArray := prog_2_method_2_code
def y_Bl_isFree : MethodName := ⟨R_Bl, "isFree", "()Z"⟩
abbrev b_Sy_cellsInUse : ByteArray := prog_1_method_42_code
def y_Sy_cellsInUse : MethodName := ⟨R_Sy, "cellsInUse", "()I"⟩
abbrev b_Sy_endsOpen : ByteArray := prog_1_method_43_code
def y_Sy_endsOpen : MethodName := ⟨R_Sy, "endsOpen", "()I"⟩
abbrev b_En_isOpen : ByteArray := prog_4_method_2_code
def y_En_isOpen : MethodName := ⟨R_En, "isOpen", "()Z"⟩
abbrev b_Sy_messagesWaiting : ByteArray := prog_1_method_44_code
def y_Sy_messagesWaiting : MethodName := ⟨R_Sy, "messagesWaiting", "()I"⟩
abbrev b_Sy_contractsMade : ByteArray := prog_1_method_45_code
def y_Sy_contractsMade : MethodName := ⟨R_Sy, "contractsMade", "()I"⟩
abbrev b_Co_isNone : ByteArray := prog_3_method_2_code
def y_Co_isNone : MethodName := ⟨R_Co, "isNone", "()Z"⟩
abbrev b_La_type : ByteArray := method_3_code
def y_La_type : MethodName := ⟨R_La, "type", "(LExchangeSystem;J[J)I"⟩
abbrev b_Sy_type : ByteArray := prog_1_method_2_code
def y_Sy_type : MethodName := ⟨R_Sy, "type", "(J)I"⟩
abbrev b_Sy_byteAt : ByteArray := prog_1_method_18_code
def y_Sy_byteAt : MethodName := ⟨R_Sy, "byteAt", "(JI)I"⟩
abbrev b_Sy_needWithin : ByteArray := prog_1_method_19_code
def y_Sy_needWithin : MethodName := ⟨R_Sy, "needWithin", "(III)V"⟩
abbrev b_Throwable_init_ : ByteArray := prog_16_method_1_code
def y_Throwable_init_ : MethodName := ⟨"java/lang/Throwable", "<init>", "()V"⟩
abbrev b_Throwable_fillInStackTrace_ : ByteArray := prog_16_method_18_code
def y_Throwable_fillInStackTrace_ : MethodName := ⟨"java/lang/Throwable", "fillInStackTrace", "()Ljava/lang/Throwable;"⟩
abbrev b_IllegalArgumentException_init_S : ByteArray := prog_9_method_2_code
def y_IllegalArgumentException_init_S : MethodName := ⟨"java/lang/IllegalArgumentException", "<init>", "(Ljava/lang/String;)V"⟩
abbrev b_RuntimeException_init_S : ByteArray := prog_12_method_2_code
def y_RuntimeException_init_S : MethodName := ⟨"java/lang/RuntimeException", "<init>", "(Ljava/lang/String;)V"⟩
abbrev b_Exception_init_S : ByteArray := prog_8_method_2_code
def y_Exception_init_S : MethodName := ⟨"java/lang/Exception", "<init>", "(Ljava/lang/String;)V"⟩
abbrev b_Throwable_init_S : ByteArray := prog_16_method_2_code
def y_Throwable_init_S : MethodName := ⟨"java/lang/Throwable", "<init>", "(Ljava/lang/String;)V"⟩
abbrev b_UnsupportedOperationException_init_S : ByteArray := prog_17_method_2_code
def y_UnsupportedOperationException_init_S : MethodName := ⟨"java/lang/UnsupportedOperationException", "<init>", "(Ljava/lang/String;)V"⟩
abbrev b_La_contract : ByteArray := method_4_code
def y_La_contract : MethodName := ⟨R_La, "contract", "(LExchangeSystem;I[J)I"⟩
abbrev b_Sy_contract : ByteArray := prog_1_method_3_code
def y_Sy_contract : MethodName := ⟨R_Sy, "contract", "(I)I"⟩
abbrev b_Sy_needBelow : ByteArray := prog_1_method_20_code
def y_Sy_needBelow : MethodName := ⟨R_Sy, "needBelow", "(II)V"⟩
abbrev b_Sy_draftFromText : ByteArray := prog_1_method_36_code
def y_Sy_draftFromText : MethodName := ⟨R_Sy, "draftFromText", "()Z"⟩
abbrev b_Co_clear : ByteArray := prog_3_method_3_code
def y_Co_clear : MethodName := ⟨R_Co, "clear", "()V"⟩
abbrev b_Sy_draftRuleAt : ByteArray := prog_1_method_37_code
def y_Sy_draftRuleAt : MethodName := ⟨R_Sy, "draftRuleAt", "(I)Z"⟩
abbrev b_String_indexOf_I : ByteArray := prog_13_method_79_code
def y_String_indexOf_I : MethodName := ⟨"java/lang/String", "indexOf", "(I)I"⟩
abbrev b_String_indexOf_II : ByteArray := prog_13_method_80_code
def y_String_indexOf_II : MethodName := ⟨"java/lang/String", "indexOf", "(II)I"⟩
abbrev b_String_isLatin1_ : ByteArray := prog_13_method_154_code
def y_String_isLatin1_ : MethodName := ⟨"java/lang/String", "isLatin1", "()Z"⟩
abbrev b_String_length_ : ByteArray := prog_13_method_54_code
def y_String_length_ : MethodName := ⟨"java/lang/String", "length", "()I"⟩
abbrev b_String_coder_ : ByteArray := prog_13_method_152_code
def y_String_coder_ : MethodName := ⟨"java/lang/String", "coder", "()B"⟩
abbrev b_StringLatin1_indexOf_aBIII : ByteArray := prog_14_method_22_code
def y_StringLatin1_indexOf_aBIII : MethodName := ⟨"java/lang/StringLatin1", "indexOf", "([BIII)I"⟩
abbrev b_StringLatin1_canEncode_I : ByteArray := prog_14_method_4_code
def y_StringLatin1_canEncode_I : MethodName := ⟨"java/lang/StringLatin1", "canEncode", "(I)Z"⟩
abbrev b_Math_max_II : ByteArray := prog_11_method_65_code
def y_Math_max_II : MethodName := ⟨"java/lang/Math", "max", "(II)I"⟩
abbrev b_Math_min_II : ByteArray := prog_11_method_69_code
def y_Math_min_II : MethodName := ⟨"java/lang/Math", "min", "(II)I"⟩
abbrev b_StringLatin1_indexOfChar_aBIII : ByteArray := prog_14_method_23_code
def y_StringLatin1_indexOfChar_aBIII : MethodName := ⟨"java/lang/StringLatin1", "indexOfChar", "([BIII)I"⟩
abbrev b_StringUTF16_indexOf_aBIII : ByteArray := prog_15_method_40_code
def y_StringUTF16_indexOf_aBIII : MethodName := ⟨"java/lang/StringUTF16", "indexOf", "([BIII)I"⟩
abbrev b_StringUTF16_indexOfChar_aBIII : ByteArray := prog_15_method_47_code
def y_StringUTF16_indexOfChar_aBIII : MethodName := ⟨"java/lang/StringUTF16", "indexOfChar", "([BIII)I"⟩
abbrev b_StringUTF16_checkBoundsBeginEnd_IIaB : ByteArray := prog_15_method_93_code
def y_StringUTF16_checkBoundsBeginEnd_IIaB : MethodName := ⟨"java/lang/StringUTF16", "checkBoundsBeginEnd", "(II[B)V"⟩
abbrev b_StringUTF16_length_aB : ByteArray := prog_15_method_6_code
def y_StringUTF16_length_aB : MethodName := ⟨"java/lang/StringUTF16", "length", "([B)I"⟩
abbrev b_String_checkBoundsBeginEnd_III : ByteArray := prog_13_method_158_code
def y_String_checkBoundsBeginEnd_III : MethodName := ⟨"java/lang/String", "checkBoundsBeginEnd", "(III)V"⟩
abbrev b_Preconditions_checkFromToIndex_IIILjavautilfunctionBiFunction : ByteArray := prog_20_method_12_code
def y_Preconditions_checkFromToIndex_IIILjavautilfunctionBiFunction : MethodName := ⟨"jdk/internal/util/Preconditions", "checkFromToIndex", "(IIILjava/util/function/BiFunction;)I"⟩
abbrev b_StringUTF16_indexOfCharUnsafe_aBIII : ByteArray := prog_15_method_48_code
def y_StringUTF16_indexOfCharUnsafe_aBIII : MethodName := ⟨"java/lang/StringUTF16", "indexOfCharUnsafe", "([BIII)I"⟩
abbrev b_StringUTF16_getChar_aBI : ByteArray := prog_15_method_5_code
def y_StringUTF16_getChar_aBI : MethodName := ⟨"java/lang/StringUTF16", "getChar", "([BI)C"⟩
abbrev b_StringUTF16_indexOfSupplementary_aBIII : ByteArray := prog_15_method_49_code
def y_StringUTF16_indexOfSupplementary_aBIII : MethodName := ⟨"java/lang/StringUTF16", "indexOfSupplementary", "([BIII)I"⟩
abbrev b_Character_isValidCodePoint_I : ByteArray := prog_7_method_11_code
def y_Character_isValidCodePoint_I : MethodName := ⟨"java/lang/Character", "isValidCodePoint", "(I)Z"⟩
abbrev b_Character_highSurrogate_I : ByteArray := prog_7_method_28_code
def y_Character_highSurrogate_I : MethodName := ⟨"java/lang/Character", "highSurrogate", "(I)C"⟩
abbrev b_Character_lowSurrogate_I : ByteArray := prog_7_method_29_code
def y_Character_lowSurrogate_I : MethodName := ⟨"java/lang/Character", "lowSurrogate", "(I)C"⟩
abbrev b_Co_addRule : ByteArray := prog_3_method_4_code
def y_Co_addRule : MethodName := ⟨R_Co, "addRule", "(IIII)Z"⟩
abbrev b_Co_ruleFor : ByteArray := prog_3_method_7_code
def y_Co_ruleFor : MethodName := ⟨R_Co, "ruleFor", "(II)I"⟩
abbrev b_Co_become : ByteArray := prog_3_method_5_code
def y_Co_become : MethodName := ⟨R_Co, "become", "(LExchangeSystem$Contract;)V"⟩
abbrev b_La_start : ByteArray := method_5_code
def y_La_start : MethodName := ⟨R_La, "start", "(LExchangeSystem;[J)I"⟩
abbrev b_Sy_start : ByteArray := prog_1_method_4_code
def y_Sy_start : MethodName := ⟨R_Sy, "start", "()I"⟩
abbrev b_La_kill : ByteArray := method_6_code
def y_La_kill : MethodName := ⟨R_La, "kill", "(LExchangeSystem;I[J)I"⟩
abbrev b_Sy_kill : ByteArray := prog_1_method_5_code
def y_Sy_kill : MethodName := ⟨R_Sy, "kill", "(I)I"⟩
abbrev b_Sy_needAlive : ByteArray := prog_1_method_21_code
def y_Sy_needAlive : MethodName := ⟨R_Sy, "needAlive", "(I)V"⟩
abbrev b_IllegalStateException_init_S : ByteArray := prog_10_method_2_code
def y_IllegalStateException_init_S : MethodName := ⟨"java/lang/IllegalStateException", "<init>", "(Ljava/lang/String;)V"⟩
abbrev b_Bl_giveBack : ByteArray := prog_2_method_4_code
def y_Bl_giveBack : MethodName := ⟨R_Bl, "giveBack", "()V"⟩
abbrev b_Sy_closeEnd : ByteArray := prog_1_method_34_code
def y_Sy_closeEnd : MethodName := ⟨R_Sy, "closeEnd", "(II)I"⟩
abbrev b_Sy_dropMessage : ByteArray := prog_1_method_35_code
def y_Sy_dropMessage : MethodName := ⟨R_Sy, "dropMessage", "(III)I"⟩
abbrev b_Sy_carriesBlock : ByteArray := prog_1_method_29_code
def y_Sy_carriesBlock : MethodName := ⟨R_Sy, "carriesBlock", "(I)Z"⟩
abbrev b_Sy_carriesEnd : ByteArray := prog_1_method_30_code
def y_Sy_carriesEnd : MethodName := ⟨R_Sy, "carriesEnd", "(I)Z"⟩
abbrev b_La_block : ByteArray := method_7_code
def y_La_block : MethodName := ⟨R_La, "block", "(LExchangeSystem;II[J)I"⟩
abbrev b_Sy_block : ByteArray := prog_1_method_6_code
def y_Sy_block : MethodName := ⟨R_Sy, "block", "(II)I"⟩
abbrev b_Sy_leastFreeBlock : ByteArray := prog_1_method_38_code
def y_Sy_leastFreeBlock : MethodName := ⟨R_Sy, "leastFreeBlock", "()I"⟩
abbrev b_Bl_handOut : ByteArray := prog_2_method_3_code
def y_Bl_handOut : MethodName := ⟨R_Bl, "handOut", "(II)V"⟩
abbrev b_Arrays_fill_aII : ByteArray := prog_18_method_103_code
def y_Arrays_fill_aII : MethodName := ⟨"java/util/Arrays", "fill", "([II)V"⟩
abbrev b_La_free : ByteArray := method_8_code
def y_La_free : MethodName := ⟨R_La, "free", "(LExchangeSystem;II)I"⟩
abbrev b_Sy_free : ByteArray := prog_1_method_7_code
def y_Sy_free : MethodName := ⟨R_Sy, "free", "(II)V"⟩
abbrev b_Sy_needOwnBlock : ByteArray := prog_1_method_22_code
def y_Sy_needOwnBlock : MethodName := ⟨R_Sy, "needOwnBlock", "(II)V"⟩
abbrev b_La_read : ByteArray := method_9_code
def y_La_read : MethodName := ⟨R_La, "read", "(LExchangeSystem;III[J)I"⟩
abbrev b_Sy_read : ByteArray := prog_1_method_8_code
def y_Sy_read : MethodName := ⟨R_Sy, "read", "(III)I"⟩
abbrev b_Sy_needCell : ByteArray := prog_1_method_23_code
def y_Sy_needCell : MethodName := ⟨R_Sy, "needCell", "(II)V"⟩
abbrev b_NoSuchElementException_init_S : ByteArray := prog_19_method_4_code
def y_NoSuchElementException_init_S : MethodName := ⟨"java/util/NoSuchElementException", "<init>", "(Ljava/lang/String;)V"⟩
abbrev b_La_write : ByteArray := method_10_code
def y_La_write : MethodName := ⟨R_La, "write", "(LExchangeSystem;IIII)I"⟩
abbrev b_Sy_write : ByteArray := prog_1_method_9_code
def y_Sy_write : MethodName := ⟨R_Sy, "write", "(IIII)V"⟩
abbrev b_La_open : ByteArray := method_11_code
def y_La_open : MethodName := ⟨R_La, "open", "(LExchangeSystem;III[J)I"⟩
abbrev b_Sy_open : ByteArray := prog_1_method_10_code
def y_Sy_open : MethodName := ⟨R_Sy, "open", "(III)I"⟩
abbrev b_Sy_leastFreeChannel : ByteArray := prog_1_method_39_code
def y_Sy_leastFreeChannel : MethodName := ⟨R_Sy, "leastFreeChannel", "()I"⟩
abbrev b_En_begin : ByteArray := prog_4_method_3_code
def y_En_begin : MethodName := ⟨R_En, "begin", "(I)V"⟩
abbrev b_La_say : ByteArray := method_12_code
def y_La_say : MethodName := ⟨R_La, "say", "(LExchangeSystem;IIII)I"⟩
abbrev b_Sy_say : ByteArray := prog_1_method_11_code
def y_Sy_say : MethodName := ⟨R_Sy, "say", "(IIII)V"⟩
abbrev b_Sy_needOwnEnd : ByteArray := prog_1_method_24_code
def y_Sy_needOwnEnd : MethodName := ⟨R_Sy, "needOwnEnd", "(II)V"⟩
abbrev b_Sy_sideOf : ByteArray := prog_1_method_32_code
def y_Sy_sideOf : MethodName := ⟨R_Sy, "sideOf", "(I)I"⟩
abbrev b_Co_stateBehind : ByteArray := prog_3_method_6_code
def y_Co_stateBehind : MethodName := ⟨R_Co, "stateBehind", "(III)I"⟩
abbrev b_Sy_needAllowed : ByteArray := prog_1_method_25_code
def y_Sy_needAllowed : MethodName := ⟨R_Sy, "needAllowed", "(I)V"⟩
abbrev b_Sy_needOwnLoad : ByteArray := prog_1_method_26_code
def y_Sy_needOwnLoad : MethodName := ⟨R_Sy, "needOwnLoad", "(IIII)V"⟩
abbrev b_Sy_ownsBlock : ByteArray := prog_1_method_27_code
def y_Sy_ownsBlock : MethodName := ⟨R_Sy, "ownsBlock", "(II)Z"⟩
abbrev b_Sy_ownsEndOfOtherChannel : ByteArray := prog_1_method_28_code
def y_Sy_ownsEndOfOtherChannel : MethodName := ⟨R_Sy, "ownsEndOfOtherChannel", "(III)Z"⟩
abbrev b_Sy_otherEnd : ByteArray := prog_1_method_33_code
def y_Sy_otherEnd : MethodName := ⟨R_Sy, "otherEnd", "(I)I"⟩
abbrev b_Sy_giveLoad : ByteArray := prog_1_method_31_code
def y_Sy_giveLoad : MethodName := ⟨R_Sy, "giveLoad", "(III)V"⟩
abbrev b_En_addLast : ByteArray := prog_4_method_4_code
def y_En_addLast : MethodName := ⟨R_En, "addLast", "(II)V"⟩
abbrev b_La_hear : ByteArray := method_13_code
def y_La_hear : MethodName := ⟨R_La, "hear", "(LExchangeSystem;II[J)I"⟩
abbrev b_Sy_hear : ByteArray := prog_1_method_12_code
def y_Sy_hear : MethodName := ⟨R_Sy, "hear", "(II)I"⟩
abbrev b_En_removeFirst : ByteArray := prog_4_method_5_code
def y_En_removeFirst : MethodName := ⟨R_En, "removeFirst", "()V"⟩
abbrev b_La_choose : ByteArray := method_14_code
def y_La_choose : MethodName := ⟨R_La, "choose", "(LExchangeSystem;II[J)I"⟩
abbrev b_Sy_choose : ByteArray := prog_1_method_13_code
def y_Sy_choose : MethodName := ⟨R_Sy, "choose", "(II)I"⟩
abbrev b_La_close : ByteArray := method_15_code
def y_La_close : MethodName := ⟨R_La, "close", "(LExchangeSystem;II[J)I"⟩
abbrev b_Sy_close : ByteArray := prog_1_method_14_code
def y_Sy_close : MethodName := ⟨R_Sy, "close", "(II)I"⟩
abbrev b_La_ofBlock : ByteArray := method_16_code
def y_La_ofBlock : MethodName := ⟨R_La, "ofBlock", "(LExchangeSystem;II[J)I"⟩
abbrev b_Sy_ofBlock : ByteArray := prog_1_method_15_code
def y_Sy_ofBlock : MethodName := ⟨R_Sy, "ofBlock", "(II)I"⟩
abbrev b_La_ofEnd : ByteArray := method_17_code
def y_La_ofEnd : MethodName := ⟨R_La, "ofEnd", "(LExchangeSystem;II[J)I"⟩
abbrev b_Sy_ofEnd : ByteArray := prog_1_method_16_code
def y_Sy_ofEnd : MethodName := ⟨R_Sy, "ofEnd", "(II)I"⟩
abbrev b_Mo_init : ByteArray := prog_6_method_1_code
def y_Mo_init : MethodName := ⟨R_Mo, "<init>", "()V"⟩
abbrev b_Mo_thrown : ByteArray := prog_6_method_2_code
def y_Mo_thrown : MethodName := ⟨R_Mo, "thrown", "()I"⟩
abbrev b_Mo_type : ByteArray := prog_6_method_6_code
def y_Mo_type : MethodName := ⟨R_Mo, "type", "(J)I"⟩
abbrev b_Mo_in : ByteArray := prog_6_method_3_code
def y_Mo_in : MethodName := ⟨R_Mo, "in", "(III)Z"⟩
abbrev b_Mo_bad : ByteArray := prog_6_method_4_code
def y_Mo_bad : MethodName := ⟨R_Mo, "bad", "(Z)Z"⟩
abbrev b_Mo_fail : ByteArray := prog_6_method_5_code
def y_Mo_fail : MethodName := ⟨R_Mo, "fail", "(I)I"⟩
abbrev b_Mo_contract : ByteArray := prog_6_method_9_code
def y_Mo_contract : MethodName := ⟨R_Mo, "contract", "(I)I"⟩
abbrev b_Mo_readRules : ByteArray := prog_6_method_8_code
def y_Mo_readRules : MethodName := ⟨R_Mo, "readRules", "()I"⟩
abbrev b_Mo_letterOf : ByteArray := prog_6_method_7_code
def y_Mo_letterOf : MethodName := ⟨R_Mo, "letterOf", "(I)I"⟩
abbrev b_Mo_start : ByteArray := prog_6_method_14_code
def y_Mo_start : MethodName := ⟨R_Mo, "start", "()I"⟩
abbrev b_Mo_kill : ByteArray := prog_6_method_15_code
def y_Mo_kill : MethodName := ⟨R_Mo, "kill", "(I)I"⟩
abbrev b_Mo_freeBlock : ByteArray := prog_6_method_11_code
def y_Mo_freeBlock : MethodName := ⟨R_Mo, "freeBlock", "(I)V"⟩
abbrev b_Mo_closeEnd : ByteArray := prog_6_method_12_code
def y_Mo_closeEnd : MethodName := ⟨R_Mo, "closeEnd", "(I)V"⟩
abbrev b_Mo_clear : ByteArray := prog_6_method_13_code
def y_Mo_clear : MethodName := ⟨R_Mo, "clear", "()V"⟩
abbrev b_Mo_block : ByteArray := prog_6_method_17_code
def y_Mo_block : MethodName := ⟨R_Mo, "block", "(II)I"⟩
abbrev b_Mo_allCells : ByteArray := prog_6_method_16_code
def y_Mo_allCells : MethodName := ⟨R_Mo, "allCells", "()I"⟩
abbrev b_Mo_free : ByteArray := prog_6_method_19_code
def y_Mo_free : MethodName := ⟨R_Mo, "free", "(II)V"⟩
abbrev b_Mo_notYours : ByteArray := prog_6_method_18_code
def y_Mo_notYours : MethodName := ⟨R_Mo, "notYours", "(II)Z"⟩
abbrev b_Mo_read : ByteArray := prog_6_method_20_code
def y_Mo_read : MethodName := ⟨R_Mo, "read", "(III)I"⟩
abbrev b_Mo_write : ByteArray := prog_6_method_21_code
def y_Mo_write : MethodName := ⟨R_Mo, "write", "(IIII)V"⟩
abbrev b_Mo_open : ByteArray := prog_6_method_22_code
def y_Mo_open : MethodName := ⟨R_Mo, "open", "(III)I"⟩
abbrev b_Mo_say : ByteArray := prog_6_method_24_code
def y_Mo_say : MethodName := ⟨R_Mo, "say", "(IIII)V"⟩
abbrev b_Mo_notYourEnd : ByteArray := prog_6_method_23_code
def y_Mo_notYourEnd : MethodName := ⟨R_Mo, "notYourEnd", "(II)Z"⟩
abbrev b_Mo_lets : ByteArray := prog_6_method_10_code
def y_Mo_lets : MethodName := ⟨R_Mo, "lets", "(III)Z"⟩
abbrev b_Mo_hear : ByteArray := prog_6_method_25_code
def y_Mo_hear : MethodName := ⟨R_Mo, "hear", "(II)I"⟩
abbrev b_Mo_choose : ByteArray := prog_6_method_26_code
def y_Mo_choose : MethodName := ⟨R_Mo, "choose", "(II)I"⟩
abbrev b_Mo_close : ByteArray := prog_6_method_27_code
def y_Mo_close : MethodName := ⟨R_Mo, "close", "(II)I"⟩
abbrev b_Mo_ofBlock : ByteArray := prog_6_method_28_code
def y_Mo_ofBlock : MethodName := ⟨R_Mo, "ofBlock", "(II)I"⟩
abbrev b_Mo_ofEnd : ByteArray := prog_6_method_29_code
def y_Mo_ofEnd : MethodName := ⟨R_Mo, "ofEnd", "(II)I"⟩
abbrev b_Mo_count : ByteArray := prog_6_method_30_code
def y_Mo_count : MethodName := ⟨R_Mo, "count", "(I)I"⟩
end
section
-- words of the tables, by their places
theorem k_in_La : Cond.initialized R_La ∈ lw_tbl := List.mem_append_right _ (List.mem_of_getElem? (i := 0) (by decide +kernel))
theorem k_in_Sy : Cond.initialized R_Sy ∈ lw_tbl := List.mem_append_right _ (List.mem_of_getElem? (i := 1) (by decide +kernel))
theorem k_in_Co : Cond.initialized R_Co ∈ lw_tbl := List.mem_append_right _ (List.mem_of_getElem? (i := 2) (by decide +kernel))
theorem k_in_Bl : Cond.initialized R_Bl ∈ lw_tbl := List.mem_append_right _ (List.mem_of_getElem? (i := 3) (by decide +kernel))
theorem k_in_En : Cond.initialized R_En ∈ lw_tbl := List.mem_append_right _ (List.mem_of_getElem? (i := 4) (by decide +kernel))
theorem k_in_Mo : Cond.initialized R_Mo ∈ lw_tbl := List.mem_append_right _ (List.mem_of_getElem? (i := 5) (by decide +kernel))
theorem k_in_Throwable : Cond.initialized "java/lang/Throwable" ∈ lw_tbl := List.mem_append_right _ (List.mem_of_getElem? (i := 6) (by decide +kernel))
theorem k_in_Exception : Cond.initialized "java/lang/Exception" ∈ lw_tbl := List.mem_append_right _ (List.mem_of_getElem? (i := 7) (by decide +kernel))
theorem k_in_RuntimeException : Cond.initialized "java/lang/RuntimeException" ∈ lw_tbl := List.mem_append_right _ (List.mem_of_getElem? (i := 8) (by decide +kernel))
theorem k_in_IllegalArgumentException : Cond.initialized "java/lang/IllegalArgumentException" ∈ lw_tbl := List.mem_append_right _ (List.mem_of_getElem? (i := 9) (by decide +kernel))
theorem k_in_UnsupportedOperationException : Cond.initialized "java/lang/UnsupportedOperationException" ∈ lw_tbl := List.mem_append_right _ (List.mem_of_getElem? (i := 10) (by decide +kernel))
theorem k_in_String : Cond.initialized "java/lang/String" ∈ lw_tbl := List.mem_append_right _ (List.mem_of_getElem? (i := 11) (by decide +kernel))
theorem k_in_StringLatin1 : Cond.initialized "java/lang/StringLatin1" ∈ lw_tbl := List.mem_append_right _ (List.mem_of_getElem? (i := 12) (by decide +kernel))
theorem k_in_Math : Cond.initialized "java/lang/Math" ∈ lw_tbl := List.mem_append_right _ (List.mem_of_getElem? (i := 13) (by decide +kernel))
theorem k_in_StringUTF16 : Cond.initialized "java/lang/StringUTF16" ∈ lw_tbl := List.mem_append_right _ (List.mem_of_getElem? (i := 14) (by decide +kernel))
theorem k_in_Preconditions : Cond.initialized "jdk/internal/util/Preconditions" ∈ lw_tbl := List.mem_append_right _ (List.mem_of_getElem? (i := 15) (by decide +kernel))
theorem k_in_Character : Cond.initialized "java/lang/Character" ∈ lw_tbl := List.mem_append_right _ (List.mem_of_getElem? (i := 16) (by decide +kernel))
theorem k_in_IllegalStateException : Cond.initialized "java/lang/IllegalStateException" ∈ lw_tbl := List.mem_append_right _ (List.mem_of_getElem? (i := 17) (by decide +kernel))
theorem k_in_Arrays : Cond.initialized "java/util/Arrays" ∈ lw_tbl := List.mem_append_right _ (List.mem_of_getElem? (i := 18) (by decide +kernel))
theorem k_in_NoSuchElementException : Cond.initialized "java/util/NoSuchElementException" ∈ lw_tbl := List.mem_append_right _ (List.mem_of_getElem? (i := 19) (by decide +kernel))
theorem k_cl_La_8 : Cond.classLink R_La 8 R_Sy ∈ lw_tbl := List.mem_append_right _ (List.mem_of_getElem? (i := 20) (by decide +kernel))
theorem k_ia_Sy : Cond.instantiable R_Sy 12 ∈ lw_tbl := List.mem_append_right _ (List.mem_of_getElem? (i := 21) (by decide +kernel))
theorem k_ml_La_69 : Cond.methodLink R_La 69 y_Sy_init ∈ lw_tbl := List.mem_append_right _ (List.mem_of_getElem? (i := 22) (by decide +kernel))
theorem k_im_Sy_init : Cond.instanceMethod y_Sy_init ∈ lw_tbl := List.mem_append_right _ (List.mem_of_getElem? (i := 23) (by decide +kernel))
theorem k_cd_Sy_init : Cond.code y_Sy_init prog_1_method_1_code 2 none ∈ lw_tbl := List.mem_append_right _ (List.mem_of_getElem? (i := 24) (by decide +kernel))
theorem k_ml_Sy_3 : Cond.methodLink R_Sy 3 y_Object_init_ ∈ lw_tbl := List.mem_append_right _ (List.mem_of_getElem? (i := 25) (by decide +kernel))
theorem k_im_Object_init_ : Cond.instanceMethod y_Object_init_ ∈ lw_tbl := List.mem_append_right _ (List.mem_of_getElem? (i := 26) (by decide +kernel))
theorem k_cd_Object_init_ : Cond.code y_Object_init_ object_method_1_code 1 none ∈ lw_tbl := List.mem_append_right _ (List.mem_of_getElem? (i := 27) (by decide +kernel))
theorem k_cl_Sy_13 : Cond.classLink R_Sy 13 R_Co ∈ lw_tbl := List.mem_append_right _ (List.mem_of_getElem? (i := 28) (by decide +kernel))
theorem k_ia_Co : Cond.instantiable R_Co 5 ∈ lw_tbl := List.mem_append_right _ (List.mem_of_getElem? (i := 29) (by decide +kernel))
theorem k_mn_Sy_15 : Cond.methodLinkNest R_Sy 15 y_Co_init R_Sy ∈ lw_tbl := List.mem_append_right _ (List.mem_of_getElem? (i := 30) (by decide +kernel))
theorem k_im_Co_init : Cond.instanceMethod y_Co_init ∈ lw_tbl := List.mem_append_right _ (List.mem_of_getElem? (i := 31) (by decide +kernel))
theorem k_cd_Co_init : Cond.code y_Co_init prog_3_method_1_code 1 none ∈ lw_tbl := List.mem_append_right _ (List.mem_of_getElem? (i := 32) (by decide +kernel))
theorem k_ml_Co_3 : Cond.methodLink R_Co 3 y_Object_init_ ∈ lw_tbl := List.mem_append_right _ (List.mem_of_getElem? (i := 33) (by decide +kernel))
theorem k_fl_Co_9 : Cond.fieldLink R_Co 9 R_Co "states" "[I" ∈ lw_tbl := List.mem_append_right _ (List.mem_of_getElem? (i := 34) (by decide +kernel))
theorem k_fl_Co_15 : Cond.fieldLink R_Co 15 R_Co "letters" "[I" ∈ lw_tbl := List.mem_append_right _ (List.mem_of_getElem? (i := 35) (by decide +kernel))
theorem k_fl_Co_18 : Cond.fieldLink R_Co 18 R_Co "sides" "[I" ∈ lw_tbl := List.mem_append_right _ (List.mem_of_getElem? (i := 36) (by decide +kernel))
theorem k_fl_Co_21 : Cond.fieldLink R_Co 21 R_Co "nexts" "[I" ∈ lw_tbl := List.mem_append_right _ (List.mem_of_getElem? (i := 37) (by decide +kernel))
theorem k_fl_Co_24 : Cond.fieldLink R_Co 24 R_Co "size" "I" ∈ lw_tbl := List.mem_append_right _ (List.mem_of_getElem? (i := 38) (by decide +kernel))
theorem k_fn_Sy_81 : Cond.fieldLinkNest R_Sy 81 R_Co "size" "I" R_Sy ∈ lw_tbl := List.mem_append_right _ (List.mem_of_getElem? (i := 39) (by decide +kernel))
theorem k_ac_char : Cond.arrayClass FieldType.char ∈ lw_tbl := List.mem_append_right _ (List.mem_of_getElem? (i := 51) (by decide +kernel))
theorem k_ac_int : Cond.arrayClass FieldType.int ∈ lw_tbl := List.mem_append_right _ (List.mem_of_getElem? (i := 52) (by decide +kernel))
theorem k_ao_Co : Cond.arrayOver (FieldType.object R_Co) ∈ lw_tbl := List.mem_append_right _ (List.mem_of_getElem? (i := 53) (by decide +kernel))
theorem k_cl_Sy_28 : Cond.classLink R_Sy 28 R_Bl ∈ lw_tbl := List.mem_append_right _ (List.mem_of_getElem? (i := 54) (by decide +kernel))
theorem k_ao_Bl : Cond.arrayOver (FieldType.object R_Bl) ∈ lw_tbl := List.mem_append_right _ (List.mem_of_getElem? (i := 55) (by decide +kernel))
theorem k_ia_Bl : Cond.instantiable R_Bl 3 ∈ lw_tbl := List.mem_append_right _ (List.mem_of_getElem? (i := 56) (by decide +kernel))
theorem k_mn_Sy_34 : Cond.methodLinkNest R_Sy 34 y_Bl_init R_Sy ∈ lw_tbl := List.mem_append_right _ (List.mem_of_getElem? (i := 57) (by decide +kernel))
theorem k_im_Bl_init : Cond.instanceMethod y_Bl_init ∈ lw_tbl := List.mem_append_right _ (List.mem_of_getElem? (i := 58) (by decide +kernel))
theorem k_cd_Bl_init : Cond.code y_Bl_init prog_2_method_1_code 1 none ∈ lw_tbl := List.mem_append_right _ (List.mem_of_getElem? (i := 59) (by decide +kernel))
theorem k_ml_Bl_3 : Cond.methodLink R_Bl 3 y_Object_init_ ∈ lw_tbl := List.mem_append_right _ (List.mem_of_getElem? (i := 60) (by decide +kernel))
theorem k_fl_Bl_9 : Cond.fieldLink R_Bl 9 R_Bl "cells" "[I" ∈ lw_tbl := List.mem_append_right _ (List.mem_of_getElem? (i := 61) (by decide +kernel))
theorem k_fn_Sy_122 : Cond.fieldLinkNest R_Sy 122 R_Bl "cells" "[I" R_Sy ∈ lw_tbl := List.mem_append_right _ (List.mem_of_getElem? (i := 62) (by decide +kernel))
theorem k_fl_Bl_15 : Cond.fieldLink R_Bl 15 R_Bl "owner" "I" ∈ lw_tbl := List.mem_append_right _ (List.mem_of_getElem? (i := 63) (by decide +kernel))
theorem k_fn_Sy_93 : Cond.fieldLinkNest R_Sy 93 R_Bl "owner" "I" R_Sy ∈ lw_tbl := List.mem_append_right _ (List.mem_of_getElem? (i := 64) (by decide +kernel))
theorem k_fl_Bl_19 : Cond.fieldLink R_Bl 19 R_Bl "size" "I" ∈ lw_tbl := List.mem_append_right _ (List.mem_of_getElem? (i := 65) (by decide +kernel))
theorem k_fn_Sy_211 : Cond.fieldLinkNest R_Sy 211 R_Bl "size" "I" R_Sy ∈ lw_tbl := List.mem_append_right _ (List.mem_of_getElem? (i := 66) (by decide +kernel))
theorem k_ac_boolean : Cond.arrayClass FieldType.boolean ∈ lw_tbl := List.mem_append_right _ (List.mem_of_getElem? (i := 74) (by decide +kernel))
theorem k_cl_Sy_38 : Cond.classLink R_Sy 38 R_En ∈ lw_tbl := List.mem_append_right _ (List.mem_of_getElem? (i := 75) (by decide +kernel))
theorem k_ao_En : Cond.arrayOver (FieldType.object R_En) ∈ lw_tbl := List.mem_append_right _ (List.mem_of_getElem? (i := 76) (by decide +kernel))
theorem k_ia_En : Cond.instantiable R_En 5 ∈ lw_tbl := List.mem_append_right _ (List.mem_of_getElem? (i := 77) (by decide +kernel))
theorem k_mn_Sy_44 : Cond.methodLinkNest R_Sy 44 y_En_init R_Sy ∈ lw_tbl := List.mem_append_right _ (List.mem_of_getElem? (i := 78) (by decide +kernel))
theorem k_im_En_init : Cond.instanceMethod y_En_init ∈ lw_tbl := List.mem_append_right _ (List.mem_of_getElem? (i := 79) (by decide +kernel))
theorem k_cd_En_init : Cond.code y_En_init prog_4_method_1_code 1 none ∈ lw_tbl := List.mem_append_right _ (List.mem_of_getElem? (i := 80) (by decide +kernel))
theorem k_ml_En_3 : Cond.methodLink R_En 3 y_Object_init_ ∈ lw_tbl := List.mem_append_right _ (List.mem_of_getElem? (i := 81) (by decide +kernel))
theorem k_fl_En_9 : Cond.fieldLink R_En 9 R_En "letters" "[I" ∈ lw_tbl := List.mem_append_right _ (List.mem_of_getElem? (i := 82) (by decide +kernel))
theorem k_fn_Sy_197 : Cond.fieldLinkNest R_Sy 197 R_En "letters" "[I" R_Sy ∈ lw_tbl := List.mem_append_right _ (List.mem_of_getElem? (i := 83) (by decide +kernel))
theorem k_fl_En_15 : Cond.fieldLink R_En 15 R_En "values" "[I" ∈ lw_tbl := List.mem_append_right _ (List.mem_of_getElem? (i := 84) (by decide +kernel))
theorem k_fn_Sy_200 : Cond.fieldLinkNest R_Sy 200 R_En "values" "[I" R_Sy ∈ lw_tbl := List.mem_append_right _ (List.mem_of_getElem? (i := 85) (by decide +kernel))
theorem k_fl_En_18 : Cond.fieldLink R_En 18 R_En "owner" "I" ∈ lw_tbl := List.mem_append_right _ (List.mem_of_getElem? (i := 86) (by decide +kernel))
theorem k_fn_Sy_99 : Cond.fieldLinkNest R_Sy 99 R_En "owner" "I" R_Sy ∈ lw_tbl := List.mem_append_right _ (List.mem_of_getElem? (i := 87) (by decide +kernel))
theorem k_fl_En_22 : Cond.fieldLink R_En 22 R_En "state" "I" ∈ lw_tbl := List.mem_append_right _ (List.mem_of_getElem? (i := 88) (by decide +kernel))
theorem k_fn_Sy_152 : Cond.fieldLinkNest R_Sy 152 R_En "state" "I" R_Sy ∈ lw_tbl := List.mem_append_right _ (List.mem_of_getElem? (i := 89) (by decide +kernel))
theorem k_fl_En_25 : Cond.fieldLink R_En 25 R_En "waiting" "I" ∈ lw_tbl := List.mem_append_right _ (List.mem_of_getElem? (i := 90) (by decide +kernel))
theorem k_fn_Sy_178 : Cond.fieldLinkNest R_Sy 178 R_En "waiting" "I" R_Sy ∈ lw_tbl := List.mem_append_right _ (List.mem_of_getElem? (i := 91) (by decide +kernel))
theorem k_fl_Sy_9 : Cond.fieldLink R_Sy 9 R_Sy "text" "[C" ∈ lw_tbl := List.mem_append_right _ (List.mem_of_getElem? (i := 103) (by decide +kernel))
theorem k_fl_Sy_53 : Cond.fieldLink R_Sy 53 R_Sy "textLength" "I" ∈ lw_tbl := List.mem_append_right _ (List.mem_of_getElem? (i := 104) (by decide +kernel))
theorem k_fl_Sy_16 : Cond.fieldLink R_Sy 16 R_Sy "draft" "LExchangeSystem$Contract;" ∈ lw_tbl := List.mem_append_right _ (List.mem_of_getElem? (i := 105) (by decide +kernel))
theorem k_fl_Sy_20 : Cond.fieldLink R_Sy 20 R_Sy "contracts" "[LExchangeSystem$Contract;" ∈ lw_tbl := List.mem_append_right _ (List.mem_of_getElem? (i := 106) (by decide +kernel))
theorem k_fl_Sy_24 : Cond.fieldLink R_Sy 24 R_Sy "alive" "[Z" ∈ lw_tbl := List.mem_append_right _ (List.mem_of_getElem? (i := 107) (by decide +kernel))
theorem k_fl_Sy_30 : Cond.fieldLink R_Sy 30 R_Sy "blocks" "[LExchangeSystem$Block;" ∈ lw_tbl := List.mem_append_right _ (List.mem_of_getElem? (i := 108) (by decide +kernel))
theorem k_fl_Sy_35 : Cond.fieldLink R_Sy 35 R_Sy "contractOfChannel" "[LExchangeSystem$Contract;" ∈ lw_tbl := List.mem_append_right _ (List.mem_of_getElem? (i := 109) (by decide +kernel))
theorem k_fl_Sy_40 : Cond.fieldLink R_Sy 40 R_Sy "ends" "[LExchangeSystem$End;" ∈ lw_tbl := List.mem_append_right _ (List.mem_of_getElem? (i := 110) (by decide +kernel))
theorem k_fl_Sy_192 : Cond.fieldLink R_Sy 192 R_Sy "said" "I" ∈ lw_tbl := List.mem_append_right _ (List.mem_of_getElem? (i := 111) (by decide +kernel))
theorem k_fl_Sy_206 : Cond.fieldLink R_Sy 206 R_Sy "heard" "I" ∈ lw_tbl := List.mem_append_right _ (List.mem_of_getElem? (i := 112) (by decide +kernel))
theorem k_fl_Sy_224 : Cond.fieldLink R_Sy 224 R_Sy "dropped" "I" ∈ lw_tbl := List.mem_append_right _ (List.mem_of_getElem? (i := 113) (by decide +kernel))
theorem k_fl_Sy_90 : Cond.fieldLink R_Sy 90 R_Sy "killed" "I" ∈ lw_tbl := List.mem_append_right _ (List.mem_of_getElem? (i := 114) (by decide +kernel))
theorem k_ml_La_132 : Cond.methodLink R_La 132 y_Sy_count ∈ lw_tbl := List.mem_append_right _ (List.mem_of_getElem? (i := 140) (by decide +kernel))
theorem k_im_Sy_count : Cond.instanceMethod y_Sy_count ∈ lw_tbl := List.mem_append_right _ (List.mem_of_getElem? (i := 141) (by decide +kernel))
theorem k_sl_Sy_Sy_count : Cond.selects R_Sy y_Sy_count y_Sy_count ∈ lw_tbl := List.mem_append_right _ (List.mem_of_getElem? (i := 142) (by decide +kernel))
theorem k_cd_Sy_count : Cond.code y_Sy_count prog_1_method_17_code 2 (some FieldType.int) ∈ lw_tbl := List.mem_append_right _ (List.mem_of_getElem? (i := 143) (by decide +kernel))
theorem k_ml_Sy_212 : Cond.methodLink R_Sy 212 y_Sy_processesAlive ∈ lw_tbl := List.mem_append_right _ (List.mem_of_getElem? (i := 144) (by decide +kernel))
theorem k_im_Sy_processesAlive : Cond.instanceMethod y_Sy_processesAlive ∈ lw_tbl := List.mem_append_right _ (List.mem_of_getElem? (i := 146) (by decide +kernel))
theorem k_cd_Sy_processesAlive : Cond.code y_Sy_processesAlive prog_1_method_40_code 3 (some FieldType.int) ∈ lw_tbl := List.mem_append_right _ (List.mem_of_getElem? (i := 147) (by decide +kernel))
theorem k_ml_Sy_215 : Cond.methodLink R_Sy 215 y_Sy_blocksInUse ∈ lw_tbl := List.mem_append_right _ (List.mem_of_getElem? (i := 148) (by decide +kernel))
theorem k_im_Sy_blocksInUse : Cond.instanceMethod y_Sy_blocksInUse ∈ lw_tbl := List.mem_append_right _ (List.mem_of_getElem? (i := 150) (by decide +kernel))
theorem k_cd_Sy_blocksInUse : Cond.code y_Sy_blocksInUse prog_1_method_41_code 3 (some FieldType.int) ∈ lw_tbl := List.mem_append_right _ (List.mem_of_getElem? (i := 151) (by decide +kernel))
theorem k_ml_Sy_279 : Cond.methodLink R_Sy 279 y_Bl_isFree ∈ lw_tbl := List.mem_append_right _ (List.mem_of_getElem? (i := 152) (by decide +kernel))
theorem k_im_Bl_isFree : Cond.instanceMethod y_Bl_isFree ∈ lw_tbl := List.mem_append_right _ (List.mem_of_getElem? (i := 153) (by decide +kernel))
theorem k_sl_Bl_Bl_isFree : Cond.selects R_Bl y_Bl_isFree y_Bl_isFree ∈ lw_tbl := List.mem_append_right _ (List.mem_of_getElem? (i := 154) (by decide +kernel))
theorem k_cd_Bl_isFree : Cond.code y_Bl_isFree prog_2_method_2_code 1 (some FieldType.boolean) ∈ lw_tbl := List.mem_append_right _ (List.mem_of_getElem? (i := 155) (by decide +kernel))
theorem k_ml_Sy_108 : Cond.methodLink R_Sy 108 y_Sy_cellsInUse ∈ lw_tbl := List.mem_append_right _ (List.mem_of_getElem? (i := 156) (by decide +kernel))
theorem k_im_Sy_cellsInUse : Cond.instanceMethod y_Sy_cellsInUse ∈ lw_tbl := List.mem_append_right _ (List.mem_of_getElem? (i := 158) (by decide +kernel))
theorem k_cd_Sy_cellsInUse : Cond.code y_Sy_cellsInUse prog_1_method_42_code 3 (some FieldType.int) ∈ lw_tbl := List.mem_append_right _ (List.mem_of_getElem? (i := 159) (by decide +kernel))
theorem k_ml_Sy_218 : Cond.methodLink R_Sy 218 y_Sy_endsOpen ∈ lw_tbl := List.mem_append_right _ (List.mem_of_getElem? (i := 160) (by decide +kernel))
theorem k_im_Sy_endsOpen : Cond.instanceMethod y_Sy_endsOpen ∈ lw_tbl := List.mem_append_right _ (List.mem_of_getElem? (i := 162) (by decide +kernel))
theorem k_cd_Sy_endsOpen : Cond.code y_Sy_endsOpen prog_1_method_43_code 3 (some FieldType.int) ∈ lw_tbl := List.mem_append_right _ (List.mem_of_getElem? (i := 163) (by decide +kernel))
theorem k_ml_Sy_173 : Cond.methodLink R_Sy 173 y_En_isOpen ∈ lw_tbl := List.mem_append_right _ (List.mem_of_getElem? (i := 164) (by decide +kernel))
theorem k_im_En_isOpen : Cond.instanceMethod y_En_isOpen ∈ lw_tbl := List.mem_append_right _ (List.mem_of_getElem? (i := 165) (by decide +kernel))
theorem k_sl_En_En_isOpen : Cond.selects R_En y_En_isOpen y_En_isOpen ∈ lw_tbl := List.mem_append_right _ (List.mem_of_getElem? (i := 166) (by decide +kernel))
theorem k_cd_En_isOpen : Cond.code y_En_isOpen prog_4_method_2_code 1 (some FieldType.boolean) ∈ lw_tbl := List.mem_append_right _ (List.mem_of_getElem? (i := 167) (by decide +kernel))
theorem k_ml_Sy_221 : Cond.methodLink R_Sy 221 y_Sy_messagesWaiting ∈ lw_tbl := List.mem_append_right _ (List.mem_of_getElem? (i := 168) (by decide +kernel))
theorem k_im_Sy_messagesWaiting : Cond.instanceMethod y_Sy_messagesWaiting ∈ lw_tbl := List.mem_append_right _ (List.mem_of_getElem? (i := 170) (by decide +kernel))
theorem k_cd_Sy_messagesWaiting : Cond.code y_Sy_messagesWaiting prog_1_method_44_code 3 (some FieldType.int) ∈ lw_tbl := List.mem_append_right _ (List.mem_of_getElem? (i := 171) (by decide +kernel))
theorem k_ml_Sy_227 : Cond.methodLink R_Sy 227 y_Sy_contractsMade ∈ lw_tbl := List.mem_append_right _ (List.mem_of_getElem? (i := 172) (by decide +kernel))
theorem k_im_Sy_contractsMade : Cond.instanceMethod y_Sy_contractsMade ∈ lw_tbl := List.mem_append_right _ (List.mem_of_getElem? (i := 174) (by decide +kernel))
theorem k_cd_Sy_contractsMade : Cond.code y_Sy_contractsMade prog_1_method_45_code 3 (some FieldType.int) ∈ lw_tbl := List.mem_append_right _ (List.mem_of_getElem? (i := 175) (by decide +kernel))
theorem k_ml_Sy_126 : Cond.methodLink R_Sy 126 y_Co_isNone ∈ lw_tbl := List.mem_append_right _ (List.mem_of_getElem? (i := 176) (by decide +kernel))
theorem k_im_Co_isNone : Cond.instanceMethod y_Co_isNone ∈ lw_tbl := List.mem_append_right _ (List.mem_of_getElem? (i := 177) (by decide +kernel))
theorem k_sl_Co_Co_isNone : Cond.selects R_Co y_Co_isNone y_Co_isNone ∈ lw_tbl := List.mem_append_right _ (List.mem_of_getElem? (i := 178) (by decide +kernel))
theorem k_cd_Co_isNone : Cond.code y_Co_isNone prog_3_method_2_code 1 (some FieldType.boolean) ∈ lw_tbl := List.mem_append_right _ (List.mem_of_getElem? (i := 179) (by decide +kernel))
theorem k_ml_La_75 : Cond.methodLink R_La 75 y_La_type ∈ lw_tbl := List.mem_append_right _ (List.mem_of_getElem? (i := 180) (by decide +kernel))
theorem k_st_La_type : Cond.static y_La_type ∈ lw_tbl := List.mem_append_right _ (List.mem_of_getElem? (i := 181) (by decide +kernel))
theorem k_cd_La_type : Cond.codeWith y_La_type method_3_code 5 (some FieldType.int) [(0, 9, 12, 13), (0, 9, 16, 15)] ∈ lw_tbl := List.mem_append_right _ (List.mem_of_getElem? (i := 182) (by decide +kernel))
theorem k_cl_La_13 : Cond.classLink R_La 13 "java/lang/IllegalArgumentException" ∈ lw_tbl := List.mem_append_right _ (List.mem_of_getElem? (i := 183) (by decide +kernel))
theorem k_cl_La_15 : Cond.classLink R_La 15 "java/lang/UnsupportedOperationException" ∈ lw_tbl := List.mem_append_right _ (List.mem_of_getElem? (i := 184) (by decide +kernel))
theorem k_ml_La_7 : Cond.methodLink R_La 7 y_Sy_type ∈ lw_tbl := List.mem_append_right _ (List.mem_of_getElem? (i := 185) (by decide +kernel))
theorem k_im_Sy_type : Cond.instanceMethod y_Sy_type ∈ lw_tbl := List.mem_append_right _ (List.mem_of_getElem? (i := 186) (by decide +kernel))
theorem k_sl_Sy_Sy_type : Cond.selects R_Sy y_Sy_type y_Sy_type ∈ lw_tbl := List.mem_append_right _ (List.mem_of_getElem? (i := 187) (by decide +kernel))
theorem k_cd_Sy_type : Cond.code y_Sy_type prog_1_method_2_code 6 (some FieldType.int) ∈ lw_tbl := List.mem_append_right _ (List.mem_of_getElem? (i := 188) (by decide +kernel))
theorem k_ml_Sy_45 : Cond.methodLink R_Sy 45 y_Sy_byteAt ∈ lw_tbl := List.mem_append_right _ (List.mem_of_getElem? (i := 189) (by decide +kernel))
theorem k_st_Sy_byteAt : Cond.static y_Sy_byteAt ∈ lw_tbl := List.mem_append_right _ (List.mem_of_getElem? (i := 190) (by decide +kernel))
theorem k_cd_Sy_byteAt : Cond.code y_Sy_byteAt prog_1_method_18_code 3 (some FieldType.int) ∈ lw_tbl := List.mem_append_right _ (List.mem_of_getElem? (i := 191) (by decide +kernel))
theorem k_ml_Sy_49 : Cond.methodLink R_Sy 49 y_Sy_needWithin ∈ lw_tbl := List.mem_append_right _ (List.mem_of_getElem? (i := 192) (by decide +kernel))
theorem k_st_Sy_needWithin : Cond.static y_Sy_needWithin ∈ lw_tbl := List.mem_append_right _ (List.mem_of_getElem? (i := 193) (by decide +kernel))
theorem k_cd_Sy_needWithin : Cond.code y_Sy_needWithin prog_1_method_19_code 3 none ∈ lw_tbl := List.mem_append_right _ (List.mem_of_getElem? (i := 194) (by decide +kernel))
theorem k_cl_Sy_72 : Cond.classLink R_Sy 72 "java/lang/IllegalArgumentException" ∈ lw_tbl := List.mem_append_right _ (List.mem_of_getElem? (i := 195) (by decide +kernel))
theorem k_ia_IllegalArgumentException : Cond.instantiable "java/lang/IllegalArgumentException" 6 ∈ lw_tbl := List.mem_append_right _ (List.mem_of_getElem? (i := 196) (by decide +kernel))
theorem k_sl_IllegalArgumentException_Throwable_fillInStackTrace_I : Cond.selects "java/lang/IllegalArgumentException" ⟨"java/lang/Throwable", "fillInStackTrace", "(I)Ljava/lang/Throwable;"⟩ ⟨"java/lang/Throwable", "fillInStackTrace", "(I)Ljava/lang/Throwable;"⟩ ∈ lw_tbl := List.mem_append_right _ (List.mem_of_getElem? (i := 204) (by decide +kernel))
theorem k_sl_IllegalArgumentException_Throwable_fillInStackTrace_ : Cond.selects "java/lang/IllegalArgumentException" y_Throwable_fillInStackTrace_ y_Throwable_fillInStackTrace_ ∈ lw_tbl := List.mem_append_right _ (List.mem_of_getElem? (i := 205) (by decide +kernel))
theorem k_fl_Throwable_198 : Cond.fieldLink "java/lang/Throwable" 198 "java/lang/Throwable" "backtrace" "Ljava/lang/Object;" ∈ lw_tbl := List.mem_append_right _ (List.mem_of_getElem? (i := 216) (by decide +kernel))
theorem k_im_Throwable_init_ : Cond.instanceMethod y_Throwable_init_ ∈ lw_tbl := List.mem_append_right _ (List.mem_of_getElem? (i := 218) (by decide +kernel))
theorem k_cd_Throwable_init_ : Cond.code y_Throwable_init_ prog_16_method_1_code 1 none ∈ lw_tbl := List.mem_append_right _ (List.mem_of_getElem? (i := 219) (by decide +kernel))
theorem k_ml_Throwable_1 : Cond.methodLink "java/lang/Throwable" 1 y_Object_init_ ∈ lw_tbl := List.mem_append_right _ (List.mem_of_getElem? (i := 220) (by decide +kernel))
theorem k_fl_Throwable_13 : Cond.fieldLink "java/lang/Throwable" 13 "java/lang/Throwable" "UNASSIGNED_STACK" "[Ljava/lang/StackTraceElement;" ∈ lw_tbl := List.mem_append_right _ (List.mem_of_getElem? (i := 221) (by decide +kernel))
theorem k_fl_Throwable_20 : Cond.fieldLink "java/lang/Throwable" 20 "java/lang/Throwable" "SUPPRESSED_SENTINEL" "Ljava/util/List;" ∈ lw_tbl := List.mem_append_right _ (List.mem_of_getElem? (i := 223) (by decide +kernel))
theorem k_ml_Throwable_27 : Cond.methodLink "java/lang/Throwable" 27 y_Throwable_fillInStackTrace_ ∈ lw_tbl := List.mem_append_right _ (List.mem_of_getElem? (i := 225) (by decide +kernel))
theorem k_im_Throwable_fillInStackTrace_ : Cond.instanceMethod y_Throwable_fillInStackTrace_ ∈ lw_tbl := List.mem_append_right _ (List.mem_of_getElem? (i := 226) (by decide +kernel))
theorem k_sl_IllegalStateException_Throwable_fillInStackTrace_ : Cond.selects "java/lang/IllegalStateException" y_Throwable_fillInStackTrace_ y_Throwable_fillInStackTrace_ ∈ lw_tbl := List.mem_append_right _ (List.mem_of_getElem? (i := 228) (by decide +kernel))
theorem k_sl_UnsupportedOperationException_Throwable_fillInStackTrace_ : Cond.selects "java/lang/UnsupportedOperationException" y_Throwable_fillInStackTrace_ y_Throwable_fillInStackTrace_ ∈ lw_tbl := List.mem_append_right _ (List.mem_of_getElem? (i := 229) (by decide +kernel))
theorem k_sl_NoSuchElementException_Throwable_fillInStackTrace_ : Cond.selects "java/util/NoSuchElementException" y_Throwable_fillInStackTrace_ y_Throwable_fillInStackTrace_ ∈ lw_tbl := List.mem_append_right _ (List.mem_of_getElem? (i := 230) (by decide +kernel))
theorem k_cd_Throwable_fillInStackTrace_ : Cond.codeSync y_Throwable_fillInStackTrace_ prog_16_method_18_code 1 (some (FieldType.object "java/lang/Throwable")) ∈ lw_tbl := List.mem_append_right _ (List.mem_of_getElem? (i := 231) (by decide +kernel))
theorem k_ml_Throwable_202 : Cond.methodLink "java/lang/Throwable" 202 ⟨"java/lang/Throwable", "fillInStackTrace", "(I)Ljava/lang/Throwable;"⟩ ∈ lw_tbl := List.mem_append_right _ (List.mem_of_getElem? (i := 232) (by decide +kernel))
theorem k_im_Throwable_fillInStackTrace_I : Cond.instanceMethod ⟨"java/lang/Throwable", "fillInStackTrace", "(I)Ljava/lang/Throwable;"⟩ ∈ lw_tbl := List.mem_append_right _ (List.mem_of_getElem? (i := 234) (by decide +kernel))
theorem k_ia_Throwable : Cond.instantiable "java/lang/Throwable" 6 ∈ lw_tbl := List.mem_append_right _ (List.mem_of_getElem? (i := 235) (by decide +kernel))
theorem k_sr_Sy_230 : Cond.stringRef R_Sy 230 "a number is out of range" ∈ lw_tbl := List.mem_append_right _ (List.mem_of_getElem? (i := 237) (by decide +kernel))
theorem k_ml_Sy_76 : Cond.methodLink R_Sy 76 y_IllegalArgumentException_init_S ∈ lw_tbl := List.mem_append_right _ (List.mem_of_getElem? (i := 238) (by decide +kernel))
theorem k_im_IllegalArgumentException_init_S : Cond.instanceMethod y_IllegalArgumentException_init_S ∈ lw_tbl := List.mem_append_right _ (List.mem_of_getElem? (i := 239) (by decide +kernel))
theorem k_cd_IllegalArgumentException_init_S : Cond.code y_IllegalArgumentException_init_S prog_9_method_2_code 2 none ∈ lw_tbl := List.mem_append_right _ (List.mem_of_getElem? (i := 240) (by decide +kernel))
theorem k_ml_IllegalArgumentException_7 : Cond.methodLink "java/lang/IllegalArgumentException" 7 y_RuntimeException_init_S ∈ lw_tbl := List.mem_append_right _ (List.mem_of_getElem? (i := 241) (by decide +kernel))
theorem k_im_RuntimeException_init_S : Cond.instanceMethod y_RuntimeException_init_S ∈ lw_tbl := List.mem_append_right _ (List.mem_of_getElem? (i := 242) (by decide +kernel))
theorem k_cd_RuntimeException_init_S : Cond.code y_RuntimeException_init_S prog_12_method_2_code 2 none ∈ lw_tbl := List.mem_append_right _ (List.mem_of_getElem? (i := 243) (by decide +kernel))
theorem k_ml_RuntimeException_7 : Cond.methodLink "java/lang/RuntimeException" 7 y_Exception_init_S ∈ lw_tbl := List.mem_append_right _ (List.mem_of_getElem? (i := 244) (by decide +kernel))
theorem k_im_Exception_init_S : Cond.instanceMethod y_Exception_init_S ∈ lw_tbl := List.mem_append_right _ (List.mem_of_getElem? (i := 245) (by decide +kernel))
theorem k_cd_Exception_init_S : Cond.code y_Exception_init_S prog_8_method_2_code 2 none ∈ lw_tbl := List.mem_append_right _ (List.mem_of_getElem? (i := 246) (by decide +kernel))
theorem k_ml_Exception_7 : Cond.methodLink "java/lang/Exception" 7 y_Throwable_init_S ∈ lw_tbl := List.mem_append_right _ (List.mem_of_getElem? (i := 247) (by decide +kernel))
theorem k_im_Throwable_init_S : Cond.instanceMethod y_Throwable_init_S ∈ lw_tbl := List.mem_append_right _ (List.mem_of_getElem? (i := 248) (by decide +kernel))
theorem k_cd_Throwable_init_S : Cond.code y_Throwable_init_S prog_16_method_2_code 2 none ∈ lw_tbl := List.mem_append_right _ (List.mem_of_getElem? (i := 249) (by decide +kernel))
theorem k_fl_Throwable_31 : Cond.fieldLink "java/lang/Throwable" 31 "java/lang/Throwable" "detailMessage" "Ljava/lang/String;" ∈ lw_tbl := List.mem_append_right _ (List.mem_of_getElem? (i := 251) (by decide +kernel))
theorem k_fl_Throwable_7 : Cond.fieldLink "java/lang/Throwable" 7 "java/lang/Throwable" "cause" "Ljava/lang/Throwable;" ∈ lw_tbl := List.mem_append_right _ (List.mem_of_getElem? (i := 252) (by decide +kernel))
theorem k_fl_Throwable_17 : Cond.fieldLink "java/lang/Throwable" 17 "java/lang/Throwable" "stackTrace" "[Ljava/lang/StackTraceElement;" ∈ lw_tbl := List.mem_append_right _ (List.mem_of_getElem? (i := 253) (by decide +kernel))
theorem k_fl_Throwable_24 : Cond.fieldLink "java/lang/Throwable" 24 "java/lang/Throwable" "suppressedExceptions" "Ljava/util/List;" ∈ lw_tbl := List.mem_append_right _ (List.mem_of_getElem? (i := 254) (by decide +kernel))
theorem k_ac_byte : Cond.arrayClass FieldType.byte ∈ lw_tbl := List.mem_append_right _ (List.mem_of_getElem? (i := 263) (by decide +kernel))
theorem k_cl_Sy_57 : Cond.classLink R_Sy 57 "java/lang/UnsupportedOperationException" ∈ lw_tbl := List.mem_append_right _ (List.mem_of_getElem? (i := 264) (by decide +kernel))
theorem k_ia_UnsupportedOperationException : Cond.instantiable "java/lang/UnsupportedOperationException" 6 ∈ lw_tbl := List.mem_append_right _ (List.mem_of_getElem? (i := 265) (by decide +kernel))
theorem k_sl_UnsupportedOperationException_Throwable_fillInStackTrace_I : Cond.selects "java/lang/UnsupportedOperationException" ⟨"java/lang/Throwable", "fillInStackTrace", "(I)Ljava/lang/Throwable;"⟩ ⟨"java/lang/Throwable", "fillInStackTrace", "(I)Ljava/lang/Throwable;"⟩ ∈ lw_tbl := List.mem_append_right _ (List.mem_of_getElem? (i := 267) (by decide +kernel))
theorem k_sr_Sy_59 : Cond.stringRef R_Sy 59 "the text is too long" ∈ lw_tbl := List.mem_append_right _ (List.mem_of_getElem? (i := 273) (by decide +kernel))
theorem k_ml_Sy_61 : Cond.methodLink R_Sy 61 y_UnsupportedOperationException_init_S ∈ lw_tbl := List.mem_append_right _ (List.mem_of_getElem? (i := 274) (by decide +kernel))
theorem k_im_UnsupportedOperationException_init_S : Cond.instanceMethod y_UnsupportedOperationException_init_S ∈ lw_tbl := List.mem_append_right _ (List.mem_of_getElem? (i := 275) (by decide +kernel))
theorem k_cd_UnsupportedOperationException_init_S : Cond.code y_UnsupportedOperationException_init_S prog_17_method_2_code 2 none ∈ lw_tbl := List.mem_append_right _ (List.mem_of_getElem? (i := 276) (by decide +kernel))
theorem k_ml_UnsupportedOperationException_7 : Cond.methodLink "java/lang/UnsupportedOperationException" 7 y_RuntimeException_init_S ∈ lw_tbl := List.mem_append_right _ (List.mem_of_getElem? (i := 277) (by decide +kernel))
theorem k_ml_La_84 : Cond.methodLink R_La 84 y_La_contract ∈ lw_tbl := List.mem_append_right _ (List.mem_of_getElem? (i := 280) (by decide +kernel))
theorem k_st_La_contract : Cond.static y_La_contract ∈ lw_tbl := List.mem_append_right _ (List.mem_of_getElem? (i := 281) (by decide +kernel))
theorem k_cd_La_contract : Cond.codeWith y_La_contract method_4_code 4 (some FieldType.int) [(0, 9, 12, 13)] ∈ lw_tbl := List.mem_append_right _ (List.mem_of_getElem? (i := 282) (by decide +kernel))
theorem k_ml_La_17 : Cond.methodLink R_La 17 y_Sy_contract ∈ lw_tbl := List.mem_append_right _ (List.mem_of_getElem? (i := 283) (by decide +kernel))
theorem k_im_Sy_contract : Cond.instanceMethod y_Sy_contract ∈ lw_tbl := List.mem_append_right _ (List.mem_of_getElem? (i := 284) (by decide +kernel))
theorem k_sl_Sy_Sy_contract : Cond.selects R_Sy y_Sy_contract y_Sy_contract ∈ lw_tbl := List.mem_append_right _ (List.mem_of_getElem? (i := 285) (by decide +kernel))
theorem k_cd_Sy_contract : Cond.code y_Sy_contract prog_1_method_3_code 3 (some FieldType.int) ∈ lw_tbl := List.mem_append_right _ (List.mem_of_getElem? (i := 286) (by decide +kernel))
theorem k_ml_Sy_64 : Cond.methodLink R_Sy 64 y_Sy_needBelow ∈ lw_tbl := List.mem_append_right _ (List.mem_of_getElem? (i := 287) (by decide +kernel))
theorem k_st_Sy_needBelow : Cond.static y_Sy_needBelow ∈ lw_tbl := List.mem_append_right _ (List.mem_of_getElem? (i := 288) (by decide +kernel))
theorem k_cd_Sy_needBelow : Cond.code y_Sy_needBelow prog_1_method_20_code 2 none ∈ lw_tbl := List.mem_append_right _ (List.mem_of_getElem? (i := 289) (by decide +kernel))
theorem k_ml_Sy_68 : Cond.methodLink R_Sy 68 y_Sy_draftFromText ∈ lw_tbl := List.mem_append_right _ (List.mem_of_getElem? (i := 290) (by decide +kernel))
theorem k_im_Sy_draftFromText : Cond.instanceMethod y_Sy_draftFromText ∈ lw_tbl := List.mem_append_right _ (List.mem_of_getElem? (i := 292) (by decide +kernel))
theorem k_cd_Sy_draftFromText : Cond.code y_Sy_draftFromText prog_1_method_36_code 3 (some FieldType.boolean) ∈ lw_tbl := List.mem_append_right _ (List.mem_of_getElem? (i := 293) (by decide +kernel))
theorem k_ml_Sy_264 : Cond.methodLink R_Sy 264 y_Co_clear ∈ lw_tbl := List.mem_append_right _ (List.mem_of_getElem? (i := 294) (by decide +kernel))
theorem k_im_Co_clear : Cond.instanceMethod y_Co_clear ∈ lw_tbl := List.mem_append_right _ (List.mem_of_getElem? (i := 295) (by decide +kernel))
theorem k_sl_Co_Co_clear : Cond.selects R_Co y_Co_clear y_Co_clear ∈ lw_tbl := List.mem_append_right _ (List.mem_of_getElem? (i := 296) (by decide +kernel))
theorem k_cd_Co_clear : Cond.code y_Co_clear prog_3_method_3_code 1 none ∈ lw_tbl := List.mem_append_right _ (List.mem_of_getElem? (i := 297) (by decide +kernel))
theorem k_ml_Sy_267 : Cond.methodLink R_Sy 267 y_Sy_draftRuleAt ∈ lw_tbl := List.mem_append_right _ (List.mem_of_getElem? (i := 298) (by decide +kernel))
theorem k_im_Sy_draftRuleAt : Cond.instanceMethod y_Sy_draftRuleAt ∈ lw_tbl := List.mem_append_right _ (List.mem_of_getElem? (i := 300) (by decide +kernel))
theorem k_cd_Sy_draftRuleAt : Cond.code y_Sy_draftRuleAt prog_1_method_37_code 7 (some FieldType.boolean) ∈ lw_tbl := List.mem_append_right _ (List.mem_of_getElem? (i := 301) (by decide +kernel))
theorem k_sr_Sy_142 : Cond.stringRef R_Sy 142 "abcABCE" ∈ lw_tbl := List.mem_append_right _ (List.mem_of_getElem? (i := 302) (by decide +kernel))
theorem k_ml_Sy_270 : Cond.methodLink R_Sy 270 y_String_indexOf_I ∈ lw_tbl := List.mem_append_right _ (List.mem_of_getElem? (i := 303) (by decide +kernel))
theorem k_im_String_indexOf_I : Cond.instanceMethod y_String_indexOf_I ∈ lw_tbl := List.mem_append_right _ (List.mem_of_getElem? (i := 304) (by decide +kernel))
theorem k_sl_String_String_indexOf_I : Cond.selects "java/lang/String" y_String_indexOf_I y_String_indexOf_I ∈ lw_tbl := List.mem_append_right _ (List.mem_of_getElem? (i := 305) (by decide +kernel))
theorem k_cd_String_indexOf_I : Cond.code y_String_indexOf_I prog_13_method_79_code 2 (some FieldType.int) ∈ lw_tbl := List.mem_append_right _ (List.mem_of_getElem? (i := 306) (by decide +kernel))
theorem k_ml_String_633 : Cond.methodLink "java/lang/String" 633 y_String_indexOf_II ∈ lw_tbl := List.mem_append_right _ (List.mem_of_getElem? (i := 307) (by decide +kernel))
theorem k_im_String_indexOf_II : Cond.instanceMethod y_String_indexOf_II ∈ lw_tbl := List.mem_append_right _ (List.mem_of_getElem? (i := 308) (by decide +kernel))
theorem k_sl_String_String_indexOf_II : Cond.selects "java/lang/String" y_String_indexOf_II y_String_indexOf_II ∈ lw_tbl := List.mem_append_right _ (List.mem_of_getElem? (i := 309) (by decide +kernel))
theorem k_cd_String_indexOf_II : Cond.code y_String_indexOf_II prog_13_method_80_code 3 (some FieldType.int) ∈ lw_tbl := List.mem_append_right _ (List.mem_of_getElem? (i := 310) (by decide +kernel))
theorem k_ml_String_492 : Cond.methodLink "java/lang/String" 492 y_String_isLatin1_ ∈ lw_tbl := List.mem_append_right _ (List.mem_of_getElem? (i := 311) (by decide +kernel))
theorem k_im_String_isLatin1_ : Cond.instanceMethod y_String_isLatin1_ ∈ lw_tbl := List.mem_append_right _ (List.mem_of_getElem? (i := 312) (by decide +kernel))
theorem k_sl_String_String_isLatin1_ : Cond.selects "java/lang/String" y_String_isLatin1_ y_String_isLatin1_ ∈ lw_tbl := List.mem_append_right _ (List.mem_of_getElem? (i := 313) (by decide +kernel))
theorem k_cd_String_isLatin1_ : Cond.code y_String_isLatin1_ prog_13_method_154_code 1 (some FieldType.boolean) ∈ lw_tbl := List.mem_append_right _ (List.mem_of_getElem? (i := 314) (by decide +kernel))
theorem k_fl_String_38 : Cond.fieldLink "java/lang/String" 38 "java/lang/String" "COMPACT_STRINGS" "Z" ∈ lw_tbl := List.mem_append_right _ (List.mem_of_getElem? (i := 315) (by decide +kernel))
theorem k_ml_String_505 : Cond.methodLink "java/lang/String" 505 y_String_length_ ∈ lw_tbl := List.mem_append_right _ (List.mem_of_getElem? (i := 317) (by decide +kernel))
theorem k_im_String_length_ : Cond.instanceMethod y_String_length_ ∈ lw_tbl := List.mem_append_right _ (List.mem_of_getElem? (i := 318) (by decide +kernel))
theorem k_sl_String_String_length_ : Cond.selects "java/lang/String" y_String_length_ y_String_length_ ∈ lw_tbl := List.mem_append_right _ (List.mem_of_getElem? (i := 319) (by decide +kernel))
theorem k_cd_String_length_ : Cond.code y_String_length_ prog_13_method_54_code 1 (some FieldType.int) ∈ lw_tbl := List.mem_append_right _ (List.mem_of_getElem? (i := 320) (by decide +kernel))
theorem k_ml_String_335 : Cond.methodLink "java/lang/String" 335 y_String_coder_ ∈ lw_tbl := List.mem_append_right _ (List.mem_of_getElem? (i := 321) (by decide +kernel))
theorem k_im_String_coder_ : Cond.instanceMethod y_String_coder_ ∈ lw_tbl := List.mem_append_right _ (List.mem_of_getElem? (i := 322) (by decide +kernel))
theorem k_sl_String_String_coder_ : Cond.selects "java/lang/String" y_String_coder_ y_String_coder_ ∈ lw_tbl := List.mem_append_right _ (List.mem_of_getElem? (i := 323) (by decide +kernel))
theorem k_cd_String_coder_ : Cond.code y_String_coder_ prog_13_method_152_code 1 (some FieldType.byte) ∈ lw_tbl := List.mem_append_right _ (List.mem_of_getElem? (i := 324) (by decide +kernel))
theorem k_ml_String_637 : Cond.methodLink "java/lang/String" 637 y_StringLatin1_indexOf_aBIII ∈ lw_tbl := List.mem_append_right _ (List.mem_of_getElem? (i := 325) (by decide +kernel))
theorem k_st_StringLatin1_indexOf_aBIII : Cond.static y_StringLatin1_indexOf_aBIII ∈ lw_tbl := List.mem_append_right _ (List.mem_of_getElem? (i := 326) (by decide +kernel))
theorem k_cd_StringLatin1_indexOf_aBIII : Cond.code y_StringLatin1_indexOf_aBIII prog_14_method_22_code 4 (some FieldType.int) ∈ lw_tbl := List.mem_append_right _ (List.mem_of_getElem? (i := 327) (by decide +kernel))
theorem k_ml_StringLatin1_88 : Cond.methodLink "java/lang/StringLatin1" 88 y_StringLatin1_canEncode_I ∈ lw_tbl := List.mem_append_right _ (List.mem_of_getElem? (i := 328) (by decide +kernel))
theorem k_st_StringLatin1_canEncode_I : Cond.static y_StringLatin1_canEncode_I ∈ lw_tbl := List.mem_append_right _ (List.mem_of_getElem? (i := 329) (by decide +kernel))
theorem k_cd_StringLatin1_canEncode_I : Cond.code y_StringLatin1_canEncode_I prog_14_method_4_code 1 (some FieldType.boolean) ∈ lw_tbl := List.mem_append_right _ (List.mem_of_getElem? (i := 330) (by decide +kernel))
theorem k_ml_StringLatin1_92 : Cond.methodLink "java/lang/StringLatin1" 92 y_Math_max_II ∈ lw_tbl := List.mem_append_right _ (List.mem_of_getElem? (i := 331) (by decide +kernel))
theorem k_st_Math_max_II : Cond.static y_Math_max_II ∈ lw_tbl := List.mem_append_right _ (List.mem_of_getElem? (i := 332) (by decide +kernel))
theorem k_cd_Math_max_II : Cond.code y_Math_max_II prog_11_method_65_code 2 (some FieldType.int) ∈ lw_tbl := List.mem_append_right _ (List.mem_of_getElem? (i := 333) (by decide +kernel))
theorem k_ml_StringLatin1_38 : Cond.methodLink "java/lang/StringLatin1" 38 y_Math_min_II ∈ lw_tbl := List.mem_append_right _ (List.mem_of_getElem? (i := 334) (by decide +kernel))
theorem k_st_Math_min_II : Cond.static y_Math_min_II ∈ lw_tbl := List.mem_append_right _ (List.mem_of_getElem? (i := 335) (by decide +kernel))
theorem k_cd_Math_min_II : Cond.code y_Math_min_II prog_11_method_69_code 2 (some FieldType.int) ∈ lw_tbl := List.mem_append_right _ (List.mem_of_getElem? (i := 336) (by decide +kernel))
theorem k_ml_StringLatin1_95 : Cond.methodLink "java/lang/StringLatin1" 95 y_StringLatin1_indexOfChar_aBIII ∈ lw_tbl := List.mem_append_right _ (List.mem_of_getElem? (i := 337) (by decide +kernel))
theorem k_st_StringLatin1_indexOfChar_aBIII : Cond.static y_StringLatin1_indexOfChar_aBIII ∈ lw_tbl := List.mem_append_right _ (List.mem_of_getElem? (i := 338) (by decide +kernel))
theorem k_cd_StringLatin1_indexOfChar_aBIII : Cond.code y_StringLatin1_indexOfChar_aBIII prog_14_method_23_code 6 (some FieldType.int) ∈ lw_tbl := List.mem_append_right _ (List.mem_of_getElem? (i := 339) (by decide +kernel))
theorem k_ml_String_640 : Cond.methodLink "java/lang/String" 640 y_StringUTF16_indexOf_aBIII ∈ lw_tbl := List.mem_append_right _ (List.mem_of_getElem? (i := 340) (by decide +kernel))
theorem k_st_StringUTF16_indexOf_aBIII : Cond.static y_StringUTF16_indexOf_aBIII ∈ lw_tbl := List.mem_append_right _ (List.mem_of_getElem? (i := 341) (by decide +kernel))
theorem k_cd_StringUTF16_indexOf_aBIII : Cond.code y_StringUTF16_indexOf_aBIII prog_15_method_40_code 4 (some FieldType.int) ∈ lw_tbl := List.mem_append_right _ (List.mem_of_getElem? (i := 342) (by decide +kernel))
theorem k_ml_StringUTF16_224 : Cond.methodLink "java/lang/StringUTF16" 224 y_Math_max_II ∈ lw_tbl := List.mem_append_right _ (List.mem_of_getElem? (i := 343) (by decide +kernel))
theorem k_ml_StringUTF16_183 : Cond.methodLink "java/lang/StringUTF16" 183 y_Math_min_II ∈ lw_tbl := List.mem_append_right _ (List.mem_of_getElem? (i := 344) (by decide +kernel))
theorem k_kc_StringUTF16_227 : Cond.constant "java/lang/StringUTF16" 227 (65536) ∈ lw_tbl := List.mem_append_right _ (List.mem_of_getElem? (i := 345) (by decide +kernel))
theorem k_ml_StringUTF16_228 : Cond.methodLink "java/lang/StringUTF16" 228 y_StringUTF16_indexOfChar_aBIII ∈ lw_tbl := List.mem_append_right _ (List.mem_of_getElem? (i := 346) (by decide +kernel))
theorem k_st_StringUTF16_indexOfChar_aBIII : Cond.static y_StringUTF16_indexOfChar_aBIII ∈ lw_tbl := List.mem_append_right _ (List.mem_of_getElem? (i := 347) (by decide +kernel))
theorem k_cd_StringUTF16_indexOfChar_aBIII : Cond.code y_StringUTF16_indexOfChar_aBIII prog_15_method_47_code 4 (some FieldType.int) ∈ lw_tbl := List.mem_append_right _ (List.mem_of_getElem? (i := 348) (by decide +kernel))
theorem k_ml_StringUTF16_96 : Cond.methodLink "java/lang/StringUTF16" 96 y_StringUTF16_checkBoundsBeginEnd_IIaB ∈ lw_tbl := List.mem_append_right _ (List.mem_of_getElem? (i := 349) (by decide +kernel))
theorem k_st_StringUTF16_checkBoundsBeginEnd_IIaB : Cond.static y_StringUTF16_checkBoundsBeginEnd_IIaB ∈ lw_tbl := List.mem_append_right _ (List.mem_of_getElem? (i := 350) (by decide +kernel))
theorem k_cd_StringUTF16_checkBoundsBeginEnd_IIaB : Cond.code y_StringUTF16_checkBoundsBeginEnd_IIaB prog_15_method_93_code 3 none ∈ lw_tbl := List.mem_append_right _ (List.mem_of_getElem? (i := 351) (by decide +kernel))
theorem k_ml_StringUTF16_48 : Cond.methodLink "java/lang/StringUTF16" 48 y_StringUTF16_length_aB ∈ lw_tbl := List.mem_append_right _ (List.mem_of_getElem? (i := 352) (by decide +kernel))
theorem k_st_StringUTF16_length_aB : Cond.static y_StringUTF16_length_aB ∈ lw_tbl := List.mem_append_right _ (List.mem_of_getElem? (i := 353) (by decide +kernel))
theorem k_cd_StringUTF16_length_aB : Cond.code y_StringUTF16_length_aB prog_15_method_6_code 1 (some FieldType.int) ∈ lw_tbl := List.mem_append_right _ (List.mem_of_getElem? (i := 354) (by decide +kernel))
theorem k_ml_StringUTF16_241 : Cond.methodLink "java/lang/StringUTF16" 241 y_String_checkBoundsBeginEnd_III ∈ lw_tbl := List.mem_append_right _ (List.mem_of_getElem? (i := 355) (by decide +kernel))
theorem k_st_String_checkBoundsBeginEnd_III : Cond.static y_String_checkBoundsBeginEnd_III ∈ lw_tbl := List.mem_append_right _ (List.mem_of_getElem? (i := 356) (by decide +kernel))
theorem k_cd_String_checkBoundsBeginEnd_III : Cond.code y_String_checkBoundsBeginEnd_III prog_13_method_158_code 3 none ∈ lw_tbl := List.mem_append_right _ (List.mem_of_getElem? (i := 357) (by decide +kernel))
theorem k_fl_String_1053 : Cond.fieldLink "java/lang/String" 1053 "jdk/internal/util/Preconditions" "SIOOBE_FORMATTER" "Ljava/util/function/BiFunction;" ∈ lw_tbl := List.mem_append_right _ (List.mem_of_getElem? (i := 358) (by decide +kernel))
theorem k_ml_String_1062 : Cond.methodLink "java/lang/String" 1062 y_Preconditions_checkFromToIndex_IIILjavautilfunctionBiFunction ∈ lw_tbl := List.mem_append_right _ (List.mem_of_getElem? (i := 360) (by decide +kernel))
theorem k_st_Preconditions_checkFromToIndex_IIILjavautilfunctionBiFunction : Cond.static y_Preconditions_checkFromToIndex_IIILjavautilfunctionBiFunction ∈ lw_tbl := List.mem_append_right _ (List.mem_of_getElem? (i := 361) (by decide +kernel))
theorem k_cd_Preconditions_checkFromToIndex_IIILjavautilfunctionBiFunction : Cond.code y_Preconditions_checkFromToIndex_IIILjavautilfunctionBiFunction prog_20_method_12_code 4 (some FieldType.int) ∈ lw_tbl := List.mem_append_right _ (List.mem_of_getElem? (i := 362) (by decide +kernel))
theorem k_ml_StringUTF16_244 : Cond.methodLink "java/lang/StringUTF16" 244 y_StringUTF16_indexOfCharUnsafe_aBIII ∈ lw_tbl := List.mem_append_right _ (List.mem_of_getElem? (i := 363) (by decide +kernel))
theorem k_st_StringUTF16_indexOfCharUnsafe_aBIII : Cond.static y_StringUTF16_indexOfCharUnsafe_aBIII ∈ lw_tbl := List.mem_append_right _ (List.mem_of_getElem? (i := 364) (by decide +kernel))
theorem k_cd_StringUTF16_indexOfCharUnsafe_aBIII : Cond.code y_StringUTF16_indexOfCharUnsafe_aBIII prog_15_method_48_code 5 (some FieldType.int) ∈ lw_tbl := List.mem_append_right _ (List.mem_of_getElem? (i := 365) (by decide +kernel))
theorem k_ml_StringUTF16_71 : Cond.methodLink "java/lang/StringUTF16" 71 y_StringUTF16_getChar_aBI ∈ lw_tbl := List.mem_append_right _ (List.mem_of_getElem? (i := 366) (by decide +kernel))
theorem k_st_StringUTF16_getChar_aBI : Cond.static y_StringUTF16_getChar_aBI ∈ lw_tbl := List.mem_append_right _ (List.mem_of_getElem? (i := 367) (by decide +kernel))
theorem k_cd_StringUTF16_getChar_aBI : Cond.code y_StringUTF16_getChar_aBI prog_15_method_5_code 2 (some FieldType.char) ∈ lw_tbl := List.mem_append_right _ (List.mem_of_getElem? (i := 368) (by decide +kernel))
theorem k_fl_StringUTF16_44 : Cond.fieldLink "java/lang/StringUTF16" 44 "java/lang/StringUTF16" "$assertionsDisabled" "Z" ∈ lw_tbl := List.mem_append_right _ (List.mem_of_getElem? (i := 369) (by decide +kernel))
theorem k_fl_StringUTF16_59 : Cond.fieldLink "java/lang/StringUTF16" 59 "java/lang/StringUTF16" "HI_BYTE_SHIFT" "I" ∈ lw_tbl := List.mem_append_right _ (List.mem_of_getElem? (i := 371) (by decide +kernel))
theorem k_fl_StringUTF16_63 : Cond.fieldLink "java/lang/StringUTF16" 63 "java/lang/StringUTF16" "LO_BYTE_SHIFT" "I" ∈ lw_tbl := List.mem_append_right _ (List.mem_of_getElem? (i := 373) (by decide +kernel))
theorem k_ml_StringUTF16_232 : Cond.methodLink "java/lang/StringUTF16" 232 y_StringUTF16_indexOfSupplementary_aBIII ∈ lw_tbl := List.mem_append_right _ (List.mem_of_getElem? (i := 375) (by decide +kernel))
theorem k_st_StringUTF16_indexOfSupplementary_aBIII : Cond.static y_StringUTF16_indexOfSupplementary_aBIII ∈ lw_tbl := List.mem_append_right _ (List.mem_of_getElem? (i := 376) (by decide +kernel))
theorem k_cd_StringUTF16_indexOfSupplementary_aBIII : Cond.code y_StringUTF16_indexOfSupplementary_aBIII prog_15_method_49_code 7 (some FieldType.int) ∈ lw_tbl := List.mem_append_right _ (List.mem_of_getElem? (i := 377) (by decide +kernel))
theorem k_ml_StringUTF16_164 : Cond.methodLink "java/lang/StringUTF16" 164 y_Character_isValidCodePoint_I ∈ lw_tbl := List.mem_append_right _ (List.mem_of_getElem? (i := 378) (by decide +kernel))
theorem k_st_Character_isValidCodePoint_I : Cond.static y_Character_isValidCodePoint_I ∈ lw_tbl := List.mem_append_right _ (List.mem_of_getElem? (i := 379) (by decide +kernel))
theorem k_cd_Character_isValidCodePoint_I : Cond.code y_Character_isValidCodePoint_I prog_7_method_11_code 2 (some FieldType.boolean) ∈ lw_tbl := List.mem_append_right _ (List.mem_of_getElem? (i := 380) (by decide +kernel))
theorem k_ml_StringUTF16_157 : Cond.methodLink "java/lang/StringUTF16" 157 y_Character_highSurrogate_I ∈ lw_tbl := List.mem_append_right _ (List.mem_of_getElem? (i := 381) (by decide +kernel))
theorem k_st_Character_highSurrogate_I : Cond.static y_Character_highSurrogate_I ∈ lw_tbl := List.mem_append_right _ (List.mem_of_getElem? (i := 382) (by decide +kernel))
theorem k_cd_Character_highSurrogate_I : Cond.code y_Character_highSurrogate_I prog_7_method_28_code 1 (some FieldType.char) ∈ lw_tbl := List.mem_append_right _ (List.mem_of_getElem? (i := 383) (by decide +kernel))
theorem k_kc_Character_110 : Cond.constant "java/lang/Character" 110 (55232) ∈ lw_tbl := List.mem_append_right _ (List.mem_of_getElem? (i := 384) (by decide +kernel))
theorem k_ml_StringUTF16_161 : Cond.methodLink "java/lang/StringUTF16" 161 y_Character_lowSurrogate_I ∈ lw_tbl := List.mem_append_right _ (List.mem_of_getElem? (i := 385) (by decide +kernel))
theorem k_st_Character_lowSurrogate_I : Cond.static y_Character_lowSurrogate_I ∈ lw_tbl := List.mem_append_right _ (List.mem_of_getElem? (i := 386) (by decide +kernel))
theorem k_cd_Character_lowSurrogate_I : Cond.code y_Character_lowSurrogate_I prog_7_method_29_code 1 (some FieldType.char) ∈ lw_tbl := List.mem_append_right _ (List.mem_of_getElem? (i := 387) (by decide +kernel))
theorem k_kc_Character_76 : Cond.constant "java/lang/Character" 76 (56320) ∈ lw_tbl := List.mem_append_right _ (List.mem_of_getElem? (i := 388) (by decide +kernel))
theorem k_sr_Sy_273 : Cond.stringRef R_Sy 273 "!?" ∈ lw_tbl := List.mem_append_right _ (List.mem_of_getElem? (i := 389) (by decide +kernel))
theorem k_ml_Sy_275 : Cond.methodLink R_Sy 275 y_Co_addRule ∈ lw_tbl := List.mem_append_right _ (List.mem_of_getElem? (i := 390) (by decide +kernel))
theorem k_im_Co_addRule : Cond.instanceMethod y_Co_addRule ∈ lw_tbl := List.mem_append_right _ (List.mem_of_getElem? (i := 391) (by decide +kernel))
theorem k_sl_Co_Co_addRule : Cond.selects R_Co y_Co_addRule y_Co_addRule ∈ lw_tbl := List.mem_append_right _ (List.mem_of_getElem? (i := 392) (by decide +kernel))
theorem k_cd_Co_addRule : Cond.code y_Co_addRule prog_3_method_4_code 5 (some FieldType.boolean) ∈ lw_tbl := List.mem_append_right _ (List.mem_of_getElem? (i := 393) (by decide +kernel))
theorem k_ml_Co_28 : Cond.methodLink R_Co 28 y_Co_ruleFor ∈ lw_tbl := List.mem_append_right _ (List.mem_of_getElem? (i := 394) (by decide +kernel))
theorem k_im_Co_ruleFor : Cond.instanceMethod y_Co_ruleFor ∈ lw_tbl := List.mem_append_right _ (List.mem_of_getElem? (i := 396) (by decide +kernel))
theorem k_cd_Co_ruleFor : Cond.code y_Co_ruleFor prog_3_method_7_code 4 (some FieldType.int) ∈ lw_tbl := List.mem_append_right _ (List.mem_of_getElem? (i := 397) (by decide +kernel))
theorem k_sr_Sy_74 : Cond.stringRef R_Sy 74 "the text is no contract" ∈ lw_tbl := List.mem_append_right _ (List.mem_of_getElem? (i := 398) (by decide +kernel))
theorem k_ml_Sy_77 : Cond.methodLink R_Sy 77 y_Co_become ∈ lw_tbl := List.mem_append_right _ (List.mem_of_getElem? (i := 399) (by decide +kernel))
theorem k_im_Co_become : Cond.instanceMethod y_Co_become ∈ lw_tbl := List.mem_append_right _ (List.mem_of_getElem? (i := 400) (by decide +kernel))
theorem k_sl_Co_Co_become : Cond.selects R_Co y_Co_become y_Co_become ∈ lw_tbl := List.mem_append_right _ (List.mem_of_getElem? (i := 401) (by decide +kernel))
theorem k_cd_Co_become : Cond.code y_Co_become prog_3_method_5_code 3 none ∈ lw_tbl := List.mem_append_right _ (List.mem_of_getElem? (i := 402) (by decide +kernel))
theorem k_ml_La_88 : Cond.methodLink R_La 88 y_La_start ∈ lw_tbl := List.mem_append_right _ (List.mem_of_getElem? (i := 403) (by decide +kernel))
theorem k_st_La_start : Cond.static y_La_start ∈ lw_tbl := List.mem_append_right _ (List.mem_of_getElem? (i := 404) (by decide +kernel))
theorem k_cd_La_start : Cond.codeWith y_La_start method_5_code 3 (some FieldType.int) [(0, 8, 11, 15)] ∈ lw_tbl := List.mem_append_right _ (List.mem_of_getElem? (i := 405) (by decide +kernel))
theorem k_ml_La_21 : Cond.methodLink R_La 21 y_Sy_start ∈ lw_tbl := List.mem_append_right _ (List.mem_of_getElem? (i := 406) (by decide +kernel))
theorem k_im_Sy_start : Cond.instanceMethod y_Sy_start ∈ lw_tbl := List.mem_append_right _ (List.mem_of_getElem? (i := 407) (by decide +kernel))
theorem k_sl_Sy_Sy_start : Cond.selects R_Sy y_Sy_start y_Sy_start ∈ lw_tbl := List.mem_append_right _ (List.mem_of_getElem? (i := 408) (by decide +kernel))
theorem k_cd_Sy_start : Cond.code y_Sy_start prog_1_method_4_code 2 (some FieldType.int) ∈ lw_tbl := List.mem_append_right _ (List.mem_of_getElem? (i := 409) (by decide +kernel))
theorem k_sr_Sy_84 : Cond.stringRef R_Sy 84 "every process is alive" ∈ lw_tbl := List.mem_append_right _ (List.mem_of_getElem? (i := 410) (by decide +kernel))
theorem k_ml_La_92 : Cond.methodLink R_La 92 y_La_kill ∈ lw_tbl := List.mem_append_right _ (List.mem_of_getElem? (i := 411) (by decide +kernel))
theorem k_st_La_kill : Cond.static y_La_kill ∈ lw_tbl := List.mem_append_right _ (List.mem_of_getElem? (i := 412) (by decide +kernel))
theorem k_cd_La_kill : Cond.codeWith y_La_kill method_6_code 4 (some FieldType.int) [(0, 9, 12, 13), (0, 9, 15, 28)] ∈ lw_tbl := List.mem_append_right _ (List.mem_of_getElem? (i := 413) (by decide +kernel))
theorem k_cl_La_28 : Cond.classLink R_La 28 "java/lang/IllegalStateException" ∈ lw_tbl := List.mem_append_right _ (List.mem_of_getElem? (i := 414) (by decide +kernel))
theorem k_ml_La_25 : Cond.methodLink R_La 25 y_Sy_kill ∈ lw_tbl := List.mem_append_right _ (List.mem_of_getElem? (i := 415) (by decide +kernel))
theorem k_im_Sy_kill : Cond.instanceMethod y_Sy_kill ∈ lw_tbl := List.mem_append_right _ (List.mem_of_getElem? (i := 416) (by decide +kernel))
theorem k_sl_Sy_Sy_kill : Cond.selects R_Sy y_Sy_kill y_Sy_kill ∈ lw_tbl := List.mem_append_right _ (List.mem_of_getElem? (i := 417) (by decide +kernel))
theorem k_cd_Sy_kill : Cond.code y_Sy_kill prog_1_method_5_code 4 (some FieldType.int) ∈ lw_tbl := List.mem_append_right _ (List.mem_of_getElem? (i := 418) (by decide +kernel))
theorem k_ml_Sy_86 : Cond.methodLink R_Sy 86 y_Sy_needAlive ∈ lw_tbl := List.mem_append_right _ (List.mem_of_getElem? (i := 419) (by decide +kernel))
theorem k_im_Sy_needAlive : Cond.instanceMethod y_Sy_needAlive ∈ lw_tbl := List.mem_append_right _ (List.mem_of_getElem? (i := 421) (by decide +kernel))
theorem k_cd_Sy_needAlive : Cond.code y_Sy_needAlive prog_1_method_21_code 2 none ∈ lw_tbl := List.mem_append_right _ (List.mem_of_getElem? (i := 422) (by decide +kernel))
theorem k_cl_Sy_181 : Cond.classLink R_Sy 181 "java/lang/IllegalStateException" ∈ lw_tbl := List.mem_append_right _ (List.mem_of_getElem? (i := 423) (by decide +kernel))
theorem k_ia_IllegalStateException : Cond.instantiable "java/lang/IllegalStateException" 6 ∈ lw_tbl := List.mem_append_right _ (List.mem_of_getElem? (i := 424) (by decide +kernel))
theorem k_sl_IllegalStateException_Throwable_fillInStackTrace_I : Cond.selects "java/lang/IllegalStateException" ⟨"java/lang/Throwable", "fillInStackTrace", "(I)Ljava/lang/Throwable;"⟩ ⟨"java/lang/Throwable", "fillInStackTrace", "(I)Ljava/lang/Throwable;"⟩ ∈ lw_tbl := List.mem_append_right _ (List.mem_of_getElem? (i := 426) (by decide +kernel))
theorem k_sr_Sy_232 : Cond.stringRef R_Sy 232 "the process is not alive" ∈ lw_tbl := List.mem_append_right _ (List.mem_of_getElem? (i := 432) (by decide +kernel))
theorem k_ml_Sy_185 : Cond.methodLink R_Sy 185 y_IllegalStateException_init_S ∈ lw_tbl := List.mem_append_right _ (List.mem_of_getElem? (i := 433) (by decide +kernel))
theorem k_im_IllegalStateException_init_S : Cond.instanceMethod y_IllegalStateException_init_S ∈ lw_tbl := List.mem_append_right _ (List.mem_of_getElem? (i := 434) (by decide +kernel))
theorem k_cd_IllegalStateException_init_S : Cond.code y_IllegalStateException_init_S prog_10_method_2_code 2 none ∈ lw_tbl := List.mem_append_right _ (List.mem_of_getElem? (i := 435) (by decide +kernel))
theorem k_ml_IllegalStateException_7 : Cond.methodLink "java/lang/IllegalStateException" 7 y_RuntimeException_init_S ∈ lw_tbl := List.mem_append_right _ (List.mem_of_getElem? (i := 436) (by decide +kernel))
theorem k_ml_Sy_96 : Cond.methodLink R_Sy 96 y_Bl_giveBack ∈ lw_tbl := List.mem_append_right _ (List.mem_of_getElem? (i := 439) (by decide +kernel))
theorem k_im_Bl_giveBack : Cond.instanceMethod y_Bl_giveBack ∈ lw_tbl := List.mem_append_right _ (List.mem_of_getElem? (i := 440) (by decide +kernel))
theorem k_sl_Bl_Bl_giveBack : Cond.selects R_Bl y_Bl_giveBack y_Bl_giveBack ∈ lw_tbl := List.mem_append_right _ (List.mem_of_getElem? (i := 441) (by decide +kernel))
theorem k_cd_Bl_giveBack : Cond.code y_Bl_giveBack prog_2_method_4_code 1 none ∈ lw_tbl := List.mem_append_right _ (List.mem_of_getElem? (i := 442) (by decide +kernel))
theorem k_ml_Sy_100 : Cond.methodLink R_Sy 100 y_Sy_closeEnd ∈ lw_tbl := List.mem_append_right _ (List.mem_of_getElem? (i := 443) (by decide +kernel))
theorem k_im_Sy_closeEnd : Cond.instanceMethod y_Sy_closeEnd ∈ lw_tbl := List.mem_append_right _ (List.mem_of_getElem? (i := 445) (by decide +kernel))
theorem k_cd_Sy_closeEnd : Cond.code y_Sy_closeEnd prog_1_method_34_code 6 (some FieldType.int) ∈ lw_tbl := List.mem_append_right _ (List.mem_of_getElem? (i := 446) (by decide +kernel))
theorem k_ml_Sy_261 : Cond.methodLink R_Sy 261 y_Sy_dropMessage ∈ lw_tbl := List.mem_append_right _ (List.mem_of_getElem? (i := 447) (by decide +kernel))
theorem k_im_Sy_dropMessage : Cond.instanceMethod y_Sy_dropMessage ∈ lw_tbl := List.mem_append_right _ (List.mem_of_getElem? (i := 449) (by decide +kernel))
theorem k_cd_Sy_dropMessage : Cond.code y_Sy_dropMessage prog_1_method_35_code 4 (some FieldType.int) ∈ lw_tbl := List.mem_append_right _ (List.mem_of_getElem? (i := 450) (by decide +kernel))
theorem k_ml_Sy_242 : Cond.methodLink R_Sy 242 y_Sy_carriesBlock ∈ lw_tbl := List.mem_append_right _ (List.mem_of_getElem? (i := 451) (by decide +kernel))
theorem k_st_Sy_carriesBlock : Cond.static y_Sy_carriesBlock ∈ lw_tbl := List.mem_append_right _ (List.mem_of_getElem? (i := 452) (by decide +kernel))
theorem k_cd_Sy_carriesBlock : Cond.code y_Sy_carriesBlock prog_1_method_29_code 1 (some FieldType.boolean) ∈ lw_tbl := List.mem_append_right _ (List.mem_of_getElem? (i := 453) (by decide +kernel))
theorem k_ml_Sy_252 : Cond.methodLink R_Sy 252 y_Sy_carriesEnd ∈ lw_tbl := List.mem_append_right _ (List.mem_of_getElem? (i := 454) (by decide +kernel))
theorem k_st_Sy_carriesEnd : Cond.static y_Sy_carriesEnd ∈ lw_tbl := List.mem_append_right _ (List.mem_of_getElem? (i := 455) (by decide +kernel))
theorem k_cd_Sy_carriesEnd : Cond.code y_Sy_carriesEnd prog_1_method_30_code 1 (some FieldType.boolean) ∈ lw_tbl := List.mem_append_right _ (List.mem_of_getElem? (i := 456) (by decide +kernel))
theorem k_ml_La_95 : Cond.methodLink R_La 95 y_La_block ∈ lw_tbl := List.mem_append_right _ (List.mem_of_getElem? (i := 457) (by decide +kernel))
theorem k_st_La_block : Cond.static y_La_block ∈ lw_tbl := List.mem_append_right _ (List.mem_of_getElem? (i := 458) (by decide +kernel))
theorem k_cd_La_block : Cond.codeWith y_La_block method_7_code 5 (some FieldType.int) [(0, 10, 13, 13), (0, 10, 17, 28), (0, 10, 21, 15)] ∈ lw_tbl := List.mem_append_right _ (List.mem_of_getElem? (i := 459) (by decide +kernel))
theorem k_ml_La_30 : Cond.methodLink R_La 30 y_Sy_block ∈ lw_tbl := List.mem_append_right _ (List.mem_of_getElem? (i := 460) (by decide +kernel))
theorem k_im_Sy_block : Cond.instanceMethod y_Sy_block ∈ lw_tbl := List.mem_append_right _ (List.mem_of_getElem? (i := 461) (by decide +kernel))
theorem k_sl_Sy_Sy_block : Cond.selects R_Sy y_Sy_block y_Sy_block ∈ lw_tbl := List.mem_append_right _ (List.mem_of_getElem? (i := 462) (by decide +kernel))
theorem k_cd_Sy_block : Cond.code y_Sy_block prog_1_method_6_code 4 (some FieldType.int) ∈ lw_tbl := List.mem_append_right _ (List.mem_of_getElem? (i := 463) (by decide +kernel))
theorem k_ml_Sy_104 : Cond.methodLink R_Sy 104 y_Sy_leastFreeBlock ∈ lw_tbl := List.mem_append_right _ (List.mem_of_getElem? (i := 464) (by decide +kernel))
theorem k_im_Sy_leastFreeBlock : Cond.instanceMethod y_Sy_leastFreeBlock ∈ lw_tbl := List.mem_append_right _ (List.mem_of_getElem? (i := 466) (by decide +kernel))
theorem k_cd_Sy_leastFreeBlock : Cond.code y_Sy_leastFreeBlock prog_1_method_38_code 2 (some FieldType.int) ∈ lw_tbl := List.mem_append_right _ (List.mem_of_getElem? (i := 467) (by decide +kernel))
theorem k_sr_Sy_111 : Cond.stringRef R_Sy 111 "the exchange heap is full" ∈ lw_tbl := List.mem_append_right _ (List.mem_of_getElem? (i := 468) (by decide +kernel))
theorem k_ml_Sy_113 : Cond.methodLink R_Sy 113 y_Bl_handOut ∈ lw_tbl := List.mem_append_right _ (List.mem_of_getElem? (i := 469) (by decide +kernel))
theorem k_im_Bl_handOut : Cond.instanceMethod y_Bl_handOut ∈ lw_tbl := List.mem_append_right _ (List.mem_of_getElem? (i := 470) (by decide +kernel))
theorem k_sl_Bl_Bl_handOut : Cond.selects R_Bl y_Bl_handOut y_Bl_handOut ∈ lw_tbl := List.mem_append_right _ (List.mem_of_getElem? (i := 471) (by decide +kernel))
theorem k_cd_Bl_handOut : Cond.code y_Bl_handOut prog_2_method_3_code 3 none ∈ lw_tbl := List.mem_append_right _ (List.mem_of_getElem? (i := 472) (by decide +kernel))
theorem k_ml_Bl_22 : Cond.methodLink R_Bl 22 y_Arrays_fill_aII ∈ lw_tbl := List.mem_append_right _ (List.mem_of_getElem? (i := 473) (by decide +kernel))
theorem k_st_Arrays_fill_aII : Cond.static y_Arrays_fill_aII ∈ lw_tbl := List.mem_append_right _ (List.mem_of_getElem? (i := 474) (by decide +kernel))
theorem k_cd_Arrays_fill_aII : Cond.code y_Arrays_fill_aII prog_18_method_103_code 4 none ∈ lw_tbl := List.mem_append_right _ (List.mem_of_getElem? (i := 475) (by decide +kernel))
theorem k_ml_La_99 : Cond.methodLink R_La 99 y_La_free ∈ lw_tbl := List.mem_append_right _ (List.mem_of_getElem? (i := 476) (by decide +kernel))
theorem k_st_La_free : Cond.static y_La_free ∈ lw_tbl := List.mem_append_right _ (List.mem_of_getElem? (i := 477) (by decide +kernel))
theorem k_cd_La_free : Cond.codeWith y_La_free method_8_code 4 (some FieldType.int) [(0, 6, 9, 13), (0, 6, 12, 28)] ∈ lw_tbl := List.mem_append_right _ (List.mem_of_getElem? (i := 478) (by decide +kernel))
theorem k_ml_La_34 : Cond.methodLink R_La 34 y_Sy_free ∈ lw_tbl := List.mem_append_right _ (List.mem_of_getElem? (i := 479) (by decide +kernel))
theorem k_im_Sy_free : Cond.instanceMethod y_Sy_free ∈ lw_tbl := List.mem_append_right _ (List.mem_of_getElem? (i := 480) (by decide +kernel))
theorem k_sl_Sy_Sy_free : Cond.selects R_Sy y_Sy_free y_Sy_free ∈ lw_tbl := List.mem_append_right _ (List.mem_of_getElem? (i := 481) (by decide +kernel))
theorem k_cd_Sy_free : Cond.code y_Sy_free prog_1_method_7_code 3 none ∈ lw_tbl := List.mem_append_right _ (List.mem_of_getElem? (i := 482) (by decide +kernel))
theorem k_ml_Sy_116 : Cond.methodLink R_Sy 116 y_Sy_needOwnBlock ∈ lw_tbl := List.mem_append_right _ (List.mem_of_getElem? (i := 483) (by decide +kernel))
theorem k_im_Sy_needOwnBlock : Cond.instanceMethod y_Sy_needOwnBlock ∈ lw_tbl := List.mem_append_right _ (List.mem_of_getElem? (i := 485) (by decide +kernel))
theorem k_cd_Sy_needOwnBlock : Cond.code y_Sy_needOwnBlock prog_1_method_22_code 3 none ∈ lw_tbl := List.mem_append_right _ (List.mem_of_getElem? (i := 486) (by decide +kernel))
theorem k_sr_Sy_234 : Cond.stringRef R_Sy 234 "the process does not own the block" ∈ lw_tbl := List.mem_append_right _ (List.mem_of_getElem? (i := 487) (by decide +kernel))
theorem k_ml_La_103 : Cond.methodLink R_La 103 y_La_read ∈ lw_tbl := List.mem_append_right _ (List.mem_of_getElem? (i := 488) (by decide +kernel))
theorem k_st_La_read : Cond.static y_La_read ∈ lw_tbl := List.mem_append_right _ (List.mem_of_getElem? (i := 489) (by decide +kernel))
theorem k_cd_La_read : Cond.codeWith y_La_read method_9_code 6 (some FieldType.int) [(0, 12, 15, 13), (0, 12, 19, 28), (0, 12, 23, 42)] ∈ lw_tbl := List.mem_append_right _ (List.mem_of_getElem? (i := 490) (by decide +kernel))
theorem k_cl_La_42 : Cond.classLink R_La 42 "java/util/NoSuchElementException" ∈ lw_tbl := List.mem_append_right _ (List.mem_of_getElem? (i := 491) (by decide +kernel))
theorem k_ml_La_38 : Cond.methodLink R_La 38 y_Sy_read ∈ lw_tbl := List.mem_append_right _ (List.mem_of_getElem? (i := 492) (by decide +kernel))
theorem k_im_Sy_read : Cond.instanceMethod y_Sy_read ∈ lw_tbl := List.mem_append_right _ (List.mem_of_getElem? (i := 493) (by decide +kernel))
theorem k_sl_Sy_Sy_read : Cond.selects R_Sy y_Sy_read y_Sy_read ∈ lw_tbl := List.mem_append_right _ (List.mem_of_getElem? (i := 494) (by decide +kernel))
theorem k_cd_Sy_read : Cond.code y_Sy_read prog_1_method_8_code 4 (some FieldType.int) ∈ lw_tbl := List.mem_append_right _ (List.mem_of_getElem? (i := 495) (by decide +kernel))
theorem k_ml_Sy_119 : Cond.methodLink R_Sy 119 y_Sy_needCell ∈ lw_tbl := List.mem_append_right _ (List.mem_of_getElem? (i := 496) (by decide +kernel))
theorem k_im_Sy_needCell : Cond.instanceMethod y_Sy_needCell ∈ lw_tbl := List.mem_append_right _ (List.mem_of_getElem? (i := 498) (by decide +kernel))
theorem k_cd_Sy_needCell : Cond.code y_Sy_needCell prog_1_method_23_code 3 none ∈ lw_tbl := List.mem_append_right _ (List.mem_of_getElem? (i := 499) (by decide +kernel))
theorem k_cl_Sy_129 : Cond.classLink R_Sy 129 "java/util/NoSuchElementException" ∈ lw_tbl := List.mem_append_right _ (List.mem_of_getElem? (i := 500) (by decide +kernel))
theorem k_ia_NoSuchElementException : Cond.instantiable "java/util/NoSuchElementException" 6 ∈ lw_tbl := List.mem_append_right _ (List.mem_of_getElem? (i := 501) (by decide +kernel))
theorem k_sl_NoSuchElementException_Throwable_fillInStackTrace_I : Cond.selects "java/util/NoSuchElementException" ⟨"java/lang/Throwable", "fillInStackTrace", "(I)Ljava/lang/Throwable;"⟩ ⟨"java/lang/Throwable", "fillInStackTrace", "(I)Ljava/lang/Throwable;"⟩ ∈ lw_tbl := List.mem_append_right _ (List.mem_of_getElem? (i := 503) (by decide +kernel))
theorem k_sr_Sy_236 : Cond.stringRef R_Sy 236 "the block has no such cell" ∈ lw_tbl := List.mem_append_right _ (List.mem_of_getElem? (i := 509) (by decide +kernel))
theorem k_ml_Sy_133 : Cond.methodLink R_Sy 133 y_NoSuchElementException_init_S ∈ lw_tbl := List.mem_append_right _ (List.mem_of_getElem? (i := 510) (by decide +kernel))
theorem k_im_NoSuchElementException_init_S : Cond.instanceMethod y_NoSuchElementException_init_S ∈ lw_tbl := List.mem_append_right _ (List.mem_of_getElem? (i := 511) (by decide +kernel))
theorem k_cd_NoSuchElementException_init_S : Cond.code y_NoSuchElementException_init_S prog_19_method_4_code 2 none ∈ lw_tbl := List.mem_append_right _ (List.mem_of_getElem? (i := 512) (by decide +kernel))
theorem k_ml_NoSuchElementException_13 : Cond.methodLink "java/util/NoSuchElementException" 13 y_RuntimeException_init_S ∈ lw_tbl := List.mem_append_right _ (List.mem_of_getElem? (i := 513) (by decide +kernel))
theorem k_ml_La_107 : Cond.methodLink R_La 107 y_La_write ∈ lw_tbl := List.mem_append_right _ (List.mem_of_getElem? (i := 516) (by decide +kernel))
theorem k_st_La_write : Cond.static y_La_write ∈ lw_tbl := List.mem_append_right _ (List.mem_of_getElem? (i := 517) (by decide +kernel))
theorem k_cd_La_write : Cond.codeWith y_La_write method_10_code 6 (some FieldType.int) [(0, 9, 12, 13), (0, 9, 16, 28), (0, 9, 20, 42)] ∈ lw_tbl := List.mem_append_right _ (List.mem_of_getElem? (i := 518) (by decide +kernel))
theorem k_ml_La_44 : Cond.methodLink R_La 44 y_Sy_write ∈ lw_tbl := List.mem_append_right _ (List.mem_of_getElem? (i := 519) (by decide +kernel))
theorem k_im_Sy_write : Cond.instanceMethod y_Sy_write ∈ lw_tbl := List.mem_append_right _ (List.mem_of_getElem? (i := 520) (by decide +kernel))
theorem k_sl_Sy_Sy_write : Cond.selects R_Sy y_Sy_write y_Sy_write ∈ lw_tbl := List.mem_append_right _ (List.mem_of_getElem? (i := 521) (by decide +kernel))
theorem k_cd_Sy_write : Cond.code y_Sy_write prog_1_method_9_code 5 none ∈ lw_tbl := List.mem_append_right _ (List.mem_of_getElem? (i := 522) (by decide +kernel))
theorem k_ml_La_111 : Cond.methodLink R_La 111 y_La_open ∈ lw_tbl := List.mem_append_right _ (List.mem_of_getElem? (i := 523) (by decide +kernel))
theorem k_st_La_open : Cond.static y_La_open ∈ lw_tbl := List.mem_append_right _ (List.mem_of_getElem? (i := 524) (by decide +kernel))
theorem k_cd_La_open : Cond.codeWith y_La_open method_11_code 6 (some FieldType.int) [(0, 12, 15, 13), (0, 12, 19, 28), (0, 12, 23, 42), (0, 12, 27, 15)] ∈ lw_tbl := List.mem_append_right _ (List.mem_of_getElem? (i := 525) (by decide +kernel))
theorem k_ml_La_48 : Cond.methodLink R_La 48 y_Sy_open ∈ lw_tbl := List.mem_append_right _ (List.mem_of_getElem? (i := 526) (by decide +kernel))
theorem k_im_Sy_open : Cond.instanceMethod y_Sy_open ∈ lw_tbl := List.mem_append_right _ (List.mem_of_getElem? (i := 527) (by decide +kernel))
theorem k_sl_Sy_Sy_open : Cond.selects R_Sy y_Sy_open y_Sy_open ∈ lw_tbl := List.mem_append_right _ (List.mem_of_getElem? (i := 528) (by decide +kernel))
theorem k_cd_Sy_open : Cond.code y_Sy_open prog_1_method_10_code 5 (some FieldType.int) ∈ lw_tbl := List.mem_append_right _ (List.mem_of_getElem? (i := 529) (by decide +kernel))
theorem k_sr_Sy_131 : Cond.stringRef R_Sy 131 "there is no such contract" ∈ lw_tbl := List.mem_append_right _ (List.mem_of_getElem? (i := 530) (by decide +kernel))
theorem k_ml_Sy_134 : Cond.methodLink R_Sy 134 y_Sy_leastFreeChannel ∈ lw_tbl := List.mem_append_right _ (List.mem_of_getElem? (i := 531) (by decide +kernel))
theorem k_im_Sy_leastFreeChannel : Cond.instanceMethod y_Sy_leastFreeChannel ∈ lw_tbl := List.mem_append_right _ (List.mem_of_getElem? (i := 533) (by decide +kernel))
theorem k_cd_Sy_leastFreeChannel : Cond.code y_Sy_leastFreeChannel prog_1_method_39_code 2 (some FieldType.int) ∈ lw_tbl := List.mem_append_right _ (List.mem_of_getElem? (i := 534) (by decide +kernel))
theorem k_sr_Sy_137 : Cond.stringRef R_Sy 137 "no channel is free" ∈ lw_tbl := List.mem_append_right _ (List.mem_of_getElem? (i := 535) (by decide +kernel))
theorem k_ml_Sy_139 : Cond.methodLink R_Sy 139 y_En_begin ∈ lw_tbl := List.mem_append_right _ (List.mem_of_getElem? (i := 536) (by decide +kernel))
theorem k_im_En_begin : Cond.instanceMethod y_En_begin ∈ lw_tbl := List.mem_append_right _ (List.mem_of_getElem? (i := 537) (by decide +kernel))
theorem k_sl_En_En_begin : Cond.selects R_En y_En_begin y_En_begin ∈ lw_tbl := List.mem_append_right _ (List.mem_of_getElem? (i := 538) (by decide +kernel))
theorem k_cd_En_begin : Cond.code y_En_begin prog_4_method_3_code 2 none ∈ lw_tbl := List.mem_append_right _ (List.mem_of_getElem? (i := 539) (by decide +kernel))
theorem k_ml_La_114 : Cond.methodLink R_La 114 y_La_say ∈ lw_tbl := List.mem_append_right _ (List.mem_of_getElem? (i := 540) (by decide +kernel))
theorem k_st_La_say : Cond.static y_La_say ∈ lw_tbl := List.mem_append_right _ (List.mem_of_getElem? (i := 541) (by decide +kernel))
theorem k_cd_La_say : Cond.codeWith y_La_say method_12_code 6 (some FieldType.int) [(0, 9, 12, 13), (0, 9, 16, 28), (0, 9, 20, 42)] ∈ lw_tbl := List.mem_append_right _ (List.mem_of_getElem? (i := 542) (by decide +kernel))
theorem k_ml_La_51 : Cond.methodLink R_La 51 y_Sy_say ∈ lw_tbl := List.mem_append_right _ (List.mem_of_getElem? (i := 543) (by decide +kernel))
theorem k_im_Sy_say : Cond.instanceMethod y_Sy_say ∈ lw_tbl := List.mem_append_right _ (List.mem_of_getElem? (i := 544) (by decide +kernel))
theorem k_sl_Sy_Sy_say : Cond.selects R_Sy y_Sy_say y_Sy_say ∈ lw_tbl := List.mem_append_right _ (List.mem_of_getElem? (i := 545) (by decide +kernel))
theorem k_cd_Sy_say : Cond.code y_Sy_say prog_1_method_11_code 8 none ∈ lw_tbl := List.mem_append_right _ (List.mem_of_getElem? (i := 546) (by decide +kernel))
theorem k_ml_Sy_144 : Cond.methodLink R_Sy 144 y_String_length_ ∈ lw_tbl := List.mem_append_right _ (List.mem_of_getElem? (i := 547) (by decide +kernel))
theorem k_ml_Sy_149 : Cond.methodLink R_Sy 149 y_Sy_needOwnEnd ∈ lw_tbl := List.mem_append_right _ (List.mem_of_getElem? (i := 548) (by decide +kernel))
theorem k_im_Sy_needOwnEnd : Cond.instanceMethod y_Sy_needOwnEnd ∈ lw_tbl := List.mem_append_right _ (List.mem_of_getElem? (i := 550) (by decide +kernel))
theorem k_cd_Sy_needOwnEnd : Cond.code y_Sy_needOwnEnd prog_1_method_24_code 3 none ∈ lw_tbl := List.mem_append_right _ (List.mem_of_getElem? (i := 551) (by decide +kernel))
theorem k_sr_Sy_238 : Cond.stringRef R_Sy 238 "the process does not own the end" ∈ lw_tbl := List.mem_append_right _ (List.mem_of_getElem? (i := 552) (by decide +kernel))
theorem k_ml_Sy_155 : Cond.methodLink R_Sy 155 y_Sy_sideOf ∈ lw_tbl := List.mem_append_right _ (List.mem_of_getElem? (i := 553) (by decide +kernel))
theorem k_st_Sy_sideOf : Cond.static y_Sy_sideOf ∈ lw_tbl := List.mem_append_right _ (List.mem_of_getElem? (i := 554) (by decide +kernel))
theorem k_cd_Sy_sideOf : Cond.code y_Sy_sideOf prog_1_method_32_code 1 (some FieldType.int) ∈ lw_tbl := List.mem_append_right _ (List.mem_of_getElem? (i := 555) (by decide +kernel))
theorem k_ml_Sy_159 : Cond.methodLink R_Sy 159 y_Co_stateBehind ∈ lw_tbl := List.mem_append_right _ (List.mem_of_getElem? (i := 556) (by decide +kernel))
theorem k_im_Co_stateBehind : Cond.instanceMethod y_Co_stateBehind ∈ lw_tbl := List.mem_append_right _ (List.mem_of_getElem? (i := 557) (by decide +kernel))
theorem k_sl_Co_Co_stateBehind : Cond.selects R_Co y_Co_stateBehind y_Co_stateBehind ∈ lw_tbl := List.mem_append_right _ (List.mem_of_getElem? (i := 558) (by decide +kernel))
theorem k_cd_Co_stateBehind : Cond.code y_Co_stateBehind prog_3_method_6_code 5 (some FieldType.int) ∈ lw_tbl := List.mem_append_right _ (List.mem_of_getElem? (i := 559) (by decide +kernel))
theorem k_ml_Sy_163 : Cond.methodLink R_Sy 163 y_Sy_needAllowed ∈ lw_tbl := List.mem_append_right _ (List.mem_of_getElem? (i := 560) (by decide +kernel))
theorem k_st_Sy_needAllowed : Cond.static y_Sy_needAllowed ∈ lw_tbl := List.mem_append_right _ (List.mem_of_getElem? (i := 561) (by decide +kernel))
theorem k_cd_Sy_needAllowed : Cond.code y_Sy_needAllowed prog_1_method_25_code 1 none ∈ lw_tbl := List.mem_append_right _ (List.mem_of_getElem? (i := 562) (by decide +kernel))
theorem k_sr_Sy_240 : Cond.stringRef R_Sy 240 "the contract forbids it" ∈ lw_tbl := List.mem_append_right _ (List.mem_of_getElem? (i := 563) (by decide +kernel))
theorem k_ml_Sy_166 : Cond.methodLink R_Sy 166 y_Sy_needOwnLoad ∈ lw_tbl := List.mem_append_right _ (List.mem_of_getElem? (i := 564) (by decide +kernel))
theorem k_im_Sy_needOwnLoad : Cond.instanceMethod y_Sy_needOwnLoad ∈ lw_tbl := List.mem_append_right _ (List.mem_of_getElem? (i := 566) (by decide +kernel))
theorem k_cd_Sy_needOwnLoad : Cond.code y_Sy_needOwnLoad prog_1_method_26_code 5 none ∈ lw_tbl := List.mem_append_right _ (List.mem_of_getElem? (i := 567) (by decide +kernel))
theorem k_ml_Sy_246 : Cond.methodLink R_Sy 246 y_Sy_ownsBlock ∈ lw_tbl := List.mem_append_right _ (List.mem_of_getElem? (i := 568) (by decide +kernel))
theorem k_im_Sy_ownsBlock : Cond.instanceMethod y_Sy_ownsBlock ∈ lw_tbl := List.mem_append_right _ (List.mem_of_getElem? (i := 570) (by decide +kernel))
theorem k_cd_Sy_ownsBlock : Cond.code y_Sy_ownsBlock prog_1_method_27_code 3 (some FieldType.boolean) ∈ lw_tbl := List.mem_append_right _ (List.mem_of_getElem? (i := 571) (by decide +kernel))
theorem k_sr_Sy_250 : Cond.stringRef R_Sy 250 "the process does not own the block to send" ∈ lw_tbl := List.mem_append_right _ (List.mem_of_getElem? (i := 572) (by decide +kernel))
theorem k_ml_Sy_255 : Cond.methodLink R_Sy 255 y_Sy_ownsEndOfOtherChannel ∈ lw_tbl := List.mem_append_right _ (List.mem_of_getElem? (i := 573) (by decide +kernel))
theorem k_im_Sy_ownsEndOfOtherChannel : Cond.instanceMethod y_Sy_ownsEndOfOtherChannel ∈ lw_tbl := List.mem_append_right _ (List.mem_of_getElem? (i := 575) (by decide +kernel))
theorem k_cd_Sy_ownsEndOfOtherChannel : Cond.code y_Sy_ownsEndOfOtherChannel prog_1_method_28_code 4 (some FieldType.boolean) ∈ lw_tbl := List.mem_append_right _ (List.mem_of_getElem? (i := 576) (by decide +kernel))
theorem k_sr_Sy_259 : Cond.stringRef R_Sy 259 "the process may not send this end" ∈ lw_tbl := List.mem_append_right _ (List.mem_of_getElem? (i := 577) (by decide +kernel))
theorem k_ml_Sy_170 : Cond.methodLink R_Sy 170 y_Sy_otherEnd ∈ lw_tbl := List.mem_append_right _ (List.mem_of_getElem? (i := 578) (by decide +kernel))
theorem k_st_Sy_otherEnd : Cond.static y_Sy_otherEnd ∈ lw_tbl := List.mem_append_right _ (List.mem_of_getElem? (i := 579) (by decide +kernel))
theorem k_cd_Sy_otherEnd : Cond.code y_Sy_otherEnd prog_1_method_33_code 1 (some FieldType.int) ∈ lw_tbl := List.mem_append_right _ (List.mem_of_getElem? (i := 580) (by decide +kernel))
theorem k_sr_Sy_176 : Cond.stringRef R_Sy 176 "the other end is closed" ∈ lw_tbl := List.mem_append_right _ (List.mem_of_getElem? (i := 581) (by decide +kernel))
theorem k_sr_Sy_183 : Cond.stringRef R_Sy 183 "the queue is full" ∈ lw_tbl := List.mem_append_right _ (List.mem_of_getElem? (i := 582) (by decide +kernel))
theorem k_ml_Sy_186 : Cond.methodLink R_Sy 186 y_Sy_giveLoad ∈ lw_tbl := List.mem_append_right _ (List.mem_of_getElem? (i := 583) (by decide +kernel))
theorem k_im_Sy_giveLoad : Cond.instanceMethod y_Sy_giveLoad ∈ lw_tbl := List.mem_append_right _ (List.mem_of_getElem? (i := 585) (by decide +kernel))
theorem k_cd_Sy_giveLoad : Cond.code y_Sy_giveLoad prog_1_method_31_code 4 none ∈ lw_tbl := List.mem_append_right _ (List.mem_of_getElem? (i := 586) (by decide +kernel))
theorem k_ml_Sy_189 : Cond.methodLink R_Sy 189 y_En_addLast ∈ lw_tbl := List.mem_append_right _ (List.mem_of_getElem? (i := 587) (by decide +kernel))
theorem k_im_En_addLast : Cond.instanceMethod y_En_addLast ∈ lw_tbl := List.mem_append_right _ (List.mem_of_getElem? (i := 588) (by decide +kernel))
theorem k_sl_En_En_addLast : Cond.selects R_En y_En_addLast y_En_addLast ∈ lw_tbl := List.mem_append_right _ (List.mem_of_getElem? (i := 589) (by decide +kernel))
theorem k_cd_En_addLast : Cond.code y_En_addLast prog_4_method_4_code 3 none ∈ lw_tbl := List.mem_append_right _ (List.mem_of_getElem? (i := 590) (by decide +kernel))
theorem k_ml_La_117 : Cond.methodLink R_La 117 y_La_hear ∈ lw_tbl := List.mem_append_right _ (List.mem_of_getElem? (i := 591) (by decide +kernel))
theorem k_st_La_hear : Cond.static y_La_hear ∈ lw_tbl := List.mem_append_right _ (List.mem_of_getElem? (i := 592) (by decide +kernel))
theorem k_cd_La_hear : Cond.codeWith y_La_hear method_13_code 5 (some FieldType.int) [(0, 10, 13, 13), (0, 10, 17, 28), (0, 10, 21, 42)] ∈ lw_tbl := List.mem_append_right _ (List.mem_of_getElem? (i := 593) (by decide +kernel))
theorem k_ml_La_54 : Cond.methodLink R_La 54 y_Sy_hear ∈ lw_tbl := List.mem_append_right _ (List.mem_of_getElem? (i := 594) (by decide +kernel))
theorem k_im_Sy_hear : Cond.instanceMethod y_Sy_hear ∈ lw_tbl := List.mem_append_right _ (List.mem_of_getElem? (i := 595) (by decide +kernel))
theorem k_sl_Sy_Sy_hear : Cond.selects R_Sy y_Sy_hear y_Sy_hear ∈ lw_tbl := List.mem_append_right _ (List.mem_of_getElem? (i := 596) (by decide +kernel))
theorem k_cd_Sy_hear : Cond.code y_Sy_hear prog_1_method_12_code 7 (some FieldType.int) ∈ lw_tbl := List.mem_append_right _ (List.mem_of_getElem? (i := 597) (by decide +kernel))
theorem k_sr_Sy_195 : Cond.stringRef R_Sy 195 "the queue is empty" ∈ lw_tbl := List.mem_append_right _ (List.mem_of_getElem? (i := 598) (by decide +kernel))
theorem k_ml_Sy_203 : Cond.methodLink R_Sy 203 y_En_removeFirst ∈ lw_tbl := List.mem_append_right _ (List.mem_of_getElem? (i := 599) (by decide +kernel))
theorem k_im_En_removeFirst : Cond.instanceMethod y_En_removeFirst ∈ lw_tbl := List.mem_append_right _ (List.mem_of_getElem? (i := 600) (by decide +kernel))
theorem k_sl_En_En_removeFirst : Cond.selects R_En y_En_removeFirst y_En_removeFirst ∈ lw_tbl := List.mem_append_right _ (List.mem_of_getElem? (i := 601) (by decide +kernel))
theorem k_cd_En_removeFirst : Cond.code y_En_removeFirst prog_4_method_5_code 2 none ∈ lw_tbl := List.mem_append_right _ (List.mem_of_getElem? (i := 602) (by decide +kernel))
theorem k_ml_La_120 : Cond.methodLink R_La 120 y_La_choose ∈ lw_tbl := List.mem_append_right _ (List.mem_of_getElem? (i := 603) (by decide +kernel))
theorem k_st_La_choose : Cond.static y_La_choose ∈ lw_tbl := List.mem_append_right _ (List.mem_of_getElem? (i := 604) (by decide +kernel))
theorem k_cd_La_choose : Cond.codeWith y_La_choose method_14_code 5 (some FieldType.int) [(0, 10, 13, 13), (0, 10, 17, 28), (0, 10, 21, 42)] ∈ lw_tbl := List.mem_append_right _ (List.mem_of_getElem? (i := 605) (by decide +kernel))
theorem k_ml_La_57 : Cond.methodLink R_La 57 y_Sy_choose ∈ lw_tbl := List.mem_append_right _ (List.mem_of_getElem? (i := 606) (by decide +kernel))
theorem k_im_Sy_choose : Cond.instanceMethod y_Sy_choose ∈ lw_tbl := List.mem_append_right _ (List.mem_of_getElem? (i := 607) (by decide +kernel))
theorem k_sl_Sy_Sy_choose : Cond.selects R_Sy y_Sy_choose y_Sy_choose ∈ lw_tbl := List.mem_append_right _ (List.mem_of_getElem? (i := 608) (by decide +kernel))
theorem k_cd_Sy_choose : Cond.code y_Sy_choose prog_1_method_13_code 5 (some FieldType.int) ∈ lw_tbl := List.mem_append_right _ (List.mem_of_getElem? (i := 609) (by decide +kernel))
theorem k_sr_Sy_209 : Cond.stringRef R_Sy 209 "no end of the mask has a message" ∈ lw_tbl := List.mem_append_right _ (List.mem_of_getElem? (i := 610) (by decide +kernel))
theorem k_ml_La_123 : Cond.methodLink R_La 123 y_La_close ∈ lw_tbl := List.mem_append_right _ (List.mem_of_getElem? (i := 611) (by decide +kernel))
theorem k_st_La_close : Cond.static y_La_close ∈ lw_tbl := List.mem_append_right _ (List.mem_of_getElem? (i := 612) (by decide +kernel))
theorem k_cd_La_close : Cond.codeWith y_La_close method_15_code 5 (some FieldType.int) [(0, 10, 13, 13), (0, 10, 17, 28)] ∈ lw_tbl := List.mem_append_right _ (List.mem_of_getElem? (i := 613) (by decide +kernel))
theorem k_ml_La_60 : Cond.methodLink R_La 60 y_Sy_close ∈ lw_tbl := List.mem_append_right _ (List.mem_of_getElem? (i := 614) (by decide +kernel))
theorem k_im_Sy_close : Cond.instanceMethod y_Sy_close ∈ lw_tbl := List.mem_append_right _ (List.mem_of_getElem? (i := 615) (by decide +kernel))
theorem k_sl_Sy_Sy_close : Cond.selects R_Sy y_Sy_close y_Sy_close ∈ lw_tbl := List.mem_append_right _ (List.mem_of_getElem? (i := 616) (by decide +kernel))
theorem k_cd_Sy_close : Cond.code y_Sy_close prog_1_method_14_code 3 (some FieldType.int) ∈ lw_tbl := List.mem_append_right _ (List.mem_of_getElem? (i := 617) (by decide +kernel))
theorem k_ml_La_126 : Cond.methodLink R_La 126 y_La_ofBlock ∈ lw_tbl := List.mem_append_right _ (List.mem_of_getElem? (i := 618) (by decide +kernel))
theorem k_st_La_ofBlock : Cond.static y_La_ofBlock ∈ lw_tbl := List.mem_append_right _ (List.mem_of_getElem? (i := 619) (by decide +kernel))
theorem k_cd_La_ofBlock : Cond.codeWith y_La_ofBlock method_16_code 5 (some FieldType.int) [(0, 10, 13, 13)] ∈ lw_tbl := List.mem_append_right _ (List.mem_of_getElem? (i := 620) (by decide +kernel))
theorem k_ml_La_63 : Cond.methodLink R_La 63 y_Sy_ofBlock ∈ lw_tbl := List.mem_append_right _ (List.mem_of_getElem? (i := 621) (by decide +kernel))
theorem k_im_Sy_ofBlock : Cond.instanceMethod y_Sy_ofBlock ∈ lw_tbl := List.mem_append_right _ (List.mem_of_getElem? (i := 622) (by decide +kernel))
theorem k_sl_Sy_Sy_ofBlock : Cond.selects R_Sy y_Sy_ofBlock y_Sy_ofBlock ∈ lw_tbl := List.mem_append_right _ (List.mem_of_getElem? (i := 623) (by decide +kernel))
theorem k_cd_Sy_ofBlock : Cond.code y_Sy_ofBlock prog_1_method_15_code 3 (some FieldType.int) ∈ lw_tbl := List.mem_append_right _ (List.mem_of_getElem? (i := 624) (by decide +kernel))
theorem k_ml_La_129 : Cond.methodLink R_La 129 y_La_ofEnd ∈ lw_tbl := List.mem_append_right _ (List.mem_of_getElem? (i := 625) (by decide +kernel))
theorem k_st_La_ofEnd : Cond.static y_La_ofEnd ∈ lw_tbl := List.mem_append_right _ (List.mem_of_getElem? (i := 626) (by decide +kernel))
theorem k_cd_La_ofEnd : Cond.codeWith y_La_ofEnd method_17_code 5 (some FieldType.int) [(0, 10, 13, 13)] ∈ lw_tbl := List.mem_append_right _ (List.mem_of_getElem? (i := 627) (by decide +kernel))
theorem k_ml_La_66 : Cond.methodLink R_La 66 y_Sy_ofEnd ∈ lw_tbl := List.mem_append_right _ (List.mem_of_getElem? (i := 628) (by decide +kernel))
theorem k_im_Sy_ofEnd : Cond.instanceMethod y_Sy_ofEnd ∈ lw_tbl := List.mem_append_right _ (List.mem_of_getElem? (i := 629) (by decide +kernel))
theorem k_sl_Sy_Sy_ofEnd : Cond.selects R_Sy y_Sy_ofEnd y_Sy_ofEnd ∈ lw_tbl := List.mem_append_right _ (List.mem_of_getElem? (i := 630) (by decide +kernel))
theorem k_cd_Sy_ofEnd : Cond.code y_Sy_ofEnd prog_1_method_16_code 3 (some FieldType.int) ∈ lw_tbl := List.mem_append_right _ (List.mem_of_getElem? (i := 631) (by decide +kernel))
theorem k_cl_La_70 : Cond.classLink R_La 70 R_Mo ∈ lw_tbl := List.mem_append_right _ (List.mem_of_getElem? (i := 632) (by decide +kernel))
theorem k_ia_Mo : Cond.instantiable R_Mo 24 ∈ lw_tbl := List.mem_append_right _ (List.mem_of_getElem? (i := 633) (by decide +kernel))
theorem k_ml_La_72 : Cond.methodLink R_La 72 y_Mo_init ∈ lw_tbl := List.mem_append_right _ (List.mem_of_getElem? (i := 634) (by decide +kernel))
theorem k_im_Mo_init : Cond.instanceMethod y_Mo_init ∈ lw_tbl := List.mem_append_right _ (List.mem_of_getElem? (i := 635) (by decide +kernel))
theorem k_cd_Mo_init : Cond.code y_Mo_init prog_6_method_1_code 2 none ∈ lw_tbl := List.mem_append_right _ (List.mem_of_getElem? (i := 636) (by decide +kernel))
theorem k_ml_Mo_1 : Cond.methodLink R_Mo 1 y_Object_init_ ∈ lw_tbl := List.mem_append_right _ (List.mem_of_getElem? (i := 637) (by decide +kernel))
theorem k_fl_Mo_7 : Cond.fieldLink R_Mo 7 R_Mo "text" "[I" ∈ lw_tbl := List.mem_append_right _ (List.mem_of_getElem? (i := 638) (by decide +kernel))
theorem k_fl_Mo_13 : Cond.fieldLink R_Mo 13 R_Mo "rules" "[I" ∈ lw_tbl := List.mem_append_right _ (List.mem_of_getElem? (i := 639) (by decide +kernel))
theorem k_fl_Mo_16 : Cond.fieldLink R_Mo 16 R_Mo "ruleCount" "[I" ∈ lw_tbl := List.mem_append_right _ (List.mem_of_getElem? (i := 640) (by decide +kernel))
theorem k_fl_Mo_19 : Cond.fieldLink R_Mo 19 R_Mo "used" "[I" ∈ lw_tbl := List.mem_append_right _ (List.mem_of_getElem? (i := 641) (by decide +kernel))
theorem k_fl_Mo_22 : Cond.fieldLink R_Mo 22 R_Mo "usedCount" "[I" ∈ lw_tbl := List.mem_append_right _ (List.mem_of_getElem? (i := 642) (by decide +kernel))
theorem k_fl_Mo_25 : Cond.fieldLink R_Mo 25 R_Mo "alive" "[Z" ∈ lw_tbl := List.mem_append_right _ (List.mem_of_getElem? (i := 643) (by decide +kernel))
theorem k_fl_Mo_29 : Cond.fieldLink R_Mo 29 R_Mo "blockOwner" "[I" ∈ lw_tbl := List.mem_append_right _ (List.mem_of_getElem? (i := 644) (by decide +kernel))
theorem k_fl_Mo_32 : Cond.fieldLink R_Mo 32 R_Mo "cells" "[I" ∈ lw_tbl := List.mem_append_right _ (List.mem_of_getElem? (i := 645) (by decide +kernel))
theorem k_fl_Mo_35 : Cond.fieldLink R_Mo 35 R_Mo "cell" "[I" ∈ lw_tbl := List.mem_append_right _ (List.mem_of_getElem? (i := 646) (by decide +kernel))
theorem k_fl_Mo_38 : Cond.fieldLink R_Mo 38 R_Mo "endOwner" "[I" ∈ lw_tbl := List.mem_append_right _ (List.mem_of_getElem? (i := 647) (by decide +kernel))
theorem k_fl_Mo_41 : Cond.fieldLink R_Mo 41 R_Mo "state" "[I" ∈ lw_tbl := List.mem_append_right _ (List.mem_of_getElem? (i := 648) (by decide +kernel))
theorem k_fl_Mo_44 : Cond.fieldLink R_Mo 44 R_Mo "waiting" "[I" ∈ lw_tbl := List.mem_append_right _ (List.mem_of_getElem? (i := 649) (by decide +kernel))
theorem k_fl_Mo_47 : Cond.fieldLink R_Mo 47 R_Mo "letter" "[I" ∈ lw_tbl := List.mem_append_right _ (List.mem_of_getElem? (i := 650) (by decide +kernel))
theorem k_fl_Mo_50 : Cond.fieldLink R_Mo 50 R_Mo "value" "[I" ∈ lw_tbl := List.mem_append_right _ (List.mem_of_getElem? (i := 651) (by decide +kernel))
theorem k_fl_Mo_53 : Cond.fieldLink R_Mo 53 R_Mo "toClose" "[I" ∈ lw_tbl := List.mem_append_right _ (List.mem_of_getElem? (i := 652) (by decide +kernel))
theorem k_fl_Mo_68 : Cond.fieldLink R_Mo 68 R_Mo "size" "I" ∈ lw_tbl := List.mem_append_right _ (List.mem_of_getElem? (i := 653) (by decide +kernel))
theorem k_fl_Mo_56 : Cond.fieldLink R_Mo 56 R_Mo "thrown" "I" ∈ lw_tbl := List.mem_append_right _ (List.mem_of_getElem? (i := 654) (by decide +kernel))
theorem k_fl_Mo_120 : Cond.fieldLink R_Mo 120 R_Mo "said" "I" ∈ lw_tbl := List.mem_append_right _ (List.mem_of_getElem? (i := 655) (by decide +kernel))
theorem k_fl_Mo_123 : Cond.fieldLink R_Mo 123 R_Mo "heard" "I" ∈ lw_tbl := List.mem_append_right _ (List.mem_of_getElem? (i := 656) (by decide +kernel))
theorem k_fl_Mo_91 : Cond.fieldLink R_Mo 91 R_Mo "dropped" "I" ∈ lw_tbl := List.mem_append_right _ (List.mem_of_getElem? (i := 657) (by decide +kernel))
theorem k_fl_Mo_101 : Cond.fieldLink R_Mo 101 R_Mo "killed" "I" ∈ lw_tbl := List.mem_append_right _ (List.mem_of_getElem? (i := 658) (by decide +kernel))
theorem k_fl_Mo_88 : Cond.fieldLink R_Mo 88 R_Mo "toCloseCount" "I" ∈ lw_tbl := List.mem_append_right _ (List.mem_of_getElem? (i := 659) (by decide +kernel))
theorem k_fl_Mo_85 : Cond.fieldLink R_Mo 85 R_Mo "cleared" "I" ∈ lw_tbl := List.mem_append_right _ (List.mem_of_getElem? (i := 660) (by decide +kernel))
theorem k_fl_Mo_82 : Cond.fieldLink R_Mo 82 R_Mo "next" "I" ∈ lw_tbl := List.mem_append_right _ (List.mem_of_getElem? (i := 661) (by decide +kernel))
theorem k_ml_La_81 : Cond.methodLink R_La 81 y_Mo_thrown ∈ lw_tbl := List.mem_append_right _ (List.mem_of_getElem? (i := 711) (by decide +kernel))
theorem k_im_Mo_thrown : Cond.instanceMethod y_Mo_thrown ∈ lw_tbl := List.mem_append_right _ (List.mem_of_getElem? (i := 712) (by decide +kernel))
theorem k_sl_Mo_Mo_thrown : Cond.selects R_Mo y_Mo_thrown y_Mo_thrown ∈ lw_tbl := List.mem_append_right _ (List.mem_of_getElem? (i := 713) (by decide +kernel))
theorem k_cd_Mo_thrown : Cond.code y_Mo_thrown prog_6_method_2_code 1 (some FieldType.int) ∈ lw_tbl := List.mem_append_right _ (List.mem_of_getElem? (i := 714) (by decide +kernel))
theorem k_ml_La_80 : Cond.methodLink R_La 80 y_Mo_type ∈ lw_tbl := List.mem_append_right _ (List.mem_of_getElem? (i := 715) (by decide +kernel))
theorem k_im_Mo_type : Cond.instanceMethod y_Mo_type ∈ lw_tbl := List.mem_append_right _ (List.mem_of_getElem? (i := 716) (by decide +kernel))
theorem k_sl_Mo_Mo_type : Cond.selects R_Mo y_Mo_type y_Mo_type ∈ lw_tbl := List.mem_append_right _ (List.mem_of_getElem? (i := 717) (by decide +kernel))
theorem k_cd_Mo_type : Cond.code y_Mo_type prog_6_method_6_code 7 (some FieldType.int) ∈ lw_tbl := List.mem_append_right _ (List.mem_of_getElem? (i := 718) (by decide +kernel))
theorem k_ml_Mo_60 : Cond.methodLink R_Mo 60 y_Mo_in ∈ lw_tbl := List.mem_append_right _ (List.mem_of_getElem? (i := 719) (by decide +kernel))
theorem k_st_Mo_in : Cond.static y_Mo_in ∈ lw_tbl := List.mem_append_right _ (List.mem_of_getElem? (i := 720) (by decide +kernel))
theorem k_cd_Mo_in : Cond.code y_Mo_in prog_6_method_3_code 3 (some FieldType.boolean) ∈ lw_tbl := List.mem_append_right _ (List.mem_of_getElem? (i := 721) (by decide +kernel))
theorem k_ml_Mo_64 : Cond.methodLink R_Mo 64 y_Mo_bad ∈ lw_tbl := List.mem_append_right _ (List.mem_of_getElem? (i := 722) (by decide +kernel))
theorem k_im_Mo_bad : Cond.instanceMethod y_Mo_bad ∈ lw_tbl := List.mem_append_right _ (List.mem_of_getElem? (i := 724) (by decide +kernel))
theorem k_cd_Mo_bad : Cond.code y_Mo_bad prog_6_method_4_code 2 (some FieldType.boolean) ∈ lw_tbl := List.mem_append_right _ (List.mem_of_getElem? (i := 725) (by decide +kernel))
theorem k_ml_Mo_71 : Cond.methodLink R_Mo 71 y_Mo_fail ∈ lw_tbl := List.mem_append_right _ (List.mem_of_getElem? (i := 726) (by decide +kernel))
theorem k_im_Mo_fail : Cond.instanceMethod y_Mo_fail ∈ lw_tbl := List.mem_append_right _ (List.mem_of_getElem? (i := 728) (by decide +kernel))
theorem k_cd_Mo_fail : Cond.code y_Mo_fail prog_6_method_5_code 2 (some FieldType.int) ∈ lw_tbl := List.mem_append_right _ (List.mem_of_getElem? (i := 729) (by decide +kernel))
theorem k_ml_La_87 : Cond.methodLink R_La 87 y_Mo_contract ∈ lw_tbl := List.mem_append_right _ (List.mem_of_getElem? (i := 730) (by decide +kernel))
theorem k_im_Mo_contract : Cond.instanceMethod y_Mo_contract ∈ lw_tbl := List.mem_append_right _ (List.mem_of_getElem? (i := 731) (by decide +kernel))
theorem k_sl_Mo_Mo_contract : Cond.selects R_Mo y_Mo_contract y_Mo_contract ∈ lw_tbl := List.mem_append_right _ (List.mem_of_getElem? (i := 732) (by decide +kernel))
theorem k_cd_Mo_contract : Cond.code y_Mo_contract prog_6_method_9_code 6 (some FieldType.int) ∈ lw_tbl := List.mem_append_right _ (List.mem_of_getElem? (i := 733) (by decide +kernel))
theorem k_ml_Mo_78 : Cond.methodLink R_Mo 78 y_Mo_readRules ∈ lw_tbl := List.mem_append_right _ (List.mem_of_getElem? (i := 734) (by decide +kernel))
theorem k_im_Mo_readRules : Cond.instanceMethod y_Mo_readRules ∈ lw_tbl := List.mem_append_right _ (List.mem_of_getElem? (i := 736) (by decide +kernel))
theorem k_cd_Mo_readRules : Cond.code y_Mo_readRules prog_6_method_8_code 6 (some FieldType.int) ∈ lw_tbl := List.mem_append_right _ (List.mem_of_getElem? (i := 737) (by decide +kernel))
theorem k_ml_Mo_75 : Cond.methodLink R_Mo 75 y_Mo_letterOf ∈ lw_tbl := List.mem_append_right _ (List.mem_of_getElem? (i := 738) (by decide +kernel))
theorem k_st_Mo_letterOf : Cond.static y_Mo_letterOf ∈ lw_tbl := List.mem_append_right _ (List.mem_of_getElem? (i := 739) (by decide +kernel))
theorem k_cd_Mo_letterOf : Cond.code y_Mo_letterOf prog_6_method_7_code 1 (some FieldType.int) ∈ lw_tbl := List.mem_append_right _ (List.mem_of_getElem? (i := 740) (by decide +kernel))
theorem k_ml_La_91 : Cond.methodLink R_La 91 y_Mo_start ∈ lw_tbl := List.mem_append_right _ (List.mem_of_getElem? (i := 741) (by decide +kernel))
theorem k_im_Mo_start : Cond.instanceMethod y_Mo_start ∈ lw_tbl := List.mem_append_right _ (List.mem_of_getElem? (i := 742) (by decide +kernel))
theorem k_sl_Mo_Mo_start : Cond.selects R_Mo y_Mo_start y_Mo_start ∈ lw_tbl := List.mem_append_right _ (List.mem_of_getElem? (i := 743) (by decide +kernel))
theorem k_cd_Mo_start : Cond.code y_Mo_start prog_6_method_14_code 2 (some FieldType.int) ∈ lw_tbl := List.mem_append_right _ (List.mem_of_getElem? (i := 744) (by decide +kernel))
theorem k_ml_La_94 : Cond.methodLink R_La 94 y_Mo_kill ∈ lw_tbl := List.mem_append_right _ (List.mem_of_getElem? (i := 745) (by decide +kernel))
theorem k_im_Mo_kill : Cond.instanceMethod y_Mo_kill ∈ lw_tbl := List.mem_append_right _ (List.mem_of_getElem? (i := 746) (by decide +kernel))
theorem k_sl_Mo_Mo_kill : Cond.selects R_Mo y_Mo_kill y_Mo_kill ∈ lw_tbl := List.mem_append_right _ (List.mem_of_getElem? (i := 747) (by decide +kernel))
theorem k_cd_Mo_kill : Cond.code y_Mo_kill prog_6_method_15_code 3 (some FieldType.int) ∈ lw_tbl := List.mem_append_right _ (List.mem_of_getElem? (i := 748) (by decide +kernel))
theorem k_ml_Mo_94 : Cond.methodLink R_Mo 94 y_Mo_freeBlock ∈ lw_tbl := List.mem_append_right _ (List.mem_of_getElem? (i := 749) (by decide +kernel))
theorem k_im_Mo_freeBlock : Cond.instanceMethod y_Mo_freeBlock ∈ lw_tbl := List.mem_append_right _ (List.mem_of_getElem? (i := 751) (by decide +kernel))
theorem k_cd_Mo_freeBlock : Cond.code y_Mo_freeBlock prog_6_method_11_code 2 none ∈ lw_tbl := List.mem_append_right _ (List.mem_of_getElem? (i := 752) (by decide +kernel))
theorem k_ml_Mo_98 : Cond.methodLink R_Mo 98 y_Mo_closeEnd ∈ lw_tbl := List.mem_append_right _ (List.mem_of_getElem? (i := 753) (by decide +kernel))
theorem k_im_Mo_closeEnd : Cond.instanceMethod y_Mo_closeEnd ∈ lw_tbl := List.mem_append_right _ (List.mem_of_getElem? (i := 755) (by decide +kernel))
theorem k_cd_Mo_closeEnd : Cond.code y_Mo_closeEnd prog_6_method_12_code 2 none ∈ lw_tbl := List.mem_append_right _ (List.mem_of_getElem? (i := 756) (by decide +kernel))
theorem k_ml_Mo_104 : Cond.methodLink R_Mo 104 y_Mo_clear ∈ lw_tbl := List.mem_append_right _ (List.mem_of_getElem? (i := 757) (by decide +kernel))
theorem k_im_Mo_clear : Cond.instanceMethod y_Mo_clear ∈ lw_tbl := List.mem_append_right _ (List.mem_of_getElem? (i := 759) (by decide +kernel))
theorem k_cd_Mo_clear : Cond.code y_Mo_clear prog_6_method_13_code 4 none ∈ lw_tbl := List.mem_append_right _ (List.mem_of_getElem? (i := 760) (by decide +kernel))
theorem k_ml_La_98 : Cond.methodLink R_La 98 y_Mo_block ∈ lw_tbl := List.mem_append_right _ (List.mem_of_getElem? (i := 761) (by decide +kernel))
theorem k_im_Mo_block : Cond.instanceMethod y_Mo_block ∈ lw_tbl := List.mem_append_right _ (List.mem_of_getElem? (i := 762) (by decide +kernel))
theorem k_sl_Mo_Mo_block : Cond.selects R_Mo y_Mo_block y_Mo_block ∈ lw_tbl := List.mem_append_right _ (List.mem_of_getElem? (i := 763) (by decide +kernel))
theorem k_cd_Mo_block : Cond.code y_Mo_block prog_6_method_17_code 5 (some FieldType.int) ∈ lw_tbl := List.mem_append_right _ (List.mem_of_getElem? (i := 764) (by decide +kernel))
theorem k_ml_Mo_107 : Cond.methodLink R_Mo 107 y_Mo_allCells ∈ lw_tbl := List.mem_append_right _ (List.mem_of_getElem? (i := 765) (by decide +kernel))
theorem k_im_Mo_allCells : Cond.instanceMethod y_Mo_allCells ∈ lw_tbl := List.mem_append_right _ (List.mem_of_getElem? (i := 767) (by decide +kernel))
theorem k_cd_Mo_allCells : Cond.code y_Mo_allCells prog_6_method_16_code 3 (some FieldType.int) ∈ lw_tbl := List.mem_append_right _ (List.mem_of_getElem? (i := 768) (by decide +kernel))
theorem k_ml_La_102 : Cond.methodLink R_La 102 y_Mo_free ∈ lw_tbl := List.mem_append_right _ (List.mem_of_getElem? (i := 769) (by decide +kernel))
theorem k_im_Mo_free : Cond.instanceMethod y_Mo_free ∈ lw_tbl := List.mem_append_right _ (List.mem_of_getElem? (i := 770) (by decide +kernel))
theorem k_sl_Mo_Mo_free : Cond.selects R_Mo y_Mo_free y_Mo_free ∈ lw_tbl := List.mem_append_right _ (List.mem_of_getElem? (i := 771) (by decide +kernel))
theorem k_cd_Mo_free : Cond.code y_Mo_free prog_6_method_19_code 3 none ∈ lw_tbl := List.mem_append_right _ (List.mem_of_getElem? (i := 772) (by decide +kernel))
theorem k_ml_Mo_110 : Cond.methodLink R_Mo 110 y_Mo_notYours ∈ lw_tbl := List.mem_append_right _ (List.mem_of_getElem? (i := 773) (by decide +kernel))
theorem k_im_Mo_notYours : Cond.instanceMethod y_Mo_notYours ∈ lw_tbl := List.mem_append_right _ (List.mem_of_getElem? (i := 775) (by decide +kernel))
theorem k_cd_Mo_notYours : Cond.code y_Mo_notYours prog_6_method_18_code 3 (some FieldType.boolean) ∈ lw_tbl := List.mem_append_right _ (List.mem_of_getElem? (i := 776) (by decide +kernel))
theorem k_ml_La_106 : Cond.methodLink R_La 106 y_Mo_read ∈ lw_tbl := List.mem_append_right _ (List.mem_of_getElem? (i := 777) (by decide +kernel))
theorem k_im_Mo_read : Cond.instanceMethod y_Mo_read ∈ lw_tbl := List.mem_append_right _ (List.mem_of_getElem? (i := 778) (by decide +kernel))
theorem k_sl_Mo_Mo_read : Cond.selects R_Mo y_Mo_read y_Mo_read ∈ lw_tbl := List.mem_append_right _ (List.mem_of_getElem? (i := 779) (by decide +kernel))
theorem k_cd_Mo_read : Cond.code y_Mo_read prog_6_method_20_code 4 (some FieldType.int) ∈ lw_tbl := List.mem_append_right _ (List.mem_of_getElem? (i := 780) (by decide +kernel))
theorem k_ml_La_110 : Cond.methodLink R_La 110 y_Mo_write ∈ lw_tbl := List.mem_append_right _ (List.mem_of_getElem? (i := 781) (by decide +kernel))
theorem k_im_Mo_write : Cond.instanceMethod y_Mo_write ∈ lw_tbl := List.mem_append_right _ (List.mem_of_getElem? (i := 782) (by decide +kernel))
theorem k_sl_Mo_Mo_write : Cond.selects R_Mo y_Mo_write y_Mo_write ∈ lw_tbl := List.mem_append_right _ (List.mem_of_getElem? (i := 783) (by decide +kernel))
theorem k_cd_Mo_write : Cond.code y_Mo_write prog_6_method_21_code 5 none ∈ lw_tbl := List.mem_append_right _ (List.mem_of_getElem? (i := 784) (by decide +kernel))
theorem k_ml_La_113 : Cond.methodLink R_La 113 y_Mo_open ∈ lw_tbl := List.mem_append_right _ (List.mem_of_getElem? (i := 785) (by decide +kernel))
theorem k_im_Mo_open : Cond.instanceMethod y_Mo_open ∈ lw_tbl := List.mem_append_right _ (List.mem_of_getElem? (i := 786) (by decide +kernel))
theorem k_sl_Mo_Mo_open : Cond.selects R_Mo y_Mo_open y_Mo_open ∈ lw_tbl := List.mem_append_right _ (List.mem_of_getElem? (i := 787) (by decide +kernel))
theorem k_cd_Mo_open : Cond.code y_Mo_open prog_6_method_22_code 6 (some FieldType.int) ∈ lw_tbl := List.mem_append_right _ (List.mem_of_getElem? (i := 788) (by decide +kernel))
theorem k_ml_La_116 : Cond.methodLink R_La 116 y_Mo_say ∈ lw_tbl := List.mem_append_right _ (List.mem_of_getElem? (i := 789) (by decide +kernel))
theorem k_im_Mo_say : Cond.instanceMethod y_Mo_say ∈ lw_tbl := List.mem_append_right _ (List.mem_of_getElem? (i := 790) (by decide +kernel))
theorem k_sl_Mo_Mo_say : Cond.selects R_Mo y_Mo_say y_Mo_say ∈ lw_tbl := List.mem_append_right _ (List.mem_of_getElem? (i := 791) (by decide +kernel))
theorem k_cd_Mo_say : Cond.code y_Mo_say prog_6_method_24_code 7 none ∈ lw_tbl := List.mem_append_right _ (List.mem_of_getElem? (i := 792) (by decide +kernel))
theorem k_ml_Mo_114 : Cond.methodLink R_Mo 114 y_Mo_notYourEnd ∈ lw_tbl := List.mem_append_right _ (List.mem_of_getElem? (i := 793) (by decide +kernel))
theorem k_im_Mo_notYourEnd : Cond.instanceMethod y_Mo_notYourEnd ∈ lw_tbl := List.mem_append_right _ (List.mem_of_getElem? (i := 795) (by decide +kernel))
theorem k_cd_Mo_notYourEnd : Cond.code y_Mo_notYourEnd prog_6_method_23_code 3 (some FieldType.boolean) ∈ lw_tbl := List.mem_append_right _ (List.mem_of_getElem? (i := 796) (by decide +kernel))
theorem k_ml_Mo_117 : Cond.methodLink R_Mo 117 y_Mo_lets ∈ lw_tbl := List.mem_append_right _ (List.mem_of_getElem? (i := 797) (by decide +kernel))
theorem k_im_Mo_lets : Cond.instanceMethod y_Mo_lets ∈ lw_tbl := List.mem_append_right _ (List.mem_of_getElem? (i := 799) (by decide +kernel))
theorem k_cd_Mo_lets : Cond.code y_Mo_lets prog_6_method_10_code 7 (some FieldType.boolean) ∈ lw_tbl := List.mem_append_right _ (List.mem_of_getElem? (i := 800) (by decide +kernel))
theorem k_ml_La_119 : Cond.methodLink R_La 119 y_Mo_hear ∈ lw_tbl := List.mem_append_right _ (List.mem_of_getElem? (i := 801) (by decide +kernel))
theorem k_im_Mo_hear : Cond.instanceMethod y_Mo_hear ∈ lw_tbl := List.mem_append_right _ (List.mem_of_getElem? (i := 802) (by decide +kernel))
theorem k_sl_Mo_Mo_hear : Cond.selects R_Mo y_Mo_hear y_Mo_hear ∈ lw_tbl := List.mem_append_right _ (List.mem_of_getElem? (i := 803) (by decide +kernel))
theorem k_cd_Mo_hear : Cond.code y_Mo_hear prog_6_method_25_code 6 (some FieldType.int) ∈ lw_tbl := List.mem_append_right _ (List.mem_of_getElem? (i := 804) (by decide +kernel))
theorem k_ml_La_122 : Cond.methodLink R_La 122 y_Mo_choose ∈ lw_tbl := List.mem_append_right _ (List.mem_of_getElem? (i := 805) (by decide +kernel))
theorem k_im_Mo_choose : Cond.instanceMethod y_Mo_choose ∈ lw_tbl := List.mem_append_right _ (List.mem_of_getElem? (i := 806) (by decide +kernel))
theorem k_sl_Mo_Mo_choose : Cond.selects R_Mo y_Mo_choose y_Mo_choose ∈ lw_tbl := List.mem_append_right _ (List.mem_of_getElem? (i := 807) (by decide +kernel))
theorem k_cd_Mo_choose : Cond.code y_Mo_choose prog_6_method_26_code 4 (some FieldType.int) ∈ lw_tbl := List.mem_append_right _ (List.mem_of_getElem? (i := 808) (by decide +kernel))
theorem k_ml_La_125 : Cond.methodLink R_La 125 y_Mo_close ∈ lw_tbl := List.mem_append_right _ (List.mem_of_getElem? (i := 809) (by decide +kernel))
theorem k_im_Mo_close : Cond.instanceMethod y_Mo_close ∈ lw_tbl := List.mem_append_right _ (List.mem_of_getElem? (i := 810) (by decide +kernel))
theorem k_sl_Mo_Mo_close : Cond.selects R_Mo y_Mo_close y_Mo_close ∈ lw_tbl := List.mem_append_right _ (List.mem_of_getElem? (i := 811) (by decide +kernel))
theorem k_cd_Mo_close : Cond.code y_Mo_close prog_6_method_27_code 3 (some FieldType.int) ∈ lw_tbl := List.mem_append_right _ (List.mem_of_getElem? (i := 812) (by decide +kernel))
theorem k_ml_La_128 : Cond.methodLink R_La 128 y_Mo_ofBlock ∈ lw_tbl := List.mem_append_right _ (List.mem_of_getElem? (i := 813) (by decide +kernel))
theorem k_im_Mo_ofBlock : Cond.instanceMethod y_Mo_ofBlock ∈ lw_tbl := List.mem_append_right _ (List.mem_of_getElem? (i := 814) (by decide +kernel))
theorem k_sl_Mo_Mo_ofBlock : Cond.selects R_Mo y_Mo_ofBlock y_Mo_ofBlock ∈ lw_tbl := List.mem_append_right _ (List.mem_of_getElem? (i := 815) (by decide +kernel))
theorem k_cd_Mo_ofBlock : Cond.code y_Mo_ofBlock prog_6_method_28_code 3 (some FieldType.int) ∈ lw_tbl := List.mem_append_right _ (List.mem_of_getElem? (i := 816) (by decide +kernel))
theorem k_ml_La_131 : Cond.methodLink R_La 131 y_Mo_ofEnd ∈ lw_tbl := List.mem_append_right _ (List.mem_of_getElem? (i := 817) (by decide +kernel))
theorem k_im_Mo_ofEnd : Cond.instanceMethod y_Mo_ofEnd ∈ lw_tbl := List.mem_append_right _ (List.mem_of_getElem? (i := 818) (by decide +kernel))
theorem k_sl_Mo_Mo_ofEnd : Cond.selects R_Mo y_Mo_ofEnd y_Mo_ofEnd ∈ lw_tbl := List.mem_append_right _ (List.mem_of_getElem? (i := 819) (by decide +kernel))
theorem k_cd_Mo_ofEnd : Cond.code y_Mo_ofEnd prog_6_method_29_code 3 (some FieldType.int) ∈ lw_tbl := List.mem_append_right _ (List.mem_of_getElem? (i := 820) (by decide +kernel))
theorem k_ml_La_135 : Cond.methodLink R_La 135 y_Mo_count ∈ lw_tbl := List.mem_append_right _ (List.mem_of_getElem? (i := 821) (by decide +kernel))
theorem k_im_Mo_count : Cond.instanceMethod y_Mo_count ∈ lw_tbl := List.mem_append_right _ (List.mem_of_getElem? (i := 822) (by decide +kernel))
theorem k_sl_Mo_Mo_count : Cond.selects R_Mo y_Mo_count y_Mo_count ∈ lw_tbl := List.mem_append_right _ (List.mem_of_getElem? (i := 823) (by decide +kernel))
theorem k_cd_Mo_count : Cond.code y_Mo_count prog_6_method_30_code 4 (some FieldType.int) ∈ lw_tbl := List.mem_append_right _ (List.mem_of_getElem? (i := 824) (by decide +kernel))
theorem k_kl_La_73 : Cond.constantLong R_La 73 (4294967295) ∈ lw_tbl := List.mem_append_right _ (List.mem_of_getElem? (i := 825) (by decide +kernel))
theorem k_ac_long : Cond.arrayClass FieldType.long ∈ lw_tbl := List.mem_append_right _ (List.mem_of_getElem? (i := 826) (by decide +kernel))
theorem k_fl_String_15 : Cond.fieldLink "java/lang/String" 15 "java/lang/String" "coder" "B" ∈ lw_tbl := List.mem_append_right _ (List.mem_of_getElem? (i := 828) (by decide +kernel))
theorem k_fl_String_9 : Cond.fieldLink "java/lang/String" 9 "java/lang/String" "value" "[B" ∈ lw_tbl := List.mem_append_right _ (List.mem_of_getElem? (i := 829) (by decide +kernel))
theorem k_sl_Sy_Sy_processesAlive : Cond.selects y_Sy_processesAlive.cls y_Sy_processesAlive y_Sy_processesAlive ∈ lw_tbl := List.mem_append_left _ (List.mem_of_getElem? (i := 0) (by decide +kernel))
theorem k_sl_Sy_Sy_blocksInUse : Cond.selects y_Sy_blocksInUse.cls y_Sy_blocksInUse y_Sy_blocksInUse ∈ lw_tbl := List.mem_append_left _ (List.mem_of_getElem? (i := 1) (by decide +kernel))
theorem k_sl_Sy_Sy_cellsInUse : Cond.selects y_Sy_cellsInUse.cls y_Sy_cellsInUse y_Sy_cellsInUse ∈ lw_tbl := List.mem_append_left _ (List.mem_of_getElem? (i := 2) (by decide +kernel))
theorem k_sl_Sy_Sy_endsOpen : Cond.selects y_Sy_endsOpen.cls y_Sy_endsOpen y_Sy_endsOpen ∈ lw_tbl := List.mem_append_left _ (List.mem_of_getElem? (i := 3) (by decide +kernel))
theorem k_sl_Sy_Sy_messagesWaiting : Cond.selects y_Sy_messagesWaiting.cls y_Sy_messagesWaiting y_Sy_messagesWaiting ∈ lw_tbl := List.mem_append_left _ (List.mem_of_getElem? (i := 4) (by decide +kernel))
theorem k_sl_Sy_Sy_contractsMade : Cond.selects y_Sy_contractsMade.cls y_Sy_contractsMade y_Sy_contractsMade ∈ lw_tbl := List.mem_append_left _ (List.mem_of_getElem? (i := 5) (by decide +kernel))
theorem k_sl_Sy_Sy_draftFromText : Cond.selects y_Sy_draftFromText.cls y_Sy_draftFromText y_Sy_draftFromText ∈ lw_tbl := List.mem_append_left _ (List.mem_of_getElem? (i := 7) (by decide +kernel))
theorem k_sl_Sy_Sy_draftRuleAt : Cond.selects y_Sy_draftRuleAt.cls y_Sy_draftRuleAt y_Sy_draftRuleAt ∈ lw_tbl := List.mem_append_left _ (List.mem_of_getElem? (i := 8) (by decide +kernel))
theorem k_sl_Co_Co_ruleFor : Cond.selects y_Co_ruleFor.cls y_Co_ruleFor y_Co_ruleFor ∈ lw_tbl := List.mem_append_left _ (List.mem_of_getElem? (i := 9) (by decide +kernel))
theorem k_sl_Sy_Sy_needAlive : Cond.selects y_Sy_needAlive.cls y_Sy_needAlive y_Sy_needAlive ∈ lw_tbl := List.mem_append_left _ (List.mem_of_getElem? (i := 10) (by decide +kernel))
theorem k_sl_Sy_Sy_closeEnd : Cond.selects y_Sy_closeEnd.cls y_Sy_closeEnd y_Sy_closeEnd ∈ lw_tbl := List.mem_append_left _ (List.mem_of_getElem? (i := 11) (by decide +kernel))
theorem k_sl_Sy_Sy_dropMessage : Cond.selects y_Sy_dropMessage.cls y_Sy_dropMessage y_Sy_dropMessage ∈ lw_tbl := List.mem_append_left _ (List.mem_of_getElem? (i := 12) (by decide +kernel))
theorem k_sl_Sy_Sy_leastFreeBlock : Cond.selects y_Sy_leastFreeBlock.cls y_Sy_leastFreeBlock y_Sy_leastFreeBlock ∈ lw_tbl := List.mem_append_left _ (List.mem_of_getElem? (i := 13) (by decide +kernel))
theorem k_sl_Sy_Sy_needOwnBlock : Cond.selects y_Sy_needOwnBlock.cls y_Sy_needOwnBlock y_Sy_needOwnBlock ∈ lw_tbl := List.mem_append_left _ (List.mem_of_getElem? (i := 14) (by decide +kernel))
theorem k_sl_Sy_Sy_needCell : Cond.selects y_Sy_needCell.cls y_Sy_needCell y_Sy_needCell ∈ lw_tbl := List.mem_append_left _ (List.mem_of_getElem? (i := 15) (by decide +kernel))
theorem k_sl_Sy_Sy_leastFreeChannel : Cond.selects y_Sy_leastFreeChannel.cls y_Sy_leastFreeChannel y_Sy_leastFreeChannel ∈ lw_tbl := List.mem_append_left _ (List.mem_of_getElem? (i := 16) (by decide +kernel))
theorem k_sl_Sy_Sy_needOwnEnd : Cond.selects y_Sy_needOwnEnd.cls y_Sy_needOwnEnd y_Sy_needOwnEnd ∈ lw_tbl := List.mem_append_left _ (List.mem_of_getElem? (i := 17) (by decide +kernel))
theorem k_sl_Sy_Sy_needOwnLoad : Cond.selects y_Sy_needOwnLoad.cls y_Sy_needOwnLoad y_Sy_needOwnLoad ∈ lw_tbl := List.mem_append_left _ (List.mem_of_getElem? (i := 18) (by decide +kernel))
theorem k_sl_Sy_Sy_ownsBlock : Cond.selects y_Sy_ownsBlock.cls y_Sy_ownsBlock y_Sy_ownsBlock ∈ lw_tbl := List.mem_append_left _ (List.mem_of_getElem? (i := 19) (by decide +kernel))
theorem k_sl_Sy_Sy_ownsEndOfOtherChannel : Cond.selects y_Sy_ownsEndOfOtherChannel.cls y_Sy_ownsEndOfOtherChannel y_Sy_ownsEndOfOtherChannel ∈ lw_tbl := List.mem_append_left _ (List.mem_of_getElem? (i := 20) (by decide +kernel))
theorem k_sl_Sy_Sy_giveLoad : Cond.selects y_Sy_giveLoad.cls y_Sy_giveLoad y_Sy_giveLoad ∈ lw_tbl := List.mem_append_left _ (List.mem_of_getElem? (i := 21) (by decide +kernel))
theorem k_sl_Mo_Mo_bad : Cond.selects y_Mo_bad.cls y_Mo_bad y_Mo_bad ∈ lw_tbl := List.mem_append_left _ (List.mem_of_getElem? (i := 22) (by decide +kernel))
theorem k_sl_Mo_Mo_fail : Cond.selects y_Mo_fail.cls y_Mo_fail y_Mo_fail ∈ lw_tbl := List.mem_append_left _ (List.mem_of_getElem? (i := 23) (by decide +kernel))
theorem k_sl_Mo_Mo_readRules : Cond.selects y_Mo_readRules.cls y_Mo_readRules y_Mo_readRules ∈ lw_tbl := List.mem_append_left _ (List.mem_of_getElem? (i := 24) (by decide +kernel))
theorem k_sl_Mo_Mo_freeBlock : Cond.selects y_Mo_freeBlock.cls y_Mo_freeBlock y_Mo_freeBlock ∈ lw_tbl := List.mem_append_left _ (List.mem_of_getElem? (i := 25) (by decide +kernel))
theorem k_sl_Mo_Mo_closeEnd : Cond.selects y_Mo_closeEnd.cls y_Mo_closeEnd y_Mo_closeEnd ∈ lw_tbl := List.mem_append_left _ (List.mem_of_getElem? (i := 26) (by decide +kernel))
theorem k_sl_Mo_Mo_clear : Cond.selects y_Mo_clear.cls y_Mo_clear y_Mo_clear ∈ lw_tbl := List.mem_append_left _ (List.mem_of_getElem? (i := 27) (by decide +kernel))
theorem k_sl_Mo_Mo_allCells : Cond.selects y_Mo_allCells.cls y_Mo_allCells y_Mo_allCells ∈ lw_tbl := List.mem_append_left _ (List.mem_of_getElem? (i := 28) (by decide +kernel))
theorem k_sl_Mo_Mo_notYours : Cond.selects y_Mo_notYours.cls y_Mo_notYours y_Mo_notYours ∈ lw_tbl := List.mem_append_left _ (List.mem_of_getElem? (i := 29) (by decide +kernel))
theorem k_sl_Mo_Mo_notYourEnd : Cond.selects y_Mo_notYourEnd.cls y_Mo_notYourEnd y_Mo_notYourEnd ∈ lw_tbl := List.mem_append_left _ (List.mem_of_getElem? (i := 30) (by decide +kernel))
theorem k_sl_Mo_Mo_lets : Cond.selects y_Mo_lets.cls y_Mo_lets y_Mo_lets ∈ lw_tbl := List.mem_append_left _ (List.mem_of_getElem? (i := 31) (by decide +kernel))
theorem i_Sy : ∀ w ∈ u_ws R_Sy F_Sy 12, w ∈ lw_tbl := by decide +kernel
theorem i_Co : ∀ w ∈ u_ws R_Co F_Co 5, w ∈ lw_tbl := by decide +kernel
theorem i_Bl : ∀ w ∈ u_ws R_Bl F_Bl 3, w ∈ lw_tbl := by decide +kernel
theorem i_En : ∀ w ∈ u_ws R_En F_En 5, w ∈ lw_tbl := by decide +kernel
theorem i_Mo : ∀ w ∈ u_ws R_Mo F_Mo 24, w ∈ lw_tbl := by decide +kernel
end
section
theorem d_Bl_init_0 : decode b_Bl_init 0 = .ok (.aload_n 0, 1) := by decide +kernel
theorem d_Bl_init_1 : decode b_Bl_init 1 = .ok (.invokespecial 3, 3) := by decide +kernel
theorem d_Bl_init_4 : decode b_Bl_init 4 = .ok (.aload_n 0, 1) := by decide +kernel
theorem d_Bl_init_5 : decode b_Bl_init 5 = .ok (.bipush 8, 2) := by decide +kernel
theorem d_Bl_init_7 : decode b_Bl_init 7 = .ok (.newarray .int, 2) := by decide +kernel
theorem d_Bl_init_9 : decode b_Bl_init 9 = .ok (.putfield 9, 3) := by decide +kernel
theorem d_Bl_init_12 : decode b_Bl_init 12 = .ok (.aload_n 0, 1) := by decide +kernel
theorem d_Bl_init_13 : decode b_Bl_init 13 = .ok (.iconst (-1), 1) := by decide +kernel
theorem d_Bl_init_14 : decode b_Bl_init 14 = .ok (.putfield 15, 3) := by decide +kernel
theorem d_Bl_init_17 : decode b_Bl_init 17 = .ok (.return_, 1) := by decide +kernel
theorem d_Bl_isFree_0 : decode b_Bl_isFree 0 = .ok (.aload_n 0, 1) := by decide +kernel
theorem d_Bl_isFree_1 : decode b_Bl_isFree 1 = .ok (.getfield 15, 3) := by decide +kernel
theorem d_Bl_isFree_4 : decode b_Bl_isFree 4 = .ok (.iconst (-1), 1) := by decide +kernel
theorem d_Bl_isFree_5 : decode b_Bl_isFree 5 = .ok (.if_icmp .ne 7, 3) := by decide +kernel
theorem d_Bl_isFree_8 : decode b_Bl_isFree 8 = .ok (.iconst 1, 1) := by decide +kernel
theorem d_Bl_isFree_9 : decode b_Bl_isFree 9 = .ok (.goto 4, 3) := by decide +kernel
theorem d_Bl_isFree_12 : decode b_Bl_isFree 12 = .ok (.iconst 0, 1) := by decide +kernel
theorem d_Bl_isFree_13 : decode b_Bl_isFree 13 = .ok (.ireturn, 1) := by decide +kernel
theorem d_Bl_handOut_0 : decode b_Bl_handOut 0 = .ok (.aload_n 0, 1) := by decide +kernel
theorem d_Bl_handOut_1 : decode b_Bl_handOut 1 = .ok (.iload_n 1, 1) := by decide +kernel
theorem d_Bl_handOut_2 : decode b_Bl_handOut 2 = .ok (.putfield 15, 3) := by decide +kernel
theorem d_Bl_handOut_5 : decode b_Bl_handOut 5 = .ok (.aload_n 0, 1) := by decide +kernel
theorem d_Bl_handOut_6 : decode b_Bl_handOut 6 = .ok (.iload_n 2, 1) := by decide +kernel
theorem d_Bl_handOut_7 : decode b_Bl_handOut 7 = .ok (.putfield 19, 3) := by decide +kernel
theorem d_Bl_handOut_10 : decode b_Bl_handOut 10 = .ok (.aload_n 0, 1) := by decide +kernel
theorem d_Bl_handOut_11 : decode b_Bl_handOut 11 = .ok (.getfield 9, 3) := by decide +kernel
theorem d_Bl_handOut_14 : decode b_Bl_handOut 14 = .ok (.iconst 0, 1) := by decide +kernel
theorem d_Bl_handOut_15 : decode b_Bl_handOut 15 = .ok (.invokestatic 22, 3) := by decide +kernel
theorem d_Bl_handOut_18 : decode b_Bl_handOut 18 = .ok (.return_, 1) := by decide +kernel
theorem d_Bl_giveBack_0 : decode b_Bl_giveBack 0 = .ok (.aload_n 0, 1) := by decide +kernel
theorem d_Bl_giveBack_1 : decode b_Bl_giveBack 1 = .ok (.iconst (-1), 1) := by decide +kernel
theorem d_Bl_giveBack_2 : decode b_Bl_giveBack 2 = .ok (.putfield 15, 3) := by decide +kernel
theorem d_Bl_giveBack_5 : decode b_Bl_giveBack 5 = .ok (.aload_n 0, 1) := by decide +kernel
theorem d_Bl_giveBack_6 : decode b_Bl_giveBack 6 = .ok (.iconst 0, 1) := by decide +kernel
theorem d_Bl_giveBack_7 : decode b_Bl_giveBack 7 = .ok (.putfield 19, 3) := by decide +kernel
theorem d_Bl_giveBack_10 : decode b_Bl_giveBack 10 = .ok (.return_, 1) := by decide +kernel
end
section
theorem d_Co_init_0 : decode b_Co_init 0 = .ok (.aload_n 0, 1) := by decide +kernel
theorem d_Co_init_1 : decode b_Co_init 1 = .ok (.invokespecial 3, 3) := by decide +kernel
theorem d_Co_init_4 : decode b_Co_init 4 = .ok (.aload_n 0, 1) := by decide +kernel
theorem d_Co_init_5 : decode b_Co_init 5 = .ok (.bipush 9, 2) := by decide +kernel
theorem d_Co_init_7 : decode b_Co_init 7 = .ok (.newarray .int, 2) := by decide +kernel
theorem d_Co_init_9 : decode b_Co_init 9 = .ok (.putfield 9, 3) := by decide +kernel
theorem d_Co_init_12 : decode b_Co_init 12 = .ok (.aload_n 0, 1) := by decide +kernel
theorem d_Co_init_13 : decode b_Co_init 13 = .ok (.bipush 9, 2) := by decide +kernel
theorem d_Co_init_15 : decode b_Co_init 15 = .ok (.newarray .int, 2) := by decide +kernel
theorem d_Co_init_17 : decode b_Co_init 17 = .ok (.putfield 15, 3) := by decide +kernel
theorem d_Co_init_20 : decode b_Co_init 20 = .ok (.aload_n 0, 1) := by decide +kernel
theorem d_Co_init_21 : decode b_Co_init 21 = .ok (.bipush 9, 2) := by decide +kernel
theorem d_Co_init_23 : decode b_Co_init 23 = .ok (.newarray .int, 2) := by decide +kernel
theorem d_Co_init_25 : decode b_Co_init 25 = .ok (.putfield 18, 3) := by decide +kernel
theorem d_Co_init_28 : decode b_Co_init 28 = .ok (.aload_n 0, 1) := by decide +kernel
theorem d_Co_init_29 : decode b_Co_init 29 = .ok (.bipush 9, 2) := by decide +kernel
theorem d_Co_init_31 : decode b_Co_init 31 = .ok (.newarray .int, 2) := by decide +kernel
theorem d_Co_init_33 : decode b_Co_init 33 = .ok (.putfield 21, 3) := by decide +kernel
theorem d_Co_init_36 : decode b_Co_init 36 = .ok (.return_, 1) := by decide +kernel
theorem d_Co_isNone_0 : decode b_Co_isNone 0 = .ok (.aload_n 0, 1) := by decide +kernel
theorem d_Co_isNone_1 : decode b_Co_isNone 1 = .ok (.getfield 24, 3) := by decide +kernel
theorem d_Co_isNone_4 : decode b_Co_isNone 4 = .ok (.ifCond .ne 7, 3) := by decide +kernel
theorem d_Co_isNone_7 : decode b_Co_isNone 7 = .ok (.iconst 1, 1) := by decide +kernel
theorem d_Co_isNone_8 : decode b_Co_isNone 8 = .ok (.goto 4, 3) := by decide +kernel
theorem d_Co_isNone_11 : decode b_Co_isNone 11 = .ok (.iconst 0, 1) := by decide +kernel
theorem d_Co_isNone_12 : decode b_Co_isNone 12 = .ok (.ireturn, 1) := by decide +kernel
theorem d_Co_clear_0 : decode b_Co_clear 0 = .ok (.aload_n 0, 1) := by decide +kernel
theorem d_Co_clear_1 : decode b_Co_clear 1 = .ok (.iconst 0, 1) := by decide +kernel
theorem d_Co_clear_2 : decode b_Co_clear 2 = .ok (.putfield 24, 3) := by decide +kernel
theorem d_Co_clear_5 : decode b_Co_clear 5 = .ok (.return_, 1) := by decide +kernel
theorem d_Co_addRule_0 : decode b_Co_addRule 0 = .ok (.aload_n 0, 1) := by decide +kernel
theorem d_Co_addRule_1 : decode b_Co_addRule 1 = .ok (.getfield 24, 3) := by decide +kernel
theorem d_Co_addRule_4 : decode b_Co_addRule 4 = .ok (.bipush 9, 2) := by decide +kernel
theorem d_Co_addRule_6 : decode b_Co_addRule 6 = .ok (.if_icmp .ge 16, 3) := by decide +kernel
theorem d_Co_addRule_9 : decode b_Co_addRule 9 = .ok (.aload_n 0, 1) := by decide +kernel
theorem d_Co_addRule_10 : decode b_Co_addRule 10 = .ok (.iload_n 1, 1) := by decide +kernel
theorem d_Co_addRule_11 : decode b_Co_addRule 11 = .ok (.iload_n 2, 1) := by decide +kernel
theorem d_Co_addRule_12 : decode b_Co_addRule 12 = .ok (.invokevirtual 28, 3) := by decide +kernel
theorem d_Co_addRule_15 : decode b_Co_addRule 15 = .ok (.aload_n 0, 1) := by decide +kernel
theorem d_Co_addRule_16 : decode b_Co_addRule 16 = .ok (.getfield 24, 3) := by decide +kernel
theorem d_Co_addRule_19 : decode b_Co_addRule 19 = .ok (.if_icmp .ge 5, 3) := by decide +kernel
theorem d_Co_addRule_22 : decode b_Co_addRule 22 = .ok (.iconst 0, 1) := by decide +kernel
theorem d_Co_addRule_23 : decode b_Co_addRule 23 = .ok (.ireturn, 1) := by decide +kernel
theorem d_Co_addRule_24 : decode b_Co_addRule 24 = .ok (.aload_n 0, 1) := by decide +kernel
theorem d_Co_addRule_25 : decode b_Co_addRule 25 = .ok (.getfield 9, 3) := by decide +kernel
theorem d_Co_addRule_28 : decode b_Co_addRule 28 = .ok (.aload_n 0, 1) := by decide +kernel
theorem d_Co_addRule_29 : decode b_Co_addRule 29 = .ok (.getfield 24, 3) := by decide +kernel
theorem d_Co_addRule_32 : decode b_Co_addRule 32 = .ok (.iload_n 1, 1) := by decide +kernel
theorem d_Co_addRule_33 : decode b_Co_addRule 33 = .ok (.iastore, 1) := by decide +kernel
theorem d_Co_addRule_34 : decode b_Co_addRule 34 = .ok (.aload_n 0, 1) := by decide +kernel
theorem d_Co_addRule_35 : decode b_Co_addRule 35 = .ok (.getfield 15, 3) := by decide +kernel
theorem d_Co_addRule_38 : decode b_Co_addRule 38 = .ok (.aload_n 0, 1) := by decide +kernel
theorem d_Co_addRule_39 : decode b_Co_addRule 39 = .ok (.getfield 24, 3) := by decide +kernel
theorem d_Co_addRule_42 : decode b_Co_addRule 42 = .ok (.iload_n 2, 1) := by decide +kernel
theorem d_Co_addRule_43 : decode b_Co_addRule 43 = .ok (.iastore, 1) := by decide +kernel
theorem d_Co_addRule_44 : decode b_Co_addRule 44 = .ok (.aload_n 0, 1) := by decide +kernel
theorem d_Co_addRule_45 : decode b_Co_addRule 45 = .ok (.getfield 18, 3) := by decide +kernel
theorem d_Co_addRule_48 : decode b_Co_addRule 48 = .ok (.aload_n 0, 1) := by decide +kernel
theorem d_Co_addRule_49 : decode b_Co_addRule 49 = .ok (.getfield 24, 3) := by decide +kernel
theorem d_Co_addRule_52 : decode b_Co_addRule 52 = .ok (.iload_n 3, 1) := by decide +kernel
theorem d_Co_addRule_53 : decode b_Co_addRule 53 = .ok (.iastore, 1) := by decide +kernel
theorem d_Co_addRule_54 : decode b_Co_addRule 54 = .ok (.aload_n 0, 1) := by decide +kernel
theorem d_Co_addRule_55 : decode b_Co_addRule 55 = .ok (.getfield 21, 3) := by decide +kernel
theorem d_Co_addRule_58 : decode b_Co_addRule 58 = .ok (.aload_n 0, 1) := by decide +kernel
theorem d_Co_addRule_59 : decode b_Co_addRule 59 = .ok (.getfield 24, 3) := by decide +kernel
theorem d_Co_addRule_62 : decode b_Co_addRule 62 = .ok (.iload 4, 2) := by decide +kernel
theorem d_Co_addRule_64 : decode b_Co_addRule 64 = .ok (.iastore, 1) := by decide +kernel
theorem d_Co_addRule_65 : decode b_Co_addRule 65 = .ok (.aload_n 0, 1) := by decide +kernel
theorem d_Co_addRule_66 : decode b_Co_addRule 66 = .ok (.dup, 1) := by decide +kernel
theorem d_Co_addRule_67 : decode b_Co_addRule 67 = .ok (.getfield 24, 3) := by decide +kernel
theorem d_Co_addRule_70 : decode b_Co_addRule 70 = .ok (.iconst 1, 1) := by decide +kernel
theorem d_Co_addRule_71 : decode b_Co_addRule 71 = .ok (.iadd, 1) := by decide +kernel
theorem d_Co_addRule_72 : decode b_Co_addRule 72 = .ok (.putfield 24, 3) := by decide +kernel
theorem d_Co_addRule_75 : decode b_Co_addRule 75 = .ok (.iconst 1, 1) := by decide +kernel
theorem d_Co_addRule_76 : decode b_Co_addRule 76 = .ok (.ireturn, 1) := by decide +kernel
theorem d_Co_become_0 : decode b_Co_become 0 = .ok (.aload_n 0, 1) := by decide +kernel
theorem d_Co_become_1 : decode b_Co_become 1 = .ok (.aload_n 1, 1) := by decide +kernel
theorem d_Co_become_2 : decode b_Co_become 2 = .ok (.getfield 24, 3) := by decide +kernel
theorem d_Co_become_5 : decode b_Co_become 5 = .ok (.putfield 24, 3) := by decide +kernel
theorem d_Co_become_8 : decode b_Co_become 8 = .ok (.iconst 0, 1) := by decide +kernel
theorem d_Co_become_9 : decode b_Co_become 9 = .ok (.istore_n 2, 1) := by decide +kernel
theorem d_Co_become_10 : decode b_Co_become 10 = .ok (.iload_n 2, 1) := by decide +kernel
theorem d_Co_become_11 : decode b_Co_become 11 = .ok (.aload_n 0, 1) := by decide +kernel
theorem d_Co_become_12 : decode b_Co_become 12 = .ok (.getfield 24, 3) := by decide +kernel
theorem d_Co_become_15 : decode b_Co_become 15 = .ok (.if_icmp .ge 57, 3) := by decide +kernel
theorem d_Co_become_18 : decode b_Co_become 18 = .ok (.aload_n 0, 1) := by decide +kernel
theorem d_Co_become_19 : decode b_Co_become 19 = .ok (.getfield 9, 3) := by decide +kernel
theorem d_Co_become_22 : decode b_Co_become 22 = .ok (.iload_n 2, 1) := by decide +kernel
theorem d_Co_become_23 : decode b_Co_become 23 = .ok (.aload_n 1, 1) := by decide +kernel
theorem d_Co_become_24 : decode b_Co_become 24 = .ok (.getfield 9, 3) := by decide +kernel
theorem d_Co_become_27 : decode b_Co_become 27 = .ok (.iload_n 2, 1) := by decide +kernel
theorem d_Co_become_28 : decode b_Co_become 28 = .ok (.iaload, 1) := by decide +kernel
theorem d_Co_become_29 : decode b_Co_become 29 = .ok (.iastore, 1) := by decide +kernel
theorem d_Co_become_30 : decode b_Co_become 30 = .ok (.aload_n 0, 1) := by decide +kernel
theorem d_Co_become_31 : decode b_Co_become 31 = .ok (.getfield 15, 3) := by decide +kernel
theorem d_Co_become_34 : decode b_Co_become 34 = .ok (.iload_n 2, 1) := by decide +kernel
theorem d_Co_become_35 : decode b_Co_become 35 = .ok (.aload_n 1, 1) := by decide +kernel
theorem d_Co_become_36 : decode b_Co_become 36 = .ok (.getfield 15, 3) := by decide +kernel
theorem d_Co_become_39 : decode b_Co_become 39 = .ok (.iload_n 2, 1) := by decide +kernel
theorem d_Co_become_40 : decode b_Co_become 40 = .ok (.iaload, 1) := by decide +kernel
theorem d_Co_become_41 : decode b_Co_become 41 = .ok (.iastore, 1) := by decide +kernel
theorem d_Co_become_42 : decode b_Co_become 42 = .ok (.aload_n 0, 1) := by decide +kernel
theorem d_Co_become_43 : decode b_Co_become 43 = .ok (.getfield 18, 3) := by decide +kernel
theorem d_Co_become_46 : decode b_Co_become 46 = .ok (.iload_n 2, 1) := by decide +kernel
theorem d_Co_become_47 : decode b_Co_become 47 = .ok (.aload_n 1, 1) := by decide +kernel
theorem d_Co_become_48 : decode b_Co_become 48 = .ok (.getfield 18, 3) := by decide +kernel
theorem d_Co_become_51 : decode b_Co_become 51 = .ok (.iload_n 2, 1) := by decide +kernel
theorem d_Co_become_52 : decode b_Co_become 52 = .ok (.iaload, 1) := by decide +kernel
theorem d_Co_become_53 : decode b_Co_become 53 = .ok (.iastore, 1) := by decide +kernel
theorem d_Co_become_54 : decode b_Co_become 54 = .ok (.aload_n 0, 1) := by decide +kernel
theorem d_Co_become_55 : decode b_Co_become 55 = .ok (.getfield 21, 3) := by decide +kernel
theorem d_Co_become_58 : decode b_Co_become 58 = .ok (.iload_n 2, 1) := by decide +kernel
theorem d_Co_become_59 : decode b_Co_become 59 = .ok (.aload_n 1, 1) := by decide +kernel
theorem d_Co_become_60 : decode b_Co_become 60 = .ok (.getfield 21, 3) := by decide +kernel
theorem d_Co_become_63 : decode b_Co_become 63 = .ok (.iload_n 2, 1) := by decide +kernel
theorem d_Co_become_64 : decode b_Co_become 64 = .ok (.iaload, 1) := by decide +kernel
theorem d_Co_become_65 : decode b_Co_become 65 = .ok (.iastore, 1) := by decide +kernel
theorem d_Co_become_66 : decode b_Co_become 66 = .ok (.iinc 2 1, 3) := by decide +kernel
theorem d_Co_become_69 : decode b_Co_become 69 = .ok (.goto (-59), 3) := by decide +kernel
theorem d_Co_become_72 : decode b_Co_become 72 = .ok (.return_, 1) := by decide +kernel
theorem d_Co_stateBehind_0 : decode b_Co_stateBehind 0 = .ok (.aload_n 0, 1) := by decide +kernel
theorem d_Co_stateBehind_1 : decode b_Co_stateBehind 1 = .ok (.iload_n 1, 1) := by decide +kernel
theorem d_Co_stateBehind_2 : decode b_Co_stateBehind 2 = .ok (.iload_n 2, 1) := by decide +kernel
theorem d_Co_stateBehind_3 : decode b_Co_stateBehind 3 = .ok (.invokevirtual 28, 3) := by decide +kernel
theorem d_Co_stateBehind_6 : decode b_Co_stateBehind 6 = .ok (.istore 4, 2) := by decide +kernel
theorem d_Co_stateBehind_8 : decode b_Co_stateBehind 8 = .ok (.iload 4, 2) := by decide +kernel
theorem d_Co_stateBehind_10 : decode b_Co_stateBehind 10 = .ok (.aload_n 0, 1) := by decide +kernel
theorem d_Co_stateBehind_11 : decode b_Co_stateBehind 11 = .ok (.getfield 24, 3) := by decide +kernel
theorem d_Co_stateBehind_14 : decode b_Co_stateBehind 14 = .ok (.if_icmp .ge 24, 3) := by decide +kernel
theorem d_Co_stateBehind_17 : decode b_Co_stateBehind 17 = .ok (.aload_n 0, 1) := by decide +kernel
theorem d_Co_stateBehind_18 : decode b_Co_stateBehind 18 = .ok (.getfield 18, 3) := by decide +kernel
theorem d_Co_stateBehind_21 : decode b_Co_stateBehind 21 = .ok (.iload 4, 2) := by decide +kernel
theorem d_Co_stateBehind_23 : decode b_Co_stateBehind 23 = .ok (.iaload, 1) := by decide +kernel
theorem d_Co_stateBehind_24 : decode b_Co_stateBehind 24 = .ok (.iload_n 3, 1) := by decide +kernel
theorem d_Co_stateBehind_25 : decode b_Co_stateBehind 25 = .ok (.if_icmp .ne 13, 3) := by decide +kernel
theorem d_Co_stateBehind_28 : decode b_Co_stateBehind 28 = .ok (.aload_n 0, 1) := by decide +kernel
theorem d_Co_stateBehind_29 : decode b_Co_stateBehind 29 = .ok (.getfield 21, 3) := by decide +kernel
theorem d_Co_stateBehind_32 : decode b_Co_stateBehind 32 = .ok (.iload 4, 2) := by decide +kernel
theorem d_Co_stateBehind_34 : decode b_Co_stateBehind 34 = .ok (.iaload, 1) := by decide +kernel
theorem d_Co_stateBehind_35 : decode b_Co_stateBehind 35 = .ok (.goto 4, 3) := by decide +kernel
theorem d_Co_stateBehind_38 : decode b_Co_stateBehind 38 = .ok (.iconst (-1), 1) := by decide +kernel
theorem d_Co_stateBehind_39 : decode b_Co_stateBehind 39 = .ok (.ireturn, 1) := by decide +kernel
theorem d_Co_ruleFor_0 : decode b_Co_ruleFor 0 = .ok (.iconst 0, 1) := by decide +kernel
theorem d_Co_ruleFor_1 : decode b_Co_ruleFor 1 = .ok (.istore_n 3, 1) := by decide +kernel
theorem d_Co_ruleFor_2 : decode b_Co_ruleFor 2 = .ok (.iload_n 3, 1) := by decide +kernel
theorem d_Co_ruleFor_3 : decode b_Co_ruleFor 3 = .ok (.aload_n 0, 1) := by decide +kernel
theorem d_Co_ruleFor_4 : decode b_Co_ruleFor 4 = .ok (.getfield 24, 3) := by decide +kernel
theorem d_Co_ruleFor_7 : decode b_Co_ruleFor 7 = .ok (.if_icmp .ge 29, 3) := by decide +kernel
theorem d_Co_ruleFor_10 : decode b_Co_ruleFor 10 = .ok (.aload_n 0, 1) := by decide +kernel
theorem d_Co_ruleFor_11 : decode b_Co_ruleFor 11 = .ok (.getfield 9, 3) := by decide +kernel
theorem d_Co_ruleFor_14 : decode b_Co_ruleFor 14 = .ok (.iload_n 3, 1) := by decide +kernel
theorem d_Co_ruleFor_15 : decode b_Co_ruleFor 15 = .ok (.iaload, 1) := by decide +kernel
theorem d_Co_ruleFor_16 : decode b_Co_ruleFor 16 = .ok (.iload_n 1, 1) := by decide +kernel
theorem d_Co_ruleFor_17 : decode b_Co_ruleFor 17 = .ok (.if_icmp .ne 13, 3) := by decide +kernel
theorem d_Co_ruleFor_20 : decode b_Co_ruleFor 20 = .ok (.aload_n 0, 1) := by decide +kernel
theorem d_Co_ruleFor_21 : decode b_Co_ruleFor 21 = .ok (.getfield 15, 3) := by decide +kernel
theorem d_Co_ruleFor_24 : decode b_Co_ruleFor 24 = .ok (.iload_n 3, 1) := by decide +kernel
theorem d_Co_ruleFor_25 : decode b_Co_ruleFor 25 = .ok (.iaload, 1) := by decide +kernel
theorem d_Co_ruleFor_26 : decode b_Co_ruleFor 26 = .ok (.iload_n 2, 1) := by decide +kernel
theorem d_Co_ruleFor_27 : decode b_Co_ruleFor 27 = .ok (.if_icmp .eq 9, 3) := by decide +kernel
theorem d_Co_ruleFor_30 : decode b_Co_ruleFor 30 = .ok (.iinc 3 1, 3) := by decide +kernel
theorem d_Co_ruleFor_33 : decode b_Co_ruleFor 33 = .ok (.goto (-31), 3) := by decide +kernel
theorem d_Co_ruleFor_36 : decode b_Co_ruleFor 36 = .ok (.iload_n 3, 1) := by decide +kernel
theorem d_Co_ruleFor_37 : decode b_Co_ruleFor 37 = .ok (.ireturn, 1) := by decide +kernel
end
section
theorem d_En_init_0 : decode b_En_init 0 = .ok (.aload_n 0, 1) := by decide +kernel
theorem d_En_init_1 : decode b_En_init 1 = .ok (.invokespecial 3, 3) := by decide +kernel
theorem d_En_init_4 : decode b_En_init 4 = .ok (.aload_n 0, 1) := by decide +kernel
theorem d_En_init_5 : decode b_En_init 5 = .ok (.iconst 3, 1) := by decide +kernel
theorem d_En_init_6 : decode b_En_init 6 = .ok (.newarray .int, 2) := by decide +kernel
theorem d_En_init_8 : decode b_En_init 8 = .ok (.putfield 9, 3) := by decide +kernel
theorem d_En_init_11 : decode b_En_init 11 = .ok (.aload_n 0, 1) := by decide +kernel
theorem d_En_init_12 : decode b_En_init 12 = .ok (.iconst 3, 1) := by decide +kernel
theorem d_En_init_13 : decode b_En_init 13 = .ok (.newarray .int, 2) := by decide +kernel
theorem d_En_init_15 : decode b_En_init 15 = .ok (.putfield 15, 3) := by decide +kernel
theorem d_En_init_18 : decode b_En_init 18 = .ok (.aload_n 0, 1) := by decide +kernel
theorem d_En_init_19 : decode b_En_init 19 = .ok (.iconst (-1), 1) := by decide +kernel
theorem d_En_init_20 : decode b_En_init 20 = .ok (.putfield 18, 3) := by decide +kernel
theorem d_En_init_23 : decode b_En_init 23 = .ok (.return_, 1) := by decide +kernel
theorem d_En_isOpen_0 : decode b_En_isOpen 0 = .ok (.aload_n 0, 1) := by decide +kernel
theorem d_En_isOpen_1 : decode b_En_isOpen 1 = .ok (.getfield 18, 3) := by decide +kernel
theorem d_En_isOpen_4 : decode b_En_isOpen 4 = .ok (.iconst (-1), 1) := by decide +kernel
theorem d_En_isOpen_5 : decode b_En_isOpen 5 = .ok (.if_icmp .eq 7, 3) := by decide +kernel
theorem d_En_isOpen_8 : decode b_En_isOpen 8 = .ok (.iconst 1, 1) := by decide +kernel
theorem d_En_isOpen_9 : decode b_En_isOpen 9 = .ok (.goto 4, 3) := by decide +kernel
theorem d_En_isOpen_12 : decode b_En_isOpen 12 = .ok (.iconst 0, 1) := by decide +kernel
theorem d_En_isOpen_13 : decode b_En_isOpen 13 = .ok (.ireturn, 1) := by decide +kernel
theorem d_En_begin_0 : decode b_En_begin 0 = .ok (.aload_n 0, 1) := by decide +kernel
theorem d_En_begin_1 : decode b_En_begin 1 = .ok (.iload_n 1, 1) := by decide +kernel
theorem d_En_begin_2 : decode b_En_begin 2 = .ok (.putfield 18, 3) := by decide +kernel
theorem d_En_begin_5 : decode b_En_begin 5 = .ok (.aload_n 0, 1) := by decide +kernel
theorem d_En_begin_6 : decode b_En_begin 6 = .ok (.iconst 1, 1) := by decide +kernel
theorem d_En_begin_7 : decode b_En_begin 7 = .ok (.putfield 22, 3) := by decide +kernel
theorem d_En_begin_10 : decode b_En_begin 10 = .ok (.return_, 1) := by decide +kernel
theorem d_En_addLast_0 : decode b_En_addLast 0 = .ok (.aload_n 0, 1) := by decide +kernel
theorem d_En_addLast_1 : decode b_En_addLast 1 = .ok (.getfield 25, 3) := by decide +kernel
theorem d_En_addLast_4 : decode b_En_addLast 4 = .ok (.iconst 3, 1) := by decide +kernel
theorem d_En_addLast_5 : decode b_En_addLast 5 = .ok (.if_icmp .ge 33, 3) := by decide +kernel
theorem d_En_addLast_8 : decode b_En_addLast 8 = .ok (.aload_n 0, 1) := by decide +kernel
theorem d_En_addLast_9 : decode b_En_addLast 9 = .ok (.getfield 9, 3) := by decide +kernel
theorem d_En_addLast_12 : decode b_En_addLast 12 = .ok (.aload_n 0, 1) := by decide +kernel
theorem d_En_addLast_13 : decode b_En_addLast 13 = .ok (.getfield 25, 3) := by decide +kernel
theorem d_En_addLast_16 : decode b_En_addLast 16 = .ok (.iload_n 1, 1) := by decide +kernel
theorem d_En_addLast_17 : decode b_En_addLast 17 = .ok (.iastore, 1) := by decide +kernel
theorem d_En_addLast_18 : decode b_En_addLast 18 = .ok (.aload_n 0, 1) := by decide +kernel
theorem d_En_addLast_19 : decode b_En_addLast 19 = .ok (.getfield 15, 3) := by decide +kernel
theorem d_En_addLast_22 : decode b_En_addLast 22 = .ok (.aload_n 0, 1) := by decide +kernel
theorem d_En_addLast_23 : decode b_En_addLast 23 = .ok (.getfield 25, 3) := by decide +kernel
theorem d_En_addLast_26 : decode b_En_addLast 26 = .ok (.iload_n 2, 1) := by decide +kernel
theorem d_En_addLast_27 : decode b_En_addLast 27 = .ok (.iastore, 1) := by decide +kernel
theorem d_En_addLast_28 : decode b_En_addLast 28 = .ok (.aload_n 0, 1) := by decide +kernel
theorem d_En_addLast_29 : decode b_En_addLast 29 = .ok (.dup, 1) := by decide +kernel
theorem d_En_addLast_30 : decode b_En_addLast 30 = .ok (.getfield 25, 3) := by decide +kernel
theorem d_En_addLast_33 : decode b_En_addLast 33 = .ok (.iconst 1, 1) := by decide +kernel
theorem d_En_addLast_34 : decode b_En_addLast 34 = .ok (.iadd, 1) := by decide +kernel
theorem d_En_addLast_35 : decode b_En_addLast 35 = .ok (.putfield 25, 3) := by decide +kernel
theorem d_En_addLast_38 : decode b_En_addLast 38 = .ok (.return_, 1) := by decide +kernel
theorem d_En_removeFirst_0 : decode b_En_removeFirst 0 = .ok (.iconst 1, 1) := by decide +kernel
theorem d_En_removeFirst_1 : decode b_En_removeFirst 1 = .ok (.istore_n 1, 1) := by decide +kernel
theorem d_En_removeFirst_2 : decode b_En_removeFirst 2 = .ok (.iload_n 1, 1) := by decide +kernel
theorem d_En_removeFirst_3 : decode b_En_removeFirst 3 = .ok (.aload_n 0, 1) := by decide +kernel
theorem d_En_removeFirst_4 : decode b_En_removeFirst 4 = .ok (.getfield 25, 3) := by decide +kernel
theorem d_En_removeFirst_7 : decode b_En_removeFirst 7 = .ok (.if_icmp .ge 37, 3) := by decide +kernel
theorem d_En_removeFirst_10 : decode b_En_removeFirst 10 = .ok (.aload_n 0, 1) := by decide +kernel
theorem d_En_removeFirst_11 : decode b_En_removeFirst 11 = .ok (.getfield 9, 3) := by decide +kernel
theorem d_En_removeFirst_14 : decode b_En_removeFirst 14 = .ok (.iload_n 1, 1) := by decide +kernel
theorem d_En_removeFirst_15 : decode b_En_removeFirst 15 = .ok (.iconst 1, 1) := by decide +kernel
theorem d_En_removeFirst_16 : decode b_En_removeFirst 16 = .ok (.isub, 1) := by decide +kernel
theorem d_En_removeFirst_17 : decode b_En_removeFirst 17 = .ok (.aload_n 0, 1) := by decide +kernel
theorem d_En_removeFirst_18 : decode b_En_removeFirst 18 = .ok (.getfield 9, 3) := by decide +kernel
theorem d_En_removeFirst_21 : decode b_En_removeFirst 21 = .ok (.iload_n 1, 1) := by decide +kernel
theorem d_En_removeFirst_22 : decode b_En_removeFirst 22 = .ok (.iaload, 1) := by decide +kernel
theorem d_En_removeFirst_23 : decode b_En_removeFirst 23 = .ok (.iastore, 1) := by decide +kernel
theorem d_En_removeFirst_24 : decode b_En_removeFirst 24 = .ok (.aload_n 0, 1) := by decide +kernel
theorem d_En_removeFirst_25 : decode b_En_removeFirst 25 = .ok (.getfield 15, 3) := by decide +kernel
theorem d_En_removeFirst_28 : decode b_En_removeFirst 28 = .ok (.iload_n 1, 1) := by decide +kernel
theorem d_En_removeFirst_29 : decode b_En_removeFirst 29 = .ok (.iconst 1, 1) := by decide +kernel
theorem d_En_removeFirst_30 : decode b_En_removeFirst 30 = .ok (.isub, 1) := by decide +kernel
theorem d_En_removeFirst_31 : decode b_En_removeFirst 31 = .ok (.aload_n 0, 1) := by decide +kernel
theorem d_En_removeFirst_32 : decode b_En_removeFirst 32 = .ok (.getfield 15, 3) := by decide +kernel
theorem d_En_removeFirst_35 : decode b_En_removeFirst 35 = .ok (.iload_n 1, 1) := by decide +kernel
theorem d_En_removeFirst_36 : decode b_En_removeFirst 36 = .ok (.iaload, 1) := by decide +kernel
theorem d_En_removeFirst_37 : decode b_En_removeFirst 37 = .ok (.iastore, 1) := by decide +kernel
theorem d_En_removeFirst_38 : decode b_En_removeFirst 38 = .ok (.iinc 1 1, 3) := by decide +kernel
theorem d_En_removeFirst_41 : decode b_En_removeFirst 41 = .ok (.goto (-39), 3) := by decide +kernel
theorem d_En_removeFirst_44 : decode b_En_removeFirst 44 = .ok (.aload_n 0, 1) := by decide +kernel
theorem d_En_removeFirst_45 : decode b_En_removeFirst 45 = .ok (.getfield 25, 3) := by decide +kernel
theorem d_En_removeFirst_48 : decode b_En_removeFirst 48 = .ok (.ifCond .le 13, 3) := by decide +kernel
theorem d_En_removeFirst_51 : decode b_En_removeFirst 51 = .ok (.aload_n 0, 1) := by decide +kernel
theorem d_En_removeFirst_52 : decode b_En_removeFirst 52 = .ok (.dup, 1) := by decide +kernel
theorem d_En_removeFirst_53 : decode b_En_removeFirst 53 = .ok (.getfield 25, 3) := by decide +kernel
theorem d_En_removeFirst_56 : decode b_En_removeFirst 56 = .ok (.iconst 1, 1) := by decide +kernel
theorem d_En_removeFirst_57 : decode b_En_removeFirst 57 = .ok (.isub, 1) := by decide +kernel
theorem d_En_removeFirst_58 : decode b_En_removeFirst 58 = .ok (.putfield 25, 3) := by decide +kernel
theorem d_En_removeFirst_61 : decode b_En_removeFirst 61 = .ok (.return_, 1) := by decide +kernel
end
section
theorem d_Sy_init_0 : decode b_Sy_init 0 = .ok (.aload_n 0, 1) := by decide +kernel
theorem d_Sy_init_1 : decode b_Sy_init 1 = .ok (.invokespecial 3, 3) := by decide +kernel
theorem d_Sy_init_4 : decode b_Sy_init 4 = .ok (.aload_n 0, 1) := by decide +kernel
theorem d_Sy_init_5 : decode b_Sy_init 5 = .ok (.bipush 36, 2) := by decide +kernel
theorem d_Sy_init_7 : decode b_Sy_init 7 = .ok (.newarray .char, 2) := by decide +kernel
theorem d_Sy_init_9 : decode b_Sy_init 9 = .ok (.putfield 9, 3) := by decide +kernel
theorem d_Sy_init_12 : decode b_Sy_init 12 = .ok (.aload_n 0, 1) := by decide +kernel
theorem d_Sy_init_13 : decode b_Sy_init 13 = .ok (.new 13, 3) := by decide +kernel
theorem d_Sy_init_16 : decode b_Sy_init 16 = .ok (.dup, 1) := by decide +kernel
theorem d_Sy_init_17 : decode b_Sy_init 17 = .ok (.invokespecial 15, 3) := by decide +kernel
theorem d_Sy_init_20 : decode b_Sy_init 20 = .ok (.putfield 16, 3) := by decide +kernel
theorem d_Sy_init_23 : decode b_Sy_init 23 = .ok (.aload_n 0, 1) := by decide +kernel
theorem d_Sy_init_24 : decode b_Sy_init 24 = .ok (.iconst 4, 1) := by decide +kernel
theorem d_Sy_init_25 : decode b_Sy_init 25 = .ok (.anewarray 13, 3) := by decide +kernel
theorem d_Sy_init_28 : decode b_Sy_init 28 = .ok (.putfield 20, 3) := by decide +kernel
theorem d_Sy_init_31 : decode b_Sy_init 31 = .ok (.iconst 0, 1) := by decide +kernel
theorem d_Sy_init_32 : decode b_Sy_init 32 = .ok (.istore_n 1, 1) := by decide +kernel
theorem d_Sy_init_33 : decode b_Sy_init 33 = .ok (.iload_n 1, 1) := by decide +kernel
theorem d_Sy_init_34 : decode b_Sy_init 34 = .ok (.iconst 4, 1) := by decide +kernel
theorem d_Sy_init_35 : decode b_Sy_init 35 = .ok (.if_icmp .ge 22, 3) := by decide +kernel
theorem d_Sy_init_38 : decode b_Sy_init 38 = .ok (.aload_n 0, 1) := by decide +kernel
theorem d_Sy_init_39 : decode b_Sy_init 39 = .ok (.getfield 20, 3) := by decide +kernel
theorem d_Sy_init_42 : decode b_Sy_init 42 = .ok (.iload_n 1, 1) := by decide +kernel
theorem d_Sy_init_43 : decode b_Sy_init 43 = .ok (.new 13, 3) := by decide +kernel
theorem d_Sy_init_46 : decode b_Sy_init 46 = .ok (.dup, 1) := by decide +kernel
theorem d_Sy_init_47 : decode b_Sy_init 47 = .ok (.invokespecial 15, 3) := by decide +kernel
theorem d_Sy_init_50 : decode b_Sy_init 50 = .ok (.aastore, 1) := by decide +kernel
theorem d_Sy_init_51 : decode b_Sy_init 51 = .ok (.iinc 1 1, 3) := by decide +kernel
theorem d_Sy_init_54 : decode b_Sy_init 54 = .ok (.goto (-21), 3) := by decide +kernel
theorem d_Sy_init_57 : decode b_Sy_init 57 = .ok (.aload_n 0, 1) := by decide +kernel
theorem d_Sy_init_58 : decode b_Sy_init 58 = .ok (.iconst 4, 1) := by decide +kernel
theorem d_Sy_init_59 : decode b_Sy_init 59 = .ok (.newarray .boolean, 2) := by decide +kernel
theorem d_Sy_init_61 : decode b_Sy_init 61 = .ok (.putfield 24, 3) := by decide +kernel
theorem d_Sy_init_64 : decode b_Sy_init 64 = .ok (.aload_n 0, 1) := by decide +kernel
theorem d_Sy_init_65 : decode b_Sy_init 65 = .ok (.getfield 24, 3) := by decide +kernel
theorem d_Sy_init_68 : decode b_Sy_init 68 = .ok (.iconst 0, 1) := by decide +kernel
theorem d_Sy_init_69 : decode b_Sy_init 69 = .ok (.iconst 1, 1) := by decide +kernel
theorem d_Sy_init_70 : decode b_Sy_init 70 = .ok (.bastore, 1) := by decide +kernel
theorem d_Sy_init_71 : decode b_Sy_init 71 = .ok (.aload_n 0, 1) := by decide +kernel
theorem d_Sy_init_72 : decode b_Sy_init 72 = .ok (.bipush 12, 2) := by decide +kernel
theorem d_Sy_init_74 : decode b_Sy_init 74 = .ok (.anewarray 28, 3) := by decide +kernel
theorem d_Sy_init_77 : decode b_Sy_init 77 = .ok (.putfield 30, 3) := by decide +kernel
theorem d_Sy_init_80 : decode b_Sy_init 80 = .ok (.iconst 0, 1) := by decide +kernel
theorem d_Sy_init_81 : decode b_Sy_init 81 = .ok (.istore_n 1, 1) := by decide +kernel
theorem d_Sy_init_82 : decode b_Sy_init 82 = .ok (.iload_n 1, 1) := by decide +kernel
theorem d_Sy_init_83 : decode b_Sy_init 83 = .ok (.bipush 12, 2) := by decide +kernel
theorem d_Sy_init_85 : decode b_Sy_init 85 = .ok (.if_icmp .ge 22, 3) := by decide +kernel
theorem d_Sy_init_88 : decode b_Sy_init 88 = .ok (.aload_n 0, 1) := by decide +kernel
theorem d_Sy_init_89 : decode b_Sy_init 89 = .ok (.getfield 30, 3) := by decide +kernel
theorem d_Sy_init_92 : decode b_Sy_init 92 = .ok (.iload_n 1, 1) := by decide +kernel
theorem d_Sy_init_93 : decode b_Sy_init 93 = .ok (.new 28, 3) := by decide +kernel
theorem d_Sy_init_96 : decode b_Sy_init 96 = .ok (.dup, 1) := by decide +kernel
theorem d_Sy_init_97 : decode b_Sy_init 97 = .ok (.invokespecial 34, 3) := by decide +kernel
theorem d_Sy_init_100 : decode b_Sy_init 100 = .ok (.aastore, 1) := by decide +kernel
theorem d_Sy_init_101 : decode b_Sy_init 101 = .ok (.iinc 1 1, 3) := by decide +kernel
theorem d_Sy_init_104 : decode b_Sy_init 104 = .ok (.goto (-22), 3) := by decide +kernel
theorem d_Sy_init_107 : decode b_Sy_init 107 = .ok (.aload_n 0, 1) := by decide +kernel
theorem d_Sy_init_108 : decode b_Sy_init 108 = .ok (.bipush 6, 2) := by decide +kernel
theorem d_Sy_init_110 : decode b_Sy_init 110 = .ok (.anewarray 13, 3) := by decide +kernel
theorem d_Sy_init_113 : decode b_Sy_init 113 = .ok (.putfield 35, 3) := by decide +kernel
theorem d_Sy_init_116 : decode b_Sy_init 116 = .ok (.iconst 0, 1) := by decide +kernel
theorem d_Sy_init_117 : decode b_Sy_init 117 = .ok (.istore_n 1, 1) := by decide +kernel
theorem d_Sy_init_118 : decode b_Sy_init 118 = .ok (.iload_n 1, 1) := by decide +kernel
theorem d_Sy_init_119 : decode b_Sy_init 119 = .ok (.bipush 6, 2) := by decide +kernel
theorem d_Sy_init_121 : decode b_Sy_init 121 = .ok (.if_icmp .ge 22, 3) := by decide +kernel
theorem d_Sy_init_124 : decode b_Sy_init 124 = .ok (.aload_n 0, 1) := by decide +kernel
theorem d_Sy_init_125 : decode b_Sy_init 125 = .ok (.getfield 35, 3) := by decide +kernel
theorem d_Sy_init_128 : decode b_Sy_init 128 = .ok (.iload_n 1, 1) := by decide +kernel
theorem d_Sy_init_129 : decode b_Sy_init 129 = .ok (.new 13, 3) := by decide +kernel
theorem d_Sy_init_132 : decode b_Sy_init 132 = .ok (.dup, 1) := by decide +kernel
theorem d_Sy_init_133 : decode b_Sy_init 133 = .ok (.invokespecial 15, 3) := by decide +kernel
theorem d_Sy_init_136 : decode b_Sy_init 136 = .ok (.aastore, 1) := by decide +kernel
theorem d_Sy_init_137 : decode b_Sy_init 137 = .ok (.iinc 1 1, 3) := by decide +kernel
theorem d_Sy_init_140 : decode b_Sy_init 140 = .ok (.goto (-22), 3) := by decide +kernel
theorem d_Sy_init_143 : decode b_Sy_init 143 = .ok (.aload_n 0, 1) := by decide +kernel
theorem d_Sy_init_144 : decode b_Sy_init 144 = .ok (.bipush 12, 2) := by decide +kernel
theorem d_Sy_init_146 : decode b_Sy_init 146 = .ok (.anewarray 38, 3) := by decide +kernel
theorem d_Sy_init_149 : decode b_Sy_init 149 = .ok (.putfield 40, 3) := by decide +kernel
theorem d_Sy_init_152 : decode b_Sy_init 152 = .ok (.iconst 0, 1) := by decide +kernel
theorem d_Sy_init_153 : decode b_Sy_init 153 = .ok (.istore_n 1, 1) := by decide +kernel
theorem d_Sy_init_154 : decode b_Sy_init 154 = .ok (.iload_n 1, 1) := by decide +kernel
theorem d_Sy_init_155 : decode b_Sy_init 155 = .ok (.bipush 12, 2) := by decide +kernel
theorem d_Sy_init_157 : decode b_Sy_init 157 = .ok (.if_icmp .ge 22, 3) := by decide +kernel
theorem d_Sy_init_160 : decode b_Sy_init 160 = .ok (.aload_n 0, 1) := by decide +kernel
theorem d_Sy_init_161 : decode b_Sy_init 161 = .ok (.getfield 40, 3) := by decide +kernel
theorem d_Sy_init_164 : decode b_Sy_init 164 = .ok (.iload_n 1, 1) := by decide +kernel
theorem d_Sy_init_165 : decode b_Sy_init 165 = .ok (.new 38, 3) := by decide +kernel
theorem d_Sy_init_168 : decode b_Sy_init 168 = .ok (.dup, 1) := by decide +kernel
theorem d_Sy_init_169 : decode b_Sy_init 169 = .ok (.invokespecial 44, 3) := by decide +kernel
theorem d_Sy_init_172 : decode b_Sy_init 172 = .ok (.aastore, 1) := by decide +kernel
theorem d_Sy_init_173 : decode b_Sy_init 173 = .ok (.iinc 1 1, 3) := by decide +kernel
theorem d_Sy_init_176 : decode b_Sy_init 176 = .ok (.goto (-22), 3) := by decide +kernel
theorem d_Sy_init_179 : decode b_Sy_init 179 = .ok (.return_, 1) := by decide +kernel
theorem d_Sy_type_0 : decode b_Sy_type 0 = .ok (.iconst 0, 1) := by decide +kernel
theorem d_Sy_type_1 : decode b_Sy_type 1 = .ok (.istore_n 3, 1) := by decide +kernel
theorem d_Sy_type_2 : decode b_Sy_type 2 = .ok (.bipush 56, 2) := by decide +kernel
theorem d_Sy_type_4 : decode b_Sy_type 4 = .ok (.istore 4, 2) := by decide +kernel
theorem d_Sy_type_6 : decode b_Sy_type 6 = .ok (.iload 4, 2) := by decide +kernel
theorem d_Sy_type_8 : decode b_Sy_type 8 = .ok (.ifCond .lt 34, 3) := by decide +kernel
theorem d_Sy_type_11 : decode b_Sy_type 11 = .ok (.lload_n 1, 1) := by decide +kernel
theorem d_Sy_type_12 : decode b_Sy_type 12 = .ok (.iload 4, 2) := by decide +kernel
theorem d_Sy_type_14 : decode b_Sy_type 14 = .ok (.invokestatic 45, 3) := by decide +kernel
theorem d_Sy_type_17 : decode b_Sy_type 17 = .ok (.istore 5, 2) := by decide +kernel
theorem d_Sy_type_19 : decode b_Sy_type 19 = .ok (.iload 5, 2) := by decide +kernel
theorem d_Sy_type_21 : decode b_Sy_type 21 = .ok (.ifCond .eq 15, 3) := by decide +kernel
theorem d_Sy_type_24 : decode b_Sy_type 24 = .ok (.iload 5, 2) := by decide +kernel
theorem d_Sy_type_26 : decode b_Sy_type 26 = .ok (.bipush 33, 2) := by decide +kernel
theorem d_Sy_type_28 : decode b_Sy_type 28 = .ok (.bipush 126, 2) := by decide +kernel
theorem d_Sy_type_30 : decode b_Sy_type 30 = .ok (.invokestatic 49, 3) := by decide +kernel
theorem d_Sy_type_33 : decode b_Sy_type 33 = .ok (.iinc 3 1, 3) := by decide +kernel
theorem d_Sy_type_36 : decode b_Sy_type 36 = .ok (.iinc 4 (-8), 3) := by decide +kernel
theorem d_Sy_type_39 : decode b_Sy_type 39 = .ok (.goto (-33), 3) := by decide +kernel
theorem d_Sy_type_42 : decode b_Sy_type 42 = .ok (.aload_n 0, 1) := by decide +kernel
theorem d_Sy_type_43 : decode b_Sy_type 43 = .ok (.getfield 53, 3) := by decide +kernel
theorem d_Sy_type_46 : decode b_Sy_type 46 = .ok (.iload_n 3, 1) := by decide +kernel
theorem d_Sy_type_47 : decode b_Sy_type 47 = .ok (.iadd, 1) := by decide +kernel
theorem d_Sy_type_48 : decode b_Sy_type 48 = .ok (.bipush 36, 2) := by decide +kernel
theorem d_Sy_type_50 : decode b_Sy_type 50 = .ok (.if_icmp .le 13, 3) := by decide +kernel
theorem d_Sy_type_53 : decode b_Sy_type 53 = .ok (.new 57, 3) := by decide +kernel
theorem d_Sy_type_56 : decode b_Sy_type 56 = .ok (.dup, 1) := by decide +kernel
theorem d_Sy_type_57 : decode b_Sy_type 57 = .ok (.ldc 59, 2) := by decide +kernel
theorem d_Sy_type_59 : decode b_Sy_type 59 = .ok (.invokespecial 61, 3) := by decide +kernel
theorem d_Sy_type_62 : decode b_Sy_type 62 = .ok (.athrow, 1) := by decide +kernel
theorem d_Sy_type_63 : decode b_Sy_type 63 = .ok (.bipush 56, 2) := by decide +kernel
theorem d_Sy_type_65 : decode b_Sy_type 65 = .ok (.istore 4, 2) := by decide +kernel
theorem d_Sy_type_67 : decode b_Sy_type 67 = .ok (.iload 4, 2) := by decide +kernel
theorem d_Sy_type_69 : decode b_Sy_type 69 = .ok (.ifCond .lt 44, 3) := by decide +kernel
theorem d_Sy_type_72 : decode b_Sy_type 72 = .ok (.lload_n 1, 1) := by decide +kernel
theorem d_Sy_type_73 : decode b_Sy_type 73 = .ok (.iload 4, 2) := by decide +kernel
theorem d_Sy_type_75 : decode b_Sy_type 75 = .ok (.invokestatic 45, 3) := by decide +kernel
theorem d_Sy_type_78 : decode b_Sy_type 78 = .ok (.istore 5, 2) := by decide +kernel
theorem d_Sy_type_80 : decode b_Sy_type 80 = .ok (.iload 5, 2) := by decide +kernel
theorem d_Sy_type_82 : decode b_Sy_type 82 = .ok (.ifCond .eq 25, 3) := by decide +kernel
theorem d_Sy_type_85 : decode b_Sy_type 85 = .ok (.aload_n 0, 1) := by decide +kernel
theorem d_Sy_type_86 : decode b_Sy_type 86 = .ok (.getfield 9, 3) := by decide +kernel
theorem d_Sy_type_89 : decode b_Sy_type 89 = .ok (.aload_n 0, 1) := by decide +kernel
theorem d_Sy_type_90 : decode b_Sy_type 90 = .ok (.getfield 53, 3) := by decide +kernel
theorem d_Sy_type_93 : decode b_Sy_type 93 = .ok (.iload 5, 2) := by decide +kernel
theorem d_Sy_type_95 : decode b_Sy_type 95 = .ok (.i2c, 1) := by decide +kernel
theorem d_Sy_type_96 : decode b_Sy_type 96 = .ok (.castore, 1) := by decide +kernel
theorem d_Sy_type_97 : decode b_Sy_type 97 = .ok (.aload_n 0, 1) := by decide +kernel
theorem d_Sy_type_98 : decode b_Sy_type 98 = .ok (.dup, 1) := by decide +kernel
theorem d_Sy_type_99 : decode b_Sy_type 99 = .ok (.getfield 53, 3) := by decide +kernel
theorem d_Sy_type_102 : decode b_Sy_type 102 = .ok (.iconst 1, 1) := by decide +kernel
theorem d_Sy_type_103 : decode b_Sy_type 103 = .ok (.iadd, 1) := by decide +kernel
theorem d_Sy_type_104 : decode b_Sy_type 104 = .ok (.putfield 53, 3) := by decide +kernel
theorem d_Sy_type_107 : decode b_Sy_type 107 = .ok (.iinc 4 (-8), 3) := by decide +kernel
theorem d_Sy_type_110 : decode b_Sy_type 110 = .ok (.goto (-43), 3) := by decide +kernel
theorem d_Sy_type_113 : decode b_Sy_type 113 = .ok (.aload_n 0, 1) := by decide +kernel
theorem d_Sy_type_114 : decode b_Sy_type 114 = .ok (.getfield 53, 3) := by decide +kernel
theorem d_Sy_type_117 : decode b_Sy_type 117 = .ok (.ireturn, 1) := by decide +kernel
theorem d_Sy_contract_0 : decode b_Sy_contract 0 = .ok (.iload_n 1, 1) := by decide +kernel
theorem d_Sy_contract_1 : decode b_Sy_contract 1 = .ok (.iconst 4, 1) := by decide +kernel
theorem d_Sy_contract_2 : decode b_Sy_contract 2 = .ok (.invokestatic 64, 3) := by decide +kernel
theorem d_Sy_contract_5 : decode b_Sy_contract 5 = .ok (.aload_n 0, 1) := by decide +kernel
theorem d_Sy_contract_6 : decode b_Sy_contract 6 = .ok (.invokevirtual 68, 3) := by decide +kernel
theorem d_Sy_contract_9 : decode b_Sy_contract 9 = .ok (.istore_n 2, 1) := by decide +kernel
theorem d_Sy_contract_10 : decode b_Sy_contract 10 = .ok (.aload_n 0, 1) := by decide +kernel
theorem d_Sy_contract_11 : decode b_Sy_contract 11 = .ok (.iconst 0, 1) := by decide +kernel
theorem d_Sy_contract_12 : decode b_Sy_contract 12 = .ok (.putfield 53, 3) := by decide +kernel
theorem d_Sy_contract_15 : decode b_Sy_contract 15 = .ok (.iload_n 2, 1) := by decide +kernel
theorem d_Sy_contract_16 : decode b_Sy_contract 16 = .ok (.ifCond .ne 13, 3) := by decide +kernel
theorem d_Sy_contract_19 : decode b_Sy_contract 19 = .ok (.new 72, 3) := by decide +kernel
theorem d_Sy_contract_22 : decode b_Sy_contract 22 = .ok (.dup, 1) := by decide +kernel
theorem d_Sy_contract_23 : decode b_Sy_contract 23 = .ok (.ldc 74, 2) := by decide +kernel
theorem d_Sy_contract_25 : decode b_Sy_contract 25 = .ok (.invokespecial 76, 3) := by decide +kernel
theorem d_Sy_contract_28 : decode b_Sy_contract 28 = .ok (.athrow, 1) := by decide +kernel
theorem d_Sy_contract_29 : decode b_Sy_contract 29 = .ok (.aload_n 0, 1) := by decide +kernel
theorem d_Sy_contract_30 : decode b_Sy_contract 30 = .ok (.getfield 20, 3) := by decide +kernel
theorem d_Sy_contract_33 : decode b_Sy_contract 33 = .ok (.iload_n 1, 1) := by decide +kernel
theorem d_Sy_contract_34 : decode b_Sy_contract 34 = .ok (.aaload, 1) := by decide +kernel
theorem d_Sy_contract_35 : decode b_Sy_contract 35 = .ok (.aload_n 0, 1) := by decide +kernel
theorem d_Sy_contract_36 : decode b_Sy_contract 36 = .ok (.getfield 16, 3) := by decide +kernel
theorem d_Sy_contract_39 : decode b_Sy_contract 39 = .ok (.invokevirtual 77, 3) := by decide +kernel
theorem d_Sy_contract_42 : decode b_Sy_contract 42 = .ok (.aload_n 0, 1) := by decide +kernel
theorem d_Sy_contract_43 : decode b_Sy_contract 43 = .ok (.getfield 16, 3) := by decide +kernel
theorem d_Sy_contract_46 : decode b_Sy_contract 46 = .ok (.getfield 81, 3) := by decide +kernel
theorem d_Sy_contract_49 : decode b_Sy_contract 49 = .ok (.ireturn, 1) := by decide +kernel
theorem d_Sy_start_0 : decode b_Sy_start 0 = .ok (.iconst 0, 1) := by decide +kernel
theorem d_Sy_start_1 : decode b_Sy_start 1 = .ok (.istore_n 1, 1) := by decide +kernel
theorem d_Sy_start_2 : decode b_Sy_start 2 = .ok (.iload_n 1, 1) := by decide +kernel
theorem d_Sy_start_3 : decode b_Sy_start 3 = .ok (.iconst 4, 1) := by decide +kernel
theorem d_Sy_start_4 : decode b_Sy_start 4 = .ok (.if_icmp .ge 27, 3) := by decide +kernel
theorem d_Sy_start_7 : decode b_Sy_start 7 = .ok (.aload_n 0, 1) := by decide +kernel
theorem d_Sy_start_8 : decode b_Sy_start 8 = .ok (.getfield 24, 3) := by decide +kernel
theorem d_Sy_start_11 : decode b_Sy_start 11 = .ok (.iload_n 1, 1) := by decide +kernel
theorem d_Sy_start_12 : decode b_Sy_start 12 = .ok (.baload, 1) := by decide +kernel
theorem d_Sy_start_13 : decode b_Sy_start 13 = .ok (.ifCond .ne 12, 3) := by decide +kernel
theorem d_Sy_start_16 : decode b_Sy_start 16 = .ok (.aload_n 0, 1) := by decide +kernel
theorem d_Sy_start_17 : decode b_Sy_start 17 = .ok (.getfield 24, 3) := by decide +kernel
theorem d_Sy_start_20 : decode b_Sy_start 20 = .ok (.iload_n 1, 1) := by decide +kernel
theorem d_Sy_start_21 : decode b_Sy_start 21 = .ok (.iconst 1, 1) := by decide +kernel
theorem d_Sy_start_22 : decode b_Sy_start 22 = .ok (.bastore, 1) := by decide +kernel
theorem d_Sy_start_23 : decode b_Sy_start 23 = .ok (.iload_n 1, 1) := by decide +kernel
theorem d_Sy_start_24 : decode b_Sy_start 24 = .ok (.ireturn, 1) := by decide +kernel
theorem d_Sy_start_25 : decode b_Sy_start 25 = .ok (.iinc 1 1, 3) := by decide +kernel
theorem d_Sy_start_28 : decode b_Sy_start 28 = .ok (.goto (-26), 3) := by decide +kernel
theorem d_Sy_start_31 : decode b_Sy_start 31 = .ok (.new 57, 3) := by decide +kernel
theorem d_Sy_start_34 : decode b_Sy_start 34 = .ok (.dup, 1) := by decide +kernel
theorem d_Sy_start_35 : decode b_Sy_start 35 = .ok (.ldc 84, 2) := by decide +kernel
theorem d_Sy_start_37 : decode b_Sy_start 37 = .ok (.invokespecial 61, 3) := by decide +kernel
theorem d_Sy_start_40 : decode b_Sy_start 40 = .ok (.athrow, 1) := by decide +kernel
theorem d_Sy_kill_0 : decode b_Sy_kill 0 = .ok (.iload_n 1, 1) := by decide +kernel
theorem d_Sy_kill_1 : decode b_Sy_kill 1 = .ok (.iconst 4, 1) := by decide +kernel
theorem d_Sy_kill_2 : decode b_Sy_kill 2 = .ok (.invokestatic 64, 3) := by decide +kernel
theorem d_Sy_kill_5 : decode b_Sy_kill 5 = .ok (.aload_n 0, 1) := by decide +kernel
theorem d_Sy_kill_6 : decode b_Sy_kill 6 = .ok (.iload_n 1, 1) := by decide +kernel
theorem d_Sy_kill_7 : decode b_Sy_kill 7 = .ok (.invokevirtual 86, 3) := by decide +kernel
theorem d_Sy_kill_10 : decode b_Sy_kill 10 = .ok (.aload_n 0, 1) := by decide +kernel
theorem d_Sy_kill_11 : decode b_Sy_kill 11 = .ok (.getfield 24, 3) := by decide +kernel
theorem d_Sy_kill_14 : decode b_Sy_kill 14 = .ok (.iload_n 1, 1) := by decide +kernel
theorem d_Sy_kill_15 : decode b_Sy_kill 15 = .ok (.iconst 0, 1) := by decide +kernel
theorem d_Sy_kill_16 : decode b_Sy_kill 16 = .ok (.bastore, 1) := by decide +kernel
theorem d_Sy_kill_17 : decode b_Sy_kill 17 = .ok (.aload_n 0, 1) := by decide +kernel
theorem d_Sy_kill_18 : decode b_Sy_kill 18 = .ok (.dup, 1) := by decide +kernel
theorem d_Sy_kill_19 : decode b_Sy_kill 19 = .ok (.getfield 90, 3) := by decide +kernel
theorem d_Sy_kill_22 : decode b_Sy_kill 22 = .ok (.iconst 1, 1) := by decide +kernel
theorem d_Sy_kill_23 : decode b_Sy_kill 23 = .ok (.iadd, 1) := by decide +kernel
theorem d_Sy_kill_24 : decode b_Sy_kill 24 = .ok (.putfield 90, 3) := by decide +kernel
theorem d_Sy_kill_27 : decode b_Sy_kill 27 = .ok (.iconst 0, 1) := by decide +kernel
theorem d_Sy_kill_28 : decode b_Sy_kill 28 = .ok (.istore_n 2, 1) := by decide +kernel
theorem d_Sy_kill_29 : decode b_Sy_kill 29 = .ok (.iconst 0, 1) := by decide +kernel
theorem d_Sy_kill_30 : decode b_Sy_kill 30 = .ok (.istore_n 3, 1) := by decide +kernel
theorem d_Sy_kill_31 : decode b_Sy_kill 31 = .ok (.iload_n 3, 1) := by decide +kernel
theorem d_Sy_kill_32 : decode b_Sy_kill 32 = .ok (.bipush 12, 2) := by decide +kernel
theorem d_Sy_kill_34 : decode b_Sy_kill 34 = .ok (.if_icmp .ge 34, 3) := by decide +kernel
theorem d_Sy_kill_37 : decode b_Sy_kill 37 = .ok (.aload_n 0, 1) := by decide +kernel
theorem d_Sy_kill_38 : decode b_Sy_kill 38 = .ok (.getfield 30, 3) := by decide +kernel
theorem d_Sy_kill_41 : decode b_Sy_kill 41 = .ok (.iload_n 3, 1) := by decide +kernel
theorem d_Sy_kill_42 : decode b_Sy_kill 42 = .ok (.aaload, 1) := by decide +kernel
theorem d_Sy_kill_43 : decode b_Sy_kill 43 = .ok (.getfield 93, 3) := by decide +kernel
theorem d_Sy_kill_46 : decode b_Sy_kill 46 = .ok (.iload_n 1, 1) := by decide +kernel
theorem d_Sy_kill_47 : decode b_Sy_kill 47 = .ok (.if_icmp .ne 15, 3) := by decide +kernel
theorem d_Sy_kill_50 : decode b_Sy_kill 50 = .ok (.aload_n 0, 1) := by decide +kernel
theorem d_Sy_kill_51 : decode b_Sy_kill 51 = .ok (.getfield 30, 3) := by decide +kernel
theorem d_Sy_kill_54 : decode b_Sy_kill 54 = .ok (.iload_n 3, 1) := by decide +kernel
theorem d_Sy_kill_55 : decode b_Sy_kill 55 = .ok (.aaload, 1) := by decide +kernel
theorem d_Sy_kill_56 : decode b_Sy_kill 56 = .ok (.invokevirtual 96, 3) := by decide +kernel
theorem d_Sy_kill_59 : decode b_Sy_kill 59 = .ok (.iinc 2 1, 3) := by decide +kernel
theorem d_Sy_kill_62 : decode b_Sy_kill 62 = .ok (.iinc 3 1, 3) := by decide +kernel
theorem d_Sy_kill_65 : decode b_Sy_kill 65 = .ok (.goto (-34), 3) := by decide +kernel
theorem d_Sy_kill_68 : decode b_Sy_kill 68 = .ok (.iconst 0, 1) := by decide +kernel
theorem d_Sy_kill_69 : decode b_Sy_kill 69 = .ok (.istore_n 3, 1) := by decide +kernel
theorem d_Sy_kill_70 : decode b_Sy_kill 70 = .ok (.iload_n 3, 1) := by decide +kernel
theorem d_Sy_kill_71 : decode b_Sy_kill 71 = .ok (.bipush 12, 2) := by decide +kernel
theorem d_Sy_kill_73 : decode b_Sy_kill 73 = .ok (.if_icmp .ge 31, 3) := by decide +kernel
theorem d_Sy_kill_76 : decode b_Sy_kill 76 = .ok (.aload_n 0, 1) := by decide +kernel
theorem d_Sy_kill_77 : decode b_Sy_kill 77 = .ok (.getfield 40, 3) := by decide +kernel
theorem d_Sy_kill_80 : decode b_Sy_kill 80 = .ok (.iload_n 3, 1) := by decide +kernel
theorem d_Sy_kill_81 : decode b_Sy_kill 81 = .ok (.aaload, 1) := by decide +kernel
theorem d_Sy_kill_82 : decode b_Sy_kill 82 = .ok (.getfield 99, 3) := by decide +kernel
theorem d_Sy_kill_85 : decode b_Sy_kill 85 = .ok (.iload_n 1, 1) := by decide +kernel
theorem d_Sy_kill_86 : decode b_Sy_kill 86 = .ok (.if_icmp .ne 12, 3) := by decide +kernel
theorem d_Sy_kill_89 : decode b_Sy_kill 89 = .ok (.iload_n 2, 1) := by decide +kernel
theorem d_Sy_kill_90 : decode b_Sy_kill 90 = .ok (.aload_n 0, 1) := by decide +kernel
theorem d_Sy_kill_91 : decode b_Sy_kill 91 = .ok (.iload_n 3, 1) := by decide +kernel
theorem d_Sy_kill_92 : decode b_Sy_kill 92 = .ok (.iconst 0, 1) := by decide +kernel
theorem d_Sy_kill_93 : decode b_Sy_kill 93 = .ok (.invokevirtual 100, 3) := by decide +kernel
theorem d_Sy_kill_96 : decode b_Sy_kill 96 = .ok (.iadd, 1) := by decide +kernel
theorem d_Sy_kill_97 : decode b_Sy_kill 97 = .ok (.istore_n 2, 1) := by decide +kernel
theorem d_Sy_kill_98 : decode b_Sy_kill 98 = .ok (.iinc 3 1, 3) := by decide +kernel
theorem d_Sy_kill_101 : decode b_Sy_kill 101 = .ok (.goto (-31), 3) := by decide +kernel
theorem d_Sy_kill_104 : decode b_Sy_kill 104 = .ok (.iload_n 2, 1) := by decide +kernel
theorem d_Sy_kill_105 : decode b_Sy_kill 105 = .ok (.ireturn, 1) := by decide +kernel
theorem d_Sy_block_0 : decode b_Sy_block 0 = .ok (.iload_n 1, 1) := by decide +kernel
theorem d_Sy_block_1 : decode b_Sy_block 1 = .ok (.iconst 4, 1) := by decide +kernel
theorem d_Sy_block_2 : decode b_Sy_block 2 = .ok (.invokestatic 64, 3) := by decide +kernel
theorem d_Sy_block_5 : decode b_Sy_block 5 = .ok (.iload_n 2, 1) := by decide +kernel
theorem d_Sy_block_6 : decode b_Sy_block 6 = .ok (.iconst 1, 1) := by decide +kernel
theorem d_Sy_block_7 : decode b_Sy_block 7 = .ok (.bipush 8, 2) := by decide +kernel
theorem d_Sy_block_9 : decode b_Sy_block 9 = .ok (.invokestatic 49, 3) := by decide +kernel
theorem d_Sy_block_12 : decode b_Sy_block 12 = .ok (.aload_n 0, 1) := by decide +kernel
theorem d_Sy_block_13 : decode b_Sy_block 13 = .ok (.iload_n 1, 1) := by decide +kernel
theorem d_Sy_block_14 : decode b_Sy_block 14 = .ok (.invokevirtual 86, 3) := by decide +kernel
theorem d_Sy_block_17 : decode b_Sy_block 17 = .ok (.aload_n 0, 1) := by decide +kernel
theorem d_Sy_block_18 : decode b_Sy_block 18 = .ok (.invokevirtual 104, 3) := by decide +kernel
theorem d_Sy_block_21 : decode b_Sy_block 21 = .ok (.istore_n 3, 1) := by decide +kernel
theorem d_Sy_block_22 : decode b_Sy_block 22 = .ok (.iload_n 3, 1) := by decide +kernel
theorem d_Sy_block_23 : decode b_Sy_block 23 = .ok (.bipush 12, 2) := by decide +kernel
theorem d_Sy_block_25 : decode b_Sy_block 25 = .ok (.if_icmp .eq 14, 3) := by decide +kernel
theorem d_Sy_block_28 : decode b_Sy_block 28 = .ok (.aload_n 0, 1) := by decide +kernel
theorem d_Sy_block_29 : decode b_Sy_block 29 = .ok (.invokevirtual 108, 3) := by decide +kernel
theorem d_Sy_block_32 : decode b_Sy_block 32 = .ok (.iload_n 2, 1) := by decide +kernel
theorem d_Sy_block_33 : decode b_Sy_block 33 = .ok (.iadd, 1) := by decide +kernel
theorem d_Sy_block_34 : decode b_Sy_block 34 = .ok (.bipush 48, 2) := by decide +kernel
theorem d_Sy_block_36 : decode b_Sy_block 36 = .ok (.if_icmp .le 13, 3) := by decide +kernel
theorem d_Sy_block_39 : decode b_Sy_block 39 = .ok (.new 57, 3) := by decide +kernel
theorem d_Sy_block_42 : decode b_Sy_block 42 = .ok (.dup, 1) := by decide +kernel
theorem d_Sy_block_43 : decode b_Sy_block 43 = .ok (.ldc 111, 2) := by decide +kernel
theorem d_Sy_block_45 : decode b_Sy_block 45 = .ok (.invokespecial 61, 3) := by decide +kernel
theorem d_Sy_block_48 : decode b_Sy_block 48 = .ok (.athrow, 1) := by decide +kernel
theorem d_Sy_block_49 : decode b_Sy_block 49 = .ok (.aload_n 0, 1) := by decide +kernel
theorem d_Sy_block_50 : decode b_Sy_block 50 = .ok (.getfield 30, 3) := by decide +kernel
theorem d_Sy_block_53 : decode b_Sy_block 53 = .ok (.iload_n 3, 1) := by decide +kernel
theorem d_Sy_block_54 : decode b_Sy_block 54 = .ok (.aaload, 1) := by decide +kernel
theorem d_Sy_block_55 : decode b_Sy_block 55 = .ok (.iload_n 1, 1) := by decide +kernel
theorem d_Sy_block_56 : decode b_Sy_block 56 = .ok (.iload_n 2, 1) := by decide +kernel
theorem d_Sy_block_57 : decode b_Sy_block 57 = .ok (.invokevirtual 113, 3) := by decide +kernel
theorem d_Sy_block_60 : decode b_Sy_block 60 = .ok (.iload_n 3, 1) := by decide +kernel
theorem d_Sy_block_61 : decode b_Sy_block 61 = .ok (.ireturn, 1) := by decide +kernel
theorem d_Sy_free_0 : decode b_Sy_free 0 = .ok (.aload_n 0, 1) := by decide +kernel
theorem d_Sy_free_1 : decode b_Sy_free 1 = .ok (.iload_n 1, 1) := by decide +kernel
theorem d_Sy_free_2 : decode b_Sy_free 2 = .ok (.iload_n 2, 1) := by decide +kernel
theorem d_Sy_free_3 : decode b_Sy_free 3 = .ok (.invokevirtual 116, 3) := by decide +kernel
theorem d_Sy_free_6 : decode b_Sy_free 6 = .ok (.aload_n 0, 1) := by decide +kernel
theorem d_Sy_free_7 : decode b_Sy_free 7 = .ok (.getfield 30, 3) := by decide +kernel
theorem d_Sy_free_10 : decode b_Sy_free 10 = .ok (.iload_n 2, 1) := by decide +kernel
theorem d_Sy_free_11 : decode b_Sy_free 11 = .ok (.aaload, 1) := by decide +kernel
theorem d_Sy_free_12 : decode b_Sy_free 12 = .ok (.invokevirtual 96, 3) := by decide +kernel
theorem d_Sy_free_15 : decode b_Sy_free 15 = .ok (.return_, 1) := by decide +kernel
theorem d_Sy_read_0 : decode b_Sy_read 0 = .ok (.aload_n 0, 1) := by decide +kernel
theorem d_Sy_read_1 : decode b_Sy_read 1 = .ok (.iload_n 1, 1) := by decide +kernel
theorem d_Sy_read_2 : decode b_Sy_read 2 = .ok (.iload_n 2, 1) := by decide +kernel
theorem d_Sy_read_3 : decode b_Sy_read 3 = .ok (.invokevirtual 116, 3) := by decide +kernel
theorem d_Sy_read_6 : decode b_Sy_read 6 = .ok (.aload_n 0, 1) := by decide +kernel
theorem d_Sy_read_7 : decode b_Sy_read 7 = .ok (.iload_n 2, 1) := by decide +kernel
theorem d_Sy_read_8 : decode b_Sy_read 8 = .ok (.iload_n 3, 1) := by decide +kernel
theorem d_Sy_read_9 : decode b_Sy_read 9 = .ok (.invokevirtual 119, 3) := by decide +kernel
theorem d_Sy_read_12 : decode b_Sy_read 12 = .ok (.aload_n 0, 1) := by decide +kernel
theorem d_Sy_read_13 : decode b_Sy_read 13 = .ok (.getfield 30, 3) := by decide +kernel
theorem d_Sy_read_16 : decode b_Sy_read 16 = .ok (.iload_n 2, 1) := by decide +kernel
theorem d_Sy_read_17 : decode b_Sy_read 17 = .ok (.aaload, 1) := by decide +kernel
theorem d_Sy_read_18 : decode b_Sy_read 18 = .ok (.getfield 122, 3) := by decide +kernel
theorem d_Sy_read_21 : decode b_Sy_read 21 = .ok (.iload_n 3, 1) := by decide +kernel
theorem d_Sy_read_22 : decode b_Sy_read 22 = .ok (.iaload, 1) := by decide +kernel
theorem d_Sy_read_23 : decode b_Sy_read 23 = .ok (.ireturn, 1) := by decide +kernel
theorem d_Sy_write_0 : decode b_Sy_write 0 = .ok (.aload_n 0, 1) := by decide +kernel
theorem d_Sy_write_1 : decode b_Sy_write 1 = .ok (.iload_n 1, 1) := by decide +kernel
theorem d_Sy_write_2 : decode b_Sy_write 2 = .ok (.iload_n 2, 1) := by decide +kernel
theorem d_Sy_write_3 : decode b_Sy_write 3 = .ok (.invokevirtual 116, 3) := by decide +kernel
theorem d_Sy_write_6 : decode b_Sy_write 6 = .ok (.aload_n 0, 1) := by decide +kernel
theorem d_Sy_write_7 : decode b_Sy_write 7 = .ok (.iload_n 2, 1) := by decide +kernel
theorem d_Sy_write_8 : decode b_Sy_write 8 = .ok (.iload_n 3, 1) := by decide +kernel
theorem d_Sy_write_9 : decode b_Sy_write 9 = .ok (.invokevirtual 119, 3) := by decide +kernel
theorem d_Sy_write_12 : decode b_Sy_write 12 = .ok (.aload_n 0, 1) := by decide +kernel
theorem d_Sy_write_13 : decode b_Sy_write 13 = .ok (.getfield 30, 3) := by decide +kernel
theorem d_Sy_write_16 : decode b_Sy_write 16 = .ok (.iload_n 2, 1) := by decide +kernel
theorem d_Sy_write_17 : decode b_Sy_write 17 = .ok (.aaload, 1) := by decide +kernel
theorem d_Sy_write_18 : decode b_Sy_write 18 = .ok (.getfield 122, 3) := by decide +kernel
theorem d_Sy_write_21 : decode b_Sy_write 21 = .ok (.iload_n 3, 1) := by decide +kernel
theorem d_Sy_write_22 : decode b_Sy_write 22 = .ok (.iload 4, 2) := by decide +kernel
theorem d_Sy_write_24 : decode b_Sy_write 24 = .ok (.iastore, 1) := by decide +kernel
theorem d_Sy_write_25 : decode b_Sy_write 25 = .ok (.return_, 1) := by decide +kernel
theorem d_Sy_open_0 : decode b_Sy_open 0 = .ok (.iload_n 1, 1) := by decide +kernel
theorem d_Sy_open_1 : decode b_Sy_open 1 = .ok (.iconst 4, 1) := by decide +kernel
theorem d_Sy_open_2 : decode b_Sy_open 2 = .ok (.invokestatic 64, 3) := by decide +kernel
theorem d_Sy_open_5 : decode b_Sy_open 5 = .ok (.iload_n 2, 1) := by decide +kernel
theorem d_Sy_open_6 : decode b_Sy_open 6 = .ok (.iconst 4, 1) := by decide +kernel
theorem d_Sy_open_7 : decode b_Sy_open 7 = .ok (.invokestatic 64, 3) := by decide +kernel
theorem d_Sy_open_10 : decode b_Sy_open 10 = .ok (.iload_n 3, 1) := by decide +kernel
theorem d_Sy_open_11 : decode b_Sy_open 11 = .ok (.iconst 4, 1) := by decide +kernel
theorem d_Sy_open_12 : decode b_Sy_open 12 = .ok (.invokestatic 64, 3) := by decide +kernel
theorem d_Sy_open_15 : decode b_Sy_open 15 = .ok (.aload_n 0, 1) := by decide +kernel
theorem d_Sy_open_16 : decode b_Sy_open 16 = .ok (.iload_n 1, 1) := by decide +kernel
theorem d_Sy_open_17 : decode b_Sy_open 17 = .ok (.invokevirtual 86, 3) := by decide +kernel
theorem d_Sy_open_20 : decode b_Sy_open 20 = .ok (.aload_n 0, 1) := by decide +kernel
theorem d_Sy_open_21 : decode b_Sy_open 21 = .ok (.iload_n 2, 1) := by decide +kernel
theorem d_Sy_open_22 : decode b_Sy_open 22 = .ok (.invokevirtual 86, 3) := by decide +kernel
theorem d_Sy_open_25 : decode b_Sy_open 25 = .ok (.aload_n 0, 1) := by decide +kernel
theorem d_Sy_open_26 : decode b_Sy_open 26 = .ok (.getfield 20, 3) := by decide +kernel
theorem d_Sy_open_29 : decode b_Sy_open 29 = .ok (.iload_n 3, 1) := by decide +kernel
theorem d_Sy_open_30 : decode b_Sy_open 30 = .ok (.aaload, 1) := by decide +kernel
theorem d_Sy_open_31 : decode b_Sy_open 31 = .ok (.invokevirtual 126, 3) := by decide +kernel
theorem d_Sy_open_34 : decode b_Sy_open 34 = .ok (.ifCond .eq 13, 3) := by decide +kernel
theorem d_Sy_open_37 : decode b_Sy_open 37 = .ok (.new 129, 3) := by decide +kernel
theorem d_Sy_open_40 : decode b_Sy_open 40 = .ok (.dup, 1) := by decide +kernel
theorem d_Sy_open_41 : decode b_Sy_open 41 = .ok (.ldc 131, 2) := by decide +kernel
theorem d_Sy_open_43 : decode b_Sy_open 43 = .ok (.invokespecial 133, 3) := by decide +kernel
theorem d_Sy_open_46 : decode b_Sy_open 46 = .ok (.athrow, 1) := by decide +kernel
theorem d_Sy_open_47 : decode b_Sy_open 47 = .ok (.aload_n 0, 1) := by decide +kernel
theorem d_Sy_open_48 : decode b_Sy_open 48 = .ok (.invokevirtual 134, 3) := by decide +kernel
theorem d_Sy_open_51 : decode b_Sy_open 51 = .ok (.istore 4, 2) := by decide +kernel
theorem d_Sy_open_53 : decode b_Sy_open 53 = .ok (.iload 4, 2) := by decide +kernel
theorem d_Sy_open_55 : decode b_Sy_open 55 = .ok (.bipush 6, 2) := by decide +kernel
theorem d_Sy_open_57 : decode b_Sy_open 57 = .ok (.if_icmp .ne 13, 3) := by decide +kernel
theorem d_Sy_open_60 : decode b_Sy_open 60 = .ok (.new 57, 3) := by decide +kernel
theorem d_Sy_open_63 : decode b_Sy_open 63 = .ok (.dup, 1) := by decide +kernel
theorem d_Sy_open_64 : decode b_Sy_open 64 = .ok (.ldc 137, 2) := by decide +kernel
theorem d_Sy_open_66 : decode b_Sy_open 66 = .ok (.invokespecial 61, 3) := by decide +kernel
theorem d_Sy_open_69 : decode b_Sy_open 69 = .ok (.athrow, 1) := by decide +kernel
theorem d_Sy_open_70 : decode b_Sy_open 70 = .ok (.aload_n 0, 1) := by decide +kernel
theorem d_Sy_open_71 : decode b_Sy_open 71 = .ok (.getfield 35, 3) := by decide +kernel
theorem d_Sy_open_74 : decode b_Sy_open 74 = .ok (.iload 4, 2) := by decide +kernel
theorem d_Sy_open_76 : decode b_Sy_open 76 = .ok (.aaload, 1) := by decide +kernel
theorem d_Sy_open_77 : decode b_Sy_open 77 = .ok (.aload_n 0, 1) := by decide +kernel
theorem d_Sy_open_78 : decode b_Sy_open 78 = .ok (.getfield 20, 3) := by decide +kernel
theorem d_Sy_open_81 : decode b_Sy_open 81 = .ok (.iload_n 3, 1) := by decide +kernel
theorem d_Sy_open_82 : decode b_Sy_open 82 = .ok (.aaload, 1) := by decide +kernel
theorem d_Sy_open_83 : decode b_Sy_open 83 = .ok (.invokevirtual 77, 3) := by decide +kernel
theorem d_Sy_open_86 : decode b_Sy_open 86 = .ok (.aload_n 0, 1) := by decide +kernel
theorem d_Sy_open_87 : decode b_Sy_open 87 = .ok (.getfield 40, 3) := by decide +kernel
theorem d_Sy_open_90 : decode b_Sy_open 90 = .ok (.iconst 2, 1) := by decide +kernel
theorem d_Sy_open_91 : decode b_Sy_open 91 = .ok (.iload 4, 2) := by decide +kernel
theorem d_Sy_open_93 : decode b_Sy_open 93 = .ok (.imul, 1) := by decide +kernel
theorem d_Sy_open_94 : decode b_Sy_open 94 = .ok (.aaload, 1) := by decide +kernel
theorem d_Sy_open_95 : decode b_Sy_open 95 = .ok (.iload_n 1, 1) := by decide +kernel
theorem d_Sy_open_96 : decode b_Sy_open 96 = .ok (.invokevirtual 139, 3) := by decide +kernel
theorem d_Sy_open_99 : decode b_Sy_open 99 = .ok (.aload_n 0, 1) := by decide +kernel
theorem d_Sy_open_100 : decode b_Sy_open 100 = .ok (.getfield 40, 3) := by decide +kernel
theorem d_Sy_open_103 : decode b_Sy_open 103 = .ok (.iconst 2, 1) := by decide +kernel
theorem d_Sy_open_104 : decode b_Sy_open 104 = .ok (.iload 4, 2) := by decide +kernel
theorem d_Sy_open_106 : decode b_Sy_open 106 = .ok (.imul, 1) := by decide +kernel
theorem d_Sy_open_107 : decode b_Sy_open 107 = .ok (.iconst 1, 1) := by decide +kernel
theorem d_Sy_open_108 : decode b_Sy_open 108 = .ok (.iadd, 1) := by decide +kernel
theorem d_Sy_open_109 : decode b_Sy_open 109 = .ok (.aaload, 1) := by decide +kernel
theorem d_Sy_open_110 : decode b_Sy_open 110 = .ok (.iload_n 2, 1) := by decide +kernel
theorem d_Sy_open_111 : decode b_Sy_open 111 = .ok (.invokevirtual 139, 3) := by decide +kernel
theorem d_Sy_open_114 : decode b_Sy_open 114 = .ok (.iload 4, 2) := by decide +kernel
theorem d_Sy_open_116 : decode b_Sy_open 116 = .ok (.ireturn, 1) := by decide +kernel
theorem d_Sy_say_0 : decode b_Sy_say 0 = .ok (.iload_n 3, 1) := by decide +kernel
theorem d_Sy_say_1 : decode b_Sy_say 1 = .ok (.ldc 142, 2) := by decide +kernel
theorem d_Sy_say_3 : decode b_Sy_say 3 = .ok (.invokevirtual 144, 3) := by decide +kernel
theorem d_Sy_say_6 : decode b_Sy_say 6 = .ok (.invokestatic 64, 3) := by decide +kernel
theorem d_Sy_say_9 : decode b_Sy_say 9 = .ok (.aload_n 0, 1) := by decide +kernel
theorem d_Sy_say_10 : decode b_Sy_say 10 = .ok (.iload_n 1, 1) := by decide +kernel
theorem d_Sy_say_11 : decode b_Sy_say 11 = .ok (.iload_n 2, 1) := by decide +kernel
theorem d_Sy_say_12 : decode b_Sy_say 12 = .ok (.invokevirtual 149, 3) := by decide +kernel
theorem d_Sy_say_15 : decode b_Sy_say 15 = .ok (.aload_n 0, 1) := by decide +kernel
theorem d_Sy_say_16 : decode b_Sy_say 16 = .ok (.getfield 40, 3) := by decide +kernel
theorem d_Sy_say_19 : decode b_Sy_say 19 = .ok (.iload_n 2, 1) := by decide +kernel
theorem d_Sy_say_20 : decode b_Sy_say 20 = .ok (.aaload, 1) := by decide +kernel
theorem d_Sy_say_21 : decode b_Sy_say 21 = .ok (.astore 5, 2) := by decide +kernel
theorem d_Sy_say_23 : decode b_Sy_say 23 = .ok (.aload_n 0, 1) := by decide +kernel
theorem d_Sy_say_24 : decode b_Sy_say 24 = .ok (.getfield 35, 3) := by decide +kernel
theorem d_Sy_say_27 : decode b_Sy_say 27 = .ok (.iload_n 2, 1) := by decide +kernel
theorem d_Sy_say_28 : decode b_Sy_say 28 = .ok (.iconst 2, 1) := by decide +kernel
theorem d_Sy_say_29 : decode b_Sy_say 29 = .ok (.idiv, 1) := by decide +kernel
theorem d_Sy_say_30 : decode b_Sy_say 30 = .ok (.aaload, 1) := by decide +kernel
theorem d_Sy_say_31 : decode b_Sy_say 31 = .ok (.aload 5, 2) := by decide +kernel
theorem d_Sy_say_33 : decode b_Sy_say 33 = .ok (.getfield 152, 3) := by decide +kernel
theorem d_Sy_say_36 : decode b_Sy_say 36 = .ok (.iload_n 3, 1) := by decide +kernel
theorem d_Sy_say_37 : decode b_Sy_say 37 = .ok (.iload_n 2, 1) := by decide +kernel
theorem d_Sy_say_38 : decode b_Sy_say 38 = .ok (.invokestatic 155, 3) := by decide +kernel
theorem d_Sy_say_41 : decode b_Sy_say 41 = .ok (.invokevirtual 159, 3) := by decide +kernel
theorem d_Sy_say_44 : decode b_Sy_say 44 = .ok (.istore 6, 2) := by decide +kernel
theorem d_Sy_say_46 : decode b_Sy_say 46 = .ok (.iload 6, 2) := by decide +kernel
theorem d_Sy_say_48 : decode b_Sy_say 48 = .ok (.invokestatic 163, 3) := by decide +kernel
theorem d_Sy_say_51 : decode b_Sy_say 51 = .ok (.aload_n 0, 1) := by decide +kernel
theorem d_Sy_say_52 : decode b_Sy_say 52 = .ok (.iload_n 1, 1) := by decide +kernel
theorem d_Sy_say_53 : decode b_Sy_say 53 = .ok (.iload_n 2, 1) := by decide +kernel
theorem d_Sy_say_54 : decode b_Sy_say 54 = .ok (.iload_n 3, 1) := by decide +kernel
theorem d_Sy_say_55 : decode b_Sy_say 55 = .ok (.iload 4, 2) := by decide +kernel
theorem d_Sy_say_57 : decode b_Sy_say 57 = .ok (.invokevirtual 166, 3) := by decide +kernel
theorem d_Sy_say_60 : decode b_Sy_say 60 = .ok (.aload_n 0, 1) := by decide +kernel
theorem d_Sy_say_61 : decode b_Sy_say 61 = .ok (.getfield 40, 3) := by decide +kernel
theorem d_Sy_say_64 : decode b_Sy_say 64 = .ok (.iload_n 2, 1) := by decide +kernel
theorem d_Sy_say_65 : decode b_Sy_say 65 = .ok (.invokestatic 170, 3) := by decide +kernel
theorem d_Sy_say_68 : decode b_Sy_say 68 = .ok (.aaload, 1) := by decide +kernel
theorem d_Sy_say_69 : decode b_Sy_say 69 = .ok (.astore 7, 2) := by decide +kernel
theorem d_Sy_say_71 : decode b_Sy_say 71 = .ok (.aload 7, 2) := by decide +kernel
theorem d_Sy_say_73 : decode b_Sy_say 73 = .ok (.invokevirtual 173, 3) := by decide +kernel
theorem d_Sy_say_76 : decode b_Sy_say 76 = .ok (.ifCond .ne 13, 3) := by decide +kernel
theorem d_Sy_say_79 : decode b_Sy_say 79 = .ok (.new 129, 3) := by decide +kernel
theorem d_Sy_say_82 : decode b_Sy_say 82 = .ok (.dup, 1) := by decide +kernel
theorem d_Sy_say_83 : decode b_Sy_say 83 = .ok (.ldc 176, 2) := by decide +kernel
theorem d_Sy_say_85 : decode b_Sy_say 85 = .ok (.invokespecial 133, 3) := by decide +kernel
theorem d_Sy_say_88 : decode b_Sy_say 88 = .ok (.athrow, 1) := by decide +kernel
theorem d_Sy_say_89 : decode b_Sy_say 89 = .ok (.aload 7, 2) := by decide +kernel
theorem d_Sy_say_91 : decode b_Sy_say 91 = .ok (.getfield 178, 3) := by decide +kernel
theorem d_Sy_say_94 : decode b_Sy_say 94 = .ok (.iconst 3, 1) := by decide +kernel
theorem d_Sy_say_95 : decode b_Sy_say 95 = .ok (.if_icmp .lt 13, 3) := by decide +kernel
theorem d_Sy_say_98 : decode b_Sy_say 98 = .ok (.new 181, 3) := by decide +kernel
theorem d_Sy_say_101 : decode b_Sy_say 101 = .ok (.dup, 1) := by decide +kernel
theorem d_Sy_say_102 : decode b_Sy_say 102 = .ok (.ldc 183, 2) := by decide +kernel
theorem d_Sy_say_104 : decode b_Sy_say 104 = .ok (.invokespecial 185, 3) := by decide +kernel
theorem d_Sy_say_107 : decode b_Sy_say 107 = .ok (.athrow, 1) := by decide +kernel
theorem d_Sy_say_108 : decode b_Sy_say 108 = .ok (.aload 5, 2) := by decide +kernel
theorem d_Sy_say_110 : decode b_Sy_say 110 = .ok (.iload 6, 2) := by decide +kernel
theorem d_Sy_say_112 : decode b_Sy_say 112 = .ok (.putfield 152, 3) := by decide +kernel
theorem d_Sy_say_115 : decode b_Sy_say 115 = .ok (.aload_n 0, 1) := by decide +kernel
theorem d_Sy_say_116 : decode b_Sy_say 116 = .ok (.iload_n 3, 1) := by decide +kernel
theorem d_Sy_say_117 : decode b_Sy_say 117 = .ok (.iload 4, 2) := by decide +kernel
theorem d_Sy_say_119 : decode b_Sy_say 119 = .ok (.iconst 4, 1) := by decide +kernel
theorem d_Sy_say_120 : decode b_Sy_say 120 = .ok (.invokevirtual 186, 3) := by decide +kernel
theorem d_Sy_say_123 : decode b_Sy_say 123 = .ok (.aload 7, 2) := by decide +kernel
theorem d_Sy_say_125 : decode b_Sy_say 125 = .ok (.iload_n 3, 1) := by decide +kernel
theorem d_Sy_say_126 : decode b_Sy_say 126 = .ok (.iload 4, 2) := by decide +kernel
theorem d_Sy_say_128 : decode b_Sy_say 128 = .ok (.invokevirtual 189, 3) := by decide +kernel
theorem d_Sy_say_131 : decode b_Sy_say 131 = .ok (.aload_n 0, 1) := by decide +kernel
theorem d_Sy_say_132 : decode b_Sy_say 132 = .ok (.dup, 1) := by decide +kernel
theorem d_Sy_say_133 : decode b_Sy_say 133 = .ok (.getfield 192, 3) := by decide +kernel
theorem d_Sy_say_136 : decode b_Sy_say 136 = .ok (.iconst 1, 1) := by decide +kernel
theorem d_Sy_say_137 : decode b_Sy_say 137 = .ok (.iadd, 1) := by decide +kernel
theorem d_Sy_say_138 : decode b_Sy_say 138 = .ok (.putfield 192, 3) := by decide +kernel
theorem d_Sy_say_141 : decode b_Sy_say 141 = .ok (.return_, 1) := by decide +kernel
theorem d_Sy_hear_0 : decode b_Sy_hear 0 = .ok (.aload_n 0, 1) := by decide +kernel
theorem d_Sy_hear_1 : decode b_Sy_hear 1 = .ok (.iload_n 1, 1) := by decide +kernel
theorem d_Sy_hear_2 : decode b_Sy_hear 2 = .ok (.iload_n 2, 1) := by decide +kernel
theorem d_Sy_hear_3 : decode b_Sy_hear 3 = .ok (.invokevirtual 149, 3) := by decide +kernel
theorem d_Sy_hear_6 : decode b_Sy_hear 6 = .ok (.aload_n 0, 1) := by decide +kernel
theorem d_Sy_hear_7 : decode b_Sy_hear 7 = .ok (.getfield 40, 3) := by decide +kernel
theorem d_Sy_hear_10 : decode b_Sy_hear 10 = .ok (.iload_n 2, 1) := by decide +kernel
theorem d_Sy_hear_11 : decode b_Sy_hear 11 = .ok (.aaload, 1) := by decide +kernel
theorem d_Sy_hear_12 : decode b_Sy_hear 12 = .ok (.astore_n 3, 1) := by decide +kernel
theorem d_Sy_hear_13 : decode b_Sy_hear 13 = .ok (.aload_n 3, 1) := by decide +kernel
theorem d_Sy_hear_14 : decode b_Sy_hear 14 = .ok (.getfield 178, 3) := by decide +kernel
theorem d_Sy_hear_17 : decode b_Sy_hear 17 = .ok (.ifCond .ne 13, 3) := by decide +kernel
theorem d_Sy_hear_20 : decode b_Sy_hear 20 = .ok (.new 129, 3) := by decide +kernel
theorem d_Sy_hear_23 : decode b_Sy_hear 23 = .ok (.dup, 1) := by decide +kernel
theorem d_Sy_hear_24 : decode b_Sy_hear 24 = .ok (.ldc 195, 2) := by decide +kernel
theorem d_Sy_hear_26 : decode b_Sy_hear 26 = .ok (.invokespecial 133, 3) := by decide +kernel
theorem d_Sy_hear_29 : decode b_Sy_hear 29 = .ok (.athrow, 1) := by decide +kernel
theorem d_Sy_hear_30 : decode b_Sy_hear 30 = .ok (.aload_n 3, 1) := by decide +kernel
theorem d_Sy_hear_31 : decode b_Sy_hear 31 = .ok (.getfield 197, 3) := by decide +kernel
theorem d_Sy_hear_34 : decode b_Sy_hear 34 = .ok (.iconst 0, 1) := by decide +kernel
theorem d_Sy_hear_35 : decode b_Sy_hear 35 = .ok (.iaload, 1) := by decide +kernel
theorem d_Sy_hear_36 : decode b_Sy_hear 36 = .ok (.istore 4, 2) := by decide +kernel
theorem d_Sy_hear_38 : decode b_Sy_hear 38 = .ok (.aload_n 3, 1) := by decide +kernel
theorem d_Sy_hear_39 : decode b_Sy_hear 39 = .ok (.getfield 200, 3) := by decide +kernel
theorem d_Sy_hear_42 : decode b_Sy_hear 42 = .ok (.iconst 0, 1) := by decide +kernel
theorem d_Sy_hear_43 : decode b_Sy_hear 43 = .ok (.iaload, 1) := by decide +kernel
theorem d_Sy_hear_44 : decode b_Sy_hear 44 = .ok (.istore 5, 2) := by decide +kernel
theorem d_Sy_hear_46 : decode b_Sy_hear 46 = .ok (.aload_n 0, 1) := by decide +kernel
theorem d_Sy_hear_47 : decode b_Sy_hear 47 = .ok (.getfield 35, 3) := by decide +kernel
theorem d_Sy_hear_50 : decode b_Sy_hear 50 = .ok (.iload_n 2, 1) := by decide +kernel
theorem d_Sy_hear_51 : decode b_Sy_hear 51 = .ok (.iconst 2, 1) := by decide +kernel
theorem d_Sy_hear_52 : decode b_Sy_hear 52 = .ok (.idiv, 1) := by decide +kernel
theorem d_Sy_hear_53 : decode b_Sy_hear 53 = .ok (.aaload, 1) := by decide +kernel
theorem d_Sy_hear_54 : decode b_Sy_hear 54 = .ok (.aload_n 3, 1) := by decide +kernel
theorem d_Sy_hear_55 : decode b_Sy_hear 55 = .ok (.getfield 152, 3) := by decide +kernel
theorem d_Sy_hear_58 : decode b_Sy_hear 58 = .ok (.iload 4, 2) := by decide +kernel
theorem d_Sy_hear_60 : decode b_Sy_hear 60 = .ok (.iload_n 2, 1) := by decide +kernel
theorem d_Sy_hear_61 : decode b_Sy_hear 61 = .ok (.invokestatic 170, 3) := by decide +kernel
theorem d_Sy_hear_64 : decode b_Sy_hear 64 = .ok (.invokestatic 155, 3) := by decide +kernel
theorem d_Sy_hear_67 : decode b_Sy_hear 67 = .ok (.invokevirtual 159, 3) := by decide +kernel
theorem d_Sy_hear_70 : decode b_Sy_hear 70 = .ok (.istore 6, 2) := by decide +kernel
theorem d_Sy_hear_72 : decode b_Sy_hear 72 = .ok (.iload 6, 2) := by decide +kernel
theorem d_Sy_hear_74 : decode b_Sy_hear 74 = .ok (.invokestatic 163, 3) := by decide +kernel
theorem d_Sy_hear_77 : decode b_Sy_hear 77 = .ok (.aload_n 3, 1) := by decide +kernel
theorem d_Sy_hear_78 : decode b_Sy_hear 78 = .ok (.iload 6, 2) := by decide +kernel
theorem d_Sy_hear_80 : decode b_Sy_hear 80 = .ok (.putfield 152, 3) := by decide +kernel
theorem d_Sy_hear_83 : decode b_Sy_hear 83 = .ok (.aload_n 3, 1) := by decide +kernel
theorem d_Sy_hear_84 : decode b_Sy_hear 84 = .ok (.invokevirtual 203, 3) := by decide +kernel
theorem d_Sy_hear_87 : decode b_Sy_hear 87 = .ok (.aload_n 0, 1) := by decide +kernel
theorem d_Sy_hear_88 : decode b_Sy_hear 88 = .ok (.iload 4, 2) := by decide +kernel
theorem d_Sy_hear_90 : decode b_Sy_hear 90 = .ok (.iload 5, 2) := by decide +kernel
theorem d_Sy_hear_92 : decode b_Sy_hear 92 = .ok (.iload_n 1, 1) := by decide +kernel
theorem d_Sy_hear_93 : decode b_Sy_hear 93 = .ok (.invokevirtual 186, 3) := by decide +kernel
theorem d_Sy_hear_96 : decode b_Sy_hear 96 = .ok (.aload_n 0, 1) := by decide +kernel
theorem d_Sy_hear_97 : decode b_Sy_hear 97 = .ok (.dup, 1) := by decide +kernel
theorem d_Sy_hear_98 : decode b_Sy_hear 98 = .ok (.getfield 206, 3) := by decide +kernel
theorem d_Sy_hear_101 : decode b_Sy_hear 101 = .ok (.iconst 1, 1) := by decide +kernel
theorem d_Sy_hear_102 : decode b_Sy_hear 102 = .ok (.iadd, 1) := by decide +kernel
theorem d_Sy_hear_103 : decode b_Sy_hear 103 = .ok (.putfield 206, 3) := by decide +kernel
theorem d_Sy_hear_106 : decode b_Sy_hear 106 = .ok (.bipush 16, 2) := by decide +kernel
theorem d_Sy_hear_108 : decode b_Sy_hear 108 = .ok (.iload 4, 2) := by decide +kernel
theorem d_Sy_hear_110 : decode b_Sy_hear 110 = .ok (.imul, 1) := by decide +kernel
theorem d_Sy_hear_111 : decode b_Sy_hear 111 = .ok (.iload 5, 2) := by decide +kernel
theorem d_Sy_hear_113 : decode b_Sy_hear 113 = .ok (.bipush 15, 2) := by decide +kernel
theorem d_Sy_hear_115 : decode b_Sy_hear 115 = .ok (.iand, 1) := by decide +kernel
theorem d_Sy_hear_116 : decode b_Sy_hear 116 = .ok (.iadd, 1) := by decide +kernel
theorem d_Sy_hear_117 : decode b_Sy_hear 117 = .ok (.ireturn, 1) := by decide +kernel
theorem d_Sy_choose_0 : decode b_Sy_choose 0 = .ok (.iload_n 1, 1) := by decide +kernel
theorem d_Sy_choose_1 : decode b_Sy_choose 1 = .ok (.iconst 4, 1) := by decide +kernel
theorem d_Sy_choose_2 : decode b_Sy_choose 2 = .ok (.invokestatic 64, 3) := by decide +kernel
theorem d_Sy_choose_5 : decode b_Sy_choose 5 = .ok (.iload_n 2, 1) := by decide +kernel
theorem d_Sy_choose_6 : decode b_Sy_choose 6 = .ok (.sipush 4096, 3) := by decide +kernel
theorem d_Sy_choose_9 : decode b_Sy_choose 9 = .ok (.invokestatic 64, 3) := by decide +kernel
theorem d_Sy_choose_12 : decode b_Sy_choose 12 = .ok (.aload_n 0, 1) := by decide +kernel
theorem d_Sy_choose_13 : decode b_Sy_choose 13 = .ok (.iload_n 1, 1) := by decide +kernel
theorem d_Sy_choose_14 : decode b_Sy_choose 14 = .ok (.invokevirtual 86, 3) := by decide +kernel
theorem d_Sy_choose_17 : decode b_Sy_choose 17 = .ok (.iconst 0, 1) := by decide +kernel
theorem d_Sy_choose_18 : decode b_Sy_choose 18 = .ok (.istore_n 3, 1) := by decide +kernel
theorem d_Sy_choose_19 : decode b_Sy_choose 19 = .ok (.iload_n 3, 1) := by decide +kernel
theorem d_Sy_choose_20 : decode b_Sy_choose 20 = .ok (.bipush 12, 2) := by decide +kernel
theorem d_Sy_choose_22 : decode b_Sy_choose 22 = .ok (.if_icmp .ge 57, 3) := by decide +kernel
theorem d_Sy_choose_25 : decode b_Sy_choose 25 = .ok (.iload_n 2, 1) := by decide +kernel
theorem d_Sy_choose_26 : decode b_Sy_choose 26 = .ok (.iload_n 3, 1) := by decide +kernel
theorem d_Sy_choose_27 : decode b_Sy_choose 27 = .ok (.ishr, 1) := by decide +kernel
theorem d_Sy_choose_28 : decode b_Sy_choose 28 = .ok (.iconst 1, 1) := by decide +kernel
theorem d_Sy_choose_29 : decode b_Sy_choose 29 = .ok (.iand, 1) := by decide +kernel
theorem d_Sy_choose_30 : decode b_Sy_choose 30 = .ok (.iconst 1, 1) := by decide +kernel
theorem d_Sy_choose_31 : decode b_Sy_choose 31 = .ok (.if_icmp .ne 7, 3) := by decide +kernel
theorem d_Sy_choose_34 : decode b_Sy_choose 34 = .ok (.iconst 1, 1) := by decide +kernel
theorem d_Sy_choose_35 : decode b_Sy_choose 35 = .ok (.goto 4, 3) := by decide +kernel
theorem d_Sy_choose_38 : decode b_Sy_choose 38 = .ok (.iconst 0, 1) := by decide +kernel
theorem d_Sy_choose_39 : decode b_Sy_choose 39 = .ok (.istore 4, 2) := by decide +kernel
theorem d_Sy_choose_41 : decode b_Sy_choose 41 = .ok (.iload 4, 2) := by decide +kernel
theorem d_Sy_choose_43 : decode b_Sy_choose 43 = .ok (.ifCond .eq 30, 3) := by decide +kernel
theorem d_Sy_choose_46 : decode b_Sy_choose 46 = .ok (.aload_n 0, 1) := by decide +kernel
theorem d_Sy_choose_47 : decode b_Sy_choose 47 = .ok (.getfield 40, 3) := by decide +kernel
theorem d_Sy_choose_50 : decode b_Sy_choose 50 = .ok (.iload_n 3, 1) := by decide +kernel
theorem d_Sy_choose_51 : decode b_Sy_choose 51 = .ok (.aaload, 1) := by decide +kernel
theorem d_Sy_choose_52 : decode b_Sy_choose 52 = .ok (.getfield 99, 3) := by decide +kernel
theorem d_Sy_choose_55 : decode b_Sy_choose 55 = .ok (.iload_n 1, 1) := by decide +kernel
theorem d_Sy_choose_56 : decode b_Sy_choose 56 = .ok (.if_icmp .ne 17, 3) := by decide +kernel
theorem d_Sy_choose_59 : decode b_Sy_choose 59 = .ok (.aload_n 0, 1) := by decide +kernel
theorem d_Sy_choose_60 : decode b_Sy_choose 60 = .ok (.getfield 40, 3) := by decide +kernel
theorem d_Sy_choose_63 : decode b_Sy_choose 63 = .ok (.iload_n 3, 1) := by decide +kernel
theorem d_Sy_choose_64 : decode b_Sy_choose 64 = .ok (.aaload, 1) := by decide +kernel
theorem d_Sy_choose_65 : decode b_Sy_choose 65 = .ok (.getfield 178, 3) := by decide +kernel
theorem d_Sy_choose_68 : decode b_Sy_choose 68 = .ok (.ifCond .le 5, 3) := by decide +kernel
theorem d_Sy_choose_71 : decode b_Sy_choose 71 = .ok (.iload_n 3, 1) := by decide +kernel
theorem d_Sy_choose_72 : decode b_Sy_choose 72 = .ok (.ireturn, 1) := by decide +kernel
theorem d_Sy_choose_73 : decode b_Sy_choose 73 = .ok (.iinc 3 1, 3) := by decide +kernel
theorem d_Sy_choose_76 : decode b_Sy_choose 76 = .ok (.goto (-57), 3) := by decide +kernel
theorem d_Sy_choose_79 : decode b_Sy_choose 79 = .ok (.new 129, 3) := by decide +kernel
theorem d_Sy_choose_82 : decode b_Sy_choose 82 = .ok (.dup, 1) := by decide +kernel
theorem d_Sy_choose_83 : decode b_Sy_choose 83 = .ok (.ldc 209, 2) := by decide +kernel
theorem d_Sy_choose_85 : decode b_Sy_choose 85 = .ok (.invokespecial 133, 3) := by decide +kernel
theorem d_Sy_choose_88 : decode b_Sy_choose 88 = .ok (.athrow, 1) := by decide +kernel
theorem d_Sy_close_0 : decode b_Sy_close 0 = .ok (.aload_n 0, 1) := by decide +kernel
theorem d_Sy_close_1 : decode b_Sy_close 1 = .ok (.iload_n 1, 1) := by decide +kernel
theorem d_Sy_close_2 : decode b_Sy_close 2 = .ok (.iload_n 2, 1) := by decide +kernel
theorem d_Sy_close_3 : decode b_Sy_close 3 = .ok (.invokevirtual 149, 3) := by decide +kernel
theorem d_Sy_close_6 : decode b_Sy_close 6 = .ok (.aload_n 0, 1) := by decide +kernel
theorem d_Sy_close_7 : decode b_Sy_close 7 = .ok (.iload_n 2, 1) := by decide +kernel
theorem d_Sy_close_8 : decode b_Sy_close 8 = .ok (.iconst 0, 1) := by decide +kernel
theorem d_Sy_close_9 : decode b_Sy_close 9 = .ok (.invokevirtual 100, 3) := by decide +kernel
theorem d_Sy_close_12 : decode b_Sy_close 12 = .ok (.ireturn, 1) := by decide +kernel
theorem d_Sy_ofBlock_0 : decode b_Sy_ofBlock 0 = .ok (.iload_n 1, 1) := by decide +kernel
theorem d_Sy_ofBlock_1 : decode b_Sy_ofBlock 1 = .ok (.bipush 12, 2) := by decide +kernel
theorem d_Sy_ofBlock_3 : decode b_Sy_ofBlock 3 = .ok (.invokestatic 64, 3) := by decide +kernel
theorem d_Sy_ofBlock_6 : decode b_Sy_ofBlock 6 = .ok (.iload_n 2, 1) := by decide +kernel
theorem d_Sy_ofBlock_7 : decode b_Sy_ofBlock 7 = .ok (.iconst 2, 1) := by decide +kernel
theorem d_Sy_ofBlock_8 : decode b_Sy_ofBlock 8 = .ok (.invokestatic 64, 3) := by decide +kernel
theorem d_Sy_ofBlock_11 : decode b_Sy_ofBlock 11 = .ok (.iload_n 2, 1) := by decide +kernel
theorem d_Sy_ofBlock_12 : decode b_Sy_ofBlock 12 = .ok (.ifCond .ne 15, 3) := by decide +kernel
theorem d_Sy_ofBlock_15 : decode b_Sy_ofBlock 15 = .ok (.aload_n 0, 1) := by decide +kernel
theorem d_Sy_ofBlock_16 : decode b_Sy_ofBlock 16 = .ok (.getfield 30, 3) := by decide +kernel
theorem d_Sy_ofBlock_19 : decode b_Sy_ofBlock 19 = .ok (.iload_n 1, 1) := by decide +kernel
theorem d_Sy_ofBlock_20 : decode b_Sy_ofBlock 20 = .ok (.aaload, 1) := by decide +kernel
theorem d_Sy_ofBlock_21 : decode b_Sy_ofBlock 21 = .ok (.getfield 93, 3) := by decide +kernel
theorem d_Sy_ofBlock_24 : decode b_Sy_ofBlock 24 = .ok (.goto 12, 3) := by decide +kernel
theorem d_Sy_ofBlock_27 : decode b_Sy_ofBlock 27 = .ok (.aload_n 0, 1) := by decide +kernel
theorem d_Sy_ofBlock_28 : decode b_Sy_ofBlock 28 = .ok (.getfield 30, 3) := by decide +kernel
theorem d_Sy_ofBlock_31 : decode b_Sy_ofBlock 31 = .ok (.iload_n 1, 1) := by decide +kernel
theorem d_Sy_ofBlock_32 : decode b_Sy_ofBlock 32 = .ok (.aaload, 1) := by decide +kernel
theorem d_Sy_ofBlock_33 : decode b_Sy_ofBlock 33 = .ok (.getfield 211, 3) := by decide +kernel
theorem d_Sy_ofBlock_36 : decode b_Sy_ofBlock 36 = .ok (.ireturn, 1) := by decide +kernel
theorem d_Sy_ofEnd_0 : decode b_Sy_ofEnd 0 = .ok (.iload_n 1, 1) := by decide +kernel
theorem d_Sy_ofEnd_1 : decode b_Sy_ofEnd 1 = .ok (.bipush 12, 2) := by decide +kernel
theorem d_Sy_ofEnd_3 : decode b_Sy_ofEnd 3 = .ok (.invokestatic 64, 3) := by decide +kernel
theorem d_Sy_ofEnd_6 : decode b_Sy_ofEnd 6 = .ok (.iload_n 2, 1) := by decide +kernel
theorem d_Sy_ofEnd_7 : decode b_Sy_ofEnd 7 = .ok (.iconst 3, 1) := by decide +kernel
theorem d_Sy_ofEnd_8 : decode b_Sy_ofEnd 8 = .ok (.invokestatic 64, 3) := by decide +kernel
theorem d_Sy_ofEnd_11 : decode b_Sy_ofEnd 11 = .ok (.iload_n 2, 1) := by decide +kernel
theorem d_Sy_ofEnd_12 : decode b_Sy_ofEnd 12 = .ok (.ifCond .ne 13, 3) := by decide +kernel
theorem d_Sy_ofEnd_15 : decode b_Sy_ofEnd 15 = .ok (.aload_n 0, 1) := by decide +kernel
theorem d_Sy_ofEnd_16 : decode b_Sy_ofEnd 16 = .ok (.getfield 40, 3) := by decide +kernel
theorem d_Sy_ofEnd_19 : decode b_Sy_ofEnd 19 = .ok (.iload_n 1, 1) := by decide +kernel
theorem d_Sy_ofEnd_20 : decode b_Sy_ofEnd 20 = .ok (.aaload, 1) := by decide +kernel
theorem d_Sy_ofEnd_21 : decode b_Sy_ofEnd 21 = .ok (.getfield 99, 3) := by decide +kernel
theorem d_Sy_ofEnd_24 : decode b_Sy_ofEnd 24 = .ok (.ireturn, 1) := by decide +kernel
theorem d_Sy_ofEnd_25 : decode b_Sy_ofEnd 25 = .ok (.iload_n 2, 1) := by decide +kernel
theorem d_Sy_ofEnd_26 : decode b_Sy_ofEnd 26 = .ok (.iconst 1, 1) := by decide +kernel
theorem d_Sy_ofEnd_27 : decode b_Sy_ofEnd 27 = .ok (.if_icmp .ne 15, 3) := by decide +kernel
theorem d_Sy_ofEnd_30 : decode b_Sy_ofEnd 30 = .ok (.aload_n 0, 1) := by decide +kernel
theorem d_Sy_ofEnd_31 : decode b_Sy_ofEnd 31 = .ok (.getfield 40, 3) := by decide +kernel
theorem d_Sy_ofEnd_34 : decode b_Sy_ofEnd 34 = .ok (.iload_n 1, 1) := by decide +kernel
theorem d_Sy_ofEnd_35 : decode b_Sy_ofEnd 35 = .ok (.aaload, 1) := by decide +kernel
theorem d_Sy_ofEnd_36 : decode b_Sy_ofEnd 36 = .ok (.getfield 152, 3) := by decide +kernel
theorem d_Sy_ofEnd_39 : decode b_Sy_ofEnd 39 = .ok (.goto 12, 3) := by decide +kernel
theorem d_Sy_ofEnd_42 : decode b_Sy_ofEnd 42 = .ok (.aload_n 0, 1) := by decide +kernel
theorem d_Sy_ofEnd_43 : decode b_Sy_ofEnd 43 = .ok (.getfield 40, 3) := by decide +kernel
theorem d_Sy_ofEnd_46 : decode b_Sy_ofEnd 46 = .ok (.iload_n 1, 1) := by decide +kernel
theorem d_Sy_ofEnd_47 : decode b_Sy_ofEnd 47 = .ok (.aaload, 1) := by decide +kernel
theorem d_Sy_ofEnd_48 : decode b_Sy_ofEnd 48 = .ok (.getfield 178, 3) := by decide +kernel
theorem d_Sy_ofEnd_51 : decode b_Sy_ofEnd 51 = .ok (.ireturn, 1) := by decide +kernel
theorem d_Sy_count_0 : decode b_Sy_count 0 = .ok (.iload_n 1, 1) := by decide +kernel
theorem d_Sy_count_1 : decode b_Sy_count 1 = .ok (.tableswitch 105 0 9 #[55, 60, 65, 70, 75, 80, 85, 90, 95, 100], 55) := by decide +kernel
theorem d_Sy_count_56 : decode b_Sy_count 56 = .ok (.aload_n 0, 1) := by decide +kernel
theorem d_Sy_count_57 : decode b_Sy_count 57 = .ok (.invokevirtual 212, 3) := by decide +kernel
theorem d_Sy_count_60 : decode b_Sy_count 60 = .ok (.ireturn, 1) := by decide +kernel
theorem d_Sy_count_61 : decode b_Sy_count 61 = .ok (.aload_n 0, 1) := by decide +kernel
theorem d_Sy_count_62 : decode b_Sy_count 62 = .ok (.invokevirtual 215, 3) := by decide +kernel
theorem d_Sy_count_65 : decode b_Sy_count 65 = .ok (.ireturn, 1) := by decide +kernel
theorem d_Sy_count_66 : decode b_Sy_count 66 = .ok (.aload_n 0, 1) := by decide +kernel
theorem d_Sy_count_67 : decode b_Sy_count 67 = .ok (.invokevirtual 108, 3) := by decide +kernel
theorem d_Sy_count_70 : decode b_Sy_count 70 = .ok (.ireturn, 1) := by decide +kernel
theorem d_Sy_count_71 : decode b_Sy_count 71 = .ok (.aload_n 0, 1) := by decide +kernel
theorem d_Sy_count_72 : decode b_Sy_count 72 = .ok (.invokevirtual 218, 3) := by decide +kernel
theorem d_Sy_count_75 : decode b_Sy_count 75 = .ok (.ireturn, 1) := by decide +kernel
theorem d_Sy_count_76 : decode b_Sy_count 76 = .ok (.aload_n 0, 1) := by decide +kernel
theorem d_Sy_count_77 : decode b_Sy_count 77 = .ok (.invokevirtual 221, 3) := by decide +kernel
theorem d_Sy_count_80 : decode b_Sy_count 80 = .ok (.ireturn, 1) := by decide +kernel
theorem d_Sy_count_81 : decode b_Sy_count 81 = .ok (.aload_n 0, 1) := by decide +kernel
theorem d_Sy_count_82 : decode b_Sy_count 82 = .ok (.getfield 192, 3) := by decide +kernel
theorem d_Sy_count_85 : decode b_Sy_count 85 = .ok (.ireturn, 1) := by decide +kernel
theorem d_Sy_count_86 : decode b_Sy_count 86 = .ok (.aload_n 0, 1) := by decide +kernel
theorem d_Sy_count_87 : decode b_Sy_count 87 = .ok (.getfield 206, 3) := by decide +kernel
theorem d_Sy_count_90 : decode b_Sy_count 90 = .ok (.ireturn, 1) := by decide +kernel
theorem d_Sy_count_91 : decode b_Sy_count 91 = .ok (.aload_n 0, 1) := by decide +kernel
theorem d_Sy_count_92 : decode b_Sy_count 92 = .ok (.getfield 224, 3) := by decide +kernel
theorem d_Sy_count_95 : decode b_Sy_count 95 = .ok (.ireturn, 1) := by decide +kernel
theorem d_Sy_count_96 : decode b_Sy_count 96 = .ok (.aload_n 0, 1) := by decide +kernel
theorem d_Sy_count_97 : decode b_Sy_count 97 = .ok (.getfield 90, 3) := by decide +kernel
theorem d_Sy_count_100 : decode b_Sy_count 100 = .ok (.ireturn, 1) := by decide +kernel
theorem d_Sy_count_101 : decode b_Sy_count 101 = .ok (.aload_n 0, 1) := by decide +kernel
theorem d_Sy_count_102 : decode b_Sy_count 102 = .ok (.invokevirtual 227, 3) := by decide +kernel
theorem d_Sy_count_105 : decode b_Sy_count 105 = .ok (.ireturn, 1) := by decide +kernel
theorem d_Sy_count_106 : decode b_Sy_count 106 = .ok (.iconst (-1), 1) := by decide +kernel
theorem d_Sy_count_107 : decode b_Sy_count 107 = .ok (.ireturn, 1) := by decide +kernel
theorem d_Sy_byteAt_0 : decode b_Sy_byteAt 0 = .ok (.lload_n 0, 1) := by decide +kernel
theorem d_Sy_byteAt_1 : decode b_Sy_byteAt 1 = .ok (.iload_n 2, 1) := by decide +kernel
theorem d_Sy_byteAt_2 : decode b_Sy_byteAt 2 = .ok (.lushr, 1) := by decide +kernel
theorem d_Sy_byteAt_3 : decode b_Sy_byteAt 3 = .ok (.l2i, 1) := by decide +kernel
theorem d_Sy_byteAt_4 : decode b_Sy_byteAt 4 = .ok (.sipush 255, 3) := by decide +kernel
theorem d_Sy_byteAt_7 : decode b_Sy_byteAt 7 = .ok (.iand, 1) := by decide +kernel
theorem d_Sy_byteAt_8 : decode b_Sy_byteAt 8 = .ok (.ireturn, 1) := by decide +kernel
theorem d_Sy_needWithin_0 : decode b_Sy_needWithin 0 = .ok (.iload_n 0, 1) := by decide +kernel
theorem d_Sy_needWithin_1 : decode b_Sy_needWithin 1 = .ok (.iload_n 1, 1) := by decide +kernel
theorem d_Sy_needWithin_2 : decode b_Sy_needWithin 2 = .ok (.if_icmp .lt 8, 3) := by decide +kernel
theorem d_Sy_needWithin_5 : decode b_Sy_needWithin 5 = .ok (.iload_n 0, 1) := by decide +kernel
theorem d_Sy_needWithin_6 : decode b_Sy_needWithin 6 = .ok (.iload_n 2, 1) := by decide +kernel
theorem d_Sy_needWithin_7 : decode b_Sy_needWithin 7 = .ok (.if_icmp .le 13, 3) := by decide +kernel
theorem d_Sy_needWithin_10 : decode b_Sy_needWithin 10 = .ok (.new 72, 3) := by decide +kernel
theorem d_Sy_needWithin_13 : decode b_Sy_needWithin 13 = .ok (.dup, 1) := by decide +kernel
theorem d_Sy_needWithin_14 : decode b_Sy_needWithin 14 = .ok (.ldc 230, 2) := by decide +kernel
theorem d_Sy_needWithin_16 : decode b_Sy_needWithin 16 = .ok (.invokespecial 76, 3) := by decide +kernel
theorem d_Sy_needWithin_19 : decode b_Sy_needWithin 19 = .ok (.athrow, 1) := by decide +kernel
theorem d_Sy_needWithin_20 : decode b_Sy_needWithin 20 = .ok (.return_, 1) := by decide +kernel
theorem d_Sy_needBelow_0 : decode b_Sy_needBelow 0 = .ok (.iload_n 0, 1) := by decide +kernel
theorem d_Sy_needBelow_1 : decode b_Sy_needBelow 1 = .ok (.iconst 0, 1) := by decide +kernel
theorem d_Sy_needBelow_2 : decode b_Sy_needBelow 2 = .ok (.iload_n 1, 1) := by decide +kernel
theorem d_Sy_needBelow_3 : decode b_Sy_needBelow 3 = .ok (.iconst 1, 1) := by decide +kernel
theorem d_Sy_needBelow_4 : decode b_Sy_needBelow 4 = .ok (.isub, 1) := by decide +kernel
theorem d_Sy_needBelow_5 : decode b_Sy_needBelow 5 = .ok (.invokestatic 49, 3) := by decide +kernel
theorem d_Sy_needBelow_8 : decode b_Sy_needBelow 8 = .ok (.return_, 1) := by decide +kernel
theorem d_Sy_needAlive_0 : decode b_Sy_needAlive 0 = .ok (.aload_n 0, 1) := by decide +kernel
theorem d_Sy_needAlive_1 : decode b_Sy_needAlive 1 = .ok (.getfield 24, 3) := by decide +kernel
theorem d_Sy_needAlive_4 : decode b_Sy_needAlive 4 = .ok (.iload_n 1, 1) := by decide +kernel
theorem d_Sy_needAlive_5 : decode b_Sy_needAlive 5 = .ok (.baload, 1) := by decide +kernel
theorem d_Sy_needAlive_6 : decode b_Sy_needAlive 6 = .ok (.ifCond .ne 13, 3) := by decide +kernel
theorem d_Sy_needAlive_9 : decode b_Sy_needAlive 9 = .ok (.new 181, 3) := by decide +kernel
theorem d_Sy_needAlive_12 : decode b_Sy_needAlive 12 = .ok (.dup, 1) := by decide +kernel
theorem d_Sy_needAlive_13 : decode b_Sy_needAlive 13 = .ok (.ldc 232, 2) := by decide +kernel
theorem d_Sy_needAlive_15 : decode b_Sy_needAlive 15 = .ok (.invokespecial 185, 3) := by decide +kernel
theorem d_Sy_needAlive_18 : decode b_Sy_needAlive 18 = .ok (.athrow, 1) := by decide +kernel
theorem d_Sy_needAlive_19 : decode b_Sy_needAlive 19 = .ok (.return_, 1) := by decide +kernel
theorem d_Sy_needOwnBlock_0 : decode b_Sy_needOwnBlock 0 = .ok (.iload_n 1, 1) := by decide +kernel
theorem d_Sy_needOwnBlock_1 : decode b_Sy_needOwnBlock 1 = .ok (.iconst 4, 1) := by decide +kernel
theorem d_Sy_needOwnBlock_2 : decode b_Sy_needOwnBlock 2 = .ok (.invokestatic 64, 3) := by decide +kernel
theorem d_Sy_needOwnBlock_5 : decode b_Sy_needOwnBlock 5 = .ok (.iload_n 2, 1) := by decide +kernel
theorem d_Sy_needOwnBlock_6 : decode b_Sy_needOwnBlock 6 = .ok (.bipush 12, 2) := by decide +kernel
theorem d_Sy_needOwnBlock_8 : decode b_Sy_needOwnBlock 8 = .ok (.invokestatic 64, 3) := by decide +kernel
theorem d_Sy_needOwnBlock_11 : decode b_Sy_needOwnBlock 11 = .ok (.aload_n 0, 1) := by decide +kernel
theorem d_Sy_needOwnBlock_12 : decode b_Sy_needOwnBlock 12 = .ok (.iload_n 1, 1) := by decide +kernel
theorem d_Sy_needOwnBlock_13 : decode b_Sy_needOwnBlock 13 = .ok (.invokevirtual 86, 3) := by decide +kernel
theorem d_Sy_needOwnBlock_16 : decode b_Sy_needOwnBlock 16 = .ok (.aload_n 0, 1) := by decide +kernel
theorem d_Sy_needOwnBlock_17 : decode b_Sy_needOwnBlock 17 = .ok (.getfield 30, 3) := by decide +kernel
theorem d_Sy_needOwnBlock_20 : decode b_Sy_needOwnBlock 20 = .ok (.iload_n 2, 1) := by decide +kernel
theorem d_Sy_needOwnBlock_21 : decode b_Sy_needOwnBlock 21 = .ok (.aaload, 1) := by decide +kernel
theorem d_Sy_needOwnBlock_22 : decode b_Sy_needOwnBlock 22 = .ok (.getfield 93, 3) := by decide +kernel
theorem d_Sy_needOwnBlock_25 : decode b_Sy_needOwnBlock 25 = .ok (.iload_n 1, 1) := by decide +kernel
theorem d_Sy_needOwnBlock_26 : decode b_Sy_needOwnBlock 26 = .ok (.if_icmp .eq 13, 3) := by decide +kernel
theorem d_Sy_needOwnBlock_29 : decode b_Sy_needOwnBlock 29 = .ok (.new 181, 3) := by decide +kernel
theorem d_Sy_needOwnBlock_32 : decode b_Sy_needOwnBlock 32 = .ok (.dup, 1) := by decide +kernel
theorem d_Sy_needOwnBlock_33 : decode b_Sy_needOwnBlock 33 = .ok (.ldc 234, 2) := by decide +kernel
theorem d_Sy_needOwnBlock_35 : decode b_Sy_needOwnBlock 35 = .ok (.invokespecial 185, 3) := by decide +kernel
theorem d_Sy_needOwnBlock_38 : decode b_Sy_needOwnBlock 38 = .ok (.athrow, 1) := by decide +kernel
theorem d_Sy_needOwnBlock_39 : decode b_Sy_needOwnBlock 39 = .ok (.return_, 1) := by decide +kernel
theorem d_Sy_needCell_0 : decode b_Sy_needCell 0 = .ok (.iload_n 2, 1) := by decide +kernel
theorem d_Sy_needCell_1 : decode b_Sy_needCell 1 = .ok (.ifCond .lt 16, 3) := by decide +kernel
theorem d_Sy_needCell_4 : decode b_Sy_needCell 4 = .ok (.iload_n 2, 1) := by decide +kernel
theorem d_Sy_needCell_5 : decode b_Sy_needCell 5 = .ok (.aload_n 0, 1) := by decide +kernel
theorem d_Sy_needCell_6 : decode b_Sy_needCell 6 = .ok (.getfield 30, 3) := by decide +kernel
theorem d_Sy_needCell_9 : decode b_Sy_needCell 9 = .ok (.iload_n 1, 1) := by decide +kernel
theorem d_Sy_needCell_10 : decode b_Sy_needCell 10 = .ok (.aaload, 1) := by decide +kernel
theorem d_Sy_needCell_11 : decode b_Sy_needCell 11 = .ok (.getfield 211, 3) := by decide +kernel
theorem d_Sy_needCell_14 : decode b_Sy_needCell 14 = .ok (.if_icmp .lt 13, 3) := by decide +kernel
theorem d_Sy_needCell_17 : decode b_Sy_needCell 17 = .ok (.new 129, 3) := by decide +kernel
theorem d_Sy_needCell_20 : decode b_Sy_needCell 20 = .ok (.dup, 1) := by decide +kernel
theorem d_Sy_needCell_21 : decode b_Sy_needCell 21 = .ok (.ldc 236, 2) := by decide +kernel
theorem d_Sy_needCell_23 : decode b_Sy_needCell 23 = .ok (.invokespecial 133, 3) := by decide +kernel
theorem d_Sy_needCell_26 : decode b_Sy_needCell 26 = .ok (.athrow, 1) := by decide +kernel
theorem d_Sy_needCell_27 : decode b_Sy_needCell 27 = .ok (.return_, 1) := by decide +kernel
theorem d_Sy_needOwnEnd_0 : decode b_Sy_needOwnEnd 0 = .ok (.iload_n 1, 1) := by decide +kernel
theorem d_Sy_needOwnEnd_1 : decode b_Sy_needOwnEnd 1 = .ok (.iconst 4, 1) := by decide +kernel
theorem d_Sy_needOwnEnd_2 : decode b_Sy_needOwnEnd 2 = .ok (.invokestatic 64, 3) := by decide +kernel
theorem d_Sy_needOwnEnd_5 : decode b_Sy_needOwnEnd 5 = .ok (.iload_n 2, 1) := by decide +kernel
theorem d_Sy_needOwnEnd_6 : decode b_Sy_needOwnEnd 6 = .ok (.bipush 12, 2) := by decide +kernel
theorem d_Sy_needOwnEnd_8 : decode b_Sy_needOwnEnd 8 = .ok (.invokestatic 64, 3) := by decide +kernel
theorem d_Sy_needOwnEnd_11 : decode b_Sy_needOwnEnd 11 = .ok (.aload_n 0, 1) := by decide +kernel
theorem d_Sy_needOwnEnd_12 : decode b_Sy_needOwnEnd 12 = .ok (.iload_n 1, 1) := by decide +kernel
theorem d_Sy_needOwnEnd_13 : decode b_Sy_needOwnEnd 13 = .ok (.invokevirtual 86, 3) := by decide +kernel
theorem d_Sy_needOwnEnd_16 : decode b_Sy_needOwnEnd 16 = .ok (.aload_n 0, 1) := by decide +kernel
theorem d_Sy_needOwnEnd_17 : decode b_Sy_needOwnEnd 17 = .ok (.getfield 40, 3) := by decide +kernel
theorem d_Sy_needOwnEnd_20 : decode b_Sy_needOwnEnd 20 = .ok (.iload_n 2, 1) := by decide +kernel
theorem d_Sy_needOwnEnd_21 : decode b_Sy_needOwnEnd 21 = .ok (.aaload, 1) := by decide +kernel
theorem d_Sy_needOwnEnd_22 : decode b_Sy_needOwnEnd 22 = .ok (.getfield 99, 3) := by decide +kernel
theorem d_Sy_needOwnEnd_25 : decode b_Sy_needOwnEnd 25 = .ok (.iload_n 1, 1) := by decide +kernel
theorem d_Sy_needOwnEnd_26 : decode b_Sy_needOwnEnd 26 = .ok (.if_icmp .eq 13, 3) := by decide +kernel
theorem d_Sy_needOwnEnd_29 : decode b_Sy_needOwnEnd 29 = .ok (.new 181, 3) := by decide +kernel
theorem d_Sy_needOwnEnd_32 : decode b_Sy_needOwnEnd 32 = .ok (.dup, 1) := by decide +kernel
theorem d_Sy_needOwnEnd_33 : decode b_Sy_needOwnEnd 33 = .ok (.ldc 238, 2) := by decide +kernel
theorem d_Sy_needOwnEnd_35 : decode b_Sy_needOwnEnd 35 = .ok (.invokespecial 185, 3) := by decide +kernel
theorem d_Sy_needOwnEnd_38 : decode b_Sy_needOwnEnd 38 = .ok (.athrow, 1) := by decide +kernel
theorem d_Sy_needOwnEnd_39 : decode b_Sy_needOwnEnd 39 = .ok (.return_, 1) := by decide +kernel
theorem d_Sy_needAllowed_0 : decode b_Sy_needAllowed 0 = .ok (.iload_n 0, 1) := by decide +kernel
theorem d_Sy_needAllowed_1 : decode b_Sy_needAllowed 1 = .ok (.iconst (-1), 1) := by decide +kernel
theorem d_Sy_needAllowed_2 : decode b_Sy_needAllowed 2 = .ok (.if_icmp .ne 13, 3) := by decide +kernel
theorem d_Sy_needAllowed_5 : decode b_Sy_needAllowed 5 = .ok (.new 181, 3) := by decide +kernel
theorem d_Sy_needAllowed_8 : decode b_Sy_needAllowed 8 = .ok (.dup, 1) := by decide +kernel
theorem d_Sy_needAllowed_9 : decode b_Sy_needAllowed 9 = .ok (.ldc 240, 2) := by decide +kernel
theorem d_Sy_needAllowed_11 : decode b_Sy_needAllowed 11 = .ok (.invokespecial 185, 3) := by decide +kernel
theorem d_Sy_needAllowed_14 : decode b_Sy_needAllowed 14 = .ok (.athrow, 1) := by decide +kernel
theorem d_Sy_needAllowed_15 : decode b_Sy_needAllowed 15 = .ok (.return_, 1) := by decide +kernel
theorem d_Sy_needOwnLoad_0 : decode b_Sy_needOwnLoad 0 = .ok (.iload_n 3, 1) := by decide +kernel
theorem d_Sy_needOwnLoad_1 : decode b_Sy_needOwnLoad 1 = .ok (.invokestatic 242, 3) := by decide +kernel
theorem d_Sy_needOwnLoad_4 : decode b_Sy_needOwnLoad 4 = .ok (.ifCond .eq 23, 3) := by decide +kernel
theorem d_Sy_needOwnLoad_7 : decode b_Sy_needOwnLoad 7 = .ok (.aload_n 0, 1) := by decide +kernel
theorem d_Sy_needOwnLoad_8 : decode b_Sy_needOwnLoad 8 = .ok (.iload_n 1, 1) := by decide +kernel
theorem d_Sy_needOwnLoad_9 : decode b_Sy_needOwnLoad 9 = .ok (.iload 4, 2) := by decide +kernel
theorem d_Sy_needOwnLoad_11 : decode b_Sy_needOwnLoad 11 = .ok (.invokevirtual 246, 3) := by decide +kernel
theorem d_Sy_needOwnLoad_14 : decode b_Sy_needOwnLoad 14 = .ok (.ifCond .ne 13, 3) := by decide +kernel
theorem d_Sy_needOwnLoad_17 : decode b_Sy_needOwnLoad 17 = .ok (.new 181, 3) := by decide +kernel
theorem d_Sy_needOwnLoad_20 : decode b_Sy_needOwnLoad 20 = .ok (.dup, 1) := by decide +kernel
theorem d_Sy_needOwnLoad_21 : decode b_Sy_needOwnLoad 21 = .ok (.ldc 250, 2) := by decide +kernel
theorem d_Sy_needOwnLoad_23 : decode b_Sy_needOwnLoad 23 = .ok (.invokespecial 185, 3) := by decide +kernel
theorem d_Sy_needOwnLoad_26 : decode b_Sy_needOwnLoad 26 = .ok (.athrow, 1) := by decide +kernel
theorem d_Sy_needOwnLoad_27 : decode b_Sy_needOwnLoad 27 = .ok (.iload_n 3, 1) := by decide +kernel
theorem d_Sy_needOwnLoad_28 : decode b_Sy_needOwnLoad 28 = .ok (.invokestatic 252, 3) := by decide +kernel
theorem d_Sy_needOwnLoad_31 : decode b_Sy_needOwnLoad 31 = .ok (.ifCond .eq 25, 3) := by decide +kernel
theorem d_Sy_needOwnLoad_34 : decode b_Sy_needOwnLoad 34 = .ok (.aload_n 0, 1) := by decide +kernel
theorem d_Sy_needOwnLoad_35 : decode b_Sy_needOwnLoad 35 = .ok (.iload_n 1, 1) := by decide +kernel
theorem d_Sy_needOwnLoad_36 : decode b_Sy_needOwnLoad 36 = .ok (.iload 4, 2) := by decide +kernel
theorem d_Sy_needOwnLoad_38 : decode b_Sy_needOwnLoad 38 = .ok (.iload_n 2, 1) := by decide +kernel
theorem d_Sy_needOwnLoad_39 : decode b_Sy_needOwnLoad 39 = .ok (.invokevirtual 255, 3) := by decide +kernel
theorem d_Sy_needOwnLoad_42 : decode b_Sy_needOwnLoad 42 = .ok (.ifCond .ne 14, 3) := by decide +kernel
theorem d_Sy_needOwnLoad_45 : decode b_Sy_needOwnLoad 45 = .ok (.new 181, 3) := by decide +kernel
theorem d_Sy_needOwnLoad_48 : decode b_Sy_needOwnLoad 48 = .ok (.dup, 1) := by decide +kernel
theorem d_Sy_needOwnLoad_49 : decode b_Sy_needOwnLoad 49 = .ok (.ldc_w 259, 3) := by decide +kernel
theorem d_Sy_needOwnLoad_52 : decode b_Sy_needOwnLoad 52 = .ok (.invokespecial 185, 3) := by decide +kernel
theorem d_Sy_needOwnLoad_55 : decode b_Sy_needOwnLoad 55 = .ok (.athrow, 1) := by decide +kernel
theorem d_Sy_needOwnLoad_56 : decode b_Sy_needOwnLoad 56 = .ok (.return_, 1) := by decide +kernel
theorem d_Sy_ownsBlock_0 : decode b_Sy_ownsBlock 0 = .ok (.iload_n 2, 1) := by decide +kernel
theorem d_Sy_ownsBlock_1 : decode b_Sy_ownsBlock 1 = .ok (.ifCond .lt 26, 3) := by decide +kernel
theorem d_Sy_ownsBlock_4 : decode b_Sy_ownsBlock 4 = .ok (.iload_n 2, 1) := by decide +kernel
theorem d_Sy_ownsBlock_5 : decode b_Sy_ownsBlock 5 = .ok (.bipush 12, 2) := by decide +kernel
theorem d_Sy_ownsBlock_7 : decode b_Sy_ownsBlock 7 = .ok (.if_icmp .ge 20, 3) := by decide +kernel
theorem d_Sy_ownsBlock_10 : decode b_Sy_ownsBlock 10 = .ok (.aload_n 0, 1) := by decide +kernel
theorem d_Sy_ownsBlock_11 : decode b_Sy_ownsBlock 11 = .ok (.getfield 30, 3) := by decide +kernel
theorem d_Sy_ownsBlock_14 : decode b_Sy_ownsBlock 14 = .ok (.iload_n 2, 1) := by decide +kernel
theorem d_Sy_ownsBlock_15 : decode b_Sy_ownsBlock 15 = .ok (.aaload, 1) := by decide +kernel
theorem d_Sy_ownsBlock_16 : decode b_Sy_ownsBlock 16 = .ok (.getfield 93, 3) := by decide +kernel
theorem d_Sy_ownsBlock_19 : decode b_Sy_ownsBlock 19 = .ok (.iload_n 1, 1) := by decide +kernel
theorem d_Sy_ownsBlock_20 : decode b_Sy_ownsBlock 20 = .ok (.if_icmp .ne 7, 3) := by decide +kernel
theorem d_Sy_ownsBlock_23 : decode b_Sy_ownsBlock 23 = .ok (.iconst 1, 1) := by decide +kernel
theorem d_Sy_ownsBlock_24 : decode b_Sy_ownsBlock 24 = .ok (.goto 4, 3) := by decide +kernel
theorem d_Sy_ownsBlock_27 : decode b_Sy_ownsBlock 27 = .ok (.iconst 0, 1) := by decide +kernel
theorem d_Sy_ownsBlock_28 : decode b_Sy_ownsBlock 28 = .ok (.ireturn, 1) := by decide +kernel
theorem d_Sy_ownsEndOfOtherChannel_0 : decode b_Sy_ownsEndOfOtherChannel 0 = .ok (.iload_n 2, 1) := by decide +kernel
theorem d_Sy_ownsEndOfOtherChannel_1 : decode b_Sy_ownsEndOfOtherChannel 1 = .ok (.ifCond .lt 35, 3) := by decide +kernel
theorem d_Sy_ownsEndOfOtherChannel_4 : decode b_Sy_ownsEndOfOtherChannel 4 = .ok (.iload_n 2, 1) := by decide +kernel
theorem d_Sy_ownsEndOfOtherChannel_5 : decode b_Sy_ownsEndOfOtherChannel 5 = .ok (.bipush 12, 2) := by decide +kernel
theorem d_Sy_ownsEndOfOtherChannel_7 : decode b_Sy_ownsEndOfOtherChannel 7 = .ok (.if_icmp .ge 29, 3) := by decide +kernel
theorem d_Sy_ownsEndOfOtherChannel_10 : decode b_Sy_ownsEndOfOtherChannel 10 = .ok (.iload_n 2, 1) := by decide +kernel
theorem d_Sy_ownsEndOfOtherChannel_11 : decode b_Sy_ownsEndOfOtherChannel 11 = .ok (.iconst 2, 1) := by decide +kernel
theorem d_Sy_ownsEndOfOtherChannel_12 : decode b_Sy_ownsEndOfOtherChannel 12 = .ok (.idiv, 1) := by decide +kernel
theorem d_Sy_ownsEndOfOtherChannel_13 : decode b_Sy_ownsEndOfOtherChannel 13 = .ok (.iload_n 3, 1) := by decide +kernel
theorem d_Sy_ownsEndOfOtherChannel_14 : decode b_Sy_ownsEndOfOtherChannel 14 = .ok (.iconst 2, 1) := by decide +kernel
theorem d_Sy_ownsEndOfOtherChannel_15 : decode b_Sy_ownsEndOfOtherChannel 15 = .ok (.idiv, 1) := by decide +kernel
theorem d_Sy_ownsEndOfOtherChannel_16 : decode b_Sy_ownsEndOfOtherChannel 16 = .ok (.if_icmp .eq 20, 3) := by decide +kernel
theorem d_Sy_ownsEndOfOtherChannel_19 : decode b_Sy_ownsEndOfOtherChannel 19 = .ok (.aload_n 0, 1) := by decide +kernel
theorem d_Sy_ownsEndOfOtherChannel_20 : decode b_Sy_ownsEndOfOtherChannel 20 = .ok (.getfield 40, 3) := by decide +kernel
theorem d_Sy_ownsEndOfOtherChannel_23 : decode b_Sy_ownsEndOfOtherChannel 23 = .ok (.iload_n 2, 1) := by decide +kernel
theorem d_Sy_ownsEndOfOtherChannel_24 : decode b_Sy_ownsEndOfOtherChannel 24 = .ok (.aaload, 1) := by decide +kernel
theorem d_Sy_ownsEndOfOtherChannel_25 : decode b_Sy_ownsEndOfOtherChannel 25 = .ok (.getfield 99, 3) := by decide +kernel
theorem d_Sy_ownsEndOfOtherChannel_28 : decode b_Sy_ownsEndOfOtherChannel 28 = .ok (.iload_n 1, 1) := by decide +kernel
theorem d_Sy_ownsEndOfOtherChannel_29 : decode b_Sy_ownsEndOfOtherChannel 29 = .ok (.if_icmp .ne 7, 3) := by decide +kernel
theorem d_Sy_ownsEndOfOtherChannel_32 : decode b_Sy_ownsEndOfOtherChannel 32 = .ok (.iconst 1, 1) := by decide +kernel
theorem d_Sy_ownsEndOfOtherChannel_33 : decode b_Sy_ownsEndOfOtherChannel 33 = .ok (.goto 4, 3) := by decide +kernel
theorem d_Sy_ownsEndOfOtherChannel_36 : decode b_Sy_ownsEndOfOtherChannel 36 = .ok (.iconst 0, 1) := by decide +kernel
theorem d_Sy_ownsEndOfOtherChannel_37 : decode b_Sy_ownsEndOfOtherChannel 37 = .ok (.ireturn, 1) := by decide +kernel
theorem d_Sy_carriesBlock_0 : decode b_Sy_carriesBlock 0 = .ok (.iload_n 0, 1) := by decide +kernel
theorem d_Sy_carriesBlock_1 : decode b_Sy_carriesBlock 1 = .ok (.iconst 3, 1) := by decide +kernel
theorem d_Sy_carriesBlock_2 : decode b_Sy_carriesBlock 2 = .ok (.if_icmp .lt 13, 3) := by decide +kernel
theorem d_Sy_carriesBlock_5 : decode b_Sy_carriesBlock 5 = .ok (.iload_n 0, 1) := by decide +kernel
theorem d_Sy_carriesBlock_6 : decode b_Sy_carriesBlock 6 = .ok (.bipush 6, 2) := by decide +kernel
theorem d_Sy_carriesBlock_8 : decode b_Sy_carriesBlock 8 = .ok (.if_icmp .ge 7, 3) := by decide +kernel
theorem d_Sy_carriesBlock_11 : decode b_Sy_carriesBlock 11 = .ok (.iconst 1, 1) := by decide +kernel
theorem d_Sy_carriesBlock_12 : decode b_Sy_carriesBlock 12 = .ok (.goto 4, 3) := by decide +kernel
theorem d_Sy_carriesBlock_15 : decode b_Sy_carriesBlock 15 = .ok (.iconst 0, 1) := by decide +kernel
theorem d_Sy_carriesBlock_16 : decode b_Sy_carriesBlock 16 = .ok (.ireturn, 1) := by decide +kernel
theorem d_Sy_carriesEnd_0 : decode b_Sy_carriesEnd 0 = .ok (.iload_n 0, 1) := by decide +kernel
theorem d_Sy_carriesEnd_1 : decode b_Sy_carriesEnd 1 = .ok (.bipush 6, 2) := by decide +kernel
theorem d_Sy_carriesEnd_3 : decode b_Sy_carriesEnd 3 = .ok (.if_icmp .ne 7, 3) := by decide +kernel
theorem d_Sy_carriesEnd_6 : decode b_Sy_carriesEnd 6 = .ok (.iconst 1, 1) := by decide +kernel
theorem d_Sy_carriesEnd_7 : decode b_Sy_carriesEnd 7 = .ok (.goto 4, 3) := by decide +kernel
theorem d_Sy_carriesEnd_10 : decode b_Sy_carriesEnd 10 = .ok (.iconst 0, 1) := by decide +kernel
theorem d_Sy_carriesEnd_11 : decode b_Sy_carriesEnd 11 = .ok (.ireturn, 1) := by decide +kernel
theorem d_Sy_giveLoad_0 : decode b_Sy_giveLoad 0 = .ok (.iload_n 1, 1) := by decide +kernel
theorem d_Sy_giveLoad_1 : decode b_Sy_giveLoad 1 = .ok (.invokestatic 242, 3) := by decide +kernel
theorem d_Sy_giveLoad_4 : decode b_Sy_giveLoad 4 = .ok (.ifCond .eq 16, 3) := by decide +kernel
theorem d_Sy_giveLoad_7 : decode b_Sy_giveLoad 7 = .ok (.aload_n 0, 1) := by decide +kernel
theorem d_Sy_giveLoad_8 : decode b_Sy_giveLoad 8 = .ok (.getfield 30, 3) := by decide +kernel
theorem d_Sy_giveLoad_11 : decode b_Sy_giveLoad 11 = .ok (.iload_n 2, 1) := by decide +kernel
theorem d_Sy_giveLoad_12 : decode b_Sy_giveLoad 12 = .ok (.aaload, 1) := by decide +kernel
theorem d_Sy_giveLoad_13 : decode b_Sy_giveLoad 13 = .ok (.iload_n 3, 1) := by decide +kernel
theorem d_Sy_giveLoad_14 : decode b_Sy_giveLoad 14 = .ok (.putfield 93, 3) := by decide +kernel
theorem d_Sy_giveLoad_17 : decode b_Sy_giveLoad 17 = .ok (.goto 20, 3) := by decide +kernel
theorem d_Sy_giveLoad_20 : decode b_Sy_giveLoad 20 = .ok (.iload_n 1, 1) := by decide +kernel
theorem d_Sy_giveLoad_21 : decode b_Sy_giveLoad 21 = .ok (.invokestatic 252, 3) := by decide +kernel
theorem d_Sy_giveLoad_24 : decode b_Sy_giveLoad 24 = .ok (.ifCond .eq 13, 3) := by decide +kernel
theorem d_Sy_giveLoad_27 : decode b_Sy_giveLoad 27 = .ok (.aload_n 0, 1) := by decide +kernel
theorem d_Sy_giveLoad_28 : decode b_Sy_giveLoad 28 = .ok (.getfield 40, 3) := by decide +kernel
theorem d_Sy_giveLoad_31 : decode b_Sy_giveLoad 31 = .ok (.iload_n 2, 1) := by decide +kernel
theorem d_Sy_giveLoad_32 : decode b_Sy_giveLoad 32 = .ok (.aaload, 1) := by decide +kernel
theorem d_Sy_giveLoad_33 : decode b_Sy_giveLoad 33 = .ok (.iload_n 3, 1) := by decide +kernel
theorem d_Sy_giveLoad_34 : decode b_Sy_giveLoad 34 = .ok (.putfield 99, 3) := by decide +kernel
theorem d_Sy_giveLoad_37 : decode b_Sy_giveLoad 37 = .ok (.return_, 1) := by decide +kernel
theorem d_Sy_sideOf_0 : decode b_Sy_sideOf 0 = .ok (.iload_n 0, 1) := by decide +kernel
theorem d_Sy_sideOf_1 : decode b_Sy_sideOf 1 = .ok (.iconst 1, 1) := by decide +kernel
theorem d_Sy_sideOf_2 : decode b_Sy_sideOf 2 = .ok (.iand, 1) := by decide +kernel
theorem d_Sy_sideOf_3 : decode b_Sy_sideOf 3 = .ok (.ireturn, 1) := by decide +kernel
theorem d_Sy_otherEnd_0 : decode b_Sy_otherEnd 0 = .ok (.iload_n 0, 1) := by decide +kernel
theorem d_Sy_otherEnd_1 : decode b_Sy_otherEnd 1 = .ok (.iconst 1, 1) := by decide +kernel
theorem d_Sy_otherEnd_2 : decode b_Sy_otherEnd 2 = .ok (.ixor, 1) := by decide +kernel
theorem d_Sy_otherEnd_3 : decode b_Sy_otherEnd 3 = .ok (.ireturn, 1) := by decide +kernel
theorem d_Sy_closeEnd_0 : decode b_Sy_closeEnd 0 = .ok (.aload_n 0, 1) := by decide +kernel
theorem d_Sy_closeEnd_1 : decode b_Sy_closeEnd 1 = .ok (.getfield 40, 3) := by decide +kernel
theorem d_Sy_closeEnd_4 : decode b_Sy_closeEnd 4 = .ok (.iload_n 1, 1) := by decide +kernel
theorem d_Sy_closeEnd_5 : decode b_Sy_closeEnd 5 = .ok (.aaload, 1) := by decide +kernel
theorem d_Sy_closeEnd_6 : decode b_Sy_closeEnd 6 = .ok (.astore_n 3, 1) := by decide +kernel
theorem d_Sy_closeEnd_7 : decode b_Sy_closeEnd 7 = .ok (.aload_n 3, 1) := by decide +kernel
theorem d_Sy_closeEnd_8 : decode b_Sy_closeEnd 8 = .ok (.invokevirtual 173, 3) := by decide +kernel
theorem d_Sy_closeEnd_11 : decode b_Sy_closeEnd 11 = .ok (.ifCond .eq 9, 3) := by decide +kernel
theorem d_Sy_closeEnd_14 : decode b_Sy_closeEnd 14 = .ok (.iload_n 2, 1) := by decide +kernel
theorem d_Sy_closeEnd_15 : decode b_Sy_closeEnd 15 = .ok (.bipush 12, 2) := by decide +kernel
theorem d_Sy_closeEnd_17 : decode b_Sy_closeEnd 17 = .ok (.if_icmp .lt 5, 3) := by decide +kernel
theorem d_Sy_closeEnd_20 : decode b_Sy_closeEnd 20 = .ok (.iconst 0, 1) := by decide +kernel
theorem d_Sy_closeEnd_21 : decode b_Sy_closeEnd 21 = .ok (.ireturn, 1) := by decide +kernel
theorem d_Sy_closeEnd_22 : decode b_Sy_closeEnd 22 = .ok (.aload_n 3, 1) := by decide +kernel
theorem d_Sy_closeEnd_23 : decode b_Sy_closeEnd 23 = .ok (.iconst (-1), 1) := by decide +kernel
theorem d_Sy_closeEnd_24 : decode b_Sy_closeEnd 24 = .ok (.putfield 99, 3) := by decide +kernel
theorem d_Sy_closeEnd_27 : decode b_Sy_closeEnd 27 = .ok (.iconst 1, 1) := by decide +kernel
theorem d_Sy_closeEnd_28 : decode b_Sy_closeEnd 28 = .ok (.istore 4, 2) := by decide +kernel
theorem d_Sy_closeEnd_30 : decode b_Sy_closeEnd 30 = .ok (.iconst 0, 1) := by decide +kernel
theorem d_Sy_closeEnd_31 : decode b_Sy_closeEnd 31 = .ok (.istore 5, 2) := by decide +kernel
theorem d_Sy_closeEnd_33 : decode b_Sy_closeEnd 33 = .ok (.iload 5, 2) := by decide +kernel
theorem d_Sy_closeEnd_35 : decode b_Sy_closeEnd 35 = .ok (.aload_n 3, 1) := by decide +kernel
theorem d_Sy_closeEnd_36 : decode b_Sy_closeEnd 36 = .ok (.getfield 178, 3) := by decide +kernel
theorem d_Sy_closeEnd_39 : decode b_Sy_closeEnd 39 = .ok (.if_icmp .ge 33, 3) := by decide +kernel
theorem d_Sy_closeEnd_42 : decode b_Sy_closeEnd 42 = .ok (.iload 4, 2) := by decide +kernel
theorem d_Sy_closeEnd_44 : decode b_Sy_closeEnd 44 = .ok (.aload_n 0, 1) := by decide +kernel
theorem d_Sy_closeEnd_45 : decode b_Sy_closeEnd 45 = .ok (.aload_n 3, 1) := by decide +kernel
theorem d_Sy_closeEnd_46 : decode b_Sy_closeEnd 46 = .ok (.getfield 197, 3) := by decide +kernel
theorem d_Sy_closeEnd_49 : decode b_Sy_closeEnd 49 = .ok (.iload 5, 2) := by decide +kernel
theorem d_Sy_closeEnd_51 : decode b_Sy_closeEnd 51 = .ok (.iaload, 1) := by decide +kernel
theorem d_Sy_closeEnd_52 : decode b_Sy_closeEnd 52 = .ok (.aload_n 3, 1) := by decide +kernel
theorem d_Sy_closeEnd_53 : decode b_Sy_closeEnd 53 = .ok (.getfield 200, 3) := by decide +kernel
theorem d_Sy_closeEnd_56 : decode b_Sy_closeEnd 56 = .ok (.iload 5, 2) := by decide +kernel
theorem d_Sy_closeEnd_58 : decode b_Sy_closeEnd 58 = .ok (.iaload, 1) := by decide +kernel
theorem d_Sy_closeEnd_59 : decode b_Sy_closeEnd 59 = .ok (.iload_n 2, 1) := by decide +kernel
theorem d_Sy_closeEnd_60 : decode b_Sy_closeEnd 60 = .ok (.invokevirtual 261, 3) := by decide +kernel
theorem d_Sy_closeEnd_63 : decode b_Sy_closeEnd 63 = .ok (.iadd, 1) := by decide +kernel
theorem d_Sy_closeEnd_64 : decode b_Sy_closeEnd 64 = .ok (.istore 4, 2) := by decide +kernel
theorem d_Sy_closeEnd_66 : decode b_Sy_closeEnd 66 = .ok (.iinc 5 1, 3) := by decide +kernel
theorem d_Sy_closeEnd_69 : decode b_Sy_closeEnd 69 = .ok (.goto (-36), 3) := by decide +kernel
theorem d_Sy_closeEnd_72 : decode b_Sy_closeEnd 72 = .ok (.aload_n 3, 1) := by decide +kernel
theorem d_Sy_closeEnd_73 : decode b_Sy_closeEnd 73 = .ok (.iconst 0, 1) := by decide +kernel
theorem d_Sy_closeEnd_74 : decode b_Sy_closeEnd 74 = .ok (.putfield 178, 3) := by decide +kernel
theorem d_Sy_closeEnd_77 : decode b_Sy_closeEnd 77 = .ok (.aload_n 3, 1) := by decide +kernel
theorem d_Sy_closeEnd_78 : decode b_Sy_closeEnd 78 = .ok (.iconst 0, 1) := by decide +kernel
theorem d_Sy_closeEnd_79 : decode b_Sy_closeEnd 79 = .ok (.putfield 152, 3) := by decide +kernel
theorem d_Sy_closeEnd_82 : decode b_Sy_closeEnd 82 = .ok (.iload 4, 2) := by decide +kernel
theorem d_Sy_closeEnd_84 : decode b_Sy_closeEnd 84 = .ok (.ireturn, 1) := by decide +kernel
theorem d_Sy_dropMessage_0 : decode b_Sy_dropMessage 0 = .ok (.aload_n 0, 1) := by decide +kernel
theorem d_Sy_dropMessage_1 : decode b_Sy_dropMessage 1 = .ok (.dup, 1) := by decide +kernel
theorem d_Sy_dropMessage_2 : decode b_Sy_dropMessage 2 = .ok (.getfield 224, 3) := by decide +kernel
theorem d_Sy_dropMessage_5 : decode b_Sy_dropMessage 5 = .ok (.iconst 1, 1) := by decide +kernel
theorem d_Sy_dropMessage_6 : decode b_Sy_dropMessage 6 = .ok (.iadd, 1) := by decide +kernel
theorem d_Sy_dropMessage_7 : decode b_Sy_dropMessage 7 = .ok (.putfield 224, 3) := by decide +kernel
theorem d_Sy_dropMessage_10 : decode b_Sy_dropMessage 10 = .ok (.iload_n 1, 1) := by decide +kernel
theorem d_Sy_dropMessage_11 : decode b_Sy_dropMessage 11 = .ok (.invokestatic 242, 3) := by decide +kernel
theorem d_Sy_dropMessage_14 : decode b_Sy_dropMessage 14 = .ok (.ifCond .eq 14, 3) := by decide +kernel
theorem d_Sy_dropMessage_17 : decode b_Sy_dropMessage 17 = .ok (.aload_n 0, 1) := by decide +kernel
theorem d_Sy_dropMessage_18 : decode b_Sy_dropMessage 18 = .ok (.getfield 30, 3) := by decide +kernel
theorem d_Sy_dropMessage_21 : decode b_Sy_dropMessage 21 = .ok (.iload_n 2, 1) := by decide +kernel
theorem d_Sy_dropMessage_22 : decode b_Sy_dropMessage 22 = .ok (.aaload, 1) := by decide +kernel
theorem d_Sy_dropMessage_23 : decode b_Sy_dropMessage 23 = .ok (.invokevirtual 96, 3) := by decide +kernel
theorem d_Sy_dropMessage_26 : decode b_Sy_dropMessage 26 = .ok (.iconst 1, 1) := by decide +kernel
theorem d_Sy_dropMessage_27 : decode b_Sy_dropMessage 27 = .ok (.ireturn, 1) := by decide +kernel
theorem d_Sy_dropMessage_28 : decode b_Sy_dropMessage 28 = .ok (.iload_n 1, 1) := by decide +kernel
theorem d_Sy_dropMessage_29 : decode b_Sy_dropMessage 29 = .ok (.invokestatic 252, 3) := by decide +kernel
theorem d_Sy_dropMessage_32 : decode b_Sy_dropMessage 32 = .ok (.ifCond .eq 14, 3) := by decide +kernel
theorem d_Sy_dropMessage_35 : decode b_Sy_dropMessage 35 = .ok (.aload_n 0, 1) := by decide +kernel
theorem d_Sy_dropMessage_36 : decode b_Sy_dropMessage 36 = .ok (.iload_n 2, 1) := by decide +kernel
theorem d_Sy_dropMessage_37 : decode b_Sy_dropMessage 37 = .ok (.iload_n 3, 1) := by decide +kernel
theorem d_Sy_dropMessage_38 : decode b_Sy_dropMessage 38 = .ok (.iconst 1, 1) := by decide +kernel
theorem d_Sy_dropMessage_39 : decode b_Sy_dropMessage 39 = .ok (.iadd, 1) := by decide +kernel
theorem d_Sy_dropMessage_40 : decode b_Sy_dropMessage 40 = .ok (.invokevirtual 100, 3) := by decide +kernel
theorem d_Sy_dropMessage_43 : decode b_Sy_dropMessage 43 = .ok (.goto 4, 3) := by decide +kernel
theorem d_Sy_dropMessage_46 : decode b_Sy_dropMessage 46 = .ok (.iconst 0, 1) := by decide +kernel
theorem d_Sy_dropMessage_47 : decode b_Sy_dropMessage 47 = .ok (.ireturn, 1) := by decide +kernel
theorem d_Sy_draftFromText_0 : decode b_Sy_draftFromText 0 = .ok (.aload_n 0, 1) := by decide +kernel
theorem d_Sy_draftFromText_1 : decode b_Sy_draftFromText 1 = .ok (.getfield 16, 3) := by decide +kernel
theorem d_Sy_draftFromText_4 : decode b_Sy_draftFromText 4 = .ok (.invokevirtual 264, 3) := by decide +kernel
theorem d_Sy_draftFromText_7 : decode b_Sy_draftFromText 7 = .ok (.aload_n 0, 1) := by decide +kernel
theorem d_Sy_draftFromText_8 : decode b_Sy_draftFromText 8 = .ok (.getfield 53, 3) := by decide +kernel
theorem d_Sy_draftFromText_11 : decode b_Sy_draftFromText 11 = .ok (.iconst 5, 1) := by decide +kernel
theorem d_Sy_draftFromText_12 : decode b_Sy_draftFromText 12 = .ok (.irem, 1) := by decide +kernel
theorem d_Sy_draftFromText_13 : decode b_Sy_draftFromText 13 = .ok (.iconst 4, 1) := by decide +kernel
theorem d_Sy_draftFromText_14 : decode b_Sy_draftFromText 14 = .ok (.if_icmp .eq 5, 3) := by decide +kernel
theorem d_Sy_draftFromText_17 : decode b_Sy_draftFromText 17 = .ok (.iconst 0, 1) := by decide +kernel
theorem d_Sy_draftFromText_18 : decode b_Sy_draftFromText 18 = .ok (.ireturn, 1) := by decide +kernel
theorem d_Sy_draftFromText_19 : decode b_Sy_draftFromText 19 = .ok (.iconst 0, 1) := by decide +kernel
theorem d_Sy_draftFromText_20 : decode b_Sy_draftFromText 20 = .ok (.istore_n 1, 1) := by decide +kernel
theorem d_Sy_draftFromText_21 : decode b_Sy_draftFromText 21 = .ok (.iload_n 1, 1) := by decide +kernel
theorem d_Sy_draftFromText_22 : decode b_Sy_draftFromText 22 = .ok (.iconst 4, 1) := by decide +kernel
theorem d_Sy_draftFromText_23 : decode b_Sy_draftFromText 23 = .ok (.iadd, 1) := by decide +kernel
theorem d_Sy_draftFromText_24 : decode b_Sy_draftFromText 24 = .ok (.aload_n 0, 1) := by decide +kernel
theorem d_Sy_draftFromText_25 : decode b_Sy_draftFromText 25 = .ok (.getfield 53, 3) := by decide +kernel
theorem d_Sy_draftFromText_28 : decode b_Sy_draftFromText 28 = .ok (.if_icmp .gt 46, 3) := by decide +kernel
theorem d_Sy_draftFromText_31 : decode b_Sy_draftFromText 31 = .ok (.iload_n 1, 1) := by decide +kernel
theorem d_Sy_draftFromText_32 : decode b_Sy_draftFromText 32 = .ok (.ifCond .eq 16, 3) := by decide +kernel
theorem d_Sy_draftFromText_35 : decode b_Sy_draftFromText 35 = .ok (.aload_n 0, 1) := by decide +kernel
theorem d_Sy_draftFromText_36 : decode b_Sy_draftFromText 36 = .ok (.getfield 9, 3) := by decide +kernel
theorem d_Sy_draftFromText_39 : decode b_Sy_draftFromText 39 = .ok (.iload_n 1, 1) := by decide +kernel
theorem d_Sy_draftFromText_40 : decode b_Sy_draftFromText 40 = .ok (.iconst 1, 1) := by decide +kernel
theorem d_Sy_draftFromText_41 : decode b_Sy_draftFromText 41 = .ok (.isub, 1) := by decide +kernel
theorem d_Sy_draftFromText_42 : decode b_Sy_draftFromText 42 = .ok (.caload, 1) := by decide +kernel
theorem d_Sy_draftFromText_43 : decode b_Sy_draftFromText 43 = .ok (.bipush 44, 2) := by decide +kernel
theorem d_Sy_draftFromText_45 : decode b_Sy_draftFromText 45 = .ok (.if_icmp .ne 7, 3) := by decide +kernel
theorem d_Sy_draftFromText_48 : decode b_Sy_draftFromText 48 = .ok (.iconst 1, 1) := by decide +kernel
theorem d_Sy_draftFromText_49 : decode b_Sy_draftFromText 49 = .ok (.goto 4, 3) := by decide +kernel
theorem d_Sy_draftFromText_52 : decode b_Sy_draftFromText 52 = .ok (.iconst 0, 1) := by decide +kernel
theorem d_Sy_draftFromText_53 : decode b_Sy_draftFromText 53 = .ok (.istore_n 2, 1) := by decide +kernel
theorem d_Sy_draftFromText_54 : decode b_Sy_draftFromText 54 = .ok (.iload_n 2, 1) := by decide +kernel
theorem d_Sy_draftFromText_55 : decode b_Sy_draftFromText 55 = .ok (.ifCond .eq 11, 3) := by decide +kernel
theorem d_Sy_draftFromText_58 : decode b_Sy_draftFromText 58 = .ok (.aload_n 0, 1) := by decide +kernel
theorem d_Sy_draftFromText_59 : decode b_Sy_draftFromText 59 = .ok (.iload_n 1, 1) := by decide +kernel
theorem d_Sy_draftFromText_60 : decode b_Sy_draftFromText 60 = .ok (.invokevirtual 267, 3) := by decide +kernel
theorem d_Sy_draftFromText_63 : decode b_Sy_draftFromText 63 = .ok (.ifCond .ne 5, 3) := by decide +kernel
theorem d_Sy_draftFromText_66 : decode b_Sy_draftFromText 66 = .ok (.iconst 0, 1) := by decide +kernel
theorem d_Sy_draftFromText_67 : decode b_Sy_draftFromText 67 = .ok (.ireturn, 1) := by decide +kernel
theorem d_Sy_draftFromText_68 : decode b_Sy_draftFromText 68 = .ok (.iinc 1 5, 3) := by decide +kernel
theorem d_Sy_draftFromText_71 : decode b_Sy_draftFromText 71 = .ok (.goto (-50), 3) := by decide +kernel
theorem d_Sy_draftFromText_74 : decode b_Sy_draftFromText 74 = .ok (.iconst 1, 1) := by decide +kernel
theorem d_Sy_draftFromText_75 : decode b_Sy_draftFromText 75 = .ok (.ireturn, 1) := by decide +kernel
theorem d_Sy_draftRuleAt_0 : decode b_Sy_draftRuleAt 0 = .ok (.aload_n 0, 1) := by decide +kernel
theorem d_Sy_draftRuleAt_1 : decode b_Sy_draftRuleAt 1 = .ok (.getfield 9, 3) := by decide +kernel
theorem d_Sy_draftRuleAt_4 : decode b_Sy_draftRuleAt 4 = .ok (.iload_n 1, 1) := by decide +kernel
theorem d_Sy_draftRuleAt_5 : decode b_Sy_draftRuleAt 5 = .ok (.caload, 1) := by decide +kernel
theorem d_Sy_draftRuleAt_6 : decode b_Sy_draftRuleAt 6 = .ok (.bipush 48, 2) := by decide +kernel
theorem d_Sy_draftRuleAt_8 : decode b_Sy_draftRuleAt 8 = .ok (.isub, 1) := by decide +kernel
theorem d_Sy_draftRuleAt_9 : decode b_Sy_draftRuleAt 9 = .ok (.istore_n 2, 1) := by decide +kernel
theorem d_Sy_draftRuleAt_10 : decode b_Sy_draftRuleAt 10 = .ok (.ldc 142, 2) := by decide +kernel
theorem d_Sy_draftRuleAt_12 : decode b_Sy_draftRuleAt 12 = .ok (.aload_n 0, 1) := by decide +kernel
theorem d_Sy_draftRuleAt_13 : decode b_Sy_draftRuleAt 13 = .ok (.getfield 9, 3) := by decide +kernel
theorem d_Sy_draftRuleAt_16 : decode b_Sy_draftRuleAt 16 = .ok (.iload_n 1, 1) := by decide +kernel
theorem d_Sy_draftRuleAt_17 : decode b_Sy_draftRuleAt 17 = .ok (.iconst 1, 1) := by decide +kernel
theorem d_Sy_draftRuleAt_18 : decode b_Sy_draftRuleAt 18 = .ok (.iadd, 1) := by decide +kernel
theorem d_Sy_draftRuleAt_19 : decode b_Sy_draftRuleAt 19 = .ok (.caload, 1) := by decide +kernel
theorem d_Sy_draftRuleAt_20 : decode b_Sy_draftRuleAt 20 = .ok (.invokevirtual 270, 3) := by decide +kernel
theorem d_Sy_draftRuleAt_23 : decode b_Sy_draftRuleAt 23 = .ok (.istore_n 3, 1) := by decide +kernel
theorem d_Sy_draftRuleAt_24 : decode b_Sy_draftRuleAt 24 = .ok (.ldc_w 273, 3) := by decide +kernel
theorem d_Sy_draftRuleAt_27 : decode b_Sy_draftRuleAt 27 = .ok (.aload_n 0, 1) := by decide +kernel
theorem d_Sy_draftRuleAt_28 : decode b_Sy_draftRuleAt 28 = .ok (.getfield 9, 3) := by decide +kernel
theorem d_Sy_draftRuleAt_31 : decode b_Sy_draftRuleAt 31 = .ok (.iload_n 1, 1) := by decide +kernel
theorem d_Sy_draftRuleAt_32 : decode b_Sy_draftRuleAt 32 = .ok (.iconst 2, 1) := by decide +kernel
theorem d_Sy_draftRuleAt_33 : decode b_Sy_draftRuleAt 33 = .ok (.iadd, 1) := by decide +kernel
theorem d_Sy_draftRuleAt_34 : decode b_Sy_draftRuleAt 34 = .ok (.caload, 1) := by decide +kernel
theorem d_Sy_draftRuleAt_35 : decode b_Sy_draftRuleAt 35 = .ok (.invokevirtual 270, 3) := by decide +kernel
theorem d_Sy_draftRuleAt_38 : decode b_Sy_draftRuleAt 38 = .ok (.istore 4, 2) := by decide +kernel
theorem d_Sy_draftRuleAt_40 : decode b_Sy_draftRuleAt 40 = .ok (.aload_n 0, 1) := by decide +kernel
theorem d_Sy_draftRuleAt_41 : decode b_Sy_draftRuleAt 41 = .ok (.getfield 9, 3) := by decide +kernel
theorem d_Sy_draftRuleAt_44 : decode b_Sy_draftRuleAt 44 = .ok (.iload_n 1, 1) := by decide +kernel
theorem d_Sy_draftRuleAt_45 : decode b_Sy_draftRuleAt 45 = .ok (.iconst 3, 1) := by decide +kernel
theorem d_Sy_draftRuleAt_46 : decode b_Sy_draftRuleAt 46 = .ok (.iadd, 1) := by decide +kernel
theorem d_Sy_draftRuleAt_47 : decode b_Sy_draftRuleAt 47 = .ok (.caload, 1) := by decide +kernel
theorem d_Sy_draftRuleAt_48 : decode b_Sy_draftRuleAt 48 = .ok (.bipush 48, 2) := by decide +kernel
theorem d_Sy_draftRuleAt_50 : decode b_Sy_draftRuleAt 50 = .ok (.isub, 1) := by decide +kernel
theorem d_Sy_draftRuleAt_51 : decode b_Sy_draftRuleAt 51 = .ok (.istore 5, 2) := by decide +kernel
theorem d_Sy_draftRuleAt_53 : decode b_Sy_draftRuleAt 53 = .ok (.iload_n 2, 1) := by decide +kernel
theorem d_Sy_draftRuleAt_54 : decode b_Sy_draftRuleAt 54 = .ok (.iconst 1, 1) := by decide +kernel
theorem d_Sy_draftRuleAt_55 : decode b_Sy_draftRuleAt 55 = .ok (.if_icmp .lt 34, 3) := by decide +kernel
theorem d_Sy_draftRuleAt_58 : decode b_Sy_draftRuleAt 58 = .ok (.iload_n 2, 1) := by decide +kernel
theorem d_Sy_draftRuleAt_59 : decode b_Sy_draftRuleAt 59 = .ok (.bipush 6, 2) := by decide +kernel
theorem d_Sy_draftRuleAt_61 : decode b_Sy_draftRuleAt 61 = .ok (.if_icmp .gt 28, 3) := by decide +kernel
theorem d_Sy_draftRuleAt_64 : decode b_Sy_draftRuleAt 64 = .ok (.iload_n 3, 1) := by decide +kernel
theorem d_Sy_draftRuleAt_65 : decode b_Sy_draftRuleAt 65 = .ok (.ifCond .lt 24, 3) := by decide +kernel
theorem d_Sy_draftRuleAt_68 : decode b_Sy_draftRuleAt 68 = .ok (.iload 4, 2) := by decide +kernel
theorem d_Sy_draftRuleAt_70 : decode b_Sy_draftRuleAt 70 = .ok (.ifCond .lt 19, 3) := by decide +kernel
theorem d_Sy_draftRuleAt_73 : decode b_Sy_draftRuleAt 73 = .ok (.iload 5, 2) := by decide +kernel
theorem d_Sy_draftRuleAt_75 : decode b_Sy_draftRuleAt 75 = .ok (.ifCond .lt 14, 3) := by decide +kernel
theorem d_Sy_draftRuleAt_78 : decode b_Sy_draftRuleAt 78 = .ok (.iload 5, 2) := by decide +kernel
theorem d_Sy_draftRuleAt_80 : decode b_Sy_draftRuleAt 80 = .ok (.bipush 6, 2) := by decide +kernel
theorem d_Sy_draftRuleAt_82 : decode b_Sy_draftRuleAt 82 = .ok (.if_icmp .gt 7, 3) := by decide +kernel
theorem d_Sy_draftRuleAt_85 : decode b_Sy_draftRuleAt 85 = .ok (.iconst 1, 1) := by decide +kernel
theorem d_Sy_draftRuleAt_86 : decode b_Sy_draftRuleAt 86 = .ok (.goto 4, 3) := by decide +kernel
theorem d_Sy_draftRuleAt_89 : decode b_Sy_draftRuleAt 89 = .ok (.iconst 0, 1) := by decide +kernel
theorem d_Sy_draftRuleAt_90 : decode b_Sy_draftRuleAt 90 = .ok (.istore 6, 2) := by decide +kernel
theorem d_Sy_draftRuleAt_92 : decode b_Sy_draftRuleAt 92 = .ok (.iload 6, 2) := by decide +kernel
theorem d_Sy_draftRuleAt_94 : decode b_Sy_draftRuleAt 94 = .ok (.ifCond .eq 23, 3) := by decide +kernel
theorem d_Sy_draftRuleAt_97 : decode b_Sy_draftRuleAt 97 = .ok (.aload_n 0, 1) := by decide +kernel
theorem d_Sy_draftRuleAt_98 : decode b_Sy_draftRuleAt 98 = .ok (.getfield 16, 3) := by decide +kernel
theorem d_Sy_draftRuleAt_101 : decode b_Sy_draftRuleAt 101 = .ok (.iload_n 2, 1) := by decide +kernel
theorem d_Sy_draftRuleAt_102 : decode b_Sy_draftRuleAt 102 = .ok (.iload_n 3, 1) := by decide +kernel
theorem d_Sy_draftRuleAt_103 : decode b_Sy_draftRuleAt 103 = .ok (.iload 4, 2) := by decide +kernel
theorem d_Sy_draftRuleAt_105 : decode b_Sy_draftRuleAt 105 = .ok (.iload 5, 2) := by decide +kernel
theorem d_Sy_draftRuleAt_107 : decode b_Sy_draftRuleAt 107 = .ok (.invokevirtual 275, 3) := by decide +kernel
theorem d_Sy_draftRuleAt_110 : decode b_Sy_draftRuleAt 110 = .ok (.ifCond .eq 7, 3) := by decide +kernel
theorem d_Sy_draftRuleAt_113 : decode b_Sy_draftRuleAt 113 = .ok (.iconst 1, 1) := by decide +kernel
theorem d_Sy_draftRuleAt_114 : decode b_Sy_draftRuleAt 114 = .ok (.goto 4, 3) := by decide +kernel
theorem d_Sy_draftRuleAt_117 : decode b_Sy_draftRuleAt 117 = .ok (.iconst 0, 1) := by decide +kernel
theorem d_Sy_draftRuleAt_118 : decode b_Sy_draftRuleAt 118 = .ok (.ireturn, 1) := by decide +kernel
theorem d_Sy_leastFreeBlock_0 : decode b_Sy_leastFreeBlock 0 = .ok (.iconst 0, 1) := by decide +kernel
theorem d_Sy_leastFreeBlock_1 : decode b_Sy_leastFreeBlock 1 = .ok (.istore_n 1, 1) := by decide +kernel
theorem d_Sy_leastFreeBlock_2 : decode b_Sy_leastFreeBlock 2 = .ok (.iload_n 1, 1) := by decide +kernel
theorem d_Sy_leastFreeBlock_3 : decode b_Sy_leastFreeBlock 3 = .ok (.bipush 12, 2) := by decide +kernel
theorem d_Sy_leastFreeBlock_5 : decode b_Sy_leastFreeBlock 5 = .ok (.if_icmp .ge 21, 3) := by decide +kernel
theorem d_Sy_leastFreeBlock_8 : decode b_Sy_leastFreeBlock 8 = .ok (.aload_n 0, 1) := by decide +kernel
theorem d_Sy_leastFreeBlock_9 : decode b_Sy_leastFreeBlock 9 = .ok (.getfield 30, 3) := by decide +kernel
theorem d_Sy_leastFreeBlock_12 : decode b_Sy_leastFreeBlock 12 = .ok (.iload_n 1, 1) := by decide +kernel
theorem d_Sy_leastFreeBlock_13 : decode b_Sy_leastFreeBlock 13 = .ok (.aaload, 1) := by decide +kernel
theorem d_Sy_leastFreeBlock_14 : decode b_Sy_leastFreeBlock 14 = .ok (.invokevirtual 279, 3) := by decide +kernel
theorem d_Sy_leastFreeBlock_17 : decode b_Sy_leastFreeBlock 17 = .ok (.ifCond .ne 9, 3) := by decide +kernel
theorem d_Sy_leastFreeBlock_20 : decode b_Sy_leastFreeBlock 20 = .ok (.iinc 1 1, 3) := by decide +kernel
theorem d_Sy_leastFreeBlock_23 : decode b_Sy_leastFreeBlock 23 = .ok (.goto (-21), 3) := by decide +kernel
theorem d_Sy_leastFreeBlock_26 : decode b_Sy_leastFreeBlock 26 = .ok (.iload_n 1, 1) := by decide +kernel
theorem d_Sy_leastFreeBlock_27 : decode b_Sy_leastFreeBlock 27 = .ok (.ireturn, 1) := by decide +kernel
theorem d_Sy_leastFreeChannel_0 : decode b_Sy_leastFreeChannel 0 = .ok (.iconst 0, 1) := by decide +kernel
theorem d_Sy_leastFreeChannel_1 : decode b_Sy_leastFreeChannel 1 = .ok (.istore_n 1, 1) := by decide +kernel
theorem d_Sy_leastFreeChannel_2 : decode b_Sy_leastFreeChannel 2 = .ok (.iload_n 1, 1) := by decide +kernel
theorem d_Sy_leastFreeChannel_3 : decode b_Sy_leastFreeChannel 3 = .ok (.bipush 6, 2) := by decide +kernel
theorem d_Sy_leastFreeChannel_5 : decode b_Sy_leastFreeChannel 5 = .ok (.if_icmp .ge 39, 3) := by decide +kernel
theorem d_Sy_leastFreeChannel_8 : decode b_Sy_leastFreeChannel 8 = .ok (.aload_n 0, 1) := by decide +kernel
theorem d_Sy_leastFreeChannel_9 : decode b_Sy_leastFreeChannel 9 = .ok (.getfield 40, 3) := by decide +kernel
theorem d_Sy_leastFreeChannel_12 : decode b_Sy_leastFreeChannel 12 = .ok (.iconst 2, 1) := by decide +kernel
theorem d_Sy_leastFreeChannel_13 : decode b_Sy_leastFreeChannel 13 = .ok (.iload_n 1, 1) := by decide +kernel
theorem d_Sy_leastFreeChannel_14 : decode b_Sy_leastFreeChannel 14 = .ok (.imul, 1) := by decide +kernel
theorem d_Sy_leastFreeChannel_15 : decode b_Sy_leastFreeChannel 15 = .ok (.aaload, 1) := by decide +kernel
theorem d_Sy_leastFreeChannel_16 : decode b_Sy_leastFreeChannel 16 = .ok (.invokevirtual 173, 3) := by decide +kernel
theorem d_Sy_leastFreeChannel_19 : decode b_Sy_leastFreeChannel 19 = .ok (.ifCond .ne 19, 3) := by decide +kernel
theorem d_Sy_leastFreeChannel_22 : decode b_Sy_leastFreeChannel 22 = .ok (.aload_n 0, 1) := by decide +kernel
theorem d_Sy_leastFreeChannel_23 : decode b_Sy_leastFreeChannel 23 = .ok (.getfield 40, 3) := by decide +kernel
theorem d_Sy_leastFreeChannel_26 : decode b_Sy_leastFreeChannel 26 = .ok (.iconst 2, 1) := by decide +kernel
theorem d_Sy_leastFreeChannel_27 : decode b_Sy_leastFreeChannel 27 = .ok (.iload_n 1, 1) := by decide +kernel
theorem d_Sy_leastFreeChannel_28 : decode b_Sy_leastFreeChannel 28 = .ok (.imul, 1) := by decide +kernel
theorem d_Sy_leastFreeChannel_29 : decode b_Sy_leastFreeChannel 29 = .ok (.iconst 1, 1) := by decide +kernel
theorem d_Sy_leastFreeChannel_30 : decode b_Sy_leastFreeChannel 30 = .ok (.iadd, 1) := by decide +kernel
theorem d_Sy_leastFreeChannel_31 : decode b_Sy_leastFreeChannel 31 = .ok (.aaload, 1) := by decide +kernel
theorem d_Sy_leastFreeChannel_32 : decode b_Sy_leastFreeChannel 32 = .ok (.invokevirtual 173, 3) := by decide +kernel
theorem d_Sy_leastFreeChannel_35 : decode b_Sy_leastFreeChannel 35 = .ok (.ifCond .eq 9, 3) := by decide +kernel
theorem d_Sy_leastFreeChannel_38 : decode b_Sy_leastFreeChannel 38 = .ok (.iinc 1 1, 3) := by decide +kernel
theorem d_Sy_leastFreeChannel_41 : decode b_Sy_leastFreeChannel 41 = .ok (.goto (-39), 3) := by decide +kernel
theorem d_Sy_leastFreeChannel_44 : decode b_Sy_leastFreeChannel 44 = .ok (.iload_n 1, 1) := by decide +kernel
theorem d_Sy_leastFreeChannel_45 : decode b_Sy_leastFreeChannel 45 = .ok (.ireturn, 1) := by decide +kernel
theorem d_Sy_processesAlive_0 : decode b_Sy_processesAlive 0 = .ok (.iconst 0, 1) := by decide +kernel
theorem d_Sy_processesAlive_1 : decode b_Sy_processesAlive 1 = .ok (.istore_n 1, 1) := by decide +kernel
theorem d_Sy_processesAlive_2 : decode b_Sy_processesAlive 2 = .ok (.iconst 0, 1) := by decide +kernel
theorem d_Sy_processesAlive_3 : decode b_Sy_processesAlive 3 = .ok (.istore_n 2, 1) := by decide +kernel
theorem d_Sy_processesAlive_4 : decode b_Sy_processesAlive 4 = .ok (.iload_n 2, 1) := by decide +kernel
theorem d_Sy_processesAlive_5 : decode b_Sy_processesAlive 5 = .ok (.iconst 4, 1) := by decide +kernel
theorem d_Sy_processesAlive_6 : decode b_Sy_processesAlive 6 = .ok (.if_icmp .ge 26, 3) := by decide +kernel
theorem d_Sy_processesAlive_9 : decode b_Sy_processesAlive 9 = .ok (.iload_n 1, 1) := by decide +kernel
theorem d_Sy_processesAlive_10 : decode b_Sy_processesAlive 10 = .ok (.aload_n 0, 1) := by decide +kernel
theorem d_Sy_processesAlive_11 : decode b_Sy_processesAlive 11 = .ok (.getfield 24, 3) := by decide +kernel
theorem d_Sy_processesAlive_14 : decode b_Sy_processesAlive 14 = .ok (.iload_n 2, 1) := by decide +kernel
theorem d_Sy_processesAlive_15 : decode b_Sy_processesAlive 15 = .ok (.baload, 1) := by decide +kernel
theorem d_Sy_processesAlive_16 : decode b_Sy_processesAlive 16 = .ok (.ifCond .eq 7, 3) := by decide +kernel
theorem d_Sy_processesAlive_19 : decode b_Sy_processesAlive 19 = .ok (.iconst 1, 1) := by decide +kernel
theorem d_Sy_processesAlive_20 : decode b_Sy_processesAlive 20 = .ok (.goto 4, 3) := by decide +kernel
theorem d_Sy_processesAlive_23 : decode b_Sy_processesAlive 23 = .ok (.iconst 0, 1) := by decide +kernel
theorem d_Sy_processesAlive_24 : decode b_Sy_processesAlive 24 = .ok (.iadd, 1) := by decide +kernel
theorem d_Sy_processesAlive_25 : decode b_Sy_processesAlive 25 = .ok (.istore_n 1, 1) := by decide +kernel
theorem d_Sy_processesAlive_26 : decode b_Sy_processesAlive 26 = .ok (.iinc 2 1, 3) := by decide +kernel
theorem d_Sy_processesAlive_29 : decode b_Sy_processesAlive 29 = .ok (.goto (-25), 3) := by decide +kernel
theorem d_Sy_processesAlive_32 : decode b_Sy_processesAlive 32 = .ok (.iload_n 1, 1) := by decide +kernel
theorem d_Sy_processesAlive_33 : decode b_Sy_processesAlive 33 = .ok (.ireturn, 1) := by decide +kernel
theorem d_Sy_blocksInUse_0 : decode b_Sy_blocksInUse 0 = .ok (.iconst 0, 1) := by decide +kernel
theorem d_Sy_blocksInUse_1 : decode b_Sy_blocksInUse 1 = .ok (.istore_n 1, 1) := by decide +kernel
theorem d_Sy_blocksInUse_2 : decode b_Sy_blocksInUse 2 = .ok (.iconst 0, 1) := by decide +kernel
theorem d_Sy_blocksInUse_3 : decode b_Sy_blocksInUse 3 = .ok (.istore_n 2, 1) := by decide +kernel
theorem d_Sy_blocksInUse_4 : decode b_Sy_blocksInUse 4 = .ok (.iload_n 2, 1) := by decide +kernel
theorem d_Sy_blocksInUse_5 : decode b_Sy_blocksInUse 5 = .ok (.bipush 12, 2) := by decide +kernel
theorem d_Sy_blocksInUse_7 : decode b_Sy_blocksInUse 7 = .ok (.if_icmp .ge 29, 3) := by decide +kernel
theorem d_Sy_blocksInUse_10 : decode b_Sy_blocksInUse 10 = .ok (.iload_n 1, 1) := by decide +kernel
theorem d_Sy_blocksInUse_11 : decode b_Sy_blocksInUse 11 = .ok (.aload_n 0, 1) := by decide +kernel
theorem d_Sy_blocksInUse_12 : decode b_Sy_blocksInUse 12 = .ok (.getfield 30, 3) := by decide +kernel
theorem d_Sy_blocksInUse_15 : decode b_Sy_blocksInUse 15 = .ok (.iload_n 2, 1) := by decide +kernel
theorem d_Sy_blocksInUse_16 : decode b_Sy_blocksInUse 16 = .ok (.aaload, 1) := by decide +kernel
theorem d_Sy_blocksInUse_17 : decode b_Sy_blocksInUse 17 = .ok (.invokevirtual 279, 3) := by decide +kernel
theorem d_Sy_blocksInUse_20 : decode b_Sy_blocksInUse 20 = .ok (.ifCond .eq 7, 3) := by decide +kernel
theorem d_Sy_blocksInUse_23 : decode b_Sy_blocksInUse 23 = .ok (.iconst 0, 1) := by decide +kernel
theorem d_Sy_blocksInUse_24 : decode b_Sy_blocksInUse 24 = .ok (.goto 4, 3) := by decide +kernel
theorem d_Sy_blocksInUse_27 : decode b_Sy_blocksInUse 27 = .ok (.iconst 1, 1) := by decide +kernel
theorem d_Sy_blocksInUse_28 : decode b_Sy_blocksInUse 28 = .ok (.iadd, 1) := by decide +kernel
theorem d_Sy_blocksInUse_29 : decode b_Sy_blocksInUse 29 = .ok (.istore_n 1, 1) := by decide +kernel
theorem d_Sy_blocksInUse_30 : decode b_Sy_blocksInUse 30 = .ok (.iinc 2 1, 3) := by decide +kernel
theorem d_Sy_blocksInUse_33 : decode b_Sy_blocksInUse 33 = .ok (.goto (-29), 3) := by decide +kernel
theorem d_Sy_blocksInUse_36 : decode b_Sy_blocksInUse 36 = .ok (.iload_n 1, 1) := by decide +kernel
theorem d_Sy_blocksInUse_37 : decode b_Sy_blocksInUse 37 = .ok (.ireturn, 1) := by decide +kernel
theorem d_Sy_cellsInUse_0 : decode b_Sy_cellsInUse 0 = .ok (.iconst 0, 1) := by decide +kernel
theorem d_Sy_cellsInUse_1 : decode b_Sy_cellsInUse 1 = .ok (.istore_n 1, 1) := by decide +kernel
theorem d_Sy_cellsInUse_2 : decode b_Sy_cellsInUse 2 = .ok (.iconst 0, 1) := by decide +kernel
theorem d_Sy_cellsInUse_3 : decode b_Sy_cellsInUse 3 = .ok (.istore_n 2, 1) := by decide +kernel
theorem d_Sy_cellsInUse_4 : decode b_Sy_cellsInUse 4 = .ok (.iload_n 2, 1) := by decide +kernel
theorem d_Sy_cellsInUse_5 : decode b_Sy_cellsInUse 5 = .ok (.bipush 12, 2) := by decide +kernel
theorem d_Sy_cellsInUse_7 : decode b_Sy_cellsInUse 7 = .ok (.if_icmp .ge 21, 3) := by decide +kernel
theorem d_Sy_cellsInUse_10 : decode b_Sy_cellsInUse 10 = .ok (.iload_n 1, 1) := by decide +kernel
theorem d_Sy_cellsInUse_11 : decode b_Sy_cellsInUse 11 = .ok (.aload_n 0, 1) := by decide +kernel
theorem d_Sy_cellsInUse_12 : decode b_Sy_cellsInUse 12 = .ok (.getfield 30, 3) := by decide +kernel
theorem d_Sy_cellsInUse_15 : decode b_Sy_cellsInUse 15 = .ok (.iload_n 2, 1) := by decide +kernel
theorem d_Sy_cellsInUse_16 : decode b_Sy_cellsInUse 16 = .ok (.aaload, 1) := by decide +kernel
theorem d_Sy_cellsInUse_17 : decode b_Sy_cellsInUse 17 = .ok (.getfield 211, 3) := by decide +kernel
theorem d_Sy_cellsInUse_20 : decode b_Sy_cellsInUse 20 = .ok (.iadd, 1) := by decide +kernel
theorem d_Sy_cellsInUse_21 : decode b_Sy_cellsInUse 21 = .ok (.istore_n 1, 1) := by decide +kernel
theorem d_Sy_cellsInUse_22 : decode b_Sy_cellsInUse 22 = .ok (.iinc 2 1, 3) := by decide +kernel
theorem d_Sy_cellsInUse_25 : decode b_Sy_cellsInUse 25 = .ok (.goto (-21), 3) := by decide +kernel
theorem d_Sy_cellsInUse_28 : decode b_Sy_cellsInUse 28 = .ok (.iload_n 1, 1) := by decide +kernel
theorem d_Sy_cellsInUse_29 : decode b_Sy_cellsInUse 29 = .ok (.ireturn, 1) := by decide +kernel
theorem d_Sy_endsOpen_0 : decode b_Sy_endsOpen 0 = .ok (.iconst 0, 1) := by decide +kernel
theorem d_Sy_endsOpen_1 : decode b_Sy_endsOpen 1 = .ok (.istore_n 1, 1) := by decide +kernel
theorem d_Sy_endsOpen_2 : decode b_Sy_endsOpen 2 = .ok (.iconst 0, 1) := by decide +kernel
theorem d_Sy_endsOpen_3 : decode b_Sy_endsOpen 3 = .ok (.istore_n 2, 1) := by decide +kernel
theorem d_Sy_endsOpen_4 : decode b_Sy_endsOpen 4 = .ok (.iload_n 2, 1) := by decide +kernel
theorem d_Sy_endsOpen_5 : decode b_Sy_endsOpen 5 = .ok (.bipush 12, 2) := by decide +kernel
theorem d_Sy_endsOpen_7 : decode b_Sy_endsOpen 7 = .ok (.if_icmp .ge 29, 3) := by decide +kernel
theorem d_Sy_endsOpen_10 : decode b_Sy_endsOpen 10 = .ok (.iload_n 1, 1) := by decide +kernel
theorem d_Sy_endsOpen_11 : decode b_Sy_endsOpen 11 = .ok (.aload_n 0, 1) := by decide +kernel
theorem d_Sy_endsOpen_12 : decode b_Sy_endsOpen 12 = .ok (.getfield 40, 3) := by decide +kernel
theorem d_Sy_endsOpen_15 : decode b_Sy_endsOpen 15 = .ok (.iload_n 2, 1) := by decide +kernel
theorem d_Sy_endsOpen_16 : decode b_Sy_endsOpen 16 = .ok (.aaload, 1) := by decide +kernel
theorem d_Sy_endsOpen_17 : decode b_Sy_endsOpen 17 = .ok (.invokevirtual 173, 3) := by decide +kernel
theorem d_Sy_endsOpen_20 : decode b_Sy_endsOpen 20 = .ok (.ifCond .eq 7, 3) := by decide +kernel
theorem d_Sy_endsOpen_23 : decode b_Sy_endsOpen 23 = .ok (.iconst 1, 1) := by decide +kernel
theorem d_Sy_endsOpen_24 : decode b_Sy_endsOpen 24 = .ok (.goto 4, 3) := by decide +kernel
theorem d_Sy_endsOpen_27 : decode b_Sy_endsOpen 27 = .ok (.iconst 0, 1) := by decide +kernel
theorem d_Sy_endsOpen_28 : decode b_Sy_endsOpen 28 = .ok (.iadd, 1) := by decide +kernel
theorem d_Sy_endsOpen_29 : decode b_Sy_endsOpen 29 = .ok (.istore_n 1, 1) := by decide +kernel
theorem d_Sy_endsOpen_30 : decode b_Sy_endsOpen 30 = .ok (.iinc 2 1, 3) := by decide +kernel
theorem d_Sy_endsOpen_33 : decode b_Sy_endsOpen 33 = .ok (.goto (-29), 3) := by decide +kernel
theorem d_Sy_endsOpen_36 : decode b_Sy_endsOpen 36 = .ok (.iload_n 1, 1) := by decide +kernel
theorem d_Sy_endsOpen_37 : decode b_Sy_endsOpen 37 = .ok (.ireturn, 1) := by decide +kernel
theorem d_Sy_messagesWaiting_0 : decode b_Sy_messagesWaiting 0 = .ok (.iconst 0, 1) := by decide +kernel
theorem d_Sy_messagesWaiting_1 : decode b_Sy_messagesWaiting 1 = .ok (.istore_n 1, 1) := by decide +kernel
theorem d_Sy_messagesWaiting_2 : decode b_Sy_messagesWaiting 2 = .ok (.iconst 0, 1) := by decide +kernel
theorem d_Sy_messagesWaiting_3 : decode b_Sy_messagesWaiting 3 = .ok (.istore_n 2, 1) := by decide +kernel
theorem d_Sy_messagesWaiting_4 : decode b_Sy_messagesWaiting 4 = .ok (.iload_n 2, 1) := by decide +kernel
theorem d_Sy_messagesWaiting_5 : decode b_Sy_messagesWaiting 5 = .ok (.bipush 12, 2) := by decide +kernel
theorem d_Sy_messagesWaiting_7 : decode b_Sy_messagesWaiting 7 = .ok (.if_icmp .ge 21, 3) := by decide +kernel
theorem d_Sy_messagesWaiting_10 : decode b_Sy_messagesWaiting 10 = .ok (.iload_n 1, 1) := by decide +kernel
theorem d_Sy_messagesWaiting_11 : decode b_Sy_messagesWaiting 11 = .ok (.aload_n 0, 1) := by decide +kernel
theorem d_Sy_messagesWaiting_12 : decode b_Sy_messagesWaiting 12 = .ok (.getfield 40, 3) := by decide +kernel
theorem d_Sy_messagesWaiting_15 : decode b_Sy_messagesWaiting 15 = .ok (.iload_n 2, 1) := by decide +kernel
theorem d_Sy_messagesWaiting_16 : decode b_Sy_messagesWaiting 16 = .ok (.aaload, 1) := by decide +kernel
theorem d_Sy_messagesWaiting_17 : decode b_Sy_messagesWaiting 17 = .ok (.getfield 178, 3) := by decide +kernel
theorem d_Sy_messagesWaiting_20 : decode b_Sy_messagesWaiting 20 = .ok (.iadd, 1) := by decide +kernel
theorem d_Sy_messagesWaiting_21 : decode b_Sy_messagesWaiting 21 = .ok (.istore_n 1, 1) := by decide +kernel
theorem d_Sy_messagesWaiting_22 : decode b_Sy_messagesWaiting 22 = .ok (.iinc 2 1, 3) := by decide +kernel
theorem d_Sy_messagesWaiting_25 : decode b_Sy_messagesWaiting 25 = .ok (.goto (-21), 3) := by decide +kernel
theorem d_Sy_messagesWaiting_28 : decode b_Sy_messagesWaiting 28 = .ok (.iload_n 1, 1) := by decide +kernel
theorem d_Sy_messagesWaiting_29 : decode b_Sy_messagesWaiting 29 = .ok (.ireturn, 1) := by decide +kernel
theorem d_Sy_contractsMade_0 : decode b_Sy_contractsMade 0 = .ok (.iconst 0, 1) := by decide +kernel
theorem d_Sy_contractsMade_1 : decode b_Sy_contractsMade 1 = .ok (.istore_n 1, 1) := by decide +kernel
theorem d_Sy_contractsMade_2 : decode b_Sy_contractsMade 2 = .ok (.iconst 0, 1) := by decide +kernel
theorem d_Sy_contractsMade_3 : decode b_Sy_contractsMade 3 = .ok (.istore_n 2, 1) := by decide +kernel
theorem d_Sy_contractsMade_4 : decode b_Sy_contractsMade 4 = .ok (.iload_n 2, 1) := by decide +kernel
theorem d_Sy_contractsMade_5 : decode b_Sy_contractsMade 5 = .ok (.iconst 4, 1) := by decide +kernel
theorem d_Sy_contractsMade_6 : decode b_Sy_contractsMade 6 = .ok (.if_icmp .ge 29, 3) := by decide +kernel
theorem d_Sy_contractsMade_9 : decode b_Sy_contractsMade 9 = .ok (.iload_n 1, 1) := by decide +kernel
theorem d_Sy_contractsMade_10 : decode b_Sy_contractsMade 10 = .ok (.aload_n 0, 1) := by decide +kernel
theorem d_Sy_contractsMade_11 : decode b_Sy_contractsMade 11 = .ok (.getfield 20, 3) := by decide +kernel
theorem d_Sy_contractsMade_14 : decode b_Sy_contractsMade 14 = .ok (.iload_n 2, 1) := by decide +kernel
theorem d_Sy_contractsMade_15 : decode b_Sy_contractsMade 15 = .ok (.aaload, 1) := by decide +kernel
theorem d_Sy_contractsMade_16 : decode b_Sy_contractsMade 16 = .ok (.invokevirtual 126, 3) := by decide +kernel
theorem d_Sy_contractsMade_19 : decode b_Sy_contractsMade 19 = .ok (.ifCond .eq 7, 3) := by decide +kernel
theorem d_Sy_contractsMade_22 : decode b_Sy_contractsMade 22 = .ok (.iconst 0, 1) := by decide +kernel
theorem d_Sy_contractsMade_23 : decode b_Sy_contractsMade 23 = .ok (.goto 4, 3) := by decide +kernel
theorem d_Sy_contractsMade_26 : decode b_Sy_contractsMade 26 = .ok (.iconst 1, 1) := by decide +kernel
theorem d_Sy_contractsMade_27 : decode b_Sy_contractsMade 27 = .ok (.iadd, 1) := by decide +kernel
theorem d_Sy_contractsMade_28 : decode b_Sy_contractsMade 28 = .ok (.istore_n 1, 1) := by decide +kernel
theorem d_Sy_contractsMade_29 : decode b_Sy_contractsMade 29 = .ok (.iinc 2 1, 3) := by decide +kernel
theorem d_Sy_contractsMade_32 : decode b_Sy_contractsMade 32 = .ok (.goto (-28), 3) := by decide +kernel
theorem d_Sy_contractsMade_35 : decode b_Sy_contractsMade 35 = .ok (.iload_n 1, 1) := by decide +kernel
theorem d_Sy_contractsMade_36 : decode b_Sy_contractsMade 36 = .ok (.ireturn, 1) := by decide +kernel
end
section
theorem d_Mo_init_0 : decode b_Mo_init 0 = .ok (.aload_n 0, 1) := by decide +kernel
theorem d_Mo_init_1 : decode b_Mo_init 1 = .ok (.invokespecial 1, 3) := by decide +kernel
theorem d_Mo_init_4 : decode b_Mo_init 4 = .ok (.aload_n 0, 1) := by decide +kernel
theorem d_Mo_init_5 : decode b_Mo_init 5 = .ok (.bipush 36, 2) := by decide +kernel
theorem d_Mo_init_7 : decode b_Mo_init 7 = .ok (.newarray .int, 2) := by decide +kernel
theorem d_Mo_init_9 : decode b_Mo_init 9 = .ok (.putfield 7, 3) := by decide +kernel
theorem d_Mo_init_12 : decode b_Mo_init 12 = .ok (.aload_n 0, 1) := by decide +kernel
theorem d_Mo_init_13 : decode b_Mo_init 13 = .ok (.sipush 144, 3) := by decide +kernel
theorem d_Mo_init_16 : decode b_Mo_init 16 = .ok (.newarray .int, 2) := by decide +kernel
theorem d_Mo_init_18 : decode b_Mo_init 18 = .ok (.putfield 13, 3) := by decide +kernel
theorem d_Mo_init_21 : decode b_Mo_init 21 = .ok (.aload_n 0, 1) := by decide +kernel
theorem d_Mo_init_22 : decode b_Mo_init 22 = .ok (.iconst 4, 1) := by decide +kernel
theorem d_Mo_init_23 : decode b_Mo_init 23 = .ok (.newarray .int, 2) := by decide +kernel
theorem d_Mo_init_25 : decode b_Mo_init 25 = .ok (.putfield 16, 3) := by decide +kernel
theorem d_Mo_init_28 : decode b_Mo_init 28 = .ok (.aload_n 0, 1) := by decide +kernel
theorem d_Mo_init_29 : decode b_Mo_init 29 = .ok (.sipush 216, 3) := by decide +kernel
theorem d_Mo_init_32 : decode b_Mo_init 32 = .ok (.newarray .int, 2) := by decide +kernel
theorem d_Mo_init_34 : decode b_Mo_init 34 = .ok (.putfield 19, 3) := by decide +kernel
theorem d_Mo_init_37 : decode b_Mo_init 37 = .ok (.aload_n 0, 1) := by decide +kernel
theorem d_Mo_init_38 : decode b_Mo_init 38 = .ok (.bipush 6, 2) := by decide +kernel
theorem d_Mo_init_40 : decode b_Mo_init 40 = .ok (.newarray .int, 2) := by decide +kernel
theorem d_Mo_init_42 : decode b_Mo_init 42 = .ok (.putfield 22, 3) := by decide +kernel
theorem d_Mo_init_45 : decode b_Mo_init 45 = .ok (.aload_n 0, 1) := by decide +kernel
theorem d_Mo_init_46 : decode b_Mo_init 46 = .ok (.iconst 4, 1) := by decide +kernel
theorem d_Mo_init_47 : decode b_Mo_init 47 = .ok (.newarray .boolean, 2) := by decide +kernel
theorem d_Mo_init_49 : decode b_Mo_init 49 = .ok (.dup, 1) := by decide +kernel
theorem d_Mo_init_50 : decode b_Mo_init 50 = .ok (.iconst 0, 1) := by decide +kernel
theorem d_Mo_init_51 : decode b_Mo_init 51 = .ok (.iconst 1, 1) := by decide +kernel
theorem d_Mo_init_52 : decode b_Mo_init 52 = .ok (.bastore, 1) := by decide +kernel
theorem d_Mo_init_53 : decode b_Mo_init 53 = .ok (.dup, 1) := by decide +kernel
theorem d_Mo_init_54 : decode b_Mo_init 54 = .ok (.iconst 1, 1) := by decide +kernel
theorem d_Mo_init_55 : decode b_Mo_init 55 = .ok (.iconst 0, 1) := by decide +kernel
theorem d_Mo_init_56 : decode b_Mo_init 56 = .ok (.bastore, 1) := by decide +kernel
theorem d_Mo_init_57 : decode b_Mo_init 57 = .ok (.dup, 1) := by decide +kernel
theorem d_Mo_init_58 : decode b_Mo_init 58 = .ok (.iconst 2, 1) := by decide +kernel
theorem d_Mo_init_59 : decode b_Mo_init 59 = .ok (.iconst 0, 1) := by decide +kernel
theorem d_Mo_init_60 : decode b_Mo_init 60 = .ok (.bastore, 1) := by decide +kernel
theorem d_Mo_init_61 : decode b_Mo_init 61 = .ok (.dup, 1) := by decide +kernel
theorem d_Mo_init_62 : decode b_Mo_init 62 = .ok (.iconst 3, 1) := by decide +kernel
theorem d_Mo_init_63 : decode b_Mo_init 63 = .ok (.iconst 0, 1) := by decide +kernel
theorem d_Mo_init_64 : decode b_Mo_init 64 = .ok (.bastore, 1) := by decide +kernel
theorem d_Mo_init_65 : decode b_Mo_init 65 = .ok (.putfield 25, 3) := by decide +kernel
theorem d_Mo_init_68 : decode b_Mo_init 68 = .ok (.aload_n 0, 1) := by decide +kernel
theorem d_Mo_init_69 : decode b_Mo_init 69 = .ok (.bipush 12, 2) := by decide +kernel
theorem d_Mo_init_71 : decode b_Mo_init 71 = .ok (.newarray .int, 2) := by decide +kernel
theorem d_Mo_init_73 : decode b_Mo_init 73 = .ok (.putfield 29, 3) := by decide +kernel
theorem d_Mo_init_76 : decode b_Mo_init 76 = .ok (.aload_n 0, 1) := by decide +kernel
theorem d_Mo_init_77 : decode b_Mo_init 77 = .ok (.bipush 12, 2) := by decide +kernel
theorem d_Mo_init_79 : decode b_Mo_init 79 = .ok (.newarray .int, 2) := by decide +kernel
theorem d_Mo_init_81 : decode b_Mo_init 81 = .ok (.putfield 32, 3) := by decide +kernel
theorem d_Mo_init_84 : decode b_Mo_init 84 = .ok (.aload_n 0, 1) := by decide +kernel
theorem d_Mo_init_85 : decode b_Mo_init 85 = .ok (.bipush 96, 2) := by decide +kernel
theorem d_Mo_init_87 : decode b_Mo_init 87 = .ok (.newarray .int, 2) := by decide +kernel
theorem d_Mo_init_89 : decode b_Mo_init 89 = .ok (.putfield 35, 3) := by decide +kernel
theorem d_Mo_init_92 : decode b_Mo_init 92 = .ok (.aload_n 0, 1) := by decide +kernel
theorem d_Mo_init_93 : decode b_Mo_init 93 = .ok (.bipush 12, 2) := by decide +kernel
theorem d_Mo_init_95 : decode b_Mo_init 95 = .ok (.newarray .int, 2) := by decide +kernel
theorem d_Mo_init_97 : decode b_Mo_init 97 = .ok (.putfield 38, 3) := by decide +kernel
theorem d_Mo_init_100 : decode b_Mo_init 100 = .ok (.aload_n 0, 1) := by decide +kernel
theorem d_Mo_init_101 : decode b_Mo_init 101 = .ok (.bipush 12, 2) := by decide +kernel
theorem d_Mo_init_103 : decode b_Mo_init 103 = .ok (.newarray .int, 2) := by decide +kernel
theorem d_Mo_init_105 : decode b_Mo_init 105 = .ok (.putfield 41, 3) := by decide +kernel
theorem d_Mo_init_108 : decode b_Mo_init 108 = .ok (.aload_n 0, 1) := by decide +kernel
theorem d_Mo_init_109 : decode b_Mo_init 109 = .ok (.bipush 12, 2) := by decide +kernel
theorem d_Mo_init_111 : decode b_Mo_init 111 = .ok (.newarray .int, 2) := by decide +kernel
theorem d_Mo_init_113 : decode b_Mo_init 113 = .ok (.putfield 44, 3) := by decide +kernel
theorem d_Mo_init_116 : decode b_Mo_init 116 = .ok (.aload_n 0, 1) := by decide +kernel
theorem d_Mo_init_117 : decode b_Mo_init 117 = .ok (.bipush 36, 2) := by decide +kernel
theorem d_Mo_init_119 : decode b_Mo_init 119 = .ok (.newarray .int, 2) := by decide +kernel
theorem d_Mo_init_121 : decode b_Mo_init 121 = .ok (.putfield 47, 3) := by decide +kernel
theorem d_Mo_init_124 : decode b_Mo_init 124 = .ok (.aload_n 0, 1) := by decide +kernel
theorem d_Mo_init_125 : decode b_Mo_init 125 = .ok (.bipush 36, 2) := by decide +kernel
theorem d_Mo_init_127 : decode b_Mo_init 127 = .ok (.newarray .int, 2) := by decide +kernel
theorem d_Mo_init_129 : decode b_Mo_init 129 = .ok (.putfield 50, 3) := by decide +kernel
theorem d_Mo_init_132 : decode b_Mo_init 132 = .ok (.aload_n 0, 1) := by decide +kernel
theorem d_Mo_init_133 : decode b_Mo_init 133 = .ok (.bipush 12, 2) := by decide +kernel
theorem d_Mo_init_135 : decode b_Mo_init 135 = .ok (.newarray .int, 2) := by decide +kernel
theorem d_Mo_init_137 : decode b_Mo_init 137 = .ok (.putfield 53, 3) := by decide +kernel
theorem d_Mo_init_140 : decode b_Mo_init 140 = .ok (.iconst 0, 1) := by decide +kernel
theorem d_Mo_init_141 : decode b_Mo_init 141 = .ok (.istore_n 1, 1) := by decide +kernel
theorem d_Mo_init_142 : decode b_Mo_init 142 = .ok (.iload_n 1, 1) := by decide +kernel
theorem d_Mo_init_143 : decode b_Mo_init 143 = .ok (.bipush 12, 2) := by decide +kernel
theorem d_Mo_init_145 : decode b_Mo_init 145 = .ok (.if_icmp .ge 23, 3) := by decide +kernel
theorem d_Mo_init_148 : decode b_Mo_init 148 = .ok (.aload_n 0, 1) := by decide +kernel
theorem d_Mo_init_149 : decode b_Mo_init 149 = .ok (.getfield 29, 3) := by decide +kernel
theorem d_Mo_init_152 : decode b_Mo_init 152 = .ok (.iload_n 1, 1) := by decide +kernel
theorem d_Mo_init_153 : decode b_Mo_init 153 = .ok (.aload_n 0, 1) := by decide +kernel
theorem d_Mo_init_154 : decode b_Mo_init 154 = .ok (.getfield 38, 3) := by decide +kernel
theorem d_Mo_init_157 : decode b_Mo_init 157 = .ok (.iload_n 1, 1) := by decide +kernel
theorem d_Mo_init_158 : decode b_Mo_init 158 = .ok (.iconst (-1), 1) := by decide +kernel
theorem d_Mo_init_159 : decode b_Mo_init 159 = .ok (.dup_x2, 1) := by decide +kernel
theorem d_Mo_init_160 : decode b_Mo_init 160 = .ok (.iastore, 1) := by decide +kernel
theorem d_Mo_init_161 : decode b_Mo_init 161 = .ok (.iastore, 1) := by decide +kernel
theorem d_Mo_init_162 : decode b_Mo_init 162 = .ok (.iinc 1 1, 3) := by decide +kernel
theorem d_Mo_init_165 : decode b_Mo_init 165 = .ok (.goto (-23), 3) := by decide +kernel
theorem d_Mo_init_168 : decode b_Mo_init 168 = .ok (.return_, 1) := by decide +kernel
theorem d_Mo_thrown_0 : decode b_Mo_thrown 0 = .ok (.aload_n 0, 1) := by decide +kernel
theorem d_Mo_thrown_1 : decode b_Mo_thrown 1 = .ok (.getfield 56, 3) := by decide +kernel
theorem d_Mo_thrown_4 : decode b_Mo_thrown 4 = .ok (.ireturn, 1) := by decide +kernel
theorem d_Mo_in_0 : decode b_Mo_in 0 = .ok (.iload_n 0, 1) := by decide +kernel
theorem d_Mo_in_1 : decode b_Mo_in 1 = .ok (.iload_n 1, 1) := by decide +kernel
theorem d_Mo_in_2 : decode b_Mo_in 2 = .ok (.if_icmp .lt 12, 3) := by decide +kernel
theorem d_Mo_in_5 : decode b_Mo_in 5 = .ok (.iload_n 0, 1) := by decide +kernel
theorem d_Mo_in_6 : decode b_Mo_in 6 = .ok (.iload_n 2, 1) := by decide +kernel
theorem d_Mo_in_7 : decode b_Mo_in 7 = .ok (.if_icmp .gt 7, 3) := by decide +kernel
theorem d_Mo_in_10 : decode b_Mo_in 10 = .ok (.iconst 1, 1) := by decide +kernel
theorem d_Mo_in_11 : decode b_Mo_in 11 = .ok (.goto 4, 3) := by decide +kernel
theorem d_Mo_in_14 : decode b_Mo_in 14 = .ok (.iconst 0, 1) := by decide +kernel
theorem d_Mo_in_15 : decode b_Mo_in 15 = .ok (.ireturn, 1) := by decide +kernel
theorem d_Mo_bad_0 : decode b_Mo_bad 0 = .ok (.aload_n 0, 1) := by decide +kernel
theorem d_Mo_bad_1 : decode b_Mo_bad 1 = .ok (.iload_n 1, 1) := by decide +kernel
theorem d_Mo_bad_2 : decode b_Mo_bad 2 = .ok (.ifCond .eq 7, 3) := by decide +kernel
theorem d_Mo_bad_5 : decode b_Mo_bad 5 = .ok (.iconst 0, 1) := by decide +kernel
theorem d_Mo_bad_6 : decode b_Mo_bad 6 = .ok (.goto 4, 3) := by decide +kernel
theorem d_Mo_bad_9 : decode b_Mo_bad 9 = .ok (.iconst 1, 1) := by decide +kernel
theorem d_Mo_bad_10 : decode b_Mo_bad 10 = .ok (.putfield 56, 3) := by decide +kernel
theorem d_Mo_bad_13 : decode b_Mo_bad 13 = .ok (.iload_n 1, 1) := by decide +kernel
theorem d_Mo_bad_14 : decode b_Mo_bad 14 = .ok (.ifCond .ne 7, 3) := by decide +kernel
theorem d_Mo_bad_17 : decode b_Mo_bad 17 = .ok (.iconst 1, 1) := by decide +kernel
theorem d_Mo_bad_18 : decode b_Mo_bad 18 = .ok (.goto 4, 3) := by decide +kernel
theorem d_Mo_bad_21 : decode b_Mo_bad 21 = .ok (.iconst 0, 1) := by decide +kernel
theorem d_Mo_bad_22 : decode b_Mo_bad 22 = .ok (.ireturn, 1) := by decide +kernel
theorem d_Mo_fail_0 : decode b_Mo_fail 0 = .ok (.aload_n 0, 1) := by decide +kernel
theorem d_Mo_fail_1 : decode b_Mo_fail 1 = .ok (.iload_n 1, 1) := by decide +kernel
theorem d_Mo_fail_2 : decode b_Mo_fail 2 = .ok (.putfield 56, 3) := by decide +kernel
theorem d_Mo_fail_5 : decode b_Mo_fail 5 = .ok (.iconst 0, 1) := by decide +kernel
theorem d_Mo_fail_6 : decode b_Mo_fail 6 = .ok (.ireturn, 1) := by decide +kernel
theorem d_Mo_type_0 : decode b_Mo_type 0 = .ok (.iconst 0, 1) := by decide +kernel
theorem d_Mo_type_1 : decode b_Mo_type 1 = .ok (.istore_n 3, 1) := by decide +kernel
theorem d_Mo_type_2 : decode b_Mo_type 2 = .ok (.iconst 1, 1) := by decide +kernel
theorem d_Mo_type_3 : decode b_Mo_type 3 = .ok (.istore 4, 2) := by decide +kernel
theorem d_Mo_type_5 : decode b_Mo_type 5 = .ok (.bipush 56, 2) := by decide +kernel
theorem d_Mo_type_7 : decode b_Mo_type 7 = .ok (.istore 5, 2) := by decide +kernel
theorem d_Mo_type_9 : decode b_Mo_type 9 = .ok (.iload 5, 2) := by decide +kernel
theorem d_Mo_type_11 : decode b_Mo_type 11 = .ok (.ifCond .lt 48, 3) := by decide +kernel
theorem d_Mo_type_14 : decode b_Mo_type 14 = .ok (.lload_n 1, 1) := by decide +kernel
theorem d_Mo_type_15 : decode b_Mo_type 15 = .ok (.iload 5, 2) := by decide +kernel
theorem d_Mo_type_17 : decode b_Mo_type 17 = .ok (.lushr, 1) := by decide +kernel
theorem d_Mo_type_18 : decode b_Mo_type 18 = .ok (.l2i, 1) := by decide +kernel
theorem d_Mo_type_19 : decode b_Mo_type 19 = .ok (.sipush 255, 3) := by decide +kernel
theorem d_Mo_type_22 : decode b_Mo_type 22 = .ok (.iand, 1) := by decide +kernel
theorem d_Mo_type_23 : decode b_Mo_type 23 = .ok (.istore 6, 2) := by decide +kernel
theorem d_Mo_type_25 : decode b_Mo_type 25 = .ok (.iload 6, 2) := by decide +kernel
theorem d_Mo_type_27 : decode b_Mo_type 27 = .ok (.ifCond .eq 6, 3) := by decide +kernel
theorem d_Mo_type_30 : decode b_Mo_type 30 = .ok (.iinc 3 1, 3) := by decide +kernel
theorem d_Mo_type_33 : decode b_Mo_type 33 = .ok (.iload 6, 2) := by decide +kernel
theorem d_Mo_type_35 : decode b_Mo_type 35 = .ok (.ifCond .eq 18, 3) := by decide +kernel
theorem d_Mo_type_38 : decode b_Mo_type 38 = .ok (.iload 6, 2) := by decide +kernel
theorem d_Mo_type_40 : decode b_Mo_type 40 = .ok (.bipush 33, 2) := by decide +kernel
theorem d_Mo_type_42 : decode b_Mo_type 42 = .ok (.bipush 126, 2) := by decide +kernel
theorem d_Mo_type_44 : decode b_Mo_type 44 = .ok (.invokestatic 60, 3) := by decide +kernel
theorem d_Mo_type_47 : decode b_Mo_type 47 = .ok (.ifCond .ne 6, 3) := by decide +kernel
theorem d_Mo_type_50 : decode b_Mo_type 50 = .ok (.iconst 0, 1) := by decide +kernel
theorem d_Mo_type_51 : decode b_Mo_type 51 = .ok (.istore 4, 2) := by decide +kernel
theorem d_Mo_type_53 : decode b_Mo_type 53 = .ok (.iinc 5 (-8), 3) := by decide +kernel
theorem d_Mo_type_56 : decode b_Mo_type 56 = .ok (.goto (-47), 3) := by decide +kernel
theorem d_Mo_type_59 : decode b_Mo_type 59 = .ok (.aload_n 0, 1) := by decide +kernel
theorem d_Mo_type_60 : decode b_Mo_type 60 = .ok (.iload 4, 2) := by decide +kernel
theorem d_Mo_type_62 : decode b_Mo_type 62 = .ok (.invokevirtual 64, 3) := by decide +kernel
theorem d_Mo_type_65 : decode b_Mo_type 65 = .ok (.ifCond .eq 5, 3) := by decide +kernel
theorem d_Mo_type_68 : decode b_Mo_type 68 = .ok (.iconst 0, 1) := by decide +kernel
theorem d_Mo_type_69 : decode b_Mo_type 69 = .ok (.ireturn, 1) := by decide +kernel
theorem d_Mo_type_70 : decode b_Mo_type 70 = .ok (.aload_n 0, 1) := by decide +kernel
theorem d_Mo_type_71 : decode b_Mo_type 71 = .ok (.getfield 68, 3) := by decide +kernel
theorem d_Mo_type_74 : decode b_Mo_type 74 = .ok (.iload_n 3, 1) := by decide +kernel
theorem d_Mo_type_75 : decode b_Mo_type 75 = .ok (.iadd, 1) := by decide +kernel
theorem d_Mo_type_76 : decode b_Mo_type 76 = .ok (.bipush 36, 2) := by decide +kernel
theorem d_Mo_type_78 : decode b_Mo_type 78 = .ok (.if_icmp .le 9, 3) := by decide +kernel
theorem d_Mo_type_81 : decode b_Mo_type 81 = .ok (.aload_n 0, 1) := by decide +kernel
theorem d_Mo_type_82 : decode b_Mo_type 82 = .ok (.iconst 2, 1) := by decide +kernel
theorem d_Mo_type_83 : decode b_Mo_type 83 = .ok (.invokevirtual 71, 3) := by decide +kernel
theorem d_Mo_type_86 : decode b_Mo_type 86 = .ok (.ireturn, 1) := by decide +kernel
theorem d_Mo_type_87 : decode b_Mo_type 87 = .ok (.bipush 56, 2) := by decide +kernel
theorem d_Mo_type_89 : decode b_Mo_type 89 = .ok (.istore 5, 2) := by decide +kernel
theorem d_Mo_type_91 : decode b_Mo_type 91 = .ok (.iload 5, 2) := by decide +kernel
theorem d_Mo_type_93 : decode b_Mo_type 93 = .ok (.ifCond .lt 49, 3) := by decide +kernel
theorem d_Mo_type_96 : decode b_Mo_type 96 = .ok (.lload_n 1, 1) := by decide +kernel
theorem d_Mo_type_97 : decode b_Mo_type 97 = .ok (.iload 5, 2) := by decide +kernel
theorem d_Mo_type_99 : decode b_Mo_type 99 = .ok (.lushr, 1) := by decide +kernel
theorem d_Mo_type_100 : decode b_Mo_type 100 = .ok (.l2i, 1) := by decide +kernel
theorem d_Mo_type_101 : decode b_Mo_type 101 = .ok (.sipush 255, 3) := by decide +kernel
theorem d_Mo_type_104 : decode b_Mo_type 104 = .ok (.iand, 1) := by decide +kernel
theorem d_Mo_type_105 : decode b_Mo_type 105 = .ok (.istore 6, 2) := by decide +kernel
theorem d_Mo_type_107 : decode b_Mo_type 107 = .ok (.iload 6, 2) := by decide +kernel
theorem d_Mo_type_109 : decode b_Mo_type 109 = .ok (.ifCond .ne 6, 3) := by decide +kernel
theorem d_Mo_type_112 : decode b_Mo_type 112 = .ok (.goto 24, 3) := by decide +kernel
theorem d_Mo_type_115 : decode b_Mo_type 115 = .ok (.aload_n 0, 1) := by decide +kernel
theorem d_Mo_type_116 : decode b_Mo_type 116 = .ok (.getfield 7, 3) := by decide +kernel
theorem d_Mo_type_119 : decode b_Mo_type 119 = .ok (.aload_n 0, 1) := by decide +kernel
theorem d_Mo_type_120 : decode b_Mo_type 120 = .ok (.getfield 68, 3) := by decide +kernel
theorem d_Mo_type_123 : decode b_Mo_type 123 = .ok (.iload 6, 2) := by decide +kernel
theorem d_Mo_type_125 : decode b_Mo_type 125 = .ok (.iastore, 1) := by decide +kernel
theorem d_Mo_type_126 : decode b_Mo_type 126 = .ok (.aload_n 0, 1) := by decide +kernel
theorem d_Mo_type_127 : decode b_Mo_type 127 = .ok (.dup, 1) := by decide +kernel
theorem d_Mo_type_128 : decode b_Mo_type 128 = .ok (.getfield 68, 3) := by decide +kernel
theorem d_Mo_type_131 : decode b_Mo_type 131 = .ok (.iconst 1, 1) := by decide +kernel
theorem d_Mo_type_132 : decode b_Mo_type 132 = .ok (.iadd, 1) := by decide +kernel
theorem d_Mo_type_133 : decode b_Mo_type 133 = .ok (.putfield 68, 3) := by decide +kernel
theorem d_Mo_type_136 : decode b_Mo_type 136 = .ok (.iinc 5 (-8), 3) := by decide +kernel
theorem d_Mo_type_139 : decode b_Mo_type 139 = .ok (.goto (-48), 3) := by decide +kernel
theorem d_Mo_type_142 : decode b_Mo_type 142 = .ok (.aload_n 0, 1) := by decide +kernel
theorem d_Mo_type_143 : decode b_Mo_type 143 = .ok (.getfield 68, 3) := by decide +kernel
theorem d_Mo_type_146 : decode b_Mo_type 146 = .ok (.ireturn, 1) := by decide +kernel
theorem d_Mo_letterOf_0 : decode b_Mo_letterOf 0 = .ok (.iload_n 0, 1) := by decide +kernel
theorem d_Mo_letterOf_1 : decode b_Mo_letterOf 1 = .ok (.bipush 97, 2) := by decide +kernel
theorem d_Mo_letterOf_3 : decode b_Mo_letterOf 3 = .ok (.bipush 99, 2) := by decide +kernel
theorem d_Mo_letterOf_5 : decode b_Mo_letterOf 5 = .ok (.invokestatic 60, 3) := by decide +kernel
theorem d_Mo_letterOf_8 : decode b_Mo_letterOf 8 = .ok (.ifCond .eq 10, 3) := by decide +kernel
theorem d_Mo_letterOf_11 : decode b_Mo_letterOf 11 = .ok (.iload_n 0, 1) := by decide +kernel
theorem d_Mo_letterOf_12 : decode b_Mo_letterOf 12 = .ok (.bipush 97, 2) := by decide +kernel
theorem d_Mo_letterOf_14 : decode b_Mo_letterOf 14 = .ok (.isub, 1) := by decide +kernel
theorem d_Mo_letterOf_15 : decode b_Mo_letterOf 15 = .ok (.goto 35, 3) := by decide +kernel
theorem d_Mo_letterOf_18 : decode b_Mo_letterOf 18 = .ok (.iload_n 0, 1) := by decide +kernel
theorem d_Mo_letterOf_19 : decode b_Mo_letterOf 19 = .ok (.bipush 65, 2) := by decide +kernel
theorem d_Mo_letterOf_21 : decode b_Mo_letterOf 21 = .ok (.bipush 67, 2) := by decide +kernel
theorem d_Mo_letterOf_23 : decode b_Mo_letterOf 23 = .ok (.invokestatic 60, 3) := by decide +kernel
theorem d_Mo_letterOf_26 : decode b_Mo_letterOf 26 = .ok (.ifCond .eq 12, 3) := by decide +kernel
theorem d_Mo_letterOf_29 : decode b_Mo_letterOf 29 = .ok (.iconst 3, 1) := by decide +kernel
theorem d_Mo_letterOf_30 : decode b_Mo_letterOf 30 = .ok (.iload_n 0, 1) := by decide +kernel
theorem d_Mo_letterOf_31 : decode b_Mo_letterOf 31 = .ok (.iadd, 1) := by decide +kernel
theorem d_Mo_letterOf_32 : decode b_Mo_letterOf 32 = .ok (.bipush 65, 2) := by decide +kernel
theorem d_Mo_letterOf_34 : decode b_Mo_letterOf 34 = .ok (.isub, 1) := by decide +kernel
theorem d_Mo_letterOf_35 : decode b_Mo_letterOf 35 = .ok (.goto 15, 3) := by decide +kernel
theorem d_Mo_letterOf_38 : decode b_Mo_letterOf 38 = .ok (.iload_n 0, 1) := by decide +kernel
theorem d_Mo_letterOf_39 : decode b_Mo_letterOf 39 = .ok (.bipush 69, 2) := by decide +kernel
theorem d_Mo_letterOf_41 : decode b_Mo_letterOf 41 = .ok (.if_icmp .ne 8, 3) := by decide +kernel
theorem d_Mo_letterOf_44 : decode b_Mo_letterOf 44 = .ok (.bipush 6, 2) := by decide +kernel
theorem d_Mo_letterOf_46 : decode b_Mo_letterOf 46 = .ok (.goto 4, 3) := by decide +kernel
theorem d_Mo_letterOf_49 : decode b_Mo_letterOf 49 = .ok (.iconst (-1), 1) := by decide +kernel
theorem d_Mo_letterOf_50 : decode b_Mo_letterOf 50 = .ok (.ireturn, 1) := by decide +kernel
theorem d_Mo_readRules_0 : decode b_Mo_readRules 0 = .ok (.aload_n 0, 1) := by decide +kernel
theorem d_Mo_readRules_1 : decode b_Mo_readRules 1 = .ok (.getfield 68, 3) := by decide +kernel
theorem d_Mo_readRules_4 : decode b_Mo_readRules 4 = .ok (.iconst 1, 1) := by decide +kernel
theorem d_Mo_readRules_5 : decode b_Mo_readRules 5 = .ok (.iadd, 1) := by decide +kernel
theorem d_Mo_readRules_6 : decode b_Mo_readRules 6 = .ok (.iconst 5, 1) := by decide +kernel
theorem d_Mo_readRules_7 : decode b_Mo_readRules 7 = .ok (.idiv, 1) := by decide +kernel
theorem d_Mo_readRules_8 : decode b_Mo_readRules 8 = .ok (.istore_n 1, 1) := by decide +kernel
theorem d_Mo_readRules_9 : decode b_Mo_readRules 9 = .ok (.aload_n 0, 1) := by decide +kernel
theorem d_Mo_readRules_10 : decode b_Mo_readRules 10 = .ok (.getfield 68, 3) := by decide +kernel
theorem d_Mo_readRules_13 : decode b_Mo_readRules 13 = .ok (.iconst 4, 1) := by decide +kernel
theorem d_Mo_readRules_14 : decode b_Mo_readRules 14 = .ok (.if_icmp .lt 13, 3) := by decide +kernel
theorem d_Mo_readRules_17 : decode b_Mo_readRules 17 = .ok (.aload_n 0, 1) := by decide +kernel
theorem d_Mo_readRules_18 : decode b_Mo_readRules 18 = .ok (.getfield 68, 3) := by decide +kernel
theorem d_Mo_readRules_21 : decode b_Mo_readRules 21 = .ok (.iconst 5, 1) := by decide +kernel
theorem d_Mo_readRules_22 : decode b_Mo_readRules 22 = .ok (.irem, 1) := by decide +kernel
theorem d_Mo_readRules_23 : decode b_Mo_readRules 23 = .ok (.iconst 4, 1) := by decide +kernel
theorem d_Mo_readRules_24 : decode b_Mo_readRules 24 = .ok (.if_icmp .eq 5, 3) := by decide +kernel
theorem d_Mo_readRules_27 : decode b_Mo_readRules 27 = .ok (.iconst 0, 1) := by decide +kernel
theorem d_Mo_readRules_28 : decode b_Mo_readRules 28 = .ok (.ireturn, 1) := by decide +kernel
theorem d_Mo_readRules_29 : decode b_Mo_readRules 29 = .ok (.iconst 0, 1) := by decide +kernel
theorem d_Mo_readRules_30 : decode b_Mo_readRules 30 = .ok (.istore_n 2, 1) := by decide +kernel
theorem d_Mo_readRules_31 : decode b_Mo_readRules 31 = .ok (.iload_n 2, 1) := by decide +kernel
theorem d_Mo_readRules_32 : decode b_Mo_readRules 32 = .ok (.iload_n 1, 1) := by decide +kernel
theorem d_Mo_readRules_33 : decode b_Mo_readRules 33 = .ok (.if_icmp .ge 179, 3) := by decide +kernel
theorem d_Mo_readRules_36 : decode b_Mo_readRules 36 = .ok (.iload_n 2, 1) := by decide +kernel
theorem d_Mo_readRules_37 : decode b_Mo_readRules 37 = .ok (.iconst 5, 1) := by decide +kernel
theorem d_Mo_readRules_38 : decode b_Mo_readRules 38 = .ok (.imul, 1) := by decide +kernel
theorem d_Mo_readRules_39 : decode b_Mo_readRules 39 = .ok (.istore_n 3, 1) := by decide +kernel
theorem d_Mo_readRules_40 : decode b_Mo_readRules 40 = .ok (.aload_n 0, 1) := by decide +kernel
theorem d_Mo_readRules_41 : decode b_Mo_readRules 41 = .ok (.getfield 7, 3) := by decide +kernel
theorem d_Mo_readRules_44 : decode b_Mo_readRules 44 = .ok (.iload_n 3, 1) := by decide +kernel
theorem d_Mo_readRules_45 : decode b_Mo_readRules 45 = .ok (.iaload, 1) := by decide +kernel
theorem d_Mo_readRules_46 : decode b_Mo_readRules 46 = .ok (.bipush 49, 2) := by decide +kernel
theorem d_Mo_readRules_48 : decode b_Mo_readRules 48 = .ok (.bipush 54, 2) := by decide +kernel
theorem d_Mo_readRules_50 : decode b_Mo_readRules 50 = .ok (.invokestatic 60, 3) := by decide +kernel
theorem d_Mo_readRules_53 : decode b_Mo_readRules 53 = .ok (.ifCond .eq 85, 3) := by decide +kernel
theorem d_Mo_readRules_56 : decode b_Mo_readRules 56 = .ok (.aload_n 0, 1) := by decide +kernel
theorem d_Mo_readRules_57 : decode b_Mo_readRules 57 = .ok (.getfield 7, 3) := by decide +kernel
theorem d_Mo_readRules_60 : decode b_Mo_readRules 60 = .ok (.iload_n 3, 1) := by decide +kernel
theorem d_Mo_readRules_61 : decode b_Mo_readRules 61 = .ok (.iconst 1, 1) := by decide +kernel
theorem d_Mo_readRules_62 : decode b_Mo_readRules 62 = .ok (.iadd, 1) := by decide +kernel
theorem d_Mo_readRules_63 : decode b_Mo_readRules 63 = .ok (.iaload, 1) := by decide +kernel
theorem d_Mo_readRules_64 : decode b_Mo_readRules 64 = .ok (.invokestatic 75, 3) := by decide +kernel
theorem d_Mo_readRules_67 : decode b_Mo_readRules 67 = .ok (.ifCond .lt 71, 3) := by decide +kernel
theorem d_Mo_readRules_70 : decode b_Mo_readRules 70 = .ok (.aload_n 0, 1) := by decide +kernel
theorem d_Mo_readRules_71 : decode b_Mo_readRules 71 = .ok (.getfield 7, 3) := by decide +kernel
theorem d_Mo_readRules_74 : decode b_Mo_readRules 74 = .ok (.iload_n 3, 1) := by decide +kernel
theorem d_Mo_readRules_75 : decode b_Mo_readRules 75 = .ok (.iconst 2, 1) := by decide +kernel
theorem d_Mo_readRules_76 : decode b_Mo_readRules 76 = .ok (.iadd, 1) := by decide +kernel
theorem d_Mo_readRules_77 : decode b_Mo_readRules 77 = .ok (.iaload, 1) := by decide +kernel
theorem d_Mo_readRules_78 : decode b_Mo_readRules 78 = .ok (.bipush 33, 2) := by decide +kernel
theorem d_Mo_readRules_80 : decode b_Mo_readRules 80 = .ok (.if_icmp .eq 16, 3) := by decide +kernel
theorem d_Mo_readRules_83 : decode b_Mo_readRules 83 = .ok (.aload_n 0, 1) := by decide +kernel
theorem d_Mo_readRules_84 : decode b_Mo_readRules 84 = .ok (.getfield 7, 3) := by decide +kernel
theorem d_Mo_readRules_87 : decode b_Mo_readRules 87 = .ok (.iload_n 3, 1) := by decide +kernel
theorem d_Mo_readRules_88 : decode b_Mo_readRules 88 = .ok (.iconst 2, 1) := by decide +kernel
theorem d_Mo_readRules_89 : decode b_Mo_readRules 89 = .ok (.iadd, 1) := by decide +kernel
theorem d_Mo_readRules_90 : decode b_Mo_readRules 90 = .ok (.iaload, 1) := by decide +kernel
theorem d_Mo_readRules_91 : decode b_Mo_readRules 91 = .ok (.bipush 63, 2) := by decide +kernel
theorem d_Mo_readRules_93 : decode b_Mo_readRules 93 = .ok (.if_icmp .ne 45, 3) := by decide +kernel
theorem d_Mo_readRules_96 : decode b_Mo_readRules 96 = .ok (.aload_n 0, 1) := by decide +kernel
theorem d_Mo_readRules_97 : decode b_Mo_readRules 97 = .ok (.getfield 7, 3) := by decide +kernel
theorem d_Mo_readRules_100 : decode b_Mo_readRules 100 = .ok (.iload_n 3, 1) := by decide +kernel
theorem d_Mo_readRules_101 : decode b_Mo_readRules 101 = .ok (.iconst 3, 1) := by decide +kernel
theorem d_Mo_readRules_102 : decode b_Mo_readRules 102 = .ok (.iadd, 1) := by decide +kernel
theorem d_Mo_readRules_103 : decode b_Mo_readRules 103 = .ok (.iaload, 1) := by decide +kernel
theorem d_Mo_readRules_104 : decode b_Mo_readRules 104 = .ok (.bipush 48, 2) := by decide +kernel
theorem d_Mo_readRules_106 : decode b_Mo_readRules 106 = .ok (.bipush 54, 2) := by decide +kernel
theorem d_Mo_readRules_108 : decode b_Mo_readRules 108 = .ok (.invokestatic 60, 3) := by decide +kernel
theorem d_Mo_readRules_111 : decode b_Mo_readRules 111 = .ok (.ifCond .eq 27, 3) := by decide +kernel
theorem d_Mo_readRules_114 : decode b_Mo_readRules 114 = .ok (.iload_n 2, 1) := by decide +kernel
theorem d_Mo_readRules_115 : decode b_Mo_readRules 115 = .ok (.iload_n 1, 1) := by decide +kernel
theorem d_Mo_readRules_116 : decode b_Mo_readRules 116 = .ok (.iconst 1, 1) := by decide +kernel
theorem d_Mo_readRules_117 : decode b_Mo_readRules 117 = .ok (.isub, 1) := by decide +kernel
theorem d_Mo_readRules_118 : decode b_Mo_readRules 118 = .ok (.if_icmp .eq 16, 3) := by decide +kernel
theorem d_Mo_readRules_121 : decode b_Mo_readRules 121 = .ok (.aload_n 0, 1) := by decide +kernel
theorem d_Mo_readRules_122 : decode b_Mo_readRules 122 = .ok (.getfield 7, 3) := by decide +kernel
theorem d_Mo_readRules_125 : decode b_Mo_readRules 125 = .ok (.iload_n 3, 1) := by decide +kernel
theorem d_Mo_readRules_126 : decode b_Mo_readRules 126 = .ok (.iconst 4, 1) := by decide +kernel
theorem d_Mo_readRules_127 : decode b_Mo_readRules 127 = .ok (.iadd, 1) := by decide +kernel
theorem d_Mo_readRules_128 : decode b_Mo_readRules 128 = .ok (.iaload, 1) := by decide +kernel
theorem d_Mo_readRules_129 : decode b_Mo_readRules 129 = .ok (.bipush 44, 2) := by decide +kernel
theorem d_Mo_readRules_131 : decode b_Mo_readRules 131 = .ok (.if_icmp .ne 7, 3) := by decide +kernel
theorem d_Mo_readRules_134 : decode b_Mo_readRules 134 = .ok (.iconst 1, 1) := by decide +kernel
theorem d_Mo_readRules_135 : decode b_Mo_readRules 135 = .ok (.goto 4, 3) := by decide +kernel
theorem d_Mo_readRules_138 : decode b_Mo_readRules 138 = .ok (.iconst 0, 1) := by decide +kernel
theorem d_Mo_readRules_139 : decode b_Mo_readRules 139 = .ok (.istore 4, 2) := by decide +kernel
theorem d_Mo_readRules_141 : decode b_Mo_readRules 141 = .ok (.iconst 0, 1) := by decide +kernel
theorem d_Mo_readRules_142 : decode b_Mo_readRules 142 = .ok (.istore 5, 2) := by decide +kernel
theorem d_Mo_readRules_144 : decode b_Mo_readRules 144 = .ok (.iload 5, 2) := by decide +kernel
theorem d_Mo_readRules_146 : decode b_Mo_readRules 146 = .ok (.iload_n 2, 1) := by decide +kernel
theorem d_Mo_readRules_147 : decode b_Mo_readRules 147 = .ok (.if_icmp .ge 52, 3) := by decide +kernel
theorem d_Mo_readRules_150 : decode b_Mo_readRules 150 = .ok (.aload_n 0, 1) := by decide +kernel
theorem d_Mo_readRules_151 : decode b_Mo_readRules 151 = .ok (.getfield 7, 3) := by decide +kernel
theorem d_Mo_readRules_154 : decode b_Mo_readRules 154 = .ok (.iload 5, 2) := by decide +kernel
theorem d_Mo_readRules_156 : decode b_Mo_readRules 156 = .ok (.iconst 5, 1) := by decide +kernel
theorem d_Mo_readRules_157 : decode b_Mo_readRules 157 = .ok (.imul, 1) := by decide +kernel
theorem d_Mo_readRules_158 : decode b_Mo_readRules 158 = .ok (.iaload, 1) := by decide +kernel
theorem d_Mo_readRules_159 : decode b_Mo_readRules 159 = .ok (.aload_n 0, 1) := by decide +kernel
theorem d_Mo_readRules_160 : decode b_Mo_readRules 160 = .ok (.getfield 7, 3) := by decide +kernel
theorem d_Mo_readRules_163 : decode b_Mo_readRules 163 = .ok (.iload_n 3, 1) := by decide +kernel
theorem d_Mo_readRules_164 : decode b_Mo_readRules 164 = .ok (.iaload, 1) := by decide +kernel
theorem d_Mo_readRules_165 : decode b_Mo_readRules 165 = .ok (.if_icmp .ne 28, 3) := by decide +kernel
theorem d_Mo_readRules_168 : decode b_Mo_readRules 168 = .ok (.aload_n 0, 1) := by decide +kernel
theorem d_Mo_readRules_169 : decode b_Mo_readRules 169 = .ok (.getfield 7, 3) := by decide +kernel
theorem d_Mo_readRules_172 : decode b_Mo_readRules 172 = .ok (.iload 5, 2) := by decide +kernel
theorem d_Mo_readRules_174 : decode b_Mo_readRules 174 = .ok (.iconst 5, 1) := by decide +kernel
theorem d_Mo_readRules_175 : decode b_Mo_readRules 175 = .ok (.imul, 1) := by decide +kernel
theorem d_Mo_readRules_176 : decode b_Mo_readRules 176 = .ok (.iconst 1, 1) := by decide +kernel
theorem d_Mo_readRules_177 : decode b_Mo_readRules 177 = .ok (.iadd, 1) := by decide +kernel
theorem d_Mo_readRules_178 : decode b_Mo_readRules 178 = .ok (.iaload, 1) := by decide +kernel
theorem d_Mo_readRules_179 : decode b_Mo_readRules 179 = .ok (.aload_n 0, 1) := by decide +kernel
theorem d_Mo_readRules_180 : decode b_Mo_readRules 180 = .ok (.getfield 7, 3) := by decide +kernel
theorem d_Mo_readRules_183 : decode b_Mo_readRules 183 = .ok (.iload_n 3, 1) := by decide +kernel
theorem d_Mo_readRules_184 : decode b_Mo_readRules 184 = .ok (.iconst 1, 1) := by decide +kernel
theorem d_Mo_readRules_185 : decode b_Mo_readRules 185 = .ok (.iadd, 1) := by decide +kernel
theorem d_Mo_readRules_186 : decode b_Mo_readRules 186 = .ok (.iaload, 1) := by decide +kernel
theorem d_Mo_readRules_187 : decode b_Mo_readRules 187 = .ok (.if_icmp .ne 6, 3) := by decide +kernel
theorem d_Mo_readRules_190 : decode b_Mo_readRules 190 = .ok (.iconst 0, 1) := by decide +kernel
theorem d_Mo_readRules_191 : decode b_Mo_readRules 191 = .ok (.istore 4, 2) := by decide +kernel
theorem d_Mo_readRules_193 : decode b_Mo_readRules 193 = .ok (.iinc 5 1, 3) := by decide +kernel
theorem d_Mo_readRules_196 : decode b_Mo_readRules 196 = .ok (.goto (-52), 3) := by decide +kernel
theorem d_Mo_readRules_199 : decode b_Mo_readRules 199 = .ok (.iload 4, 2) := by decide +kernel
theorem d_Mo_readRules_201 : decode b_Mo_readRules 201 = .ok (.ifCond .ne 5, 3) := by decide +kernel
theorem d_Mo_readRules_204 : decode b_Mo_readRules 204 = .ok (.iconst 0, 1) := by decide +kernel
theorem d_Mo_readRules_205 : decode b_Mo_readRules 205 = .ok (.ireturn, 1) := by decide +kernel
theorem d_Mo_readRules_206 : decode b_Mo_readRules 206 = .ok (.iinc 2 1, 3) := by decide +kernel
theorem d_Mo_readRules_209 : decode b_Mo_readRules 209 = .ok (.goto (-178), 3) := by decide +kernel
theorem d_Mo_readRules_212 : decode b_Mo_readRules 212 = .ok (.iload_n 1, 1) := by decide +kernel
theorem d_Mo_readRules_213 : decode b_Mo_readRules 213 = .ok (.ireturn, 1) := by decide +kernel
theorem d_Mo_contract_0 : decode b_Mo_contract 0 = .ok (.aload_n 0, 1) := by decide +kernel
theorem d_Mo_contract_1 : decode b_Mo_contract 1 = .ok (.iload_n 1, 1) := by decide +kernel
theorem d_Mo_contract_2 : decode b_Mo_contract 2 = .ok (.iconst 0, 1) := by decide +kernel
theorem d_Mo_contract_3 : decode b_Mo_contract 3 = .ok (.iconst 3, 1) := by decide +kernel
theorem d_Mo_contract_4 : decode b_Mo_contract 4 = .ok (.invokestatic 60, 3) := by decide +kernel
theorem d_Mo_contract_7 : decode b_Mo_contract 7 = .ok (.invokevirtual 64, 3) := by decide +kernel
theorem d_Mo_contract_10 : decode b_Mo_contract 10 = .ok (.ifCond .eq 5, 3) := by decide +kernel
theorem d_Mo_contract_13 : decode b_Mo_contract 13 = .ok (.iconst 0, 1) := by decide +kernel
theorem d_Mo_contract_14 : decode b_Mo_contract 14 = .ok (.ireturn, 1) := by decide +kernel
theorem d_Mo_contract_15 : decode b_Mo_contract 15 = .ok (.aload_n 0, 1) := by decide +kernel
theorem d_Mo_contract_16 : decode b_Mo_contract 16 = .ok (.invokevirtual 78, 3) := by decide +kernel
theorem d_Mo_contract_19 : decode b_Mo_contract 19 = .ok (.istore_n 2, 1) := by decide +kernel
theorem d_Mo_contract_20 : decode b_Mo_contract 20 = .ok (.aload_n 0, 1) := by decide +kernel
theorem d_Mo_contract_21 : decode b_Mo_contract 21 = .ok (.iconst 0, 1) := by decide +kernel
theorem d_Mo_contract_22 : decode b_Mo_contract 22 = .ok (.putfield 68, 3) := by decide +kernel
theorem d_Mo_contract_25 : decode b_Mo_contract 25 = .ok (.aload_n 0, 1) := by decide +kernel
theorem d_Mo_contract_26 : decode b_Mo_contract 26 = .ok (.iload_n 2, 1) := by decide +kernel
theorem d_Mo_contract_27 : decode b_Mo_contract 27 = .ok (.ifCond .le 7, 3) := by decide +kernel
theorem d_Mo_contract_30 : decode b_Mo_contract 30 = .ok (.iconst 1, 1) := by decide +kernel
theorem d_Mo_contract_31 : decode b_Mo_contract 31 = .ok (.goto 4, 3) := by decide +kernel
theorem d_Mo_contract_34 : decode b_Mo_contract 34 = .ok (.iconst 0, 1) := by decide +kernel
theorem d_Mo_contract_35 : decode b_Mo_contract 35 = .ok (.invokevirtual 64, 3) := by decide +kernel
theorem d_Mo_contract_38 : decode b_Mo_contract 38 = .ok (.ifCond .eq 5, 3) := by decide +kernel
theorem d_Mo_contract_41 : decode b_Mo_contract 41 = .ok (.iconst 0, 1) := by decide +kernel
theorem d_Mo_contract_42 : decode b_Mo_contract 42 = .ok (.ireturn, 1) := by decide +kernel
theorem d_Mo_contract_43 : decode b_Mo_contract 43 = .ok (.iconst 0, 1) := by decide +kernel
theorem d_Mo_contract_44 : decode b_Mo_contract 44 = .ok (.istore_n 3, 1) := by decide +kernel
theorem d_Mo_contract_45 : decode b_Mo_contract 45 = .ok (.iload_n 3, 1) := by decide +kernel
theorem d_Mo_contract_46 : decode b_Mo_contract 46 = .ok (.iload_n 2, 1) := by decide +kernel
theorem d_Mo_contract_47 : decode b_Mo_contract 47 = .ok (.if_icmp .ge 111, 3) := by decide +kernel
theorem d_Mo_contract_50 : decode b_Mo_contract 50 = .ok (.iload_n 1, 1) := by decide +kernel
theorem d_Mo_contract_51 : decode b_Mo_contract 51 = .ok (.bipush 36, 2) := by decide +kernel
theorem d_Mo_contract_53 : decode b_Mo_contract 53 = .ok (.imul, 1) := by decide +kernel
theorem d_Mo_contract_54 : decode b_Mo_contract 54 = .ok (.iload_n 3, 1) := by decide +kernel
theorem d_Mo_contract_55 : decode b_Mo_contract 55 = .ok (.iconst 4, 1) := by decide +kernel
theorem d_Mo_contract_56 : decode b_Mo_contract 56 = .ok (.imul, 1) := by decide +kernel
theorem d_Mo_contract_57 : decode b_Mo_contract 57 = .ok (.iadd, 1) := by decide +kernel
theorem d_Mo_contract_58 : decode b_Mo_contract 58 = .ok (.istore 4, 2) := by decide +kernel
theorem d_Mo_contract_60 : decode b_Mo_contract 60 = .ok (.iload_n 3, 1) := by decide +kernel
theorem d_Mo_contract_61 : decode b_Mo_contract 61 = .ok (.iconst 5, 1) := by decide +kernel
theorem d_Mo_contract_62 : decode b_Mo_contract 62 = .ok (.imul, 1) := by decide +kernel
theorem d_Mo_contract_63 : decode b_Mo_contract 63 = .ok (.istore 5, 2) := by decide +kernel
theorem d_Mo_contract_65 : decode b_Mo_contract 65 = .ok (.aload_n 0, 1) := by decide +kernel
theorem d_Mo_contract_66 : decode b_Mo_contract 66 = .ok (.getfield 13, 3) := by decide +kernel
theorem d_Mo_contract_69 : decode b_Mo_contract 69 = .ok (.iload 4, 2) := by decide +kernel
theorem d_Mo_contract_71 : decode b_Mo_contract 71 = .ok (.aload_n 0, 1) := by decide +kernel
theorem d_Mo_contract_72 : decode b_Mo_contract 72 = .ok (.getfield 7, 3) := by decide +kernel
theorem d_Mo_contract_75 : decode b_Mo_contract 75 = .ok (.iload 5, 2) := by decide +kernel
theorem d_Mo_contract_77 : decode b_Mo_contract 77 = .ok (.iaload, 1) := by decide +kernel
theorem d_Mo_contract_78 : decode b_Mo_contract 78 = .ok (.bipush 48, 2) := by decide +kernel
theorem d_Mo_contract_80 : decode b_Mo_contract 80 = .ok (.isub, 1) := by decide +kernel
theorem d_Mo_contract_81 : decode b_Mo_contract 81 = .ok (.iastore, 1) := by decide +kernel
theorem d_Mo_contract_82 : decode b_Mo_contract 82 = .ok (.aload_n 0, 1) := by decide +kernel
theorem d_Mo_contract_83 : decode b_Mo_contract 83 = .ok (.getfield 13, 3) := by decide +kernel
theorem d_Mo_contract_86 : decode b_Mo_contract 86 = .ok (.iload 4, 2) := by decide +kernel
theorem d_Mo_contract_88 : decode b_Mo_contract 88 = .ok (.iconst 1, 1) := by decide +kernel
theorem d_Mo_contract_89 : decode b_Mo_contract 89 = .ok (.iadd, 1) := by decide +kernel
theorem d_Mo_contract_90 : decode b_Mo_contract 90 = .ok (.aload_n 0, 1) := by decide +kernel
theorem d_Mo_contract_91 : decode b_Mo_contract 91 = .ok (.getfield 7, 3) := by decide +kernel
theorem d_Mo_contract_94 : decode b_Mo_contract 94 = .ok (.iload 5, 2) := by decide +kernel
theorem d_Mo_contract_96 : decode b_Mo_contract 96 = .ok (.iconst 1, 1) := by decide +kernel
theorem d_Mo_contract_97 : decode b_Mo_contract 97 = .ok (.iadd, 1) := by decide +kernel
theorem d_Mo_contract_98 : decode b_Mo_contract 98 = .ok (.iaload, 1) := by decide +kernel
theorem d_Mo_contract_99 : decode b_Mo_contract 99 = .ok (.invokestatic 75, 3) := by decide +kernel
theorem d_Mo_contract_102 : decode b_Mo_contract 102 = .ok (.iastore, 1) := by decide +kernel
theorem d_Mo_contract_103 : decode b_Mo_contract 103 = .ok (.aload_n 0, 1) := by decide +kernel
theorem d_Mo_contract_104 : decode b_Mo_contract 104 = .ok (.getfield 13, 3) := by decide +kernel
theorem d_Mo_contract_107 : decode b_Mo_contract 107 = .ok (.iload 4, 2) := by decide +kernel
theorem d_Mo_contract_109 : decode b_Mo_contract 109 = .ok (.iconst 2, 1) := by decide +kernel
theorem d_Mo_contract_110 : decode b_Mo_contract 110 = .ok (.iadd, 1) := by decide +kernel
theorem d_Mo_contract_111 : decode b_Mo_contract 111 = .ok (.aload_n 0, 1) := by decide +kernel
theorem d_Mo_contract_112 : decode b_Mo_contract 112 = .ok (.getfield 7, 3) := by decide +kernel
theorem d_Mo_contract_115 : decode b_Mo_contract 115 = .ok (.iload 5, 2) := by decide +kernel
theorem d_Mo_contract_117 : decode b_Mo_contract 117 = .ok (.iconst 2, 1) := by decide +kernel
theorem d_Mo_contract_118 : decode b_Mo_contract 118 = .ok (.iadd, 1) := by decide +kernel
theorem d_Mo_contract_119 : decode b_Mo_contract 119 = .ok (.iaload, 1) := by decide +kernel
theorem d_Mo_contract_120 : decode b_Mo_contract 120 = .ok (.bipush 33, 2) := by decide +kernel
theorem d_Mo_contract_122 : decode b_Mo_contract 122 = .ok (.if_icmp .ne 7, 3) := by decide +kernel
theorem d_Mo_contract_125 : decode b_Mo_contract 125 = .ok (.iconst 0, 1) := by decide +kernel
theorem d_Mo_contract_126 : decode b_Mo_contract 126 = .ok (.goto 4, 3) := by decide +kernel
theorem d_Mo_contract_129 : decode b_Mo_contract 129 = .ok (.iconst 1, 1) := by decide +kernel
theorem d_Mo_contract_130 : decode b_Mo_contract 130 = .ok (.iastore, 1) := by decide +kernel
theorem d_Mo_contract_131 : decode b_Mo_contract 131 = .ok (.aload_n 0, 1) := by decide +kernel
theorem d_Mo_contract_132 : decode b_Mo_contract 132 = .ok (.getfield 13, 3) := by decide +kernel
theorem d_Mo_contract_135 : decode b_Mo_contract 135 = .ok (.iload 4, 2) := by decide +kernel
theorem d_Mo_contract_137 : decode b_Mo_contract 137 = .ok (.iconst 3, 1) := by decide +kernel
theorem d_Mo_contract_138 : decode b_Mo_contract 138 = .ok (.iadd, 1) := by decide +kernel
theorem d_Mo_contract_139 : decode b_Mo_contract 139 = .ok (.aload_n 0, 1) := by decide +kernel
theorem d_Mo_contract_140 : decode b_Mo_contract 140 = .ok (.getfield 7, 3) := by decide +kernel
theorem d_Mo_contract_143 : decode b_Mo_contract 143 = .ok (.iload 5, 2) := by decide +kernel
theorem d_Mo_contract_145 : decode b_Mo_contract 145 = .ok (.iconst 3, 1) := by decide +kernel
theorem d_Mo_contract_146 : decode b_Mo_contract 146 = .ok (.iadd, 1) := by decide +kernel
theorem d_Mo_contract_147 : decode b_Mo_contract 147 = .ok (.iaload, 1) := by decide +kernel
theorem d_Mo_contract_148 : decode b_Mo_contract 148 = .ok (.bipush 48, 2) := by decide +kernel
theorem d_Mo_contract_150 : decode b_Mo_contract 150 = .ok (.isub, 1) := by decide +kernel
theorem d_Mo_contract_151 : decode b_Mo_contract 151 = .ok (.iastore, 1) := by decide +kernel
theorem d_Mo_contract_152 : decode b_Mo_contract 152 = .ok (.iinc 3 1, 3) := by decide +kernel
theorem d_Mo_contract_155 : decode b_Mo_contract 155 = .ok (.goto (-110), 3) := by decide +kernel
theorem d_Mo_contract_158 : decode b_Mo_contract 158 = .ok (.aload_n 0, 1) := by decide +kernel
theorem d_Mo_contract_159 : decode b_Mo_contract 159 = .ok (.getfield 16, 3) := by decide +kernel
theorem d_Mo_contract_162 : decode b_Mo_contract 162 = .ok (.iload_n 1, 1) := by decide +kernel
theorem d_Mo_contract_163 : decode b_Mo_contract 163 = .ok (.iload_n 2, 1) := by decide +kernel
theorem d_Mo_contract_164 : decode b_Mo_contract 164 = .ok (.iastore, 1) := by decide +kernel
theorem d_Mo_contract_165 : decode b_Mo_contract 165 = .ok (.iload_n 2, 1) := by decide +kernel
theorem d_Mo_contract_166 : decode b_Mo_contract 166 = .ok (.ireturn, 1) := by decide +kernel
theorem d_Mo_lets_0 : decode b_Mo_lets 0 = .ok (.iload_n 1, 1) := by decide +kernel
theorem d_Mo_lets_1 : decode b_Mo_lets 1 = .ok (.iconst 2, 1) := by decide +kernel
theorem d_Mo_lets_2 : decode b_Mo_lets 2 = .ok (.idiv, 1) := by decide +kernel
theorem d_Mo_lets_3 : decode b_Mo_lets 3 = .ok (.istore 4, 2) := by decide +kernel
theorem d_Mo_lets_5 : decode b_Mo_lets 5 = .ok (.iconst 0, 1) := by decide +kernel
theorem d_Mo_lets_6 : decode b_Mo_lets 6 = .ok (.istore 5, 2) := by decide +kernel
theorem d_Mo_lets_8 : decode b_Mo_lets 8 = .ok (.iload 5, 2) := by decide +kernel
theorem d_Mo_lets_10 : decode b_Mo_lets 10 = .ok (.aload_n 0, 1) := by decide +kernel
theorem d_Mo_lets_11 : decode b_Mo_lets 11 = .ok (.getfield 22, 3) := by decide +kernel
theorem d_Mo_lets_14 : decode b_Mo_lets 14 = .ok (.iload 4, 2) := by decide +kernel
theorem d_Mo_lets_16 : decode b_Mo_lets 16 = .ok (.iaload, 1) := by decide +kernel
theorem d_Mo_lets_17 : decode b_Mo_lets 17 = .ok (.if_icmp .ge 81, 3) := by decide +kernel
theorem d_Mo_lets_20 : decode b_Mo_lets 20 = .ok (.iload 4, 2) := by decide +kernel
theorem d_Mo_lets_22 : decode b_Mo_lets 22 = .ok (.bipush 36, 2) := by decide +kernel
theorem d_Mo_lets_24 : decode b_Mo_lets 24 = .ok (.imul, 1) := by decide +kernel
theorem d_Mo_lets_25 : decode b_Mo_lets 25 = .ok (.iload 5, 2) := by decide +kernel
theorem d_Mo_lets_27 : decode b_Mo_lets 27 = .ok (.iconst 4, 1) := by decide +kernel
theorem d_Mo_lets_28 : decode b_Mo_lets 28 = .ok (.imul, 1) := by decide +kernel
theorem d_Mo_lets_29 : decode b_Mo_lets 29 = .ok (.iadd, 1) := by decide +kernel
theorem d_Mo_lets_30 : decode b_Mo_lets 30 = .ok (.istore 6, 2) := by decide +kernel
theorem d_Mo_lets_32 : decode b_Mo_lets 32 = .ok (.aload_n 0, 1) := by decide +kernel
theorem d_Mo_lets_33 : decode b_Mo_lets 33 = .ok (.getfield 19, 3) := by decide +kernel
theorem d_Mo_lets_36 : decode b_Mo_lets 36 = .ok (.iload 6, 2) := by decide +kernel
theorem d_Mo_lets_38 : decode b_Mo_lets 38 = .ok (.iaload, 1) := by decide +kernel
theorem d_Mo_lets_39 : decode b_Mo_lets 39 = .ok (.aload_n 0, 1) := by decide +kernel
theorem d_Mo_lets_40 : decode b_Mo_lets 40 = .ok (.getfield 41, 3) := by decide +kernel
theorem d_Mo_lets_43 : decode b_Mo_lets 43 = .ok (.iload_n 1, 1) := by decide +kernel
theorem d_Mo_lets_44 : decode b_Mo_lets 44 = .ok (.iaload, 1) := by decide +kernel
theorem d_Mo_lets_45 : decode b_Mo_lets 45 = .ok (.if_icmp .ne 47, 3) := by decide +kernel
theorem d_Mo_lets_48 : decode b_Mo_lets 48 = .ok (.aload_n 0, 1) := by decide +kernel
theorem d_Mo_lets_49 : decode b_Mo_lets 49 = .ok (.getfield 19, 3) := by decide +kernel
theorem d_Mo_lets_52 : decode b_Mo_lets 52 = .ok (.iload 6, 2) := by decide +kernel
theorem d_Mo_lets_54 : decode b_Mo_lets 54 = .ok (.iconst 1, 1) := by decide +kernel
theorem d_Mo_lets_55 : decode b_Mo_lets 55 = .ok (.iadd, 1) := by decide +kernel
theorem d_Mo_lets_56 : decode b_Mo_lets 56 = .ok (.iaload, 1) := by decide +kernel
theorem d_Mo_lets_57 : decode b_Mo_lets 57 = .ok (.iload_n 2, 1) := by decide +kernel
theorem d_Mo_lets_58 : decode b_Mo_lets 58 = .ok (.if_icmp .ne 34, 3) := by decide +kernel
theorem d_Mo_lets_61 : decode b_Mo_lets 61 = .ok (.aload_n 0, 1) := by decide +kernel
theorem d_Mo_lets_62 : decode b_Mo_lets 62 = .ok (.getfield 19, 3) := by decide +kernel
theorem d_Mo_lets_65 : decode b_Mo_lets 65 = .ok (.iload 6, 2) := by decide +kernel
theorem d_Mo_lets_67 : decode b_Mo_lets 67 = .ok (.iconst 2, 1) := by decide +kernel
theorem d_Mo_lets_68 : decode b_Mo_lets 68 = .ok (.iadd, 1) := by decide +kernel
theorem d_Mo_lets_69 : decode b_Mo_lets 69 = .ok (.iaload, 1) := by decide +kernel
theorem d_Mo_lets_70 : decode b_Mo_lets 70 = .ok (.iload_n 3, 1) := by decide +kernel
theorem d_Mo_lets_71 : decode b_Mo_lets 71 = .ok (.if_icmp .eq 6, 3) := by decide +kernel
theorem d_Mo_lets_74 : decode b_Mo_lets 74 = .ok (.goto 18, 3) := by decide +kernel
theorem d_Mo_lets_77 : decode b_Mo_lets 77 = .ok (.aload_n 0, 1) := by decide +kernel
theorem d_Mo_lets_78 : decode b_Mo_lets 78 = .ok (.aload_n 0, 1) := by decide +kernel
theorem d_Mo_lets_79 : decode b_Mo_lets 79 = .ok (.getfield 19, 3) := by decide +kernel
theorem d_Mo_lets_82 : decode b_Mo_lets 82 = .ok (.iload 6, 2) := by decide +kernel
theorem d_Mo_lets_84 : decode b_Mo_lets 84 = .ok (.iconst 3, 1) := by decide +kernel
theorem d_Mo_lets_85 : decode b_Mo_lets 85 = .ok (.iadd, 1) := by decide +kernel
theorem d_Mo_lets_86 : decode b_Mo_lets 86 = .ok (.iaload, 1) := by decide +kernel
theorem d_Mo_lets_87 : decode b_Mo_lets 87 = .ok (.putfield 82, 3) := by decide +kernel
theorem d_Mo_lets_90 : decode b_Mo_lets 90 = .ok (.iconst 1, 1) := by decide +kernel
theorem d_Mo_lets_91 : decode b_Mo_lets 91 = .ok (.ireturn, 1) := by decide +kernel
theorem d_Mo_lets_92 : decode b_Mo_lets 92 = .ok (.iinc 5 1, 3) := by decide +kernel
theorem d_Mo_lets_95 : decode b_Mo_lets 95 = .ok (.goto (-87), 3) := by decide +kernel
theorem d_Mo_lets_98 : decode b_Mo_lets 98 = .ok (.iconst 0, 1) := by decide +kernel
theorem d_Mo_lets_99 : decode b_Mo_lets 99 = .ok (.ireturn, 1) := by decide +kernel
theorem d_Mo_freeBlock_0 : decode b_Mo_freeBlock 0 = .ok (.aload_n 0, 1) := by decide +kernel
theorem d_Mo_freeBlock_1 : decode b_Mo_freeBlock 1 = .ok (.getfield 29, 3) := by decide +kernel
theorem d_Mo_freeBlock_4 : decode b_Mo_freeBlock 4 = .ok (.iload_n 1, 1) := by decide +kernel
theorem d_Mo_freeBlock_5 : decode b_Mo_freeBlock 5 = .ok (.iconst (-1), 1) := by decide +kernel
theorem d_Mo_freeBlock_6 : decode b_Mo_freeBlock 6 = .ok (.iastore, 1) := by decide +kernel
theorem d_Mo_freeBlock_7 : decode b_Mo_freeBlock 7 = .ok (.aload_n 0, 1) := by decide +kernel
theorem d_Mo_freeBlock_8 : decode b_Mo_freeBlock 8 = .ok (.getfield 32, 3) := by decide +kernel
theorem d_Mo_freeBlock_11 : decode b_Mo_freeBlock 11 = .ok (.iload_n 1, 1) := by decide +kernel
theorem d_Mo_freeBlock_12 : decode b_Mo_freeBlock 12 = .ok (.iconst 0, 1) := by decide +kernel
theorem d_Mo_freeBlock_13 : decode b_Mo_freeBlock 13 = .ok (.iastore, 1) := by decide +kernel
theorem d_Mo_freeBlock_14 : decode b_Mo_freeBlock 14 = .ok (.aload_n 0, 1) := by decide +kernel
theorem d_Mo_freeBlock_15 : decode b_Mo_freeBlock 15 = .ok (.dup, 1) := by decide +kernel
theorem d_Mo_freeBlock_16 : decode b_Mo_freeBlock 16 = .ok (.getfield 85, 3) := by decide +kernel
theorem d_Mo_freeBlock_19 : decode b_Mo_freeBlock 19 = .ok (.iconst 1, 1) := by decide +kernel
theorem d_Mo_freeBlock_20 : decode b_Mo_freeBlock 20 = .ok (.iadd, 1) := by decide +kernel
theorem d_Mo_freeBlock_21 : decode b_Mo_freeBlock 21 = .ok (.putfield 85, 3) := by decide +kernel
theorem d_Mo_freeBlock_24 : decode b_Mo_freeBlock 24 = .ok (.return_, 1) := by decide +kernel
theorem d_Mo_closeEnd_0 : decode b_Mo_closeEnd 0 = .ok (.aload_n 0, 1) := by decide +kernel
theorem d_Mo_closeEnd_1 : decode b_Mo_closeEnd 1 = .ok (.getfield 38, 3) := by decide +kernel
theorem d_Mo_closeEnd_4 : decode b_Mo_closeEnd 4 = .ok (.iload_n 1, 1) := by decide +kernel
theorem d_Mo_closeEnd_5 : decode b_Mo_closeEnd 5 = .ok (.iconst (-1), 1) := by decide +kernel
theorem d_Mo_closeEnd_6 : decode b_Mo_closeEnd 6 = .ok (.iastore, 1) := by decide +kernel
theorem d_Mo_closeEnd_7 : decode b_Mo_closeEnd 7 = .ok (.aload_n 0, 1) := by decide +kernel
theorem d_Mo_closeEnd_8 : decode b_Mo_closeEnd 8 = .ok (.dup, 1) := by decide +kernel
theorem d_Mo_closeEnd_9 : decode b_Mo_closeEnd 9 = .ok (.getfield 85, 3) := by decide +kernel
theorem d_Mo_closeEnd_12 : decode b_Mo_closeEnd 12 = .ok (.iconst 1, 1) := by decide +kernel
theorem d_Mo_closeEnd_13 : decode b_Mo_closeEnd 13 = .ok (.iadd, 1) := by decide +kernel
theorem d_Mo_closeEnd_14 : decode b_Mo_closeEnd 14 = .ok (.putfield 85, 3) := by decide +kernel
theorem d_Mo_closeEnd_17 : decode b_Mo_closeEnd 17 = .ok (.aload_n 0, 1) := by decide +kernel
theorem d_Mo_closeEnd_18 : decode b_Mo_closeEnd 18 = .ok (.getfield 53, 3) := by decide +kernel
theorem d_Mo_closeEnd_21 : decode b_Mo_closeEnd 21 = .ok (.aload_n 0, 1) := by decide +kernel
theorem d_Mo_closeEnd_22 : decode b_Mo_closeEnd 22 = .ok (.getfield 88, 3) := by decide +kernel
theorem d_Mo_closeEnd_25 : decode b_Mo_closeEnd 25 = .ok (.iload_n 1, 1) := by decide +kernel
theorem d_Mo_closeEnd_26 : decode b_Mo_closeEnd 26 = .ok (.iastore, 1) := by decide +kernel
theorem d_Mo_closeEnd_27 : decode b_Mo_closeEnd 27 = .ok (.aload_n 0, 1) := by decide +kernel
theorem d_Mo_closeEnd_28 : decode b_Mo_closeEnd 28 = .ok (.dup, 1) := by decide +kernel
theorem d_Mo_closeEnd_29 : decode b_Mo_closeEnd 29 = .ok (.getfield 88, 3) := by decide +kernel
theorem d_Mo_closeEnd_32 : decode b_Mo_closeEnd 32 = .ok (.iconst 1, 1) := by decide +kernel
theorem d_Mo_closeEnd_33 : decode b_Mo_closeEnd 33 = .ok (.iadd, 1) := by decide +kernel
theorem d_Mo_closeEnd_34 : decode b_Mo_closeEnd 34 = .ok (.putfield 88, 3) := by decide +kernel
theorem d_Mo_closeEnd_37 : decode b_Mo_closeEnd 37 = .ok (.return_, 1) := by decide +kernel
theorem d_Mo_clear_0 : decode b_Mo_clear 0 = .ok (.iconst 0, 1) := by decide +kernel
theorem d_Mo_clear_1 : decode b_Mo_clear 1 = .ok (.istore_n 1, 1) := by decide +kernel
theorem d_Mo_clear_2 : decode b_Mo_clear 2 = .ok (.iload_n 1, 1) := by decide +kernel
theorem d_Mo_clear_3 : decode b_Mo_clear 3 = .ok (.aload_n 0, 1) := by decide +kernel
theorem d_Mo_clear_4 : decode b_Mo_clear 4 = .ok (.getfield 88, 3) := by decide +kernel
theorem d_Mo_clear_7 : decode b_Mo_clear 7 = .ok (.if_icmp .ge 123, 3) := by decide +kernel
theorem d_Mo_clear_10 : decode b_Mo_clear 10 = .ok (.aload_n 0, 1) := by decide +kernel
theorem d_Mo_clear_11 : decode b_Mo_clear 11 = .ok (.getfield 53, 3) := by decide +kernel
theorem d_Mo_clear_14 : decode b_Mo_clear 14 = .ok (.iload_n 1, 1) := by decide +kernel
theorem d_Mo_clear_15 : decode b_Mo_clear 15 = .ok (.iaload, 1) := by decide +kernel
theorem d_Mo_clear_16 : decode b_Mo_clear 16 = .ok (.istore_n 2, 1) := by decide +kernel
theorem d_Mo_clear_17 : decode b_Mo_clear 17 = .ok (.iload_n 2, 1) := by decide +kernel
theorem d_Mo_clear_18 : decode b_Mo_clear 18 = .ok (.iconst 3, 1) := by decide +kernel
theorem d_Mo_clear_19 : decode b_Mo_clear 19 = .ok (.imul, 1) := by decide +kernel
theorem d_Mo_clear_20 : decode b_Mo_clear 20 = .ok (.istore_n 3, 1) := by decide +kernel
theorem d_Mo_clear_21 : decode b_Mo_clear 21 = .ok (.iload_n 3, 1) := by decide +kernel
theorem d_Mo_clear_22 : decode b_Mo_clear 22 = .ok (.iload_n 2, 1) := by decide +kernel
theorem d_Mo_clear_23 : decode b_Mo_clear 23 = .ok (.iconst 3, 1) := by decide +kernel
theorem d_Mo_clear_24 : decode b_Mo_clear 24 = .ok (.imul, 1) := by decide +kernel
theorem d_Mo_clear_25 : decode b_Mo_clear 25 = .ok (.aload_n 0, 1) := by decide +kernel
theorem d_Mo_clear_26 : decode b_Mo_clear 26 = .ok (.getfield 44, 3) := by decide +kernel
theorem d_Mo_clear_29 : decode b_Mo_clear 29 = .ok (.iload_n 2, 1) := by decide +kernel
theorem d_Mo_clear_30 : decode b_Mo_clear 30 = .ok (.iaload, 1) := by decide +kernel
theorem d_Mo_clear_31 : decode b_Mo_clear 31 = .ok (.iadd, 1) := by decide +kernel
theorem d_Mo_clear_32 : decode b_Mo_clear 32 = .ok (.if_icmp .ge 78, 3) := by decide +kernel
theorem d_Mo_clear_35 : decode b_Mo_clear 35 = .ok (.aload_n 0, 1) := by decide +kernel
theorem d_Mo_clear_36 : decode b_Mo_clear 36 = .ok (.dup, 1) := by decide +kernel
theorem d_Mo_clear_37 : decode b_Mo_clear 37 = .ok (.getfield 91, 3) := by decide +kernel
theorem d_Mo_clear_40 : decode b_Mo_clear 40 = .ok (.iconst 1, 1) := by decide +kernel
theorem d_Mo_clear_41 : decode b_Mo_clear 41 = .ok (.iadd, 1) := by decide +kernel
theorem d_Mo_clear_42 : decode b_Mo_clear 42 = .ok (.putfield 91, 3) := by decide +kernel
theorem d_Mo_clear_45 : decode b_Mo_clear 45 = .ok (.aload_n 0, 1) := by decide +kernel
theorem d_Mo_clear_46 : decode b_Mo_clear 46 = .ok (.getfield 47, 3) := by decide +kernel
theorem d_Mo_clear_49 : decode b_Mo_clear 49 = .ok (.iload_n 3, 1) := by decide +kernel
theorem d_Mo_clear_50 : decode b_Mo_clear 50 = .ok (.iaload, 1) := by decide +kernel
theorem d_Mo_clear_51 : decode b_Mo_clear 51 = .ok (.iconst 3, 1) := by decide +kernel
theorem d_Mo_clear_52 : decode b_Mo_clear 52 = .ok (.iconst 5, 1) := by decide +kernel
theorem d_Mo_clear_53 : decode b_Mo_clear 53 = .ok (.invokestatic 60, 3) := by decide +kernel
theorem d_Mo_clear_56 : decode b_Mo_clear 56 = .ok (.ifCond .eq 13, 3) := by decide +kernel
theorem d_Mo_clear_59 : decode b_Mo_clear 59 = .ok (.aload_n 0, 1) := by decide +kernel
theorem d_Mo_clear_60 : decode b_Mo_clear 60 = .ok (.aload_n 0, 1) := by decide +kernel
theorem d_Mo_clear_61 : decode b_Mo_clear 61 = .ok (.getfield 50, 3) := by decide +kernel
theorem d_Mo_clear_64 : decode b_Mo_clear 64 = .ok (.iload_n 3, 1) := by decide +kernel
theorem d_Mo_clear_65 : decode b_Mo_clear 65 = .ok (.iaload, 1) := by decide +kernel
theorem d_Mo_clear_66 : decode b_Mo_clear 66 = .ok (.invokevirtual 94, 3) := by decide +kernel
theorem d_Mo_clear_69 : decode b_Mo_clear 69 = .ok (.aload_n 0, 1) := by decide +kernel
theorem d_Mo_clear_70 : decode b_Mo_clear 70 = .ok (.getfield 47, 3) := by decide +kernel
theorem d_Mo_clear_73 : decode b_Mo_clear 73 = .ok (.iload_n 3, 1) := by decide +kernel
theorem d_Mo_clear_74 : decode b_Mo_clear 74 = .ok (.iaload, 1) := by decide +kernel
theorem d_Mo_clear_75 : decode b_Mo_clear 75 = .ok (.bipush 6, 2) := by decide +kernel
theorem d_Mo_clear_77 : decode b_Mo_clear 77 = .ok (.if_icmp .ne 27, 3) := by decide +kernel
theorem d_Mo_clear_80 : decode b_Mo_clear 80 = .ok (.aload_n 0, 1) := by decide +kernel
theorem d_Mo_clear_81 : decode b_Mo_clear 81 = .ok (.getfield 38, 3) := by decide +kernel
theorem d_Mo_clear_84 : decode b_Mo_clear 84 = .ok (.aload_n 0, 1) := by decide +kernel
theorem d_Mo_clear_85 : decode b_Mo_clear 85 = .ok (.getfield 50, 3) := by decide +kernel
theorem d_Mo_clear_88 : decode b_Mo_clear 88 = .ok (.iload_n 3, 1) := by decide +kernel
theorem d_Mo_clear_89 : decode b_Mo_clear 89 = .ok (.iaload, 1) := by decide +kernel
theorem d_Mo_clear_90 : decode b_Mo_clear 90 = .ok (.iaload, 1) := by decide +kernel
theorem d_Mo_clear_91 : decode b_Mo_clear 91 = .ok (.ifCond .lt 13, 3) := by decide +kernel
theorem d_Mo_clear_94 : decode b_Mo_clear 94 = .ok (.aload_n 0, 1) := by decide +kernel
theorem d_Mo_clear_95 : decode b_Mo_clear 95 = .ok (.aload_n 0, 1) := by decide +kernel
theorem d_Mo_clear_96 : decode b_Mo_clear 96 = .ok (.getfield 50, 3) := by decide +kernel
theorem d_Mo_clear_99 : decode b_Mo_clear 99 = .ok (.iload_n 3, 1) := by decide +kernel
theorem d_Mo_clear_100 : decode b_Mo_clear 100 = .ok (.iaload, 1) := by decide +kernel
theorem d_Mo_clear_101 : decode b_Mo_clear 101 = .ok (.invokevirtual 98, 3) := by decide +kernel
theorem d_Mo_clear_104 : decode b_Mo_clear 104 = .ok (.iinc 3 1, 3) := by decide +kernel
theorem d_Mo_clear_107 : decode b_Mo_clear 107 = .ok (.goto (-86), 3) := by decide +kernel
theorem d_Mo_clear_110 : decode b_Mo_clear 110 = .ok (.aload_n 0, 1) := by decide +kernel
theorem d_Mo_clear_111 : decode b_Mo_clear 111 = .ok (.getfield 44, 3) := by decide +kernel
theorem d_Mo_clear_114 : decode b_Mo_clear 114 = .ok (.iload_n 2, 1) := by decide +kernel
theorem d_Mo_clear_115 : decode b_Mo_clear 115 = .ok (.iconst 0, 1) := by decide +kernel
theorem d_Mo_clear_116 : decode b_Mo_clear 116 = .ok (.iastore, 1) := by decide +kernel
theorem d_Mo_clear_117 : decode b_Mo_clear 117 = .ok (.aload_n 0, 1) := by decide +kernel
theorem d_Mo_clear_118 : decode b_Mo_clear 118 = .ok (.getfield 41, 3) := by decide +kernel
theorem d_Mo_clear_121 : decode b_Mo_clear 121 = .ok (.iload_n 2, 1) := by decide +kernel
theorem d_Mo_clear_122 : decode b_Mo_clear 122 = .ok (.iconst 0, 1) := by decide +kernel
theorem d_Mo_clear_123 : decode b_Mo_clear 123 = .ok (.iastore, 1) := by decide +kernel
theorem d_Mo_clear_124 : decode b_Mo_clear 124 = .ok (.iinc 1 1, 3) := by decide +kernel
theorem d_Mo_clear_127 : decode b_Mo_clear 127 = .ok (.goto (-125), 3) := by decide +kernel
theorem d_Mo_clear_130 : decode b_Mo_clear 130 = .ok (.aload_n 0, 1) := by decide +kernel
theorem d_Mo_clear_131 : decode b_Mo_clear 131 = .ok (.iconst 0, 1) := by decide +kernel
theorem d_Mo_clear_132 : decode b_Mo_clear 132 = .ok (.putfield 88, 3) := by decide +kernel
theorem d_Mo_clear_135 : decode b_Mo_clear 135 = .ok (.return_, 1) := by decide +kernel
theorem d_Mo_start_0 : decode b_Mo_start 0 = .ok (.aload_n 0, 1) := by decide +kernel
theorem d_Mo_start_1 : decode b_Mo_start 1 = .ok (.iconst 0, 1) := by decide +kernel
theorem d_Mo_start_2 : decode b_Mo_start 2 = .ok (.putfield 56, 3) := by decide +kernel
theorem d_Mo_start_5 : decode b_Mo_start 5 = .ok (.iconst 0, 1) := by decide +kernel
theorem d_Mo_start_6 : decode b_Mo_start 6 = .ok (.istore_n 1, 1) := by decide +kernel
theorem d_Mo_start_7 : decode b_Mo_start 7 = .ok (.iload_n 1, 1) := by decide +kernel
theorem d_Mo_start_8 : decode b_Mo_start 8 = .ok (.iconst 4, 1) := by decide +kernel
theorem d_Mo_start_9 : decode b_Mo_start 9 = .ok (.if_icmp .ge 30, 3) := by decide +kernel
theorem d_Mo_start_12 : decode b_Mo_start 12 = .ok (.aload_n 0, 1) := by decide +kernel
theorem d_Mo_start_13 : decode b_Mo_start 13 = .ok (.getfield 25, 3) := by decide +kernel
theorem d_Mo_start_16 : decode b_Mo_start 16 = .ok (.iload_n 1, 1) := by decide +kernel
theorem d_Mo_start_17 : decode b_Mo_start 17 = .ok (.baload, 1) := by decide +kernel
theorem d_Mo_start_18 : decode b_Mo_start 18 = .ok (.ifCond .eq 6, 3) := by decide +kernel
theorem d_Mo_start_21 : decode b_Mo_start 21 = .ok (.goto 12, 3) := by decide +kernel
theorem d_Mo_start_24 : decode b_Mo_start 24 = .ok (.aload_n 0, 1) := by decide +kernel
theorem d_Mo_start_25 : decode b_Mo_start 25 = .ok (.getfield 25, 3) := by decide +kernel
theorem d_Mo_start_28 : decode b_Mo_start 28 = .ok (.iload_n 1, 1) := by decide +kernel
theorem d_Mo_start_29 : decode b_Mo_start 29 = .ok (.iconst 1, 1) := by decide +kernel
theorem d_Mo_start_30 : decode b_Mo_start 30 = .ok (.bastore, 1) := by decide +kernel
theorem d_Mo_start_31 : decode b_Mo_start 31 = .ok (.iload_n 1, 1) := by decide +kernel
theorem d_Mo_start_32 : decode b_Mo_start 32 = .ok (.ireturn, 1) := by decide +kernel
theorem d_Mo_start_33 : decode b_Mo_start 33 = .ok (.iinc 1 1, 3) := by decide +kernel
theorem d_Mo_start_36 : decode b_Mo_start 36 = .ok (.goto (-29), 3) := by decide +kernel
theorem d_Mo_start_39 : decode b_Mo_start 39 = .ok (.aload_n 0, 1) := by decide +kernel
theorem d_Mo_start_40 : decode b_Mo_start 40 = .ok (.iconst 1, 1) := by decide +kernel
theorem d_Mo_start_41 : decode b_Mo_start 41 = .ok (.invokevirtual 71, 3) := by decide +kernel
theorem d_Mo_start_44 : decode b_Mo_start 44 = .ok (.ireturn, 1) := by decide +kernel
theorem d_Mo_kill_0 : decode b_Mo_kill 0 = .ok (.aload_n 0, 1) := by decide +kernel
theorem d_Mo_kill_1 : decode b_Mo_kill 1 = .ok (.iload_n 1, 1) := by decide +kernel
theorem d_Mo_kill_2 : decode b_Mo_kill 2 = .ok (.iconst 0, 1) := by decide +kernel
theorem d_Mo_kill_3 : decode b_Mo_kill 3 = .ok (.iconst 3, 1) := by decide +kernel
theorem d_Mo_kill_4 : decode b_Mo_kill 4 = .ok (.invokestatic 60, 3) := by decide +kernel
theorem d_Mo_kill_7 : decode b_Mo_kill 7 = .ok (.invokevirtual 64, 3) := by decide +kernel
theorem d_Mo_kill_10 : decode b_Mo_kill 10 = .ok (.ifCond .eq 5, 3) := by decide +kernel
theorem d_Mo_kill_13 : decode b_Mo_kill 13 = .ok (.iconst 0, 1) := by decide +kernel
theorem d_Mo_kill_14 : decode b_Mo_kill 14 = .ok (.ireturn, 1) := by decide +kernel
theorem d_Mo_kill_15 : decode b_Mo_kill 15 = .ok (.aload_n 0, 1) := by decide +kernel
theorem d_Mo_kill_16 : decode b_Mo_kill 16 = .ok (.getfield 25, 3) := by decide +kernel
theorem d_Mo_kill_19 : decode b_Mo_kill 19 = .ok (.iload_n 1, 1) := by decide +kernel
theorem d_Mo_kill_20 : decode b_Mo_kill 20 = .ok (.baload, 1) := by decide +kernel
theorem d_Mo_kill_21 : decode b_Mo_kill 21 = .ok (.ifCond .ne 9, 3) := by decide +kernel
theorem d_Mo_kill_24 : decode b_Mo_kill 24 = .ok (.aload_n 0, 1) := by decide +kernel
theorem d_Mo_kill_25 : decode b_Mo_kill 25 = .ok (.iconst 2, 1) := by decide +kernel
theorem d_Mo_kill_26 : decode b_Mo_kill 26 = .ok (.invokevirtual 71, 3) := by decide +kernel
theorem d_Mo_kill_29 : decode b_Mo_kill 29 = .ok (.ireturn, 1) := by decide +kernel
theorem d_Mo_kill_30 : decode b_Mo_kill 30 = .ok (.aload_n 0, 1) := by decide +kernel
theorem d_Mo_kill_31 : decode b_Mo_kill 31 = .ok (.getfield 25, 3) := by decide +kernel
theorem d_Mo_kill_34 : decode b_Mo_kill 34 = .ok (.iload_n 1, 1) := by decide +kernel
theorem d_Mo_kill_35 : decode b_Mo_kill 35 = .ok (.iconst 0, 1) := by decide +kernel
theorem d_Mo_kill_36 : decode b_Mo_kill 36 = .ok (.bastore, 1) := by decide +kernel
theorem d_Mo_kill_37 : decode b_Mo_kill 37 = .ok (.aload_n 0, 1) := by decide +kernel
theorem d_Mo_kill_38 : decode b_Mo_kill 38 = .ok (.dup, 1) := by decide +kernel
theorem d_Mo_kill_39 : decode b_Mo_kill 39 = .ok (.getfield 101, 3) := by decide +kernel
theorem d_Mo_kill_42 : decode b_Mo_kill 42 = .ok (.iconst 1, 1) := by decide +kernel
theorem d_Mo_kill_43 : decode b_Mo_kill 43 = .ok (.iadd, 1) := by decide +kernel
theorem d_Mo_kill_44 : decode b_Mo_kill 44 = .ok (.putfield 101, 3) := by decide +kernel
theorem d_Mo_kill_47 : decode b_Mo_kill 47 = .ok (.aload_n 0, 1) := by decide +kernel
theorem d_Mo_kill_48 : decode b_Mo_kill 48 = .ok (.iconst 0, 1) := by decide +kernel
theorem d_Mo_kill_49 : decode b_Mo_kill 49 = .ok (.putfield 85, 3) := by decide +kernel
theorem d_Mo_kill_52 : decode b_Mo_kill 52 = .ok (.iconst 0, 1) := by decide +kernel
theorem d_Mo_kill_53 : decode b_Mo_kill 53 = .ok (.istore_n 2, 1) := by decide +kernel
theorem d_Mo_kill_54 : decode b_Mo_kill 54 = .ok (.iload_n 2, 1) := by decide +kernel
theorem d_Mo_kill_55 : decode b_Mo_kill 55 = .ok (.bipush 12, 2) := by decide +kernel
theorem d_Mo_kill_57 : decode b_Mo_kill 57 = .ok (.if_icmp .ge 24, 3) := by decide +kernel
theorem d_Mo_kill_60 : decode b_Mo_kill 60 = .ok (.aload_n 0, 1) := by decide +kernel
theorem d_Mo_kill_61 : decode b_Mo_kill 61 = .ok (.getfield 29, 3) := by decide +kernel
theorem d_Mo_kill_64 : decode b_Mo_kill 64 = .ok (.iload_n 2, 1) := by decide +kernel
theorem d_Mo_kill_65 : decode b_Mo_kill 65 = .ok (.iaload, 1) := by decide +kernel
theorem d_Mo_kill_66 : decode b_Mo_kill 66 = .ok (.iload_n 1, 1) := by decide +kernel
theorem d_Mo_kill_67 : decode b_Mo_kill 67 = .ok (.if_icmp .ne 8, 3) := by decide +kernel
theorem d_Mo_kill_70 : decode b_Mo_kill 70 = .ok (.aload_n 0, 1) := by decide +kernel
theorem d_Mo_kill_71 : decode b_Mo_kill 71 = .ok (.iload_n 2, 1) := by decide +kernel
theorem d_Mo_kill_72 : decode b_Mo_kill 72 = .ok (.invokevirtual 94, 3) := by decide +kernel
theorem d_Mo_kill_75 : decode b_Mo_kill 75 = .ok (.iinc 2 1, 3) := by decide +kernel
theorem d_Mo_kill_78 : decode b_Mo_kill 78 = .ok (.goto (-24), 3) := by decide +kernel
theorem d_Mo_kill_81 : decode b_Mo_kill 81 = .ok (.iconst 0, 1) := by decide +kernel
theorem d_Mo_kill_82 : decode b_Mo_kill 82 = .ok (.istore_n 2, 1) := by decide +kernel
theorem d_Mo_kill_83 : decode b_Mo_kill 83 = .ok (.iload_n 2, 1) := by decide +kernel
theorem d_Mo_kill_84 : decode b_Mo_kill 84 = .ok (.bipush 12, 2) := by decide +kernel
theorem d_Mo_kill_86 : decode b_Mo_kill 86 = .ok (.if_icmp .ge 24, 3) := by decide +kernel
theorem d_Mo_kill_89 : decode b_Mo_kill 89 = .ok (.aload_n 0, 1) := by decide +kernel
theorem d_Mo_kill_90 : decode b_Mo_kill 90 = .ok (.getfield 38, 3) := by decide +kernel
theorem d_Mo_kill_93 : decode b_Mo_kill 93 = .ok (.iload_n 2, 1) := by decide +kernel
theorem d_Mo_kill_94 : decode b_Mo_kill 94 = .ok (.iaload, 1) := by decide +kernel
theorem d_Mo_kill_95 : decode b_Mo_kill 95 = .ok (.iload_n 1, 1) := by decide +kernel
theorem d_Mo_kill_96 : decode b_Mo_kill 96 = .ok (.if_icmp .ne 8, 3) := by decide +kernel
theorem d_Mo_kill_99 : decode b_Mo_kill 99 = .ok (.aload_n 0, 1) := by decide +kernel
theorem d_Mo_kill_100 : decode b_Mo_kill 100 = .ok (.iload_n 2, 1) := by decide +kernel
theorem d_Mo_kill_101 : decode b_Mo_kill 101 = .ok (.invokevirtual 98, 3) := by decide +kernel
theorem d_Mo_kill_104 : decode b_Mo_kill 104 = .ok (.iinc 2 1, 3) := by decide +kernel
theorem d_Mo_kill_107 : decode b_Mo_kill 107 = .ok (.goto (-24), 3) := by decide +kernel
theorem d_Mo_kill_110 : decode b_Mo_kill 110 = .ok (.aload_n 0, 1) := by decide +kernel
theorem d_Mo_kill_111 : decode b_Mo_kill 111 = .ok (.invokevirtual 104, 3) := by decide +kernel
theorem d_Mo_kill_114 : decode b_Mo_kill 114 = .ok (.aload_n 0, 1) := by decide +kernel
theorem d_Mo_kill_115 : decode b_Mo_kill 115 = .ok (.getfield 85, 3) := by decide +kernel
theorem d_Mo_kill_118 : decode b_Mo_kill 118 = .ok (.ireturn, 1) := by decide +kernel
theorem d_Mo_allCells_0 : decode b_Mo_allCells 0 = .ok (.iconst 0, 1) := by decide +kernel
theorem d_Mo_allCells_1 : decode b_Mo_allCells 1 = .ok (.istore_n 1, 1) := by decide +kernel
theorem d_Mo_allCells_2 : decode b_Mo_allCells 2 = .ok (.iconst 0, 1) := by decide +kernel
theorem d_Mo_allCells_3 : decode b_Mo_allCells 3 = .ok (.istore_n 2, 1) := by decide +kernel
theorem d_Mo_allCells_4 : decode b_Mo_allCells 4 = .ok (.iload_n 2, 1) := by decide +kernel
theorem d_Mo_allCells_5 : decode b_Mo_allCells 5 = .ok (.bipush 12, 2) := by decide +kernel
theorem d_Mo_allCells_7 : decode b_Mo_allCells 7 = .ok (.if_icmp .ge 18, 3) := by decide +kernel
theorem d_Mo_allCells_10 : decode b_Mo_allCells 10 = .ok (.iload_n 1, 1) := by decide +kernel
theorem d_Mo_allCells_11 : decode b_Mo_allCells 11 = .ok (.aload_n 0, 1) := by decide +kernel
theorem d_Mo_allCells_12 : decode b_Mo_allCells 12 = .ok (.getfield 32, 3) := by decide +kernel
theorem d_Mo_allCells_15 : decode b_Mo_allCells 15 = .ok (.iload_n 2, 1) := by decide +kernel
theorem d_Mo_allCells_16 : decode b_Mo_allCells 16 = .ok (.iaload, 1) := by decide +kernel
theorem d_Mo_allCells_17 : decode b_Mo_allCells 17 = .ok (.iadd, 1) := by decide +kernel
theorem d_Mo_allCells_18 : decode b_Mo_allCells 18 = .ok (.istore_n 1, 1) := by decide +kernel
theorem d_Mo_allCells_19 : decode b_Mo_allCells 19 = .ok (.iinc 2 1, 3) := by decide +kernel
theorem d_Mo_allCells_22 : decode b_Mo_allCells 22 = .ok (.goto (-18), 3) := by decide +kernel
theorem d_Mo_allCells_25 : decode b_Mo_allCells 25 = .ok (.iload_n 1, 1) := by decide +kernel
theorem d_Mo_allCells_26 : decode b_Mo_allCells 26 = .ok (.ireturn, 1) := by decide +kernel
theorem d_Mo_block_0 : decode b_Mo_block 0 = .ok (.aload_n 0, 1) := by decide +kernel
theorem d_Mo_block_1 : decode b_Mo_block 1 = .ok (.iload_n 1, 1) := by decide +kernel
theorem d_Mo_block_2 : decode b_Mo_block 2 = .ok (.iconst 0, 1) := by decide +kernel
theorem d_Mo_block_3 : decode b_Mo_block 3 = .ok (.iconst 3, 1) := by decide +kernel
theorem d_Mo_block_4 : decode b_Mo_block 4 = .ok (.invokestatic 60, 3) := by decide +kernel
theorem d_Mo_block_7 : decode b_Mo_block 7 = .ok (.ifCond .eq 17, 3) := by decide +kernel
theorem d_Mo_block_10 : decode b_Mo_block 10 = .ok (.iload_n 2, 1) := by decide +kernel
theorem d_Mo_block_11 : decode b_Mo_block 11 = .ok (.iconst 1, 1) := by decide +kernel
theorem d_Mo_block_12 : decode b_Mo_block 12 = .ok (.bipush 8, 2) := by decide +kernel
theorem d_Mo_block_14 : decode b_Mo_block 14 = .ok (.invokestatic 60, 3) := by decide +kernel
theorem d_Mo_block_17 : decode b_Mo_block 17 = .ok (.ifCond .eq 7, 3) := by decide +kernel
theorem d_Mo_block_20 : decode b_Mo_block 20 = .ok (.iconst 1, 1) := by decide +kernel
theorem d_Mo_block_21 : decode b_Mo_block 21 = .ok (.goto 4, 3) := by decide +kernel
theorem d_Mo_block_24 : decode b_Mo_block 24 = .ok (.iconst 0, 1) := by decide +kernel
theorem d_Mo_block_25 : decode b_Mo_block 25 = .ok (.invokevirtual 64, 3) := by decide +kernel
theorem d_Mo_block_28 : decode b_Mo_block 28 = .ok (.ifCond .eq 5, 3) := by decide +kernel
theorem d_Mo_block_31 : decode b_Mo_block 31 = .ok (.iconst 0, 1) := by decide +kernel
theorem d_Mo_block_32 : decode b_Mo_block 32 = .ok (.ireturn, 1) := by decide +kernel
theorem d_Mo_block_33 : decode b_Mo_block 33 = .ok (.aload_n 0, 1) := by decide +kernel
theorem d_Mo_block_34 : decode b_Mo_block 34 = .ok (.getfield 25, 3) := by decide +kernel
theorem d_Mo_block_37 : decode b_Mo_block 37 = .ok (.iload_n 1, 1) := by decide +kernel
theorem d_Mo_block_38 : decode b_Mo_block 38 = .ok (.baload, 1) := by decide +kernel
theorem d_Mo_block_39 : decode b_Mo_block 39 = .ok (.ifCond .ne 9, 3) := by decide +kernel
theorem d_Mo_block_42 : decode b_Mo_block 42 = .ok (.aload_n 0, 1) := by decide +kernel
theorem d_Mo_block_43 : decode b_Mo_block 43 = .ok (.iconst 2, 1) := by decide +kernel
theorem d_Mo_block_44 : decode b_Mo_block 44 = .ok (.invokevirtual 71, 3) := by decide +kernel
theorem d_Mo_block_47 : decode b_Mo_block 47 = .ok (.ireturn, 1) := by decide +kernel
theorem d_Mo_block_48 : decode b_Mo_block 48 = .ok (.iconst 0, 1) := by decide +kernel
theorem d_Mo_block_49 : decode b_Mo_block 49 = .ok (.istore_n 3, 1) := by decide +kernel
theorem d_Mo_block_50 : decode b_Mo_block 50 = .ok (.iload_n 3, 1) := by decide +kernel
theorem d_Mo_block_51 : decode b_Mo_block 51 = .ok (.bipush 12, 2) := by decide +kernel
theorem d_Mo_block_53 : decode b_Mo_block 53 = .ok (.if_icmp .ge 18, 3) := by decide +kernel
theorem d_Mo_block_56 : decode b_Mo_block 56 = .ok (.aload_n 0, 1) := by decide +kernel
theorem d_Mo_block_57 : decode b_Mo_block 57 = .ok (.getfield 29, 3) := by decide +kernel
theorem d_Mo_block_60 : decode b_Mo_block 60 = .ok (.iload_n 3, 1) := by decide +kernel
theorem d_Mo_block_61 : decode b_Mo_block 61 = .ok (.iaload, 1) := by decide +kernel
theorem d_Mo_block_62 : decode b_Mo_block 62 = .ok (.ifCond .lt 9, 3) := by decide +kernel
theorem d_Mo_block_65 : decode b_Mo_block 65 = .ok (.iinc 3 1, 3) := by decide +kernel
theorem d_Mo_block_68 : decode b_Mo_block 68 = .ok (.goto (-18), 3) := by decide +kernel
theorem d_Mo_block_71 : decode b_Mo_block 71 = .ok (.iload_n 3, 1) := by decide +kernel
theorem d_Mo_block_72 : decode b_Mo_block 72 = .ok (.bipush 12, 2) := by decide +kernel
theorem d_Mo_block_74 : decode b_Mo_block 74 = .ok (.if_icmp .eq 14, 3) := by decide +kernel
theorem d_Mo_block_77 : decode b_Mo_block 77 = .ok (.aload_n 0, 1) := by decide +kernel
theorem d_Mo_block_78 : decode b_Mo_block 78 = .ok (.invokevirtual 107, 3) := by decide +kernel
theorem d_Mo_block_81 : decode b_Mo_block 81 = .ok (.iload_n 2, 1) := by decide +kernel
theorem d_Mo_block_82 : decode b_Mo_block 82 = .ok (.iadd, 1) := by decide +kernel
theorem d_Mo_block_83 : decode b_Mo_block 83 = .ok (.bipush 48, 2) := by decide +kernel
theorem d_Mo_block_85 : decode b_Mo_block 85 = .ok (.if_icmp .le 9, 3) := by decide +kernel
theorem d_Mo_block_88 : decode b_Mo_block 88 = .ok (.aload_n 0, 1) := by decide +kernel
theorem d_Mo_block_89 : decode b_Mo_block 89 = .ok (.iconst 3, 1) := by decide +kernel
theorem d_Mo_block_90 : decode b_Mo_block 90 = .ok (.invokevirtual 71, 3) := by decide +kernel
theorem d_Mo_block_93 : decode b_Mo_block 93 = .ok (.ireturn, 1) := by decide +kernel
theorem d_Mo_block_94 : decode b_Mo_block 94 = .ok (.aload_n 0, 1) := by decide +kernel
theorem d_Mo_block_95 : decode b_Mo_block 95 = .ok (.getfield 29, 3) := by decide +kernel
theorem d_Mo_block_98 : decode b_Mo_block 98 = .ok (.iload_n 3, 1) := by decide +kernel
theorem d_Mo_block_99 : decode b_Mo_block 99 = .ok (.iload_n 1, 1) := by decide +kernel
theorem d_Mo_block_100 : decode b_Mo_block 100 = .ok (.iastore, 1) := by decide +kernel
theorem d_Mo_block_101 : decode b_Mo_block 101 = .ok (.aload_n 0, 1) := by decide +kernel
theorem d_Mo_block_102 : decode b_Mo_block 102 = .ok (.getfield 32, 3) := by decide +kernel
theorem d_Mo_block_105 : decode b_Mo_block 105 = .ok (.iload_n 3, 1) := by decide +kernel
theorem d_Mo_block_106 : decode b_Mo_block 106 = .ok (.iload_n 2, 1) := by decide +kernel
theorem d_Mo_block_107 : decode b_Mo_block 107 = .ok (.iastore, 1) := by decide +kernel
theorem d_Mo_block_108 : decode b_Mo_block 108 = .ok (.iconst 0, 1) := by decide +kernel
theorem d_Mo_block_109 : decode b_Mo_block 109 = .ok (.istore 4, 2) := by decide +kernel
theorem d_Mo_block_111 : decode b_Mo_block 111 = .ok (.iload 4, 2) := by decide +kernel
theorem d_Mo_block_113 : decode b_Mo_block 113 = .ok (.bipush 8, 2) := by decide +kernel
theorem d_Mo_block_115 : decode b_Mo_block 115 = .ok (.if_icmp .ge 22, 3) := by decide +kernel
theorem d_Mo_block_118 : decode b_Mo_block 118 = .ok (.aload_n 0, 1) := by decide +kernel
theorem d_Mo_block_119 : decode b_Mo_block 119 = .ok (.getfield 35, 3) := by decide +kernel
theorem d_Mo_block_122 : decode b_Mo_block 122 = .ok (.iload_n 3, 1) := by decide +kernel
theorem d_Mo_block_123 : decode b_Mo_block 123 = .ok (.bipush 8, 2) := by decide +kernel
theorem d_Mo_block_125 : decode b_Mo_block 125 = .ok (.imul, 1) := by decide +kernel
theorem d_Mo_block_126 : decode b_Mo_block 126 = .ok (.iload 4, 2) := by decide +kernel
theorem d_Mo_block_128 : decode b_Mo_block 128 = .ok (.iadd, 1) := by decide +kernel
theorem d_Mo_block_129 : decode b_Mo_block 129 = .ok (.iconst 0, 1) := by decide +kernel
theorem d_Mo_block_130 : decode b_Mo_block 130 = .ok (.iastore, 1) := by decide +kernel
theorem d_Mo_block_131 : decode b_Mo_block 131 = .ok (.iinc 4 1, 3) := by decide +kernel
theorem d_Mo_block_134 : decode b_Mo_block 134 = .ok (.goto (-23), 3) := by decide +kernel
theorem d_Mo_block_137 : decode b_Mo_block 137 = .ok (.iload_n 3, 1) := by decide +kernel
theorem d_Mo_block_138 : decode b_Mo_block 138 = .ok (.ireturn, 1) := by decide +kernel
theorem d_Mo_notYours_0 : decode b_Mo_notYours 0 = .ok (.aload_n 0, 1) := by decide +kernel
theorem d_Mo_notYours_1 : decode b_Mo_notYours 1 = .ok (.iload_n 1, 1) := by decide +kernel
theorem d_Mo_notYours_2 : decode b_Mo_notYours 2 = .ok (.iconst 0, 1) := by decide +kernel
theorem d_Mo_notYours_3 : decode b_Mo_notYours 3 = .ok (.iconst 3, 1) := by decide +kernel
theorem d_Mo_notYours_4 : decode b_Mo_notYours 4 = .ok (.invokestatic 60, 3) := by decide +kernel
theorem d_Mo_notYours_7 : decode b_Mo_notYours 7 = .ok (.ifCond .eq 17, 3) := by decide +kernel
theorem d_Mo_notYours_10 : decode b_Mo_notYours 10 = .ok (.iload_n 2, 1) := by decide +kernel
theorem d_Mo_notYours_11 : decode b_Mo_notYours 11 = .ok (.iconst 0, 1) := by decide +kernel
theorem d_Mo_notYours_12 : decode b_Mo_notYours 12 = .ok (.bipush 11, 2) := by decide +kernel
theorem d_Mo_notYours_14 : decode b_Mo_notYours 14 = .ok (.invokestatic 60, 3) := by decide +kernel
theorem d_Mo_notYours_17 : decode b_Mo_notYours 17 = .ok (.ifCond .eq 7, 3) := by decide +kernel
theorem d_Mo_notYours_20 : decode b_Mo_notYours 20 = .ok (.iconst 1, 1) := by decide +kernel
theorem d_Mo_notYours_21 : decode b_Mo_notYours 21 = .ok (.goto 4, 3) := by decide +kernel
theorem d_Mo_notYours_24 : decode b_Mo_notYours 24 = .ok (.iconst 0, 1) := by decide +kernel
theorem d_Mo_notYours_25 : decode b_Mo_notYours 25 = .ok (.invokevirtual 64, 3) := by decide +kernel
theorem d_Mo_notYours_28 : decode b_Mo_notYours 28 = .ok (.ifCond .eq 5, 3) := by decide +kernel
theorem d_Mo_notYours_31 : decode b_Mo_notYours 31 = .ok (.iconst 1, 1) := by decide +kernel
theorem d_Mo_notYours_32 : decode b_Mo_notYours 32 = .ok (.ireturn, 1) := by decide +kernel
theorem d_Mo_notYours_33 : decode b_Mo_notYours 33 = .ok (.aload_n 0, 1) := by decide +kernel
theorem d_Mo_notYours_34 : decode b_Mo_notYours 34 = .ok (.getfield 25, 3) := by decide +kernel
theorem d_Mo_notYours_37 : decode b_Mo_notYours 37 = .ok (.iload_n 1, 1) := by decide +kernel
theorem d_Mo_notYours_38 : decode b_Mo_notYours 38 = .ok (.baload, 1) := by decide +kernel
theorem d_Mo_notYours_39 : decode b_Mo_notYours 39 = .ok (.ifCond .eq 13, 3) := by decide +kernel
theorem d_Mo_notYours_42 : decode b_Mo_notYours 42 = .ok (.aload_n 0, 1) := by decide +kernel
theorem d_Mo_notYours_43 : decode b_Mo_notYours 43 = .ok (.getfield 29, 3) := by decide +kernel
theorem d_Mo_notYours_46 : decode b_Mo_notYours 46 = .ok (.iload_n 2, 1) := by decide +kernel
theorem d_Mo_notYours_47 : decode b_Mo_notYours 47 = .ok (.iaload, 1) := by decide +kernel
theorem d_Mo_notYours_48 : decode b_Mo_notYours 48 = .ok (.iload_n 1, 1) := by decide +kernel
theorem d_Mo_notYours_49 : decode b_Mo_notYours 49 = .ok (.if_icmp .eq 8, 3) := by decide +kernel
theorem d_Mo_notYours_52 : decode b_Mo_notYours 52 = .ok (.aload_n 0, 1) := by decide +kernel
theorem d_Mo_notYours_53 : decode b_Mo_notYours 53 = .ok (.iconst 2, 1) := by decide +kernel
theorem d_Mo_notYours_54 : decode b_Mo_notYours 54 = .ok (.putfield 56, 3) := by decide +kernel
theorem d_Mo_notYours_57 : decode b_Mo_notYours 57 = .ok (.aload_n 0, 1) := by decide +kernel
theorem d_Mo_notYours_58 : decode b_Mo_notYours 58 = .ok (.getfield 56, 3) := by decide +kernel
theorem d_Mo_notYours_61 : decode b_Mo_notYours 61 = .ok (.ifCond .le 7, 3) := by decide +kernel
theorem d_Mo_notYours_64 : decode b_Mo_notYours 64 = .ok (.iconst 1, 1) := by decide +kernel
theorem d_Mo_notYours_65 : decode b_Mo_notYours 65 = .ok (.goto 4, 3) := by decide +kernel
theorem d_Mo_notYours_68 : decode b_Mo_notYours 68 = .ok (.iconst 0, 1) := by decide +kernel
theorem d_Mo_notYours_69 : decode b_Mo_notYours 69 = .ok (.ireturn, 1) := by decide +kernel
theorem d_Mo_free_0 : decode b_Mo_free 0 = .ok (.aload_n 0, 1) := by decide +kernel
theorem d_Mo_free_1 : decode b_Mo_free 1 = .ok (.iload_n 1, 1) := by decide +kernel
theorem d_Mo_free_2 : decode b_Mo_free 2 = .ok (.iload_n 2, 1) := by decide +kernel
theorem d_Mo_free_3 : decode b_Mo_free 3 = .ok (.invokevirtual 110, 3) := by decide +kernel
theorem d_Mo_free_6 : decode b_Mo_free 6 = .ok (.ifCond .eq 4, 3) := by decide +kernel
theorem d_Mo_free_9 : decode b_Mo_free 9 = .ok (.return_, 1) := by decide +kernel
theorem d_Mo_free_10 : decode b_Mo_free 10 = .ok (.aload_n 0, 1) := by decide +kernel
theorem d_Mo_free_11 : decode b_Mo_free 11 = .ok (.iload_n 2, 1) := by decide +kernel
theorem d_Mo_free_12 : decode b_Mo_free 12 = .ok (.invokevirtual 94, 3) := by decide +kernel
theorem d_Mo_free_15 : decode b_Mo_free 15 = .ok (.return_, 1) := by decide +kernel
theorem d_Mo_read_0 : decode b_Mo_read 0 = .ok (.aload_n 0, 1) := by decide +kernel
theorem d_Mo_read_1 : decode b_Mo_read 1 = .ok (.iload_n 1, 1) := by decide +kernel
theorem d_Mo_read_2 : decode b_Mo_read 2 = .ok (.iload_n 2, 1) := by decide +kernel
theorem d_Mo_read_3 : decode b_Mo_read 3 = .ok (.invokevirtual 110, 3) := by decide +kernel
theorem d_Mo_read_6 : decode b_Mo_read 6 = .ok (.ifCond .eq 5, 3) := by decide +kernel
theorem d_Mo_read_9 : decode b_Mo_read 9 = .ok (.iconst 0, 1) := by decide +kernel
theorem d_Mo_read_10 : decode b_Mo_read 10 = .ok (.ireturn, 1) := by decide +kernel
theorem d_Mo_read_11 : decode b_Mo_read 11 = .ok (.iload_n 3, 1) := by decide +kernel
theorem d_Mo_read_12 : decode b_Mo_read 12 = .ok (.ifCond .lt 13, 3) := by decide +kernel
theorem d_Mo_read_15 : decode b_Mo_read 15 = .ok (.iload_n 3, 1) := by decide +kernel
theorem d_Mo_read_16 : decode b_Mo_read 16 = .ok (.aload_n 0, 1) := by decide +kernel
theorem d_Mo_read_17 : decode b_Mo_read 17 = .ok (.getfield 32, 3) := by decide +kernel
theorem d_Mo_read_20 : decode b_Mo_read 20 = .ok (.iload_n 2, 1) := by decide +kernel
theorem d_Mo_read_21 : decode b_Mo_read 21 = .ok (.iaload, 1) := by decide +kernel
theorem d_Mo_read_22 : decode b_Mo_read 22 = .ok (.if_icmp .lt 11, 3) := by decide +kernel
theorem d_Mo_read_25 : decode b_Mo_read 25 = .ok (.aload_n 0, 1) := by decide +kernel
theorem d_Mo_read_26 : decode b_Mo_read 26 = .ok (.iconst 3, 1) := by decide +kernel
theorem d_Mo_read_27 : decode b_Mo_read 27 = .ok (.invokevirtual 71, 3) := by decide +kernel
theorem d_Mo_read_30 : decode b_Mo_read 30 = .ok (.goto 14, 3) := by decide +kernel
theorem d_Mo_read_33 : decode b_Mo_read 33 = .ok (.aload_n 0, 1) := by decide +kernel
theorem d_Mo_read_34 : decode b_Mo_read 34 = .ok (.getfield 35, 3) := by decide +kernel
theorem d_Mo_read_37 : decode b_Mo_read 37 = .ok (.iload_n 2, 1) := by decide +kernel
theorem d_Mo_read_38 : decode b_Mo_read 38 = .ok (.bipush 8, 2) := by decide +kernel
theorem d_Mo_read_40 : decode b_Mo_read 40 = .ok (.imul, 1) := by decide +kernel
theorem d_Mo_read_41 : decode b_Mo_read 41 = .ok (.iload_n 3, 1) := by decide +kernel
theorem d_Mo_read_42 : decode b_Mo_read 42 = .ok (.iadd, 1) := by decide +kernel
theorem d_Mo_read_43 : decode b_Mo_read 43 = .ok (.iaload, 1) := by decide +kernel
theorem d_Mo_read_44 : decode b_Mo_read 44 = .ok (.ireturn, 1) := by decide +kernel
theorem d_Mo_write_0 : decode b_Mo_write 0 = .ok (.aload_n 0, 1) := by decide +kernel
theorem d_Mo_write_1 : decode b_Mo_write 1 = .ok (.iload_n 1, 1) := by decide +kernel
theorem d_Mo_write_2 : decode b_Mo_write 2 = .ok (.iload_n 2, 1) := by decide +kernel
theorem d_Mo_write_3 : decode b_Mo_write 3 = .ok (.invokevirtual 110, 3) := by decide +kernel
theorem d_Mo_write_6 : decode b_Mo_write 6 = .ok (.ifCond .eq 4, 3) := by decide +kernel
theorem d_Mo_write_9 : decode b_Mo_write 9 = .ok (.return_, 1) := by decide +kernel
theorem d_Mo_write_10 : decode b_Mo_write 10 = .ok (.iload_n 3, 1) := by decide +kernel
theorem d_Mo_write_11 : decode b_Mo_write 11 = .ok (.ifCond .lt 13, 3) := by decide +kernel
theorem d_Mo_write_14 : decode b_Mo_write 14 = .ok (.iload_n 3, 1) := by decide +kernel
theorem d_Mo_write_15 : decode b_Mo_write 15 = .ok (.aload_n 0, 1) := by decide +kernel
theorem d_Mo_write_16 : decode b_Mo_write 16 = .ok (.getfield 32, 3) := by decide +kernel
theorem d_Mo_write_19 : decode b_Mo_write 19 = .ok (.iload_n 2, 1) := by decide +kernel
theorem d_Mo_write_20 : decode b_Mo_write 20 = .ok (.iaload, 1) := by decide +kernel
theorem d_Mo_write_21 : decode b_Mo_write 21 = .ok (.if_icmp .lt 11, 3) := by decide +kernel
theorem d_Mo_write_24 : decode b_Mo_write 24 = .ok (.aload_n 0, 1) := by decide +kernel
theorem d_Mo_write_25 : decode b_Mo_write 25 = .ok (.iconst 3, 1) := by decide +kernel
theorem d_Mo_write_26 : decode b_Mo_write 26 = .ok (.putfield 56, 3) := by decide +kernel
theorem d_Mo_write_29 : decode b_Mo_write 29 = .ok (.goto 16, 3) := by decide +kernel
theorem d_Mo_write_32 : decode b_Mo_write 32 = .ok (.aload_n 0, 1) := by decide +kernel
theorem d_Mo_write_33 : decode b_Mo_write 33 = .ok (.getfield 35, 3) := by decide +kernel
theorem d_Mo_write_36 : decode b_Mo_write 36 = .ok (.iload_n 2, 1) := by decide +kernel
theorem d_Mo_write_37 : decode b_Mo_write 37 = .ok (.bipush 8, 2) := by decide +kernel
theorem d_Mo_write_39 : decode b_Mo_write 39 = .ok (.imul, 1) := by decide +kernel
theorem d_Mo_write_40 : decode b_Mo_write 40 = .ok (.iload_n 3, 1) := by decide +kernel
theorem d_Mo_write_41 : decode b_Mo_write 41 = .ok (.iadd, 1) := by decide +kernel
theorem d_Mo_write_42 : decode b_Mo_write 42 = .ok (.iload 4, 2) := by decide +kernel
theorem d_Mo_write_44 : decode b_Mo_write 44 = .ok (.iastore, 1) := by decide +kernel
theorem d_Mo_write_45 : decode b_Mo_write 45 = .ok (.return_, 1) := by decide +kernel
theorem d_Mo_open_0 : decode b_Mo_open 0 = .ok (.aload_n 0, 1) := by decide +kernel
theorem d_Mo_open_1 : decode b_Mo_open 1 = .ok (.iload_n 1, 1) := by decide +kernel
theorem d_Mo_open_2 : decode b_Mo_open 2 = .ok (.iconst 0, 1) := by decide +kernel
theorem d_Mo_open_3 : decode b_Mo_open 3 = .ok (.iconst 3, 1) := by decide +kernel
theorem d_Mo_open_4 : decode b_Mo_open 4 = .ok (.invokestatic 60, 3) := by decide +kernel
theorem d_Mo_open_7 : decode b_Mo_open 7 = .ok (.ifCond .eq 25, 3) := by decide +kernel
theorem d_Mo_open_10 : decode b_Mo_open 10 = .ok (.iload_n 2, 1) := by decide +kernel
theorem d_Mo_open_11 : decode b_Mo_open 11 = .ok (.iconst 0, 1) := by decide +kernel
theorem d_Mo_open_12 : decode b_Mo_open 12 = .ok (.iconst 3, 1) := by decide +kernel
theorem d_Mo_open_13 : decode b_Mo_open 13 = .ok (.invokestatic 60, 3) := by decide +kernel
theorem d_Mo_open_16 : decode b_Mo_open 16 = .ok (.ifCond .eq 16, 3) := by decide +kernel
theorem d_Mo_open_19 : decode b_Mo_open 19 = .ok (.iload_n 3, 1) := by decide +kernel
theorem d_Mo_open_20 : decode b_Mo_open 20 = .ok (.iconst 0, 1) := by decide +kernel
theorem d_Mo_open_21 : decode b_Mo_open 21 = .ok (.iconst 3, 1) := by decide +kernel
theorem d_Mo_open_22 : decode b_Mo_open 22 = .ok (.invokestatic 60, 3) := by decide +kernel
theorem d_Mo_open_25 : decode b_Mo_open 25 = .ok (.ifCond .eq 7, 3) := by decide +kernel
theorem d_Mo_open_28 : decode b_Mo_open 28 = .ok (.iconst 1, 1) := by decide +kernel
theorem d_Mo_open_29 : decode b_Mo_open 29 = .ok (.goto 4, 3) := by decide +kernel
theorem d_Mo_open_32 : decode b_Mo_open 32 = .ok (.iconst 0, 1) := by decide +kernel
theorem d_Mo_open_33 : decode b_Mo_open 33 = .ok (.invokevirtual 64, 3) := by decide +kernel
theorem d_Mo_open_36 : decode b_Mo_open 36 = .ok (.ifCond .eq 5, 3) := by decide +kernel
theorem d_Mo_open_39 : decode b_Mo_open 39 = .ok (.iconst 0, 1) := by decide +kernel
theorem d_Mo_open_40 : decode b_Mo_open 40 = .ok (.ireturn, 1) := by decide +kernel
theorem d_Mo_open_41 : decode b_Mo_open 41 = .ok (.aload_n 0, 1) := by decide +kernel
theorem d_Mo_open_42 : decode b_Mo_open 42 = .ok (.getfield 25, 3) := by decide +kernel
theorem d_Mo_open_45 : decode b_Mo_open 45 = .ok (.iload_n 1, 1) := by decide +kernel
theorem d_Mo_open_46 : decode b_Mo_open 46 = .ok (.baload, 1) := by decide +kernel
theorem d_Mo_open_47 : decode b_Mo_open 47 = .ok (.ifCond .eq 12, 3) := by decide +kernel
theorem d_Mo_open_50 : decode b_Mo_open 50 = .ok (.aload_n 0, 1) := by decide +kernel
theorem d_Mo_open_51 : decode b_Mo_open 51 = .ok (.getfield 25, 3) := by decide +kernel
theorem d_Mo_open_54 : decode b_Mo_open 54 = .ok (.iload_n 2, 1) := by decide +kernel
theorem d_Mo_open_55 : decode b_Mo_open 55 = .ok (.baload, 1) := by decide +kernel
theorem d_Mo_open_56 : decode b_Mo_open 56 = .ok (.ifCond .ne 9, 3) := by decide +kernel
theorem d_Mo_open_59 : decode b_Mo_open 59 = .ok (.aload_n 0, 1) := by decide +kernel
theorem d_Mo_open_60 : decode b_Mo_open 60 = .ok (.iconst 2, 1) := by decide +kernel
theorem d_Mo_open_61 : decode b_Mo_open 61 = .ok (.invokevirtual 71, 3) := by decide +kernel
theorem d_Mo_open_64 : decode b_Mo_open 64 = .ok (.ireturn, 1) := by decide +kernel
theorem d_Mo_open_65 : decode b_Mo_open 65 = .ok (.aload_n 0, 1) := by decide +kernel
theorem d_Mo_open_66 : decode b_Mo_open 66 = .ok (.getfield 16, 3) := by decide +kernel
theorem d_Mo_open_69 : decode b_Mo_open 69 = .ok (.iload_n 3, 1) := by decide +kernel
theorem d_Mo_open_70 : decode b_Mo_open 70 = .ok (.iaload, 1) := by decide +kernel
theorem d_Mo_open_71 : decode b_Mo_open 71 = .ok (.ifCond .ne 9, 3) := by decide +kernel
theorem d_Mo_open_74 : decode b_Mo_open 74 = .ok (.aload_n 0, 1) := by decide +kernel
theorem d_Mo_open_75 : decode b_Mo_open 75 = .ok (.iconst 3, 1) := by decide +kernel
theorem d_Mo_open_76 : decode b_Mo_open 76 = .ok (.invokevirtual 71, 3) := by decide +kernel
theorem d_Mo_open_79 : decode b_Mo_open 79 = .ok (.ireturn, 1) := by decide +kernel
theorem d_Mo_open_80 : decode b_Mo_open 80 = .ok (.iconst 0, 1) := by decide +kernel
theorem d_Mo_open_81 : decode b_Mo_open 81 = .ok (.istore 4, 2) := by decide +kernel
theorem d_Mo_open_83 : decode b_Mo_open 83 = .ok (.iload 4, 2) := by decide +kernel
theorem d_Mo_open_85 : decode b_Mo_open 85 = .ok (.bipush 6, 2) := by decide +kernel
theorem d_Mo_open_87 : decode b_Mo_open 87 = .ok (.if_icmp .ge 35, 3) := by decide +kernel
theorem d_Mo_open_90 : decode b_Mo_open 90 = .ok (.aload_n 0, 1) := by decide +kernel
theorem d_Mo_open_91 : decode b_Mo_open 91 = .ok (.getfield 38, 3) := by decide +kernel
theorem d_Mo_open_94 : decode b_Mo_open 94 = .ok (.iconst 2, 1) := by decide +kernel
theorem d_Mo_open_95 : decode b_Mo_open 95 = .ok (.iload 4, 2) := by decide +kernel
theorem d_Mo_open_97 : decode b_Mo_open 97 = .ok (.imul, 1) := by decide +kernel
theorem d_Mo_open_98 : decode b_Mo_open 98 = .ok (.iaload, 1) := by decide +kernel
theorem d_Mo_open_99 : decode b_Mo_open 99 = .ok (.ifCond .ge 17, 3) := by decide +kernel
theorem d_Mo_open_102 : decode b_Mo_open 102 = .ok (.aload_n 0, 1) := by decide +kernel
theorem d_Mo_open_103 : decode b_Mo_open 103 = .ok (.getfield 38, 3) := by decide +kernel
theorem d_Mo_open_106 : decode b_Mo_open 106 = .ok (.iconst 2, 1) := by decide +kernel
theorem d_Mo_open_107 : decode b_Mo_open 107 = .ok (.iload 4, 2) := by decide +kernel
theorem d_Mo_open_109 : decode b_Mo_open 109 = .ok (.imul, 1) := by decide +kernel
theorem d_Mo_open_110 : decode b_Mo_open 110 = .ok (.iconst 1, 1) := by decide +kernel
theorem d_Mo_open_111 : decode b_Mo_open 111 = .ok (.iadd, 1) := by decide +kernel
theorem d_Mo_open_112 : decode b_Mo_open 112 = .ok (.iaload, 1) := by decide +kernel
theorem d_Mo_open_113 : decode b_Mo_open 113 = .ok (.ifCond .lt 9, 3) := by decide +kernel
theorem d_Mo_open_116 : decode b_Mo_open 116 = .ok (.iinc 4 1, 3) := by decide +kernel
theorem d_Mo_open_119 : decode b_Mo_open 119 = .ok (.goto (-36), 3) := by decide +kernel
theorem d_Mo_open_122 : decode b_Mo_open 122 = .ok (.iload 4, 2) := by decide +kernel
theorem d_Mo_open_124 : decode b_Mo_open 124 = .ok (.bipush 6, 2) := by decide +kernel
theorem d_Mo_open_126 : decode b_Mo_open 126 = .ok (.if_icmp .ne 9, 3) := by decide +kernel
theorem d_Mo_open_129 : decode b_Mo_open 129 = .ok (.aload_n 0, 1) := by decide +kernel
theorem d_Mo_open_130 : decode b_Mo_open 130 = .ok (.iconst 4, 1) := by decide +kernel
theorem d_Mo_open_131 : decode b_Mo_open 131 = .ok (.invokevirtual 71, 3) := by decide +kernel
theorem d_Mo_open_134 : decode b_Mo_open 134 = .ok (.ireturn, 1) := by decide +kernel
theorem d_Mo_open_135 : decode b_Mo_open 135 = .ok (.iconst 0, 1) := by decide +kernel
theorem d_Mo_open_136 : decode b_Mo_open 136 = .ok (.istore 5, 2) := by decide +kernel
theorem d_Mo_open_138 : decode b_Mo_open 138 = .ok (.iload 5, 2) := by decide +kernel
theorem d_Mo_open_140 : decode b_Mo_open 140 = .ok (.bipush 36, 2) := by decide +kernel
theorem d_Mo_open_142 : decode b_Mo_open 142 = .ok (.if_icmp .ge 34, 3) := by decide +kernel
theorem d_Mo_open_145 : decode b_Mo_open 145 = .ok (.aload_n 0, 1) := by decide +kernel
theorem d_Mo_open_146 : decode b_Mo_open 146 = .ok (.getfield 19, 3) := by decide +kernel
theorem d_Mo_open_149 : decode b_Mo_open 149 = .ok (.iload 4, 2) := by decide +kernel
theorem d_Mo_open_151 : decode b_Mo_open 151 = .ok (.bipush 36, 2) := by decide +kernel
theorem d_Mo_open_153 : decode b_Mo_open 153 = .ok (.imul, 1) := by decide +kernel
theorem d_Mo_open_154 : decode b_Mo_open 154 = .ok (.iload 5, 2) := by decide +kernel
theorem d_Mo_open_156 : decode b_Mo_open 156 = .ok (.iadd, 1) := by decide +kernel
theorem d_Mo_open_157 : decode b_Mo_open 157 = .ok (.aload_n 0, 1) := by decide +kernel
theorem d_Mo_open_158 : decode b_Mo_open 158 = .ok (.getfield 13, 3) := by decide +kernel
theorem d_Mo_open_161 : decode b_Mo_open 161 = .ok (.iload_n 3, 1) := by decide +kernel
theorem d_Mo_open_162 : decode b_Mo_open 162 = .ok (.bipush 36, 2) := by decide +kernel
theorem d_Mo_open_164 : decode b_Mo_open 164 = .ok (.imul, 1) := by decide +kernel
theorem d_Mo_open_165 : decode b_Mo_open 165 = .ok (.iload 5, 2) := by decide +kernel
theorem d_Mo_open_167 : decode b_Mo_open 167 = .ok (.iadd, 1) := by decide +kernel
theorem d_Mo_open_168 : decode b_Mo_open 168 = .ok (.iaload, 1) := by decide +kernel
theorem d_Mo_open_169 : decode b_Mo_open 169 = .ok (.iastore, 1) := by decide +kernel
theorem d_Mo_open_170 : decode b_Mo_open 170 = .ok (.iinc 5 1, 3) := by decide +kernel
theorem d_Mo_open_173 : decode b_Mo_open 173 = .ok (.goto (-35), 3) := by decide +kernel
theorem d_Mo_open_176 : decode b_Mo_open 176 = .ok (.aload_n 0, 1) := by decide +kernel
theorem d_Mo_open_177 : decode b_Mo_open 177 = .ok (.getfield 22, 3) := by decide +kernel
theorem d_Mo_open_180 : decode b_Mo_open 180 = .ok (.iload 4, 2) := by decide +kernel
theorem d_Mo_open_182 : decode b_Mo_open 182 = .ok (.aload_n 0, 1) := by decide +kernel
theorem d_Mo_open_183 : decode b_Mo_open 183 = .ok (.getfield 16, 3) := by decide +kernel
theorem d_Mo_open_186 : decode b_Mo_open 186 = .ok (.iload_n 3, 1) := by decide +kernel
theorem d_Mo_open_187 : decode b_Mo_open 187 = .ok (.iaload, 1) := by decide +kernel
theorem d_Mo_open_188 : decode b_Mo_open 188 = .ok (.iastore, 1) := by decide +kernel
theorem d_Mo_open_189 : decode b_Mo_open 189 = .ok (.aload_n 0, 1) := by decide +kernel
theorem d_Mo_open_190 : decode b_Mo_open 190 = .ok (.getfield 38, 3) := by decide +kernel
theorem d_Mo_open_193 : decode b_Mo_open 193 = .ok (.iconst 2, 1) := by decide +kernel
theorem d_Mo_open_194 : decode b_Mo_open 194 = .ok (.iload 4, 2) := by decide +kernel
theorem d_Mo_open_196 : decode b_Mo_open 196 = .ok (.imul, 1) := by decide +kernel
theorem d_Mo_open_197 : decode b_Mo_open 197 = .ok (.iload_n 1, 1) := by decide +kernel
theorem d_Mo_open_198 : decode b_Mo_open 198 = .ok (.iastore, 1) := by decide +kernel
theorem d_Mo_open_199 : decode b_Mo_open 199 = .ok (.aload_n 0, 1) := by decide +kernel
theorem d_Mo_open_200 : decode b_Mo_open 200 = .ok (.getfield 38, 3) := by decide +kernel
theorem d_Mo_open_203 : decode b_Mo_open 203 = .ok (.iconst 2, 1) := by decide +kernel
theorem d_Mo_open_204 : decode b_Mo_open 204 = .ok (.iload 4, 2) := by decide +kernel
theorem d_Mo_open_206 : decode b_Mo_open 206 = .ok (.imul, 1) := by decide +kernel
theorem d_Mo_open_207 : decode b_Mo_open 207 = .ok (.iconst 1, 1) := by decide +kernel
theorem d_Mo_open_208 : decode b_Mo_open 208 = .ok (.iadd, 1) := by decide +kernel
theorem d_Mo_open_209 : decode b_Mo_open 209 = .ok (.iload_n 2, 1) := by decide +kernel
theorem d_Mo_open_210 : decode b_Mo_open 210 = .ok (.iastore, 1) := by decide +kernel
theorem d_Mo_open_211 : decode b_Mo_open 211 = .ok (.iconst 2, 1) := by decide +kernel
theorem d_Mo_open_212 : decode b_Mo_open 212 = .ok (.iload 4, 2) := by decide +kernel
theorem d_Mo_open_214 : decode b_Mo_open 214 = .ok (.imul, 1) := by decide +kernel
theorem d_Mo_open_215 : decode b_Mo_open 215 = .ok (.istore 5, 2) := by decide +kernel
theorem d_Mo_open_217 : decode b_Mo_open 217 = .ok (.iload 5, 2) := by decide +kernel
theorem d_Mo_open_219 : decode b_Mo_open 219 = .ok (.iconst 2, 1) := by decide +kernel
theorem d_Mo_open_220 : decode b_Mo_open 220 = .ok (.iload 4, 2) := by decide +kernel
theorem d_Mo_open_222 : decode b_Mo_open 222 = .ok (.imul, 1) := by decide +kernel
theorem d_Mo_open_223 : decode b_Mo_open 223 = .ok (.iconst 2, 1) := by decide +kernel
theorem d_Mo_open_224 : decode b_Mo_open 224 = .ok (.iadd, 1) := by decide +kernel
theorem d_Mo_open_225 : decode b_Mo_open 225 = .ok (.if_icmp .ge 25, 3) := by decide +kernel
theorem d_Mo_open_228 : decode b_Mo_open 228 = .ok (.aload_n 0, 1) := by decide +kernel
theorem d_Mo_open_229 : decode b_Mo_open 229 = .ok (.getfield 41, 3) := by decide +kernel
theorem d_Mo_open_232 : decode b_Mo_open 232 = .ok (.iload 5, 2) := by decide +kernel
theorem d_Mo_open_234 : decode b_Mo_open 234 = .ok (.iconst 1, 1) := by decide +kernel
theorem d_Mo_open_235 : decode b_Mo_open 235 = .ok (.iastore, 1) := by decide +kernel
theorem d_Mo_open_236 : decode b_Mo_open 236 = .ok (.aload_n 0, 1) := by decide +kernel
theorem d_Mo_open_237 : decode b_Mo_open 237 = .ok (.getfield 44, 3) := by decide +kernel
theorem d_Mo_open_240 : decode b_Mo_open 240 = .ok (.iload 5, 2) := by decide +kernel
theorem d_Mo_open_242 : decode b_Mo_open 242 = .ok (.iconst 0, 1) := by decide +kernel
theorem d_Mo_open_243 : decode b_Mo_open 243 = .ok (.iastore, 1) := by decide +kernel
theorem d_Mo_open_244 : decode b_Mo_open 244 = .ok (.iinc 5 1, 3) := by decide +kernel
theorem d_Mo_open_247 : decode b_Mo_open 247 = .ok (.goto (-30), 3) := by decide +kernel
theorem d_Mo_open_250 : decode b_Mo_open 250 = .ok (.iload 4, 2) := by decide +kernel
theorem d_Mo_open_252 : decode b_Mo_open 252 = .ok (.ireturn, 1) := by decide +kernel
theorem d_Mo_notYourEnd_0 : decode b_Mo_notYourEnd 0 = .ok (.aload_n 0, 1) := by decide +kernel
theorem d_Mo_notYourEnd_1 : decode b_Mo_notYourEnd 1 = .ok (.iload_n 1, 1) := by decide +kernel
theorem d_Mo_notYourEnd_2 : decode b_Mo_notYourEnd 2 = .ok (.iconst 0, 1) := by decide +kernel
theorem d_Mo_notYourEnd_3 : decode b_Mo_notYourEnd 3 = .ok (.iconst 3, 1) := by decide +kernel
theorem d_Mo_notYourEnd_4 : decode b_Mo_notYourEnd 4 = .ok (.invokestatic 60, 3) := by decide +kernel
theorem d_Mo_notYourEnd_7 : decode b_Mo_notYourEnd 7 = .ok (.ifCond .eq 17, 3) := by decide +kernel
theorem d_Mo_notYourEnd_10 : decode b_Mo_notYourEnd 10 = .ok (.iload_n 2, 1) := by decide +kernel
theorem d_Mo_notYourEnd_11 : decode b_Mo_notYourEnd 11 = .ok (.iconst 0, 1) := by decide +kernel
theorem d_Mo_notYourEnd_12 : decode b_Mo_notYourEnd 12 = .ok (.bipush 11, 2) := by decide +kernel
theorem d_Mo_notYourEnd_14 : decode b_Mo_notYourEnd 14 = .ok (.invokestatic 60, 3) := by decide +kernel
theorem d_Mo_notYourEnd_17 : decode b_Mo_notYourEnd 17 = .ok (.ifCond .eq 7, 3) := by decide +kernel
theorem d_Mo_notYourEnd_20 : decode b_Mo_notYourEnd 20 = .ok (.iconst 1, 1) := by decide +kernel
theorem d_Mo_notYourEnd_21 : decode b_Mo_notYourEnd 21 = .ok (.goto 4, 3) := by decide +kernel
theorem d_Mo_notYourEnd_24 : decode b_Mo_notYourEnd 24 = .ok (.iconst 0, 1) := by decide +kernel
theorem d_Mo_notYourEnd_25 : decode b_Mo_notYourEnd 25 = .ok (.invokevirtual 64, 3) := by decide +kernel
theorem d_Mo_notYourEnd_28 : decode b_Mo_notYourEnd 28 = .ok (.ifCond .eq 5, 3) := by decide +kernel
theorem d_Mo_notYourEnd_31 : decode b_Mo_notYourEnd 31 = .ok (.iconst 1, 1) := by decide +kernel
theorem d_Mo_notYourEnd_32 : decode b_Mo_notYourEnd 32 = .ok (.ireturn, 1) := by decide +kernel
theorem d_Mo_notYourEnd_33 : decode b_Mo_notYourEnd 33 = .ok (.aload_n 0, 1) := by decide +kernel
theorem d_Mo_notYourEnd_34 : decode b_Mo_notYourEnd 34 = .ok (.getfield 25, 3) := by decide +kernel
theorem d_Mo_notYourEnd_37 : decode b_Mo_notYourEnd 37 = .ok (.iload_n 1, 1) := by decide +kernel
theorem d_Mo_notYourEnd_38 : decode b_Mo_notYourEnd 38 = .ok (.baload, 1) := by decide +kernel
theorem d_Mo_notYourEnd_39 : decode b_Mo_notYourEnd 39 = .ok (.ifCond .eq 13, 3) := by decide +kernel
theorem d_Mo_notYourEnd_42 : decode b_Mo_notYourEnd 42 = .ok (.aload_n 0, 1) := by decide +kernel
theorem d_Mo_notYourEnd_43 : decode b_Mo_notYourEnd 43 = .ok (.getfield 38, 3) := by decide +kernel
theorem d_Mo_notYourEnd_46 : decode b_Mo_notYourEnd 46 = .ok (.iload_n 2, 1) := by decide +kernel
theorem d_Mo_notYourEnd_47 : decode b_Mo_notYourEnd 47 = .ok (.iaload, 1) := by decide +kernel
theorem d_Mo_notYourEnd_48 : decode b_Mo_notYourEnd 48 = .ok (.iload_n 1, 1) := by decide +kernel
theorem d_Mo_notYourEnd_49 : decode b_Mo_notYourEnd 49 = .ok (.if_icmp .eq 8, 3) := by decide +kernel
theorem d_Mo_notYourEnd_52 : decode b_Mo_notYourEnd 52 = .ok (.aload_n 0, 1) := by decide +kernel
theorem d_Mo_notYourEnd_53 : decode b_Mo_notYourEnd 53 = .ok (.iconst 2, 1) := by decide +kernel
theorem d_Mo_notYourEnd_54 : decode b_Mo_notYourEnd 54 = .ok (.putfield 56, 3) := by decide +kernel
theorem d_Mo_notYourEnd_57 : decode b_Mo_notYourEnd 57 = .ok (.aload_n 0, 1) := by decide +kernel
theorem d_Mo_notYourEnd_58 : decode b_Mo_notYourEnd 58 = .ok (.getfield 56, 3) := by decide +kernel
theorem d_Mo_notYourEnd_61 : decode b_Mo_notYourEnd 61 = .ok (.ifCond .le 7, 3) := by decide +kernel
theorem d_Mo_notYourEnd_64 : decode b_Mo_notYourEnd 64 = .ok (.iconst 1, 1) := by decide +kernel
theorem d_Mo_notYourEnd_65 : decode b_Mo_notYourEnd 65 = .ok (.goto 4, 3) := by decide +kernel
theorem d_Mo_notYourEnd_68 : decode b_Mo_notYourEnd 68 = .ok (.iconst 0, 1) := by decide +kernel
theorem d_Mo_notYourEnd_69 : decode b_Mo_notYourEnd 69 = .ok (.ireturn, 1) := by decide +kernel
theorem d_Mo_say_0 : decode b_Mo_say 0 = .ok (.aload_n 0, 1) := by decide +kernel
theorem d_Mo_say_1 : decode b_Mo_say 1 = .ok (.iload_n 1, 1) := by decide +kernel
theorem d_Mo_say_2 : decode b_Mo_say 2 = .ok (.iconst 0, 1) := by decide +kernel
theorem d_Mo_say_3 : decode b_Mo_say 3 = .ok (.iconst 3, 1) := by decide +kernel
theorem d_Mo_say_4 : decode b_Mo_say 4 = .ok (.invokestatic 60, 3) := by decide +kernel
theorem d_Mo_say_7 : decode b_Mo_say 7 = .ok (.ifCond .eq 27, 3) := by decide +kernel
theorem d_Mo_say_10 : decode b_Mo_say 10 = .ok (.iload_n 2, 1) := by decide +kernel
theorem d_Mo_say_11 : decode b_Mo_say 11 = .ok (.iconst 0, 1) := by decide +kernel
theorem d_Mo_say_12 : decode b_Mo_say 12 = .ok (.bipush 11, 2) := by decide +kernel
theorem d_Mo_say_14 : decode b_Mo_say 14 = .ok (.invokestatic 60, 3) := by decide +kernel
theorem d_Mo_say_17 : decode b_Mo_say 17 = .ok (.ifCond .eq 17, 3) := by decide +kernel
theorem d_Mo_say_20 : decode b_Mo_say 20 = .ok (.iload_n 3, 1) := by decide +kernel
theorem d_Mo_say_21 : decode b_Mo_say 21 = .ok (.iconst 0, 1) := by decide +kernel
theorem d_Mo_say_22 : decode b_Mo_say 22 = .ok (.bipush 6, 2) := by decide +kernel
theorem d_Mo_say_24 : decode b_Mo_say 24 = .ok (.invokestatic 60, 3) := by decide +kernel
theorem d_Mo_say_27 : decode b_Mo_say 27 = .ok (.ifCond .eq 7, 3) := by decide +kernel
theorem d_Mo_say_30 : decode b_Mo_say 30 = .ok (.iconst 1, 1) := by decide +kernel
theorem d_Mo_say_31 : decode b_Mo_say 31 = .ok (.goto 4, 3) := by decide +kernel
theorem d_Mo_say_34 : decode b_Mo_say 34 = .ok (.iconst 0, 1) := by decide +kernel
theorem d_Mo_say_35 : decode b_Mo_say 35 = .ok (.invokevirtual 64, 3) := by decide +kernel
theorem d_Mo_say_38 : decode b_Mo_say 38 = .ok (.ifCond .ne 12, 3) := by decide +kernel
theorem d_Mo_say_41 : decode b_Mo_say 41 = .ok (.aload_n 0, 1) := by decide +kernel
theorem d_Mo_say_42 : decode b_Mo_say 42 = .ok (.iload_n 1, 1) := by decide +kernel
theorem d_Mo_say_43 : decode b_Mo_say 43 = .ok (.iload_n 2, 1) := by decide +kernel
theorem d_Mo_say_44 : decode b_Mo_say 44 = .ok (.invokevirtual 114, 3) := by decide +kernel
theorem d_Mo_say_47 : decode b_Mo_say 47 = .ok (.ifCond .eq 4, 3) := by decide +kernel
theorem d_Mo_say_50 : decode b_Mo_say 50 = .ok (.return_, 1) := by decide +kernel
theorem d_Mo_say_51 : decode b_Mo_say 51 = .ok (.iload_n 2, 1) := by decide +kernel
theorem d_Mo_say_52 : decode b_Mo_say 52 = .ok (.iconst 1, 1) := by decide +kernel
theorem d_Mo_say_53 : decode b_Mo_say 53 = .ok (.ixor, 1) := by decide +kernel
theorem d_Mo_say_54 : decode b_Mo_say 54 = .ok (.istore 5, 2) := by decide +kernel
theorem d_Mo_say_56 : decode b_Mo_say 56 = .ok (.iload_n 3, 1) := by decide +kernel
theorem d_Mo_say_57 : decode b_Mo_say 57 = .ok (.iconst 3, 1) := by decide +kernel
theorem d_Mo_say_58 : decode b_Mo_say 58 = .ok (.if_icmp .lt 72, 3) := by decide +kernel
theorem d_Mo_say_61 : decode b_Mo_say 61 = .ok (.iload_n 3, 1) := by decide +kernel
theorem d_Mo_say_62 : decode b_Mo_say 62 = .ok (.bipush 6, 2) := by decide +kernel
theorem d_Mo_say_64 : decode b_Mo_say 64 = .ok (.if_icmp .ge 25, 3) := by decide +kernel
theorem d_Mo_say_67 : decode b_Mo_say 67 = .ok (.iload 4, 2) := by decide +kernel
theorem d_Mo_say_69 : decode b_Mo_say 69 = .ok (.iconst 0, 1) := by decide +kernel
theorem d_Mo_say_70 : decode b_Mo_say 70 = .ok (.bipush 11, 2) := by decide +kernel
theorem d_Mo_say_72 : decode b_Mo_say 72 = .ok (.invokestatic 60, 3) := by decide +kernel
theorem d_Mo_say_75 : decode b_Mo_say 75 = .ok (.ifCond .eq 14, 3) := by decide +kernel
theorem d_Mo_say_78 : decode b_Mo_say 78 = .ok (.aload_n 0, 1) := by decide +kernel
theorem d_Mo_say_79 : decode b_Mo_say 79 = .ok (.getfield 29, 3) := by decide +kernel
theorem d_Mo_say_82 : decode b_Mo_say 82 = .ok (.iload 4, 2) := by decide +kernel
theorem d_Mo_say_84 : decode b_Mo_say 84 = .ok (.iaload, 1) := by decide +kernel
theorem d_Mo_say_85 : decode b_Mo_say 85 = .ok (.iload_n 1, 1) := by decide +kernel
theorem d_Mo_say_86 : decode b_Mo_say 86 = .ok (.if_icmp .eq 44, 3) := by decide +kernel
theorem d_Mo_say_89 : decode b_Mo_say 89 = .ok (.iload_n 3, 1) := by decide +kernel
theorem d_Mo_say_90 : decode b_Mo_say 90 = .ok (.bipush 6, 2) := by decide +kernel
theorem d_Mo_say_92 : decode b_Mo_say 92 = .ok (.if_icmp .ne 42, 3) := by decide +kernel
theorem d_Mo_say_95 : decode b_Mo_say 95 = .ok (.iload 4, 2) := by decide +kernel
theorem d_Mo_say_97 : decode b_Mo_say 97 = .ok (.iconst 0, 1) := by decide +kernel
theorem d_Mo_say_98 : decode b_Mo_say 98 = .ok (.bipush 11, 2) := by decide +kernel
theorem d_Mo_say_100 : decode b_Mo_say 100 = .ok (.invokestatic 60, 3) := by decide +kernel
theorem d_Mo_say_103 : decode b_Mo_say 103 = .ok (.ifCond .eq 31, 3) := by decide +kernel
theorem d_Mo_say_106 : decode b_Mo_say 106 = .ok (.aload_n 0, 1) := by decide +kernel
theorem d_Mo_say_107 : decode b_Mo_say 107 = .ok (.getfield 38, 3) := by decide +kernel
theorem d_Mo_say_110 : decode b_Mo_say 110 = .ok (.iload 4, 2) := by decide +kernel
theorem d_Mo_say_112 : decode b_Mo_say 112 = .ok (.iaload, 1) := by decide +kernel
theorem d_Mo_say_113 : decode b_Mo_say 113 = .ok (.iload_n 1, 1) := by decide +kernel
theorem d_Mo_say_114 : decode b_Mo_say 114 = .ok (.if_icmp .ne 20, 3) := by decide +kernel
theorem d_Mo_say_117 : decode b_Mo_say 117 = .ok (.iload 4, 2) := by decide +kernel
theorem d_Mo_say_119 : decode b_Mo_say 119 = .ok (.iload_n 2, 1) := by decide +kernel
theorem d_Mo_say_120 : decode b_Mo_say 120 = .ok (.if_icmp .eq 14, 3) := by decide +kernel
theorem d_Mo_say_123 : decode b_Mo_say 123 = .ok (.iload 4, 2) := by decide +kernel
theorem d_Mo_say_125 : decode b_Mo_say 125 = .ok (.iload 5, 2) := by decide +kernel
theorem d_Mo_say_127 : decode b_Mo_say 127 = .ok (.if_icmp .eq 7, 3) := by decide +kernel
theorem d_Mo_say_130 : decode b_Mo_say 130 = .ok (.iconst 1, 1) := by decide +kernel
theorem d_Mo_say_131 : decode b_Mo_say 131 = .ok (.goto 4, 3) := by decide +kernel
theorem d_Mo_say_134 : decode b_Mo_say 134 = .ok (.iconst 0, 1) := by decide +kernel
theorem d_Mo_say_135 : decode b_Mo_say 135 = .ok (.istore 6, 2) := by decide +kernel
theorem d_Mo_say_137 : decode b_Mo_say 137 = .ok (.aload_n 0, 1) := by decide +kernel
theorem d_Mo_say_138 : decode b_Mo_say 138 = .ok (.iload_n 2, 1) := by decide +kernel
theorem d_Mo_say_139 : decode b_Mo_say 139 = .ok (.iload_n 3, 1) := by decide +kernel
theorem d_Mo_say_140 : decode b_Mo_say 140 = .ok (.iload_n 2, 1) := by decide +kernel
theorem d_Mo_say_141 : decode b_Mo_say 141 = .ok (.iconst 2, 1) := by decide +kernel
theorem d_Mo_say_142 : decode b_Mo_say 142 = .ok (.irem, 1) := by decide +kernel
theorem d_Mo_say_143 : decode b_Mo_say 143 = .ok (.invokevirtual 117, 3) := by decide +kernel
theorem d_Mo_say_146 : decode b_Mo_say 146 = .ok (.ifCond .eq 8, 3) := by decide +kernel
theorem d_Mo_say_149 : decode b_Mo_say 149 = .ok (.iload 6, 2) := by decide +kernel
theorem d_Mo_say_151 : decode b_Mo_say 151 = .ok (.ifCond .ne 11, 3) := by decide +kernel
theorem d_Mo_say_154 : decode b_Mo_say 154 = .ok (.aload_n 0, 1) := by decide +kernel
theorem d_Mo_say_155 : decode b_Mo_say 155 = .ok (.iconst 2, 1) := by decide +kernel
theorem d_Mo_say_156 : decode b_Mo_say 156 = .ok (.putfield 56, 3) := by decide +kernel
theorem d_Mo_say_159 : decode b_Mo_say 159 = .ok (.goto 37, 3) := by decide +kernel
theorem d_Mo_say_162 : decode b_Mo_say 162 = .ok (.aload_n 0, 1) := by decide +kernel
theorem d_Mo_say_163 : decode b_Mo_say 163 = .ok (.getfield 38, 3) := by decide +kernel
theorem d_Mo_say_166 : decode b_Mo_say 166 = .ok (.iload 5, 2) := by decide +kernel
theorem d_Mo_say_168 : decode b_Mo_say 168 = .ok (.iaload, 1) := by decide +kernel
theorem d_Mo_say_169 : decode b_Mo_say 169 = .ok (.ifCond .ge 11, 3) := by decide +kernel
theorem d_Mo_say_172 : decode b_Mo_say 172 = .ok (.aload_n 0, 1) := by decide +kernel
theorem d_Mo_say_173 : decode b_Mo_say 173 = .ok (.iconst 3, 1) := by decide +kernel
theorem d_Mo_say_174 : decode b_Mo_say 174 = .ok (.putfield 56, 3) := by decide +kernel
theorem d_Mo_say_177 : decode b_Mo_say 177 = .ok (.goto 19, 3) := by decide +kernel
theorem d_Mo_say_180 : decode b_Mo_say 180 = .ok (.aload_n 0, 1) := by decide +kernel
theorem d_Mo_say_181 : decode b_Mo_say 181 = .ok (.getfield 44, 3) := by decide +kernel
theorem d_Mo_say_184 : decode b_Mo_say 184 = .ok (.iload 5, 2) := by decide +kernel
theorem d_Mo_say_186 : decode b_Mo_say 186 = .ok (.iaload, 1) := by decide +kernel
theorem d_Mo_say_187 : decode b_Mo_say 187 = .ok (.iconst 3, 1) := by decide +kernel
theorem d_Mo_say_188 : decode b_Mo_say 188 = .ok (.if_icmp .ne 8, 3) := by decide +kernel
theorem d_Mo_say_191 : decode b_Mo_say 191 = .ok (.aload_n 0, 1) := by decide +kernel
theorem d_Mo_say_192 : decode b_Mo_say 192 = .ok (.iconst 2, 1) := by decide +kernel
theorem d_Mo_say_193 : decode b_Mo_say 193 = .ok (.putfield 56, 3) := by decide +kernel
theorem d_Mo_say_196 : decode b_Mo_say 196 = .ok (.aload_n 0, 1) := by decide +kernel
theorem d_Mo_say_197 : decode b_Mo_say 197 = .ok (.getfield 56, 3) := by decide +kernel
theorem d_Mo_say_200 : decode b_Mo_say 200 = .ok (.ifCond .le 4, 3) := by decide +kernel
theorem d_Mo_say_203 : decode b_Mo_say 203 = .ok (.return_, 1) := by decide +kernel
theorem d_Mo_say_204 : decode b_Mo_say 204 = .ok (.aload_n 0, 1) := by decide +kernel
theorem d_Mo_say_205 : decode b_Mo_say 205 = .ok (.getfield 41, 3) := by decide +kernel
theorem d_Mo_say_208 : decode b_Mo_say 208 = .ok (.iload_n 2, 1) := by decide +kernel
theorem d_Mo_say_209 : decode b_Mo_say 209 = .ok (.aload_n 0, 1) := by decide +kernel
theorem d_Mo_say_210 : decode b_Mo_say 210 = .ok (.getfield 82, 3) := by decide +kernel
theorem d_Mo_say_213 : decode b_Mo_say 213 = .ok (.iastore, 1) := by decide +kernel
theorem d_Mo_say_214 : decode b_Mo_say 214 = .ok (.aload_n 0, 1) := by decide +kernel
theorem d_Mo_say_215 : decode b_Mo_say 215 = .ok (.getfield 47, 3) := by decide +kernel
theorem d_Mo_say_218 : decode b_Mo_say 218 = .ok (.iload 5, 2) := by decide +kernel
theorem d_Mo_say_220 : decode b_Mo_say 220 = .ok (.iconst 3, 1) := by decide +kernel
theorem d_Mo_say_221 : decode b_Mo_say 221 = .ok (.imul, 1) := by decide +kernel
theorem d_Mo_say_222 : decode b_Mo_say 222 = .ok (.aload_n 0, 1) := by decide +kernel
theorem d_Mo_say_223 : decode b_Mo_say 223 = .ok (.getfield 44, 3) := by decide +kernel
theorem d_Mo_say_226 : decode b_Mo_say 226 = .ok (.iload 5, 2) := by decide +kernel
theorem d_Mo_say_228 : decode b_Mo_say 228 = .ok (.iaload, 1) := by decide +kernel
theorem d_Mo_say_229 : decode b_Mo_say 229 = .ok (.iadd, 1) := by decide +kernel
theorem d_Mo_say_230 : decode b_Mo_say 230 = .ok (.iload_n 3, 1) := by decide +kernel
theorem d_Mo_say_231 : decode b_Mo_say 231 = .ok (.iastore, 1) := by decide +kernel
theorem d_Mo_say_232 : decode b_Mo_say 232 = .ok (.aload_n 0, 1) := by decide +kernel
theorem d_Mo_say_233 : decode b_Mo_say 233 = .ok (.getfield 50, 3) := by decide +kernel
theorem d_Mo_say_236 : decode b_Mo_say 236 = .ok (.iload 5, 2) := by decide +kernel
theorem d_Mo_say_238 : decode b_Mo_say 238 = .ok (.iconst 3, 1) := by decide +kernel
theorem d_Mo_say_239 : decode b_Mo_say 239 = .ok (.imul, 1) := by decide +kernel
theorem d_Mo_say_240 : decode b_Mo_say 240 = .ok (.aload_n 0, 1) := by decide +kernel
theorem d_Mo_say_241 : decode b_Mo_say 241 = .ok (.getfield 44, 3) := by decide +kernel
theorem d_Mo_say_244 : decode b_Mo_say 244 = .ok (.iload 5, 2) := by decide +kernel
theorem d_Mo_say_246 : decode b_Mo_say 246 = .ok (.iaload, 1) := by decide +kernel
theorem d_Mo_say_247 : decode b_Mo_say 247 = .ok (.iadd, 1) := by decide +kernel
theorem d_Mo_say_248 : decode b_Mo_say 248 = .ok (.iload 4, 2) := by decide +kernel
theorem d_Mo_say_250 : decode b_Mo_say 250 = .ok (.iastore, 1) := by decide +kernel
theorem d_Mo_say_251 : decode b_Mo_say 251 = .ok (.aload_n 0, 1) := by decide +kernel
theorem d_Mo_say_252 : decode b_Mo_say 252 = .ok (.getfield 44, 3) := by decide +kernel
theorem d_Mo_say_255 : decode b_Mo_say 255 = .ok (.iload 5, 2) := by decide +kernel
theorem d_Mo_say_257 : decode b_Mo_say 257 = .ok (.dup2, 1) := by decide +kernel
theorem d_Mo_say_258 : decode b_Mo_say 258 = .ok (.iaload, 1) := by decide +kernel
theorem d_Mo_say_259 : decode b_Mo_say 259 = .ok (.iconst 1, 1) := by decide +kernel
theorem d_Mo_say_260 : decode b_Mo_say 260 = .ok (.iadd, 1) := by decide +kernel
theorem d_Mo_say_261 : decode b_Mo_say 261 = .ok (.iastore, 1) := by decide +kernel
theorem d_Mo_say_262 : decode b_Mo_say 262 = .ok (.iload_n 3, 1) := by decide +kernel
theorem d_Mo_say_263 : decode b_Mo_say 263 = .ok (.bipush 6, 2) := by decide +kernel
theorem d_Mo_say_265 : decode b_Mo_say 265 = .ok (.if_icmp .ne 14, 3) := by decide +kernel
theorem d_Mo_say_268 : decode b_Mo_say 268 = .ok (.aload_n 0, 1) := by decide +kernel
theorem d_Mo_say_269 : decode b_Mo_say 269 = .ok (.getfield 38, 3) := by decide +kernel
theorem d_Mo_say_272 : decode b_Mo_say 272 = .ok (.iload 4, 2) := by decide +kernel
theorem d_Mo_say_274 : decode b_Mo_say 274 = .ok (.iconst 4, 1) := by decide +kernel
theorem d_Mo_say_275 : decode b_Mo_say 275 = .ok (.iastore, 1) := by decide +kernel
theorem d_Mo_say_276 : decode b_Mo_say 276 = .ok (.goto 16, 3) := by decide +kernel
theorem d_Mo_say_279 : decode b_Mo_say 279 = .ok (.iload_n 3, 1) := by decide +kernel
theorem d_Mo_say_280 : decode b_Mo_say 280 = .ok (.iconst 2, 1) := by decide +kernel
theorem d_Mo_say_281 : decode b_Mo_say 281 = .ok (.if_icmp .le 11, 3) := by decide +kernel
theorem d_Mo_say_284 : decode b_Mo_say 284 = .ok (.aload_n 0, 1) := by decide +kernel
theorem d_Mo_say_285 : decode b_Mo_say 285 = .ok (.getfield 29, 3) := by decide +kernel
theorem d_Mo_say_288 : decode b_Mo_say 288 = .ok (.iload 4, 2) := by decide +kernel
theorem d_Mo_say_290 : decode b_Mo_say 290 = .ok (.iconst 4, 1) := by decide +kernel
theorem d_Mo_say_291 : decode b_Mo_say 291 = .ok (.iastore, 1) := by decide +kernel
theorem d_Mo_say_292 : decode b_Mo_say 292 = .ok (.aload_n 0, 1) := by decide +kernel
theorem d_Mo_say_293 : decode b_Mo_say 293 = .ok (.dup, 1) := by decide +kernel
theorem d_Mo_say_294 : decode b_Mo_say 294 = .ok (.getfield 120, 3) := by decide +kernel
theorem d_Mo_say_297 : decode b_Mo_say 297 = .ok (.iconst 1, 1) := by decide +kernel
theorem d_Mo_say_298 : decode b_Mo_say 298 = .ok (.iadd, 1) := by decide +kernel
theorem d_Mo_say_299 : decode b_Mo_say 299 = .ok (.putfield 120, 3) := by decide +kernel
theorem d_Mo_say_302 : decode b_Mo_say 302 = .ok (.return_, 1) := by decide +kernel
theorem d_Mo_hear_0 : decode b_Mo_hear 0 = .ok (.aload_n 0, 1) := by decide +kernel
theorem d_Mo_hear_1 : decode b_Mo_hear 1 = .ok (.iload_n 1, 1) := by decide +kernel
theorem d_Mo_hear_2 : decode b_Mo_hear 2 = .ok (.iload_n 2, 1) := by decide +kernel
theorem d_Mo_hear_3 : decode b_Mo_hear 3 = .ok (.invokevirtual 114, 3) := by decide +kernel
theorem d_Mo_hear_6 : decode b_Mo_hear 6 = .ok (.ifCond .eq 5, 3) := by decide +kernel
theorem d_Mo_hear_9 : decode b_Mo_hear 9 = .ok (.iconst 0, 1) := by decide +kernel
theorem d_Mo_hear_10 : decode b_Mo_hear 10 = .ok (.ireturn, 1) := by decide +kernel
theorem d_Mo_hear_11 : decode b_Mo_hear 11 = .ok (.aload_n 0, 1) := by decide +kernel
theorem d_Mo_hear_12 : decode b_Mo_hear 12 = .ok (.getfield 44, 3) := by decide +kernel
theorem d_Mo_hear_15 : decode b_Mo_hear 15 = .ok (.iload_n 2, 1) := by decide +kernel
theorem d_Mo_hear_16 : decode b_Mo_hear 16 = .ok (.iaload, 1) := by decide +kernel
theorem d_Mo_hear_17 : decode b_Mo_hear 17 = .ok (.ifCond .ne 9, 3) := by decide +kernel
theorem d_Mo_hear_20 : decode b_Mo_hear 20 = .ok (.aload_n 0, 1) := by decide +kernel
theorem d_Mo_hear_21 : decode b_Mo_hear 21 = .ok (.iconst 3, 1) := by decide +kernel
theorem d_Mo_hear_22 : decode b_Mo_hear 22 = .ok (.invokevirtual 71, 3) := by decide +kernel
theorem d_Mo_hear_25 : decode b_Mo_hear 25 = .ok (.ireturn, 1) := by decide +kernel
theorem d_Mo_hear_26 : decode b_Mo_hear 26 = .ok (.aload_n 0, 1) := by decide +kernel
theorem d_Mo_hear_27 : decode b_Mo_hear 27 = .ok (.getfield 47, 3) := by decide +kernel
theorem d_Mo_hear_30 : decode b_Mo_hear 30 = .ok (.iload_n 2, 1) := by decide +kernel
theorem d_Mo_hear_31 : decode b_Mo_hear 31 = .ok (.iconst 3, 1) := by decide +kernel
theorem d_Mo_hear_32 : decode b_Mo_hear 32 = .ok (.imul, 1) := by decide +kernel
theorem d_Mo_hear_33 : decode b_Mo_hear 33 = .ok (.iaload, 1) := by decide +kernel
theorem d_Mo_hear_34 : decode b_Mo_hear 34 = .ok (.istore_n 3, 1) := by decide +kernel
theorem d_Mo_hear_35 : decode b_Mo_hear 35 = .ok (.aload_n 0, 1) := by decide +kernel
theorem d_Mo_hear_36 : decode b_Mo_hear 36 = .ok (.getfield 50, 3) := by decide +kernel
theorem d_Mo_hear_39 : decode b_Mo_hear 39 = .ok (.iload_n 2, 1) := by decide +kernel
theorem d_Mo_hear_40 : decode b_Mo_hear 40 = .ok (.iconst 3, 1) := by decide +kernel
theorem d_Mo_hear_41 : decode b_Mo_hear 41 = .ok (.imul, 1) := by decide +kernel
theorem d_Mo_hear_42 : decode b_Mo_hear 42 = .ok (.iaload, 1) := by decide +kernel
theorem d_Mo_hear_43 : decode b_Mo_hear 43 = .ok (.istore 4, 2) := by decide +kernel
theorem d_Mo_hear_45 : decode b_Mo_hear 45 = .ok (.aload_n 0, 1) := by decide +kernel
theorem d_Mo_hear_46 : decode b_Mo_hear 46 = .ok (.iload_n 2, 1) := by decide +kernel
theorem d_Mo_hear_47 : decode b_Mo_hear 47 = .ok (.iload_n 3, 1) := by decide +kernel
theorem d_Mo_hear_48 : decode b_Mo_hear 48 = .ok (.iconst 1, 1) := by decide +kernel
theorem d_Mo_hear_49 : decode b_Mo_hear 49 = .ok (.iload_n 2, 1) := by decide +kernel
theorem d_Mo_hear_50 : decode b_Mo_hear 50 = .ok (.iconst 2, 1) := by decide +kernel
theorem d_Mo_hear_51 : decode b_Mo_hear 51 = .ok (.irem, 1) := by decide +kernel
theorem d_Mo_hear_52 : decode b_Mo_hear 52 = .ok (.isub, 1) := by decide +kernel
theorem d_Mo_hear_53 : decode b_Mo_hear 53 = .ok (.invokevirtual 117, 3) := by decide +kernel
theorem d_Mo_hear_56 : decode b_Mo_hear 56 = .ok (.ifCond .ne 9, 3) := by decide +kernel
theorem d_Mo_hear_59 : decode b_Mo_hear 59 = .ok (.aload_n 0, 1) := by decide +kernel
theorem d_Mo_hear_60 : decode b_Mo_hear 60 = .ok (.iconst 2, 1) := by decide +kernel
theorem d_Mo_hear_61 : decode b_Mo_hear 61 = .ok (.invokevirtual 71, 3) := by decide +kernel
theorem d_Mo_hear_64 : decode b_Mo_hear 64 = .ok (.ireturn, 1) := by decide +kernel
theorem d_Mo_hear_65 : decode b_Mo_hear 65 = .ok (.aload_n 0, 1) := by decide +kernel
theorem d_Mo_hear_66 : decode b_Mo_hear 66 = .ok (.getfield 41, 3) := by decide +kernel
theorem d_Mo_hear_69 : decode b_Mo_hear 69 = .ok (.iload_n 2, 1) := by decide +kernel
theorem d_Mo_hear_70 : decode b_Mo_hear 70 = .ok (.aload_n 0, 1) := by decide +kernel
theorem d_Mo_hear_71 : decode b_Mo_hear 71 = .ok (.getfield 82, 3) := by decide +kernel
theorem d_Mo_hear_74 : decode b_Mo_hear 74 = .ok (.iastore, 1) := by decide +kernel
theorem d_Mo_hear_75 : decode b_Mo_hear 75 = .ok (.aload_n 0, 1) := by decide +kernel
theorem d_Mo_hear_76 : decode b_Mo_hear 76 = .ok (.getfield 44, 3) := by decide +kernel
theorem d_Mo_hear_79 : decode b_Mo_hear 79 = .ok (.iload_n 2, 1) := by decide +kernel
theorem d_Mo_hear_80 : decode b_Mo_hear 80 = .ok (.dup2, 1) := by decide +kernel
theorem d_Mo_hear_81 : decode b_Mo_hear 81 = .ok (.iaload, 1) := by decide +kernel
theorem d_Mo_hear_82 : decode b_Mo_hear 82 = .ok (.iconst 1, 1) := by decide +kernel
theorem d_Mo_hear_83 : decode b_Mo_hear 83 = .ok (.isub, 1) := by decide +kernel
theorem d_Mo_hear_84 : decode b_Mo_hear 84 = .ok (.iastore, 1) := by decide +kernel
theorem d_Mo_hear_85 : decode b_Mo_hear 85 = .ok (.iload_n 2, 1) := by decide +kernel
theorem d_Mo_hear_86 : decode b_Mo_hear 86 = .ok (.iconst 3, 1) := by decide +kernel
theorem d_Mo_hear_87 : decode b_Mo_hear 87 = .ok (.imul, 1) := by decide +kernel
theorem d_Mo_hear_88 : decode b_Mo_hear 88 = .ok (.istore 5, 2) := by decide +kernel
theorem d_Mo_hear_90 : decode b_Mo_hear 90 = .ok (.iload 5, 2) := by decide +kernel
theorem d_Mo_hear_92 : decode b_Mo_hear 92 = .ok (.iload_n 2, 1) := by decide +kernel
theorem d_Mo_hear_93 : decode b_Mo_hear 93 = .ok (.iconst 3, 1) := by decide +kernel
theorem d_Mo_hear_94 : decode b_Mo_hear 94 = .ok (.imul, 1) := by decide +kernel
theorem d_Mo_hear_95 : decode b_Mo_hear 95 = .ok (.aload_n 0, 1) := by decide +kernel
theorem d_Mo_hear_96 : decode b_Mo_hear 96 = .ok (.getfield 44, 3) := by decide +kernel
theorem d_Mo_hear_99 : decode b_Mo_hear 99 = .ok (.iload_n 2, 1) := by decide +kernel
theorem d_Mo_hear_100 : decode b_Mo_hear 100 = .ok (.iaload, 1) := by decide +kernel
theorem d_Mo_hear_101 : decode b_Mo_hear 101 = .ok (.iadd, 1) := by decide +kernel
theorem d_Mo_hear_102 : decode b_Mo_hear 102 = .ok (.if_icmp .ge 41, 3) := by decide +kernel
theorem d_Mo_hear_105 : decode b_Mo_hear 105 = .ok (.aload_n 0, 1) := by decide +kernel
theorem d_Mo_hear_106 : decode b_Mo_hear 106 = .ok (.getfield 47, 3) := by decide +kernel
theorem d_Mo_hear_109 : decode b_Mo_hear 109 = .ok (.iload 5, 2) := by decide +kernel
theorem d_Mo_hear_111 : decode b_Mo_hear 111 = .ok (.aload_n 0, 1) := by decide +kernel
theorem d_Mo_hear_112 : decode b_Mo_hear 112 = .ok (.getfield 47, 3) := by decide +kernel
theorem d_Mo_hear_115 : decode b_Mo_hear 115 = .ok (.iload 5, 2) := by decide +kernel
theorem d_Mo_hear_117 : decode b_Mo_hear 117 = .ok (.iconst 1, 1) := by decide +kernel
theorem d_Mo_hear_118 : decode b_Mo_hear 118 = .ok (.iadd, 1) := by decide +kernel
theorem d_Mo_hear_119 : decode b_Mo_hear 119 = .ok (.iaload, 1) := by decide +kernel
theorem d_Mo_hear_120 : decode b_Mo_hear 120 = .ok (.iastore, 1) := by decide +kernel
theorem d_Mo_hear_121 : decode b_Mo_hear 121 = .ok (.aload_n 0, 1) := by decide +kernel
theorem d_Mo_hear_122 : decode b_Mo_hear 122 = .ok (.getfield 50, 3) := by decide +kernel
theorem d_Mo_hear_125 : decode b_Mo_hear 125 = .ok (.iload 5, 2) := by decide +kernel
theorem d_Mo_hear_127 : decode b_Mo_hear 127 = .ok (.aload_n 0, 1) := by decide +kernel
theorem d_Mo_hear_128 : decode b_Mo_hear 128 = .ok (.getfield 50, 3) := by decide +kernel
theorem d_Mo_hear_131 : decode b_Mo_hear 131 = .ok (.iload 5, 2) := by decide +kernel
theorem d_Mo_hear_133 : decode b_Mo_hear 133 = .ok (.iconst 1, 1) := by decide +kernel
theorem d_Mo_hear_134 : decode b_Mo_hear 134 = .ok (.iadd, 1) := by decide +kernel
theorem d_Mo_hear_135 : decode b_Mo_hear 135 = .ok (.iaload, 1) := by decide +kernel
theorem d_Mo_hear_136 : decode b_Mo_hear 136 = .ok (.iastore, 1) := by decide +kernel
theorem d_Mo_hear_137 : decode b_Mo_hear 137 = .ok (.iinc 5 1, 3) := by decide +kernel
theorem d_Mo_hear_140 : decode b_Mo_hear 140 = .ok (.goto (-50), 3) := by decide +kernel
theorem d_Mo_hear_143 : decode b_Mo_hear 143 = .ok (.iload_n 3, 1) := by decide +kernel
theorem d_Mo_hear_144 : decode b_Mo_hear 144 = .ok (.bipush 6, 2) := by decide +kernel
theorem d_Mo_hear_146 : decode b_Mo_hear 146 = .ok (.if_icmp .ne 14, 3) := by decide +kernel
theorem d_Mo_hear_149 : decode b_Mo_hear 149 = .ok (.aload_n 0, 1) := by decide +kernel
theorem d_Mo_hear_150 : decode b_Mo_hear 150 = .ok (.getfield 38, 3) := by decide +kernel
theorem d_Mo_hear_153 : decode b_Mo_hear 153 = .ok (.iload 4, 2) := by decide +kernel
theorem d_Mo_hear_155 : decode b_Mo_hear 155 = .ok (.iload_n 1, 1) := by decide +kernel
theorem d_Mo_hear_156 : decode b_Mo_hear 156 = .ok (.iastore, 1) := by decide +kernel
theorem d_Mo_hear_157 : decode b_Mo_hear 157 = .ok (.goto 16, 3) := by decide +kernel
theorem d_Mo_hear_160 : decode b_Mo_hear 160 = .ok (.iload_n 3, 1) := by decide +kernel
theorem d_Mo_hear_161 : decode b_Mo_hear 161 = .ok (.iconst 2, 1) := by decide +kernel
theorem d_Mo_hear_162 : decode b_Mo_hear 162 = .ok (.if_icmp .le 11, 3) := by decide +kernel
theorem d_Mo_hear_165 : decode b_Mo_hear 165 = .ok (.aload_n 0, 1) := by decide +kernel
theorem d_Mo_hear_166 : decode b_Mo_hear 166 = .ok (.getfield 29, 3) := by decide +kernel
theorem d_Mo_hear_169 : decode b_Mo_hear 169 = .ok (.iload 4, 2) := by decide +kernel
theorem d_Mo_hear_171 : decode b_Mo_hear 171 = .ok (.iload_n 1, 1) := by decide +kernel
theorem d_Mo_hear_172 : decode b_Mo_hear 172 = .ok (.iastore, 1) := by decide +kernel
theorem d_Mo_hear_173 : decode b_Mo_hear 173 = .ok (.aload_n 0, 1) := by decide +kernel
theorem d_Mo_hear_174 : decode b_Mo_hear 174 = .ok (.dup, 1) := by decide +kernel
theorem d_Mo_hear_175 : decode b_Mo_hear 175 = .ok (.getfield 123, 3) := by decide +kernel
theorem d_Mo_hear_178 : decode b_Mo_hear 178 = .ok (.iconst 1, 1) := by decide +kernel
theorem d_Mo_hear_179 : decode b_Mo_hear 179 = .ok (.iadd, 1) := by decide +kernel
theorem d_Mo_hear_180 : decode b_Mo_hear 180 = .ok (.putfield 123, 3) := by decide +kernel
theorem d_Mo_hear_183 : decode b_Mo_hear 183 = .ok (.bipush 16, 2) := by decide +kernel
theorem d_Mo_hear_185 : decode b_Mo_hear 185 = .ok (.iload_n 3, 1) := by decide +kernel
theorem d_Mo_hear_186 : decode b_Mo_hear 186 = .ok (.imul, 1) := by decide +kernel
theorem d_Mo_hear_187 : decode b_Mo_hear 187 = .ok (.iload_n 3, 1) := by decide +kernel
theorem d_Mo_hear_188 : decode b_Mo_hear 188 = .ok (.iconst 3, 1) := by decide +kernel
theorem d_Mo_hear_189 : decode b_Mo_hear 189 = .ok (.if_icmp .ge 11, 3) := by decide +kernel
theorem d_Mo_hear_192 : decode b_Mo_hear 192 = .ok (.iload 4, 2) := by decide +kernel
theorem d_Mo_hear_194 : decode b_Mo_hear 194 = .ok (.bipush 15, 2) := by decide +kernel
theorem d_Mo_hear_196 : decode b_Mo_hear 196 = .ok (.iand, 1) := by decide +kernel
theorem d_Mo_hear_197 : decode b_Mo_hear 197 = .ok (.goto 5, 3) := by decide +kernel
theorem d_Mo_hear_200 : decode b_Mo_hear 200 = .ok (.iload 4, 2) := by decide +kernel
theorem d_Mo_hear_202 : decode b_Mo_hear 202 = .ok (.iadd, 1) := by decide +kernel
theorem d_Mo_hear_203 : decode b_Mo_hear 203 = .ok (.ireturn, 1) := by decide +kernel
theorem d_Mo_choose_0 : decode b_Mo_choose 0 = .ok (.aload_n 0, 1) := by decide +kernel
theorem d_Mo_choose_1 : decode b_Mo_choose 1 = .ok (.iload_n 1, 1) := by decide +kernel
theorem d_Mo_choose_2 : decode b_Mo_choose 2 = .ok (.iconst 0, 1) := by decide +kernel
theorem d_Mo_choose_3 : decode b_Mo_choose 3 = .ok (.iconst 3, 1) := by decide +kernel
theorem d_Mo_choose_4 : decode b_Mo_choose 4 = .ok (.invokestatic 60, 3) := by decide +kernel
theorem d_Mo_choose_7 : decode b_Mo_choose 7 = .ok (.ifCond .eq 18, 3) := by decide +kernel
theorem d_Mo_choose_10 : decode b_Mo_choose 10 = .ok (.iload_n 2, 1) := by decide +kernel
theorem d_Mo_choose_11 : decode b_Mo_choose 11 = .ok (.iconst 0, 1) := by decide +kernel
theorem d_Mo_choose_12 : decode b_Mo_choose 12 = .ok (.sipush 4095, 3) := by decide +kernel
theorem d_Mo_choose_15 : decode b_Mo_choose 15 = .ok (.invokestatic 60, 3) := by decide +kernel
theorem d_Mo_choose_18 : decode b_Mo_choose 18 = .ok (.ifCond .eq 7, 3) := by decide +kernel
theorem d_Mo_choose_21 : decode b_Mo_choose 21 = .ok (.iconst 1, 1) := by decide +kernel
theorem d_Mo_choose_22 : decode b_Mo_choose 22 = .ok (.goto 4, 3) := by decide +kernel
theorem d_Mo_choose_25 : decode b_Mo_choose 25 = .ok (.iconst 0, 1) := by decide +kernel
theorem d_Mo_choose_26 : decode b_Mo_choose 26 = .ok (.invokevirtual 64, 3) := by decide +kernel
theorem d_Mo_choose_29 : decode b_Mo_choose 29 = .ok (.ifCond .eq 5, 3) := by decide +kernel
theorem d_Mo_choose_32 : decode b_Mo_choose 32 = .ok (.iconst 0, 1) := by decide +kernel
theorem d_Mo_choose_33 : decode b_Mo_choose 33 = .ok (.ireturn, 1) := by decide +kernel
theorem d_Mo_choose_34 : decode b_Mo_choose 34 = .ok (.aload_n 0, 1) := by decide +kernel
theorem d_Mo_choose_35 : decode b_Mo_choose 35 = .ok (.getfield 25, 3) := by decide +kernel
theorem d_Mo_choose_38 : decode b_Mo_choose 38 = .ok (.iload_n 1, 1) := by decide +kernel
theorem d_Mo_choose_39 : decode b_Mo_choose 39 = .ok (.baload, 1) := by decide +kernel
theorem d_Mo_choose_40 : decode b_Mo_choose 40 = .ok (.ifCond .ne 9, 3) := by decide +kernel
theorem d_Mo_choose_43 : decode b_Mo_choose 43 = .ok (.aload_n 0, 1) := by decide +kernel
theorem d_Mo_choose_44 : decode b_Mo_choose 44 = .ok (.iconst 2, 1) := by decide +kernel
theorem d_Mo_choose_45 : decode b_Mo_choose 45 = .ok (.invokevirtual 71, 3) := by decide +kernel
theorem d_Mo_choose_48 : decode b_Mo_choose 48 = .ok (.ireturn, 1) := by decide +kernel
theorem d_Mo_choose_49 : decode b_Mo_choose 49 = .ok (.iconst 0, 1) := by decide +kernel
theorem d_Mo_choose_50 : decode b_Mo_choose 50 = .ok (.istore_n 3, 1) := by decide +kernel
theorem d_Mo_choose_51 : decode b_Mo_choose 51 = .ok (.iload_n 3, 1) := by decide +kernel
theorem d_Mo_choose_52 : decode b_Mo_choose 52 = .ok (.bipush 12, 2) := by decide +kernel
theorem d_Mo_choose_54 : decode b_Mo_choose 54 = .ok (.if_icmp .ge 38, 3) := by decide +kernel
theorem d_Mo_choose_57 : decode b_Mo_choose 57 = .ok (.iload_n 2, 1) := by decide +kernel
theorem d_Mo_choose_58 : decode b_Mo_choose 58 = .ok (.iload_n 3, 1) := by decide +kernel
theorem d_Mo_choose_59 : decode b_Mo_choose 59 = .ok (.ishr, 1) := by decide +kernel
theorem d_Mo_choose_60 : decode b_Mo_choose 60 = .ok (.iconst 1, 1) := by decide +kernel
theorem d_Mo_choose_61 : decode b_Mo_choose 61 = .ok (.iand, 1) := by decide +kernel
theorem d_Mo_choose_62 : decode b_Mo_choose 62 = .ok (.ifCond .eq 24, 3) := by decide +kernel
theorem d_Mo_choose_65 : decode b_Mo_choose 65 = .ok (.aload_n 0, 1) := by decide +kernel
theorem d_Mo_choose_66 : decode b_Mo_choose 66 = .ok (.getfield 38, 3) := by decide +kernel
theorem d_Mo_choose_69 : decode b_Mo_choose 69 = .ok (.iload_n 3, 1) := by decide +kernel
theorem d_Mo_choose_70 : decode b_Mo_choose 70 = .ok (.iaload, 1) := by decide +kernel
theorem d_Mo_choose_71 : decode b_Mo_choose 71 = .ok (.iload_n 1, 1) := by decide +kernel
theorem d_Mo_choose_72 : decode b_Mo_choose 72 = .ok (.if_icmp .ne 14, 3) := by decide +kernel
theorem d_Mo_choose_75 : decode b_Mo_choose 75 = .ok (.aload_n 0, 1) := by decide +kernel
theorem d_Mo_choose_76 : decode b_Mo_choose 76 = .ok (.getfield 44, 3) := by decide +kernel
theorem d_Mo_choose_79 : decode b_Mo_choose 79 = .ok (.iload_n 3, 1) := by decide +kernel
theorem d_Mo_choose_80 : decode b_Mo_choose 80 = .ok (.iaload, 1) := by decide +kernel
theorem d_Mo_choose_81 : decode b_Mo_choose 81 = .ok (.ifCond .le 5, 3) := by decide +kernel
theorem d_Mo_choose_84 : decode b_Mo_choose 84 = .ok (.iload_n 3, 1) := by decide +kernel
theorem d_Mo_choose_85 : decode b_Mo_choose 85 = .ok (.ireturn, 1) := by decide +kernel
theorem d_Mo_choose_86 : decode b_Mo_choose 86 = .ok (.iinc 3 1, 3) := by decide +kernel
theorem d_Mo_choose_89 : decode b_Mo_choose 89 = .ok (.goto (-38), 3) := by decide +kernel
theorem d_Mo_choose_92 : decode b_Mo_choose 92 = .ok (.aload_n 0, 1) := by decide +kernel
theorem d_Mo_choose_93 : decode b_Mo_choose 93 = .ok (.iconst 3, 1) := by decide +kernel
theorem d_Mo_choose_94 : decode b_Mo_choose 94 = .ok (.invokevirtual 71, 3) := by decide +kernel
theorem d_Mo_choose_97 : decode b_Mo_choose 97 = .ok (.ireturn, 1) := by decide +kernel
theorem d_Mo_close_0 : decode b_Mo_close 0 = .ok (.aload_n 0, 1) := by decide +kernel
theorem d_Mo_close_1 : decode b_Mo_close 1 = .ok (.iload_n 1, 1) := by decide +kernel
theorem d_Mo_close_2 : decode b_Mo_close 2 = .ok (.iload_n 2, 1) := by decide +kernel
theorem d_Mo_close_3 : decode b_Mo_close 3 = .ok (.invokevirtual 114, 3) := by decide +kernel
theorem d_Mo_close_6 : decode b_Mo_close 6 = .ok (.ifCond .eq 5, 3) := by decide +kernel
theorem d_Mo_close_9 : decode b_Mo_close 9 = .ok (.iconst 0, 1) := by decide +kernel
theorem d_Mo_close_10 : decode b_Mo_close 10 = .ok (.ireturn, 1) := by decide +kernel
theorem d_Mo_close_11 : decode b_Mo_close 11 = .ok (.aload_n 0, 1) := by decide +kernel
theorem d_Mo_close_12 : decode b_Mo_close 12 = .ok (.iconst 0, 1) := by decide +kernel
theorem d_Mo_close_13 : decode b_Mo_close 13 = .ok (.putfield 85, 3) := by decide +kernel
theorem d_Mo_close_16 : decode b_Mo_close 16 = .ok (.aload_n 0, 1) := by decide +kernel
theorem d_Mo_close_17 : decode b_Mo_close 17 = .ok (.iload_n 2, 1) := by decide +kernel
theorem d_Mo_close_18 : decode b_Mo_close 18 = .ok (.invokevirtual 98, 3) := by decide +kernel
theorem d_Mo_close_21 : decode b_Mo_close 21 = .ok (.aload_n 0, 1) := by decide +kernel
theorem d_Mo_close_22 : decode b_Mo_close 22 = .ok (.invokevirtual 104, 3) := by decide +kernel
theorem d_Mo_close_25 : decode b_Mo_close 25 = .ok (.aload_n 0, 1) := by decide +kernel
theorem d_Mo_close_26 : decode b_Mo_close 26 = .ok (.getfield 85, 3) := by decide +kernel
theorem d_Mo_close_29 : decode b_Mo_close 29 = .ok (.ireturn, 1) := by decide +kernel
theorem d_Mo_ofBlock_0 : decode b_Mo_ofBlock 0 = .ok (.aload_n 0, 1) := by decide +kernel
theorem d_Mo_ofBlock_1 : decode b_Mo_ofBlock 1 = .ok (.iload_n 1, 1) := by decide +kernel
theorem d_Mo_ofBlock_2 : decode b_Mo_ofBlock 2 = .ok (.iconst 0, 1) := by decide +kernel
theorem d_Mo_ofBlock_3 : decode b_Mo_ofBlock 3 = .ok (.bipush 11, 2) := by decide +kernel
theorem d_Mo_ofBlock_5 : decode b_Mo_ofBlock 5 = .ok (.invokestatic 60, 3) := by decide +kernel
theorem d_Mo_ofBlock_8 : decode b_Mo_ofBlock 8 = .ok (.ifCond .eq 16, 3) := by decide +kernel
theorem d_Mo_ofBlock_11 : decode b_Mo_ofBlock 11 = .ok (.iload_n 2, 1) := by decide +kernel
theorem d_Mo_ofBlock_12 : decode b_Mo_ofBlock 12 = .ok (.iconst 0, 1) := by decide +kernel
theorem d_Mo_ofBlock_13 : decode b_Mo_ofBlock 13 = .ok (.iconst 1, 1) := by decide +kernel
theorem d_Mo_ofBlock_14 : decode b_Mo_ofBlock 14 = .ok (.invokestatic 60, 3) := by decide +kernel
theorem d_Mo_ofBlock_17 : decode b_Mo_ofBlock 17 = .ok (.ifCond .eq 7, 3) := by decide +kernel
theorem d_Mo_ofBlock_20 : decode b_Mo_ofBlock 20 = .ok (.iconst 1, 1) := by decide +kernel
theorem d_Mo_ofBlock_21 : decode b_Mo_ofBlock 21 = .ok (.goto 4, 3) := by decide +kernel
theorem d_Mo_ofBlock_24 : decode b_Mo_ofBlock 24 = .ok (.iconst 0, 1) := by decide +kernel
theorem d_Mo_ofBlock_25 : decode b_Mo_ofBlock 25 = .ok (.invokevirtual 64, 3) := by decide +kernel
theorem d_Mo_ofBlock_28 : decode b_Mo_ofBlock 28 = .ok (.ifCond .eq 5, 3) := by decide +kernel
theorem d_Mo_ofBlock_31 : decode b_Mo_ofBlock 31 = .ok (.iconst 0, 1) := by decide +kernel
theorem d_Mo_ofBlock_32 : decode b_Mo_ofBlock 32 = .ok (.ireturn, 1) := by decide +kernel
theorem d_Mo_ofBlock_33 : decode b_Mo_ofBlock 33 = .ok (.iload_n 2, 1) := by decide +kernel
theorem d_Mo_ofBlock_34 : decode b_Mo_ofBlock 34 = .ok (.ifCond .ne 12, 3) := by decide +kernel
theorem d_Mo_ofBlock_37 : decode b_Mo_ofBlock 37 = .ok (.aload_n 0, 1) := by decide +kernel
theorem d_Mo_ofBlock_38 : decode b_Mo_ofBlock 38 = .ok (.getfield 29, 3) := by decide +kernel
theorem d_Mo_ofBlock_41 : decode b_Mo_ofBlock 41 = .ok (.iload_n 1, 1) := by decide +kernel
theorem d_Mo_ofBlock_42 : decode b_Mo_ofBlock 42 = .ok (.iaload, 1) := by decide +kernel
theorem d_Mo_ofBlock_43 : decode b_Mo_ofBlock 43 = .ok (.goto 9, 3) := by decide +kernel
theorem d_Mo_ofBlock_46 : decode b_Mo_ofBlock 46 = .ok (.aload_n 0, 1) := by decide +kernel
theorem d_Mo_ofBlock_47 : decode b_Mo_ofBlock 47 = .ok (.getfield 32, 3) := by decide +kernel
theorem d_Mo_ofBlock_50 : decode b_Mo_ofBlock 50 = .ok (.iload_n 1, 1) := by decide +kernel
theorem d_Mo_ofBlock_51 : decode b_Mo_ofBlock 51 = .ok (.iaload, 1) := by decide +kernel
theorem d_Mo_ofBlock_52 : decode b_Mo_ofBlock 52 = .ok (.ireturn, 1) := by decide +kernel
theorem d_Mo_ofEnd_0 : decode b_Mo_ofEnd 0 = .ok (.aload_n 0, 1) := by decide +kernel
theorem d_Mo_ofEnd_1 : decode b_Mo_ofEnd 1 = .ok (.iload_n 1, 1) := by decide +kernel
theorem d_Mo_ofEnd_2 : decode b_Mo_ofEnd 2 = .ok (.iconst 0, 1) := by decide +kernel
theorem d_Mo_ofEnd_3 : decode b_Mo_ofEnd 3 = .ok (.bipush 11, 2) := by decide +kernel
theorem d_Mo_ofEnd_5 : decode b_Mo_ofEnd 5 = .ok (.invokestatic 60, 3) := by decide +kernel
theorem d_Mo_ofEnd_8 : decode b_Mo_ofEnd 8 = .ok (.ifCond .eq 16, 3) := by decide +kernel
theorem d_Mo_ofEnd_11 : decode b_Mo_ofEnd 11 = .ok (.iload_n 2, 1) := by decide +kernel
theorem d_Mo_ofEnd_12 : decode b_Mo_ofEnd 12 = .ok (.iconst 0, 1) := by decide +kernel
theorem d_Mo_ofEnd_13 : decode b_Mo_ofEnd 13 = .ok (.iconst 2, 1) := by decide +kernel
theorem d_Mo_ofEnd_14 : decode b_Mo_ofEnd 14 = .ok (.invokestatic 60, 3) := by decide +kernel
theorem d_Mo_ofEnd_17 : decode b_Mo_ofEnd 17 = .ok (.ifCond .eq 7, 3) := by decide +kernel
theorem d_Mo_ofEnd_20 : decode b_Mo_ofEnd 20 = .ok (.iconst 1, 1) := by decide +kernel
theorem d_Mo_ofEnd_21 : decode b_Mo_ofEnd 21 = .ok (.goto 4, 3) := by decide +kernel
theorem d_Mo_ofEnd_24 : decode b_Mo_ofEnd 24 = .ok (.iconst 0, 1) := by decide +kernel
theorem d_Mo_ofEnd_25 : decode b_Mo_ofEnd 25 = .ok (.invokevirtual 64, 3) := by decide +kernel
theorem d_Mo_ofEnd_28 : decode b_Mo_ofEnd 28 = .ok (.ifCond .eq 5, 3) := by decide +kernel
theorem d_Mo_ofEnd_31 : decode b_Mo_ofEnd 31 = .ok (.iconst 0, 1) := by decide +kernel
theorem d_Mo_ofEnd_32 : decode b_Mo_ofEnd 32 = .ok (.ireturn, 1) := by decide +kernel
theorem d_Mo_ofEnd_33 : decode b_Mo_ofEnd 33 = .ok (.iload_n 2, 1) := by decide +kernel
theorem d_Mo_ofEnd_34 : decode b_Mo_ofEnd 34 = .ok (.ifCond .ne 12, 3) := by decide +kernel
theorem d_Mo_ofEnd_37 : decode b_Mo_ofEnd 37 = .ok (.aload_n 0, 1) := by decide +kernel
theorem d_Mo_ofEnd_38 : decode b_Mo_ofEnd 38 = .ok (.getfield 38, 3) := by decide +kernel
theorem d_Mo_ofEnd_41 : decode b_Mo_ofEnd 41 = .ok (.iload_n 1, 1) := by decide +kernel
theorem d_Mo_ofEnd_42 : decode b_Mo_ofEnd 42 = .ok (.iaload, 1) := by decide +kernel
theorem d_Mo_ofEnd_43 : decode b_Mo_ofEnd 43 = .ok (.goto 23, 3) := by decide +kernel
theorem d_Mo_ofEnd_46 : decode b_Mo_ofEnd 46 = .ok (.iload_n 2, 1) := by decide +kernel
theorem d_Mo_ofEnd_47 : decode b_Mo_ofEnd 47 = .ok (.iconst 1, 1) := by decide +kernel
theorem d_Mo_ofEnd_48 : decode b_Mo_ofEnd 48 = .ok (.if_icmp .ne 12, 3) := by decide +kernel
theorem d_Mo_ofEnd_51 : decode b_Mo_ofEnd 51 = .ok (.aload_n 0, 1) := by decide +kernel
theorem d_Mo_ofEnd_52 : decode b_Mo_ofEnd 52 = .ok (.getfield 41, 3) := by decide +kernel
theorem d_Mo_ofEnd_55 : decode b_Mo_ofEnd 55 = .ok (.iload_n 1, 1) := by decide +kernel
theorem d_Mo_ofEnd_56 : decode b_Mo_ofEnd 56 = .ok (.iaload, 1) := by decide +kernel
theorem d_Mo_ofEnd_57 : decode b_Mo_ofEnd 57 = .ok (.goto 9, 3) := by decide +kernel
theorem d_Mo_ofEnd_60 : decode b_Mo_ofEnd 60 = .ok (.aload_n 0, 1) := by decide +kernel
theorem d_Mo_ofEnd_61 : decode b_Mo_ofEnd 61 = .ok (.getfield 44, 3) := by decide +kernel
theorem d_Mo_ofEnd_64 : decode b_Mo_ofEnd 64 = .ok (.iload_n 1, 1) := by decide +kernel
theorem d_Mo_ofEnd_65 : decode b_Mo_ofEnd 65 = .ok (.iaload, 1) := by decide +kernel
theorem d_Mo_ofEnd_66 : decode b_Mo_ofEnd 66 = .ok (.ireturn, 1) := by decide +kernel
theorem d_Mo_count_0 : decode b_Mo_count 0 = .ok (.aload_n 0, 1) := by decide +kernel
theorem d_Mo_count_1 : decode b_Mo_count 1 = .ok (.iconst 0, 1) := by decide +kernel
theorem d_Mo_count_2 : decode b_Mo_count 2 = .ok (.putfield 56, 3) := by decide +kernel
theorem d_Mo_count_5 : decode b_Mo_count 5 = .ok (.iconst 0, 1) := by decide +kernel
theorem d_Mo_count_6 : decode b_Mo_count 6 = .ok (.istore_n 2, 1) := by decide +kernel
theorem d_Mo_count_7 : decode b_Mo_count 7 = .ok (.iconst 0, 1) := by decide +kernel
theorem d_Mo_count_8 : decode b_Mo_count 8 = .ok (.istore_n 3, 1) := by decide +kernel
theorem d_Mo_count_9 : decode b_Mo_count 9 = .ok (.iload_n 3, 1) := by decide +kernel
theorem d_Mo_count_10 : decode b_Mo_count 10 = .ok (.bipush 12, 2) := by decide +kernel
theorem d_Mo_count_12 : decode b_Mo_count 12 = .ok (.if_icmp .ge 101, 3) := by decide +kernel
theorem d_Mo_count_15 : decode b_Mo_count 15 = .ok (.iload_n 1, 1) := by decide +kernel
theorem d_Mo_count_16 : decode b_Mo_count 16 = .ok (.ifCond .ne 20, 3) := by decide +kernel
theorem d_Mo_count_19 : decode b_Mo_count 19 = .ok (.iload_n 3, 1) := by decide +kernel
theorem d_Mo_count_20 : decode b_Mo_count 20 = .ok (.iconst 4, 1) := by decide +kernel
theorem d_Mo_count_21 : decode b_Mo_count 21 = .ok (.if_icmp .ge 15, 3) := by decide +kernel
theorem d_Mo_count_24 : decode b_Mo_count 24 = .ok (.aload_n 0, 1) := by decide +kernel
theorem d_Mo_count_25 : decode b_Mo_count 25 = .ok (.getfield 25, 3) := by decide +kernel
theorem d_Mo_count_28 : decode b_Mo_count 28 = .ok (.iload_n 3, 1) := by decide +kernel
theorem d_Mo_count_29 : decode b_Mo_count 29 = .ok (.baload, 1) := by decide +kernel
theorem d_Mo_count_30 : decode b_Mo_count 30 = .ok (.ifCond .eq 6, 3) := by decide +kernel
theorem d_Mo_count_33 : decode b_Mo_count 33 = .ok (.iinc 2 1, 3) := by decide +kernel
theorem d_Mo_count_36 : decode b_Mo_count 36 = .ok (.iload_n 1, 1) := by decide +kernel
theorem d_Mo_count_37 : decode b_Mo_count 37 = .ok (.iconst 1, 1) := by decide +kernel
theorem d_Mo_count_38 : decode b_Mo_count 38 = .ok (.if_icmp .ne 15, 3) := by decide +kernel
theorem d_Mo_count_41 : decode b_Mo_count 41 = .ok (.aload_n 0, 1) := by decide +kernel
theorem d_Mo_count_42 : decode b_Mo_count 42 = .ok (.getfield 29, 3) := by decide +kernel
theorem d_Mo_count_45 : decode b_Mo_count 45 = .ok (.iload_n 3, 1) := by decide +kernel
theorem d_Mo_count_46 : decode b_Mo_count 46 = .ok (.iaload, 1) := by decide +kernel
theorem d_Mo_count_47 : decode b_Mo_count 47 = .ok (.ifCond .lt 6, 3) := by decide +kernel
theorem d_Mo_count_50 : decode b_Mo_count 50 = .ok (.iinc 2 1, 3) := by decide +kernel
theorem d_Mo_count_53 : decode b_Mo_count 53 = .ok (.iload_n 1, 1) := by decide +kernel
theorem d_Mo_count_54 : decode b_Mo_count 54 = .ok (.iconst 3, 1) := by decide +kernel
theorem d_Mo_count_55 : decode b_Mo_count 55 = .ok (.if_icmp .ne 15, 3) := by decide +kernel
theorem d_Mo_count_58 : decode b_Mo_count 58 = .ok (.aload_n 0, 1) := by decide +kernel
theorem d_Mo_count_59 : decode b_Mo_count 59 = .ok (.getfield 38, 3) := by decide +kernel
theorem d_Mo_count_62 : decode b_Mo_count 62 = .ok (.iload_n 3, 1) := by decide +kernel
theorem d_Mo_count_63 : decode b_Mo_count 63 = .ok (.iaload, 1) := by decide +kernel
theorem d_Mo_count_64 : decode b_Mo_count 64 = .ok (.ifCond .lt 6, 3) := by decide +kernel
theorem d_Mo_count_67 : decode b_Mo_count 67 = .ok (.iinc 2 1, 3) := by decide +kernel
theorem d_Mo_count_70 : decode b_Mo_count 70 = .ok (.iload_n 1, 1) := by decide +kernel
theorem d_Mo_count_71 : decode b_Mo_count 71 = .ok (.iconst 4, 1) := by decide +kernel
theorem d_Mo_count_72 : decode b_Mo_count 72 = .ok (.if_icmp .ne 12, 3) := by decide +kernel
theorem d_Mo_count_75 : decode b_Mo_count 75 = .ok (.iload_n 2, 1) := by decide +kernel
theorem d_Mo_count_76 : decode b_Mo_count 76 = .ok (.aload_n 0, 1) := by decide +kernel
theorem d_Mo_count_77 : decode b_Mo_count 77 = .ok (.getfield 44, 3) := by decide +kernel
theorem d_Mo_count_80 : decode b_Mo_count 80 = .ok (.iload_n 3, 1) := by decide +kernel
theorem d_Mo_count_81 : decode b_Mo_count 81 = .ok (.iaload, 1) := by decide +kernel
theorem d_Mo_count_82 : decode b_Mo_count 82 = .ok (.iadd, 1) := by decide +kernel
theorem d_Mo_count_83 : decode b_Mo_count 83 = .ok (.istore_n 2, 1) := by decide +kernel
theorem d_Mo_count_84 : decode b_Mo_count 84 = .ok (.iload_n 1, 1) := by decide +kernel
theorem d_Mo_count_85 : decode b_Mo_count 85 = .ok (.bipush 9, 2) := by decide +kernel
theorem d_Mo_count_87 : decode b_Mo_count 87 = .ok (.if_icmp .ne 20, 3) := by decide +kernel
theorem d_Mo_count_90 : decode b_Mo_count 90 = .ok (.iload_n 3, 1) := by decide +kernel
theorem d_Mo_count_91 : decode b_Mo_count 91 = .ok (.iconst 4, 1) := by decide +kernel
theorem d_Mo_count_92 : decode b_Mo_count 92 = .ok (.if_icmp .ge 15, 3) := by decide +kernel
theorem d_Mo_count_95 : decode b_Mo_count 95 = .ok (.aload_n 0, 1) := by decide +kernel
theorem d_Mo_count_96 : decode b_Mo_count 96 = .ok (.getfield 16, 3) := by decide +kernel
theorem d_Mo_count_99 : decode b_Mo_count 99 = .ok (.iload_n 3, 1) := by decide +kernel
theorem d_Mo_count_100 : decode b_Mo_count 100 = .ok (.iaload, 1) := by decide +kernel
theorem d_Mo_count_101 : decode b_Mo_count 101 = .ok (.ifCond .le 6, 3) := by decide +kernel
theorem d_Mo_count_104 : decode b_Mo_count 104 = .ok (.iinc 2 1, 3) := by decide +kernel
theorem d_Mo_count_107 : decode b_Mo_count 107 = .ok (.iinc 3 1, 3) := by decide +kernel
theorem d_Mo_count_110 : decode b_Mo_count 110 = .ok (.goto (-101), 3) := by decide +kernel
theorem d_Mo_count_113 : decode b_Mo_count 113 = .ok (.iload_n 1, 1) := by decide +kernel
theorem d_Mo_count_114 : decode b_Mo_count 114 = .ok (.tableswitch 81 0 9 #[54, 54, 56, 54, 54, 61, 66, 71, 76, 54], 54) := by decide +kernel
theorem d_Mo_count_168 : decode b_Mo_count 168 = .ok (.iload_n 2, 1) := by decide +kernel
theorem d_Mo_count_169 : decode b_Mo_count 169 = .ok (.ireturn, 1) := by decide +kernel
theorem d_Mo_count_170 : decode b_Mo_count 170 = .ok (.aload_n 0, 1) := by decide +kernel
theorem d_Mo_count_171 : decode b_Mo_count 171 = .ok (.invokevirtual 107, 3) := by decide +kernel
theorem d_Mo_count_174 : decode b_Mo_count 174 = .ok (.ireturn, 1) := by decide +kernel
theorem d_Mo_count_175 : decode b_Mo_count 175 = .ok (.aload_n 0, 1) := by decide +kernel
theorem d_Mo_count_176 : decode b_Mo_count 176 = .ok (.getfield 120, 3) := by decide +kernel
theorem d_Mo_count_179 : decode b_Mo_count 179 = .ok (.ireturn, 1) := by decide +kernel
theorem d_Mo_count_180 : decode b_Mo_count 180 = .ok (.aload_n 0, 1) := by decide +kernel
theorem d_Mo_count_181 : decode b_Mo_count 181 = .ok (.getfield 123, 3) := by decide +kernel
theorem d_Mo_count_184 : decode b_Mo_count 184 = .ok (.ireturn, 1) := by decide +kernel
theorem d_Mo_count_185 : decode b_Mo_count 185 = .ok (.aload_n 0, 1) := by decide +kernel
theorem d_Mo_count_186 : decode b_Mo_count 186 = .ok (.getfield 91, 3) := by decide +kernel
theorem d_Mo_count_189 : decode b_Mo_count 189 = .ok (.ireturn, 1) := by decide +kernel
theorem d_Mo_count_190 : decode b_Mo_count 190 = .ok (.aload_n 0, 1) := by decide +kernel
theorem d_Mo_count_191 : decode b_Mo_count 191 = .ok (.getfield 101, 3) := by decide +kernel
theorem d_Mo_count_194 : decode b_Mo_count 194 = .ok (.ireturn, 1) := by decide +kernel
theorem d_Mo_count_195 : decode b_Mo_count 195 = .ok (.iconst (-1), 1) := by decide +kernel
theorem d_Mo_count_196 : decode b_Mo_count 196 = .ok (.ireturn, 1) := by decide +kernel
end
section
theorem d_La_type_0 : decode b_La_type 0 = .ok (.aload_n 3, 1) := by decide +kernel
theorem d_La_type_1 : decode b_La_type 1 = .ok (.iconst 0, 1) := by decide +kernel
theorem d_La_type_2 : decode b_La_type 2 = .ok (.aload_n 0, 1) := by decide +kernel
theorem d_La_type_3 : decode b_La_type 3 = .ok (.lload_n 1, 1) := by decide +kernel
theorem d_La_type_4 : decode b_La_type 4 = .ok (.invokevirtual 7, 3) := by decide +kernel
theorem d_La_type_7 : decode b_La_type 7 = .ok (.i2l, 1) := by decide +kernel
theorem d_La_type_8 : decode b_La_type 8 = .ok (.lastore, 1) := by decide +kernel
theorem d_La_type_9 : decode b_La_type 9 = .ok (.goto 11, 3) := by decide +kernel
theorem d_La_type_12 : decode b_La_type 12 = .ok (.astore 4, 2) := by decide +kernel
theorem d_La_type_14 : decode b_La_type 14 = .ok (.iconst 1, 1) := by decide +kernel
theorem d_La_type_15 : decode b_La_type 15 = .ok (.ireturn, 1) := by decide +kernel
theorem d_La_type_16 : decode b_La_type 16 = .ok (.astore 4, 2) := by decide +kernel
theorem d_La_type_18 : decode b_La_type 18 = .ok (.iconst 2, 1) := by decide +kernel
theorem d_La_type_19 : decode b_La_type 19 = .ok (.ireturn, 1) := by decide +kernel
theorem d_La_type_20 : decode b_La_type 20 = .ok (.iconst 0, 1) := by decide +kernel
theorem d_La_type_21 : decode b_La_type 21 = .ok (.ireturn, 1) := by decide +kernel
theorem d_La_contract_0 : decode b_La_contract 0 = .ok (.aload_n 2, 1) := by decide +kernel
theorem d_La_contract_1 : decode b_La_contract 1 = .ok (.iconst 0, 1) := by decide +kernel
theorem d_La_contract_2 : decode b_La_contract 2 = .ok (.aload_n 0, 1) := by decide +kernel
theorem d_La_contract_3 : decode b_La_contract 3 = .ok (.iload_n 1, 1) := by decide +kernel
theorem d_La_contract_4 : decode b_La_contract 4 = .ok (.invokevirtual 17, 3) := by decide +kernel
theorem d_La_contract_7 : decode b_La_contract 7 = .ok (.i2l, 1) := by decide +kernel
theorem d_La_contract_8 : decode b_La_contract 8 = .ok (.lastore, 1) := by decide +kernel
theorem d_La_contract_9 : decode b_La_contract 9 = .ok (.goto 6, 3) := by decide +kernel
theorem d_La_contract_12 : decode b_La_contract 12 = .ok (.astore_n 3, 1) := by decide +kernel
theorem d_La_contract_13 : decode b_La_contract 13 = .ok (.iconst 1, 1) := by decide +kernel
theorem d_La_contract_14 : decode b_La_contract 14 = .ok (.ireturn, 1) := by decide +kernel
theorem d_La_contract_15 : decode b_La_contract 15 = .ok (.iconst 0, 1) := by decide +kernel
theorem d_La_contract_16 : decode b_La_contract 16 = .ok (.ireturn, 1) := by decide +kernel
theorem d_La_start_0 : decode b_La_start 0 = .ok (.aload_n 1, 1) := by decide +kernel
theorem d_La_start_1 : decode b_La_start 1 = .ok (.iconst 0, 1) := by decide +kernel
theorem d_La_start_2 : decode b_La_start 2 = .ok (.aload_n 0, 1) := by decide +kernel
theorem d_La_start_3 : decode b_La_start 3 = .ok (.invokevirtual 21, 3) := by decide +kernel
theorem d_La_start_6 : decode b_La_start 6 = .ok (.i2l, 1) := by decide +kernel
theorem d_La_start_7 : decode b_La_start 7 = .ok (.lastore, 1) := by decide +kernel
theorem d_La_start_8 : decode b_La_start 8 = .ok (.goto 6, 3) := by decide +kernel
theorem d_La_start_11 : decode b_La_start 11 = .ok (.astore_n 2, 1) := by decide +kernel
theorem d_La_start_12 : decode b_La_start 12 = .ok (.iconst 1, 1) := by decide +kernel
theorem d_La_start_13 : decode b_La_start 13 = .ok (.ireturn, 1) := by decide +kernel
theorem d_La_start_14 : decode b_La_start 14 = .ok (.iconst 0, 1) := by decide +kernel
theorem d_La_start_15 : decode b_La_start 15 = .ok (.ireturn, 1) := by decide +kernel
theorem d_La_kill_0 : decode b_La_kill 0 = .ok (.aload_n 2, 1) := by decide +kernel
theorem d_La_kill_1 : decode b_La_kill 1 = .ok (.iconst 0, 1) := by decide +kernel
theorem d_La_kill_2 : decode b_La_kill 2 = .ok (.aload_n 0, 1) := by decide +kernel
theorem d_La_kill_3 : decode b_La_kill 3 = .ok (.iload_n 1, 1) := by decide +kernel
theorem d_La_kill_4 : decode b_La_kill 4 = .ok (.invokevirtual 25, 3) := by decide +kernel
theorem d_La_kill_7 : decode b_La_kill 7 = .ok (.i2l, 1) := by decide +kernel
theorem d_La_kill_8 : decode b_La_kill 8 = .ok (.lastore, 1) := by decide +kernel
theorem d_La_kill_9 : decode b_La_kill 9 = .ok (.goto 9, 3) := by decide +kernel
theorem d_La_kill_12 : decode b_La_kill 12 = .ok (.astore_n 3, 1) := by decide +kernel
theorem d_La_kill_13 : decode b_La_kill 13 = .ok (.iconst 1, 1) := by decide +kernel
theorem d_La_kill_14 : decode b_La_kill 14 = .ok (.ireturn, 1) := by decide +kernel
theorem d_La_kill_15 : decode b_La_kill 15 = .ok (.astore_n 3, 1) := by decide +kernel
theorem d_La_kill_16 : decode b_La_kill 16 = .ok (.iconst 2, 1) := by decide +kernel
theorem d_La_kill_17 : decode b_La_kill 17 = .ok (.ireturn, 1) := by decide +kernel
theorem d_La_kill_18 : decode b_La_kill 18 = .ok (.iconst 0, 1) := by decide +kernel
theorem d_La_kill_19 : decode b_La_kill 19 = .ok (.ireturn, 1) := by decide +kernel
theorem d_La_block_0 : decode b_La_block 0 = .ok (.aload_n 3, 1) := by decide +kernel
theorem d_La_block_1 : decode b_La_block 1 = .ok (.iconst 0, 1) := by decide +kernel
theorem d_La_block_2 : decode b_La_block 2 = .ok (.aload_n 0, 1) := by decide +kernel
theorem d_La_block_3 : decode b_La_block 3 = .ok (.iload_n 1, 1) := by decide +kernel
theorem d_La_block_4 : decode b_La_block 4 = .ok (.iload_n 2, 1) := by decide +kernel
theorem d_La_block_5 : decode b_La_block 5 = .ok (.invokevirtual 30, 3) := by decide +kernel
theorem d_La_block_8 : decode b_La_block 8 = .ok (.i2l, 1) := by decide +kernel
theorem d_La_block_9 : decode b_La_block 9 = .ok (.lastore, 1) := by decide +kernel
theorem d_La_block_10 : decode b_La_block 10 = .ok (.goto 15, 3) := by decide +kernel
theorem d_La_block_13 : decode b_La_block 13 = .ok (.astore 4, 2) := by decide +kernel
theorem d_La_block_15 : decode b_La_block 15 = .ok (.iconst 1, 1) := by decide +kernel
theorem d_La_block_16 : decode b_La_block 16 = .ok (.ireturn, 1) := by decide +kernel
theorem d_La_block_17 : decode b_La_block 17 = .ok (.astore 4, 2) := by decide +kernel
theorem d_La_block_19 : decode b_La_block 19 = .ok (.iconst 2, 1) := by decide +kernel
theorem d_La_block_20 : decode b_La_block 20 = .ok (.ireturn, 1) := by decide +kernel
theorem d_La_block_21 : decode b_La_block 21 = .ok (.astore 4, 2) := by decide +kernel
theorem d_La_block_23 : decode b_La_block 23 = .ok (.iconst 3, 1) := by decide +kernel
theorem d_La_block_24 : decode b_La_block 24 = .ok (.ireturn, 1) := by decide +kernel
theorem d_La_block_25 : decode b_La_block 25 = .ok (.iconst 0, 1) := by decide +kernel
theorem d_La_block_26 : decode b_La_block 26 = .ok (.ireturn, 1) := by decide +kernel
theorem d_La_free_0 : decode b_La_free 0 = .ok (.aload_n 0, 1) := by decide +kernel
theorem d_La_free_1 : decode b_La_free 1 = .ok (.iload_n 1, 1) := by decide +kernel
theorem d_La_free_2 : decode b_La_free 2 = .ok (.iload_n 2, 1) := by decide +kernel
theorem d_La_free_3 : decode b_La_free 3 = .ok (.invokevirtual 34, 3) := by decide +kernel
theorem d_La_free_6 : decode b_La_free 6 = .ok (.goto 9, 3) := by decide +kernel
theorem d_La_free_9 : decode b_La_free 9 = .ok (.astore_n 3, 1) := by decide +kernel
theorem d_La_free_10 : decode b_La_free 10 = .ok (.iconst 1, 1) := by decide +kernel
theorem d_La_free_11 : decode b_La_free 11 = .ok (.ireturn, 1) := by decide +kernel
theorem d_La_free_12 : decode b_La_free 12 = .ok (.astore_n 3, 1) := by decide +kernel
theorem d_La_free_13 : decode b_La_free 13 = .ok (.iconst 2, 1) := by decide +kernel
theorem d_La_free_14 : decode b_La_free 14 = .ok (.ireturn, 1) := by decide +kernel
theorem d_La_free_15 : decode b_La_free 15 = .ok (.iconst 0, 1) := by decide +kernel
theorem d_La_free_16 : decode b_La_free 16 = .ok (.ireturn, 1) := by decide +kernel
theorem d_La_read_0 : decode b_La_read 0 = .ok (.aload 4, 2) := by decide +kernel
theorem d_La_read_2 : decode b_La_read 2 = .ok (.iconst 0, 1) := by decide +kernel
theorem d_La_read_3 : decode b_La_read 3 = .ok (.aload_n 0, 1) := by decide +kernel
theorem d_La_read_4 : decode b_La_read 4 = .ok (.iload_n 1, 1) := by decide +kernel
theorem d_La_read_5 : decode b_La_read 5 = .ok (.iload_n 2, 1) := by decide +kernel
theorem d_La_read_6 : decode b_La_read 6 = .ok (.iload_n 3, 1) := by decide +kernel
theorem d_La_read_7 : decode b_La_read 7 = .ok (.invokevirtual 38, 3) := by decide +kernel
theorem d_La_read_10 : decode b_La_read 10 = .ok (.i2l, 1) := by decide +kernel
theorem d_La_read_11 : decode b_La_read 11 = .ok (.lastore, 1) := by decide +kernel
theorem d_La_read_12 : decode b_La_read 12 = .ok (.goto 15, 3) := by decide +kernel
theorem d_La_read_15 : decode b_La_read 15 = .ok (.astore 5, 2) := by decide +kernel
theorem d_La_read_17 : decode b_La_read 17 = .ok (.iconst 1, 1) := by decide +kernel
theorem d_La_read_18 : decode b_La_read 18 = .ok (.ireturn, 1) := by decide +kernel
theorem d_La_read_19 : decode b_La_read 19 = .ok (.astore 5, 2) := by decide +kernel
theorem d_La_read_21 : decode b_La_read 21 = .ok (.iconst 2, 1) := by decide +kernel
theorem d_La_read_22 : decode b_La_read 22 = .ok (.ireturn, 1) := by decide +kernel
theorem d_La_read_23 : decode b_La_read 23 = .ok (.astore 5, 2) := by decide +kernel
theorem d_La_read_25 : decode b_La_read 25 = .ok (.iconst 3, 1) := by decide +kernel
theorem d_La_read_26 : decode b_La_read 26 = .ok (.ireturn, 1) := by decide +kernel
theorem d_La_read_27 : decode b_La_read 27 = .ok (.iconst 0, 1) := by decide +kernel
theorem d_La_read_28 : decode b_La_read 28 = .ok (.ireturn, 1) := by decide +kernel
theorem d_La_write_0 : decode b_La_write 0 = .ok (.aload_n 0, 1) := by decide +kernel
theorem d_La_write_1 : decode b_La_write 1 = .ok (.iload_n 1, 1) := by decide +kernel
theorem d_La_write_2 : decode b_La_write 2 = .ok (.iload_n 2, 1) := by decide +kernel
theorem d_La_write_3 : decode b_La_write 3 = .ok (.iload_n 3, 1) := by decide +kernel
theorem d_La_write_4 : decode b_La_write 4 = .ok (.iload 4, 2) := by decide +kernel
theorem d_La_write_6 : decode b_La_write 6 = .ok (.invokevirtual 44, 3) := by decide +kernel
theorem d_La_write_9 : decode b_La_write 9 = .ok (.goto 15, 3) := by decide +kernel
theorem d_La_write_12 : decode b_La_write 12 = .ok (.astore 5, 2) := by decide +kernel
theorem d_La_write_14 : decode b_La_write 14 = .ok (.iconst 1, 1) := by decide +kernel
theorem d_La_write_15 : decode b_La_write 15 = .ok (.ireturn, 1) := by decide +kernel
theorem d_La_write_16 : decode b_La_write 16 = .ok (.astore 5, 2) := by decide +kernel
theorem d_La_write_18 : decode b_La_write 18 = .ok (.iconst 2, 1) := by decide +kernel
theorem d_La_write_19 : decode b_La_write 19 = .ok (.ireturn, 1) := by decide +kernel
theorem d_La_write_20 : decode b_La_write 20 = .ok (.astore 5, 2) := by decide +kernel
theorem d_La_write_22 : decode b_La_write 22 = .ok (.iconst 3, 1) := by decide +kernel
theorem d_La_write_23 : decode b_La_write 23 = .ok (.ireturn, 1) := by decide +kernel
theorem d_La_write_24 : decode b_La_write 24 = .ok (.iconst 0, 1) := by decide +kernel
theorem d_La_write_25 : decode b_La_write 25 = .ok (.ireturn, 1) := by decide +kernel
theorem d_La_open_0 : decode b_La_open 0 = .ok (.aload 4, 2) := by decide +kernel
theorem d_La_open_2 : decode b_La_open 2 = .ok (.iconst 0, 1) := by decide +kernel
theorem d_La_open_3 : decode b_La_open 3 = .ok (.aload_n 0, 1) := by decide +kernel
theorem d_La_open_4 : decode b_La_open 4 = .ok (.iload_n 1, 1) := by decide +kernel
theorem d_La_open_5 : decode b_La_open 5 = .ok (.iload_n 2, 1) := by decide +kernel
theorem d_La_open_6 : decode b_La_open 6 = .ok (.iload_n 3, 1) := by decide +kernel
theorem d_La_open_7 : decode b_La_open 7 = .ok (.invokevirtual 48, 3) := by decide +kernel
theorem d_La_open_10 : decode b_La_open 10 = .ok (.i2l, 1) := by decide +kernel
theorem d_La_open_11 : decode b_La_open 11 = .ok (.lastore, 1) := by decide +kernel
theorem d_La_open_12 : decode b_La_open 12 = .ok (.goto 19, 3) := by decide +kernel
theorem d_La_open_15 : decode b_La_open 15 = .ok (.astore 5, 2) := by decide +kernel
theorem d_La_open_17 : decode b_La_open 17 = .ok (.iconst 1, 1) := by decide +kernel
theorem d_La_open_18 : decode b_La_open 18 = .ok (.ireturn, 1) := by decide +kernel
theorem d_La_open_19 : decode b_La_open 19 = .ok (.astore 5, 2) := by decide +kernel
theorem d_La_open_21 : decode b_La_open 21 = .ok (.iconst 2, 1) := by decide +kernel
theorem d_La_open_22 : decode b_La_open 22 = .ok (.ireturn, 1) := by decide +kernel
theorem d_La_open_23 : decode b_La_open 23 = .ok (.astore 5, 2) := by decide +kernel
theorem d_La_open_25 : decode b_La_open 25 = .ok (.iconst 3, 1) := by decide +kernel
theorem d_La_open_26 : decode b_La_open 26 = .ok (.ireturn, 1) := by decide +kernel
theorem d_La_open_27 : decode b_La_open 27 = .ok (.astore 5, 2) := by decide +kernel
theorem d_La_open_29 : decode b_La_open 29 = .ok (.iconst 4, 1) := by decide +kernel
theorem d_La_open_30 : decode b_La_open 30 = .ok (.ireturn, 1) := by decide +kernel
theorem d_La_open_31 : decode b_La_open 31 = .ok (.iconst 0, 1) := by decide +kernel
theorem d_La_open_32 : decode b_La_open 32 = .ok (.ireturn, 1) := by decide +kernel
theorem d_La_say_0 : decode b_La_say 0 = .ok (.aload_n 0, 1) := by decide +kernel
theorem d_La_say_1 : decode b_La_say 1 = .ok (.iload_n 1, 1) := by decide +kernel
theorem d_La_say_2 : decode b_La_say 2 = .ok (.iload_n 2, 1) := by decide +kernel
theorem d_La_say_3 : decode b_La_say 3 = .ok (.iload_n 3, 1) := by decide +kernel
theorem d_La_say_4 : decode b_La_say 4 = .ok (.iload 4, 2) := by decide +kernel
theorem d_La_say_6 : decode b_La_say 6 = .ok (.invokevirtual 51, 3) := by decide +kernel
theorem d_La_say_9 : decode b_La_say 9 = .ok (.goto 15, 3) := by decide +kernel
theorem d_La_say_12 : decode b_La_say 12 = .ok (.astore 5, 2) := by decide +kernel
theorem d_La_say_14 : decode b_La_say 14 = .ok (.iconst 1, 1) := by decide +kernel
theorem d_La_say_15 : decode b_La_say 15 = .ok (.ireturn, 1) := by decide +kernel
theorem d_La_say_16 : decode b_La_say 16 = .ok (.astore 5, 2) := by decide +kernel
theorem d_La_say_18 : decode b_La_say 18 = .ok (.iconst 2, 1) := by decide +kernel
theorem d_La_say_19 : decode b_La_say 19 = .ok (.ireturn, 1) := by decide +kernel
theorem d_La_say_20 : decode b_La_say 20 = .ok (.astore 5, 2) := by decide +kernel
theorem d_La_say_22 : decode b_La_say 22 = .ok (.iconst 3, 1) := by decide +kernel
theorem d_La_say_23 : decode b_La_say 23 = .ok (.ireturn, 1) := by decide +kernel
theorem d_La_say_24 : decode b_La_say 24 = .ok (.iconst 0, 1) := by decide +kernel
theorem d_La_say_25 : decode b_La_say 25 = .ok (.ireturn, 1) := by decide +kernel
theorem d_La_hear_0 : decode b_La_hear 0 = .ok (.aload_n 3, 1) := by decide +kernel
theorem d_La_hear_1 : decode b_La_hear 1 = .ok (.iconst 0, 1) := by decide +kernel
theorem d_La_hear_2 : decode b_La_hear 2 = .ok (.aload_n 0, 1) := by decide +kernel
theorem d_La_hear_3 : decode b_La_hear 3 = .ok (.iload_n 1, 1) := by decide +kernel
theorem d_La_hear_4 : decode b_La_hear 4 = .ok (.iload_n 2, 1) := by decide +kernel
theorem d_La_hear_5 : decode b_La_hear 5 = .ok (.invokevirtual 54, 3) := by decide +kernel
theorem d_La_hear_8 : decode b_La_hear 8 = .ok (.i2l, 1) := by decide +kernel
theorem d_La_hear_9 : decode b_La_hear 9 = .ok (.lastore, 1) := by decide +kernel
theorem d_La_hear_10 : decode b_La_hear 10 = .ok (.goto 15, 3) := by decide +kernel
theorem d_La_hear_13 : decode b_La_hear 13 = .ok (.astore 4, 2) := by decide +kernel
theorem d_La_hear_15 : decode b_La_hear 15 = .ok (.iconst 1, 1) := by decide +kernel
theorem d_La_hear_16 : decode b_La_hear 16 = .ok (.ireturn, 1) := by decide +kernel
theorem d_La_hear_17 : decode b_La_hear 17 = .ok (.astore 4, 2) := by decide +kernel
theorem d_La_hear_19 : decode b_La_hear 19 = .ok (.iconst 2, 1) := by decide +kernel
theorem d_La_hear_20 : decode b_La_hear 20 = .ok (.ireturn, 1) := by decide +kernel
theorem d_La_hear_21 : decode b_La_hear 21 = .ok (.astore 4, 2) := by decide +kernel
theorem d_La_hear_23 : decode b_La_hear 23 = .ok (.iconst 3, 1) := by decide +kernel
theorem d_La_hear_24 : decode b_La_hear 24 = .ok (.ireturn, 1) := by decide +kernel
theorem d_La_hear_25 : decode b_La_hear 25 = .ok (.iconst 0, 1) := by decide +kernel
theorem d_La_hear_26 : decode b_La_hear 26 = .ok (.ireturn, 1) := by decide +kernel
theorem d_La_choose_0 : decode b_La_choose 0 = .ok (.aload_n 3, 1) := by decide +kernel
theorem d_La_choose_1 : decode b_La_choose 1 = .ok (.iconst 0, 1) := by decide +kernel
theorem d_La_choose_2 : decode b_La_choose 2 = .ok (.aload_n 0, 1) := by decide +kernel
theorem d_La_choose_3 : decode b_La_choose 3 = .ok (.iload_n 1, 1) := by decide +kernel
theorem d_La_choose_4 : decode b_La_choose 4 = .ok (.iload_n 2, 1) := by decide +kernel
theorem d_La_choose_5 : decode b_La_choose 5 = .ok (.invokevirtual 57, 3) := by decide +kernel
theorem d_La_choose_8 : decode b_La_choose 8 = .ok (.i2l, 1) := by decide +kernel
theorem d_La_choose_9 : decode b_La_choose 9 = .ok (.lastore, 1) := by decide +kernel
theorem d_La_choose_10 : decode b_La_choose 10 = .ok (.goto 15, 3) := by decide +kernel
theorem d_La_choose_13 : decode b_La_choose 13 = .ok (.astore 4, 2) := by decide +kernel
theorem d_La_choose_15 : decode b_La_choose 15 = .ok (.iconst 1, 1) := by decide +kernel
theorem d_La_choose_16 : decode b_La_choose 16 = .ok (.ireturn, 1) := by decide +kernel
theorem d_La_choose_17 : decode b_La_choose 17 = .ok (.astore 4, 2) := by decide +kernel
theorem d_La_choose_19 : decode b_La_choose 19 = .ok (.iconst 2, 1) := by decide +kernel
theorem d_La_choose_20 : decode b_La_choose 20 = .ok (.ireturn, 1) := by decide +kernel
theorem d_La_choose_21 : decode b_La_choose 21 = .ok (.astore 4, 2) := by decide +kernel
theorem d_La_choose_23 : decode b_La_choose 23 = .ok (.iconst 3, 1) := by decide +kernel
theorem d_La_choose_24 : decode b_La_choose 24 = .ok (.ireturn, 1) := by decide +kernel
theorem d_La_choose_25 : decode b_La_choose 25 = .ok (.iconst 0, 1) := by decide +kernel
theorem d_La_choose_26 : decode b_La_choose 26 = .ok (.ireturn, 1) := by decide +kernel
theorem d_La_close_0 : decode b_La_close 0 = .ok (.aload_n 3, 1) := by decide +kernel
theorem d_La_close_1 : decode b_La_close 1 = .ok (.iconst 0, 1) := by decide +kernel
theorem d_La_close_2 : decode b_La_close 2 = .ok (.aload_n 0, 1) := by decide +kernel
theorem d_La_close_3 : decode b_La_close 3 = .ok (.iload_n 1, 1) := by decide +kernel
theorem d_La_close_4 : decode b_La_close 4 = .ok (.iload_n 2, 1) := by decide +kernel
theorem d_La_close_5 : decode b_La_close 5 = .ok (.invokevirtual 60, 3) := by decide +kernel
theorem d_La_close_8 : decode b_La_close 8 = .ok (.i2l, 1) := by decide +kernel
theorem d_La_close_9 : decode b_La_close 9 = .ok (.lastore, 1) := by decide +kernel
theorem d_La_close_10 : decode b_La_close 10 = .ok (.goto 11, 3) := by decide +kernel
theorem d_La_close_13 : decode b_La_close 13 = .ok (.astore 4, 2) := by decide +kernel
theorem d_La_close_15 : decode b_La_close 15 = .ok (.iconst 1, 1) := by decide +kernel
theorem d_La_close_16 : decode b_La_close 16 = .ok (.ireturn, 1) := by decide +kernel
theorem d_La_close_17 : decode b_La_close 17 = .ok (.astore 4, 2) := by decide +kernel
theorem d_La_close_19 : decode b_La_close 19 = .ok (.iconst 2, 1) := by decide +kernel
theorem d_La_close_20 : decode b_La_close 20 = .ok (.ireturn, 1) := by decide +kernel
theorem d_La_close_21 : decode b_La_close 21 = .ok (.iconst 0, 1) := by decide +kernel
theorem d_La_close_22 : decode b_La_close 22 = .ok (.ireturn, 1) := by decide +kernel
theorem d_La_ofBlock_0 : decode b_La_ofBlock 0 = .ok (.aload_n 3, 1) := by decide +kernel
theorem d_La_ofBlock_1 : decode b_La_ofBlock 1 = .ok (.iconst 0, 1) := by decide +kernel
theorem d_La_ofBlock_2 : decode b_La_ofBlock 2 = .ok (.aload_n 0, 1) := by decide +kernel
theorem d_La_ofBlock_3 : decode b_La_ofBlock 3 = .ok (.iload_n 1, 1) := by decide +kernel
theorem d_La_ofBlock_4 : decode b_La_ofBlock 4 = .ok (.iload_n 2, 1) := by decide +kernel
theorem d_La_ofBlock_5 : decode b_La_ofBlock 5 = .ok (.invokevirtual 63, 3) := by decide +kernel
theorem d_La_ofBlock_8 : decode b_La_ofBlock 8 = .ok (.i2l, 1) := by decide +kernel
theorem d_La_ofBlock_9 : decode b_La_ofBlock 9 = .ok (.lastore, 1) := by decide +kernel
theorem d_La_ofBlock_10 : decode b_La_ofBlock 10 = .ok (.goto 7, 3) := by decide +kernel
theorem d_La_ofBlock_13 : decode b_La_ofBlock 13 = .ok (.astore 4, 2) := by decide +kernel
theorem d_La_ofBlock_15 : decode b_La_ofBlock 15 = .ok (.iconst 1, 1) := by decide +kernel
theorem d_La_ofBlock_16 : decode b_La_ofBlock 16 = .ok (.ireturn, 1) := by decide +kernel
theorem d_La_ofBlock_17 : decode b_La_ofBlock 17 = .ok (.iconst 0, 1) := by decide +kernel
theorem d_La_ofBlock_18 : decode b_La_ofBlock 18 = .ok (.ireturn, 1) := by decide +kernel
theorem d_La_ofEnd_0 : decode b_La_ofEnd 0 = .ok (.aload_n 3, 1) := by decide +kernel
theorem d_La_ofEnd_1 : decode b_La_ofEnd 1 = .ok (.iconst 0, 1) := by decide +kernel
theorem d_La_ofEnd_2 : decode b_La_ofEnd 2 = .ok (.aload_n 0, 1) := by decide +kernel
theorem d_La_ofEnd_3 : decode b_La_ofEnd 3 = .ok (.iload_n 1, 1) := by decide +kernel
theorem d_La_ofEnd_4 : decode b_La_ofEnd 4 = .ok (.iload_n 2, 1) := by decide +kernel
theorem d_La_ofEnd_5 : decode b_La_ofEnd 5 = .ok (.invokevirtual 66, 3) := by decide +kernel
theorem d_La_ofEnd_8 : decode b_La_ofEnd 8 = .ok (.i2l, 1) := by decide +kernel
theorem d_La_ofEnd_9 : decode b_La_ofEnd 9 = .ok (.lastore, 1) := by decide +kernel
theorem d_La_ofEnd_10 : decode b_La_ofEnd 10 = .ok (.goto 7, 3) := by decide +kernel
theorem d_La_ofEnd_13 : decode b_La_ofEnd 13 = .ok (.astore 4, 2) := by decide +kernel
theorem d_La_ofEnd_15 : decode b_La_ofEnd 15 = .ok (.iconst 1, 1) := by decide +kernel
theorem d_La_ofEnd_16 : decode b_La_ofEnd 16 = .ok (.ireturn, 1) := by decide +kernel
theorem d_La_ofEnd_17 : decode b_La_ofEnd 17 = .ok (.iconst 0, 1) := by decide +kernel
theorem d_La_ofEnd_18 : decode b_La_ofEnd 18 = .ok (.ireturn, 1) := by decide +kernel
theorem d_La_law_0 : decode code 0 = .ok (.new 8, 3) := by decide +kernel
theorem d_La_law_3 : decode code 3 = .ok (.dup, 1) := by decide +kernel
theorem d_La_law_4 : decode code 4 = .ok (.invokespecial 69, 3) := by decide +kernel
theorem d_La_law_7 : decode code 7 = .ok (.astore_n 1, 1) := by decide +kernel
theorem d_La_law_8 : decode code 8 = .ok (.new 70, 3) := by decide +kernel
theorem d_La_law_11 : decode code 11 = .ok (.dup, 1) := by decide +kernel
theorem d_La_law_12 : decode code 12 = .ok (.invokespecial 72, 3) := by decide +kernel
theorem d_La_law_15 : decode code 15 = .ok (.astore_n 2, 1) := by decide +kernel
theorem d_La_law_16 : decode code 16 = .ok (.iconst 1, 1) := by decide +kernel
theorem d_La_law_17 : decode code 17 = .ok (.newarray .long, 2) := by decide +kernel
theorem d_La_law_19 : decode code 19 = .ok (.astore_n 3, 1) := by decide +kernel
theorem d_La_law_20 : decode code 20 = .ok (.iconst 0, 1) := by decide +kernel
theorem d_La_law_21 : decode code 21 = .ok (.istore 4, 2) := by decide +kernel
theorem d_La_law_23 : decode code 23 = .ok (.iload 4, 2) := by decide +kernel
theorem d_La_law_25 : decode code 25 = .ok (.aload_n 0, 1) := by decide +kernel
theorem d_La_law_26 : decode code 26 = .ok (.arraylength, 1) := by decide +kernel
theorem d_La_law_27 : decode code 27 = .ok (.iconst 5, 1) := by decide +kernel
theorem d_La_law_28 : decode code 28 = .ok (.isub, 1) := by decide +kernel
theorem d_La_law_29 : decode code 29 = .ok (.if_icmp .gt 1122, 3) := by decide +kernel
theorem d_La_law_32 : decode code 32 = .ok (.aload_n 0, 1) := by decide +kernel
theorem d_La_law_33 : decode code 33 = .ok (.iload 4, 2) := by decide +kernel
theorem d_La_law_35 : decode code 35 = .ok (.iaload, 1) := by decide +kernel
theorem d_La_law_36 : decode code 36 = .ok (.bipush 15, 2) := by decide +kernel
theorem d_La_law_38 : decode code 38 = .ok (.iand, 1) := by decide +kernel
theorem d_La_law_39 : decode code 39 = .ok (.tableswitch 1106 0 15 #[77, 165, 221, 265, 321, 389, 437, 517, 589, 669, 741, 809, 877, 945, 1013, 1081], 77) := by decide +kernel
theorem d_La_law_116 : decode code 116 = .ok (.aload_n 1, 1) := by decide +kernel
theorem d_La_law_117 : decode code 117 = .ok (.aload_n 0, 1) := by decide +kernel
theorem d_La_law_118 : decode code 118 = .ok (.iload 4, 2) := by decide +kernel
theorem d_La_law_120 : decode code 120 = .ok (.iconst 1, 1) := by decide +kernel
theorem d_La_law_121 : decode code 121 = .ok (.iadd, 1) := by decide +kernel
theorem d_La_law_122 : decode code 122 = .ok (.iaload, 1) := by decide +kernel
theorem d_La_law_123 : decode code 123 = .ok (.i2l, 1) := by decide +kernel
theorem d_La_law_124 : decode code 124 = .ok (.bipush 32, 2) := by decide +kernel
theorem d_La_law_126 : decode code 126 = .ok (.lshl, 1) := by decide +kernel
theorem d_La_law_127 : decode code 127 = .ok (.aload_n 0, 1) := by decide +kernel
theorem d_La_law_128 : decode code 128 = .ok (.iload 4, 2) := by decide +kernel
theorem d_La_law_130 : decode code 130 = .ok (.iconst 2, 1) := by decide +kernel
theorem d_La_law_131 : decode code 131 = .ok (.iadd, 1) := by decide +kernel
theorem d_La_law_132 : decode code 132 = .ok (.iaload, 1) := by decide +kernel
theorem d_La_law_133 : decode code 133 = .ok (.i2l, 1) := by decide +kernel
theorem d_La_law_134 : decode code 134 = .ok (.ldc2_w 73, 3) := by decide +kernel
theorem d_La_law_137 : decode code 137 = .ok (.land, 1) := by decide +kernel
theorem d_La_law_138 : decode code 138 = .ok (.lor, 1) := by decide +kernel
theorem d_La_law_139 : decode code 139 = .ok (.aload_n 3, 1) := by decide +kernel
theorem d_La_law_140 : decode code 140 = .ok (.invokestatic 75, 3) := by decide +kernel
theorem d_La_law_143 : decode code 143 = .ok (.istore 5, 2) := by decide +kernel
theorem d_La_law_145 : decode code 145 = .ok (.aload_n 2, 1) := by decide +kernel
theorem d_La_law_146 : decode code 146 = .ok (.aload_n 0, 1) := by decide +kernel
theorem d_La_law_147 : decode code 147 = .ok (.iload 4, 2) := by decide +kernel
theorem d_La_law_149 : decode code 149 = .ok (.iconst 1, 1) := by decide +kernel
theorem d_La_law_150 : decode code 150 = .ok (.iadd, 1) := by decide +kernel
theorem d_La_law_151 : decode code 151 = .ok (.iaload, 1) := by decide +kernel
theorem d_La_law_152 : decode code 152 = .ok (.i2l, 1) := by decide +kernel
theorem d_La_law_153 : decode code 153 = .ok (.bipush 32, 2) := by decide +kernel
theorem d_La_law_155 : decode code 155 = .ok (.lshl, 1) := by decide +kernel
theorem d_La_law_156 : decode code 156 = .ok (.aload_n 0, 1) := by decide +kernel
theorem d_La_law_157 : decode code 157 = .ok (.iload 4, 2) := by decide +kernel
theorem d_La_law_159 : decode code 159 = .ok (.iconst 2, 1) := by decide +kernel
theorem d_La_law_160 : decode code 160 = .ok (.iadd, 1) := by decide +kernel
theorem d_La_law_161 : decode code 161 = .ok (.iaload, 1) := by decide +kernel
theorem d_La_law_162 : decode code 162 = .ok (.i2l, 1) := by decide +kernel
theorem d_La_law_163 : decode code 163 = .ok (.ldc2_w 73, 3) := by decide +kernel
theorem d_La_law_166 : decode code 166 = .ok (.land, 1) := by decide +kernel
theorem d_La_law_167 : decode code 167 = .ok (.lor, 1) := by decide +kernel
theorem d_La_law_168 : decode code 168 = .ok (.invokevirtual 80, 3) := by decide +kernel
theorem d_La_law_171 : decode code 171 = .ok (.istore 6, 2) := by decide +kernel
theorem d_La_law_173 : decode code 173 = .ok (.aload_n 2, 1) := by decide +kernel
theorem d_La_law_174 : decode code 174 = .ok (.invokevirtual 81, 3) := by decide +kernel
theorem d_La_law_177 : decode code 177 = .ok (.iload 5, 2) := by decide +kernel
theorem d_La_law_179 : decode code 179 = .ok (.if_icmp .eq 5, 3) := by decide +kernel
theorem d_La_law_182 : decode code 182 = .ok (.iconst 0, 1) := by decide +kernel
theorem d_La_law_183 : decode code 183 = .ok (.ireturn, 1) := by decide +kernel
theorem d_La_law_184 : decode code 184 = .ok (.iload 5, 2) := by decide +kernel
theorem d_La_law_186 : decode code 186 = .ok (.ifCond .ne 15, 3) := by decide +kernel
theorem d_La_law_189 : decode code 189 = .ok (.aload_n 3, 1) := by decide +kernel
theorem d_La_law_190 : decode code 190 = .ok (.iconst 0, 1) := by decide +kernel
theorem d_La_law_191 : decode code 191 = .ok (.laload, 1) := by decide +kernel
theorem d_La_law_192 : decode code 192 = .ok (.iload 6, 2) := by decide +kernel
theorem d_La_law_194 : decode code 194 = .ok (.i2l, 1) := by decide +kernel
theorem d_La_law_195 : decode code 195 = .ok (.lcmp, 1) := by decide +kernel
theorem d_La_law_196 : decode code 196 = .ok (.ifCond .eq 5, 3) := by decide +kernel
theorem d_La_law_199 : decode code 199 = .ok (.iconst 0, 1) := by decide +kernel
theorem d_La_law_200 : decode code 200 = .ok (.ireturn, 1) := by decide +kernel
theorem d_La_law_201 : decode code 201 = .ok (.goto 944, 3) := by decide +kernel
theorem d_La_law_204 : decode code 204 = .ok (.aload_n 1, 1) := by decide +kernel
theorem d_La_law_205 : decode code 205 = .ok (.aload_n 0, 1) := by decide +kernel
theorem d_La_law_206 : decode code 206 = .ok (.iload 4, 2) := by decide +kernel
theorem d_La_law_208 : decode code 208 = .ok (.iconst 1, 1) := by decide +kernel
theorem d_La_law_209 : decode code 209 = .ok (.iadd, 1) := by decide +kernel
theorem d_La_law_210 : decode code 210 = .ok (.iaload, 1) := by decide +kernel
theorem d_La_law_211 : decode code 211 = .ok (.aload_n 3, 1) := by decide +kernel
theorem d_La_law_212 : decode code 212 = .ok (.invokestatic 84, 3) := by decide +kernel
theorem d_La_law_215 : decode code 215 = .ok (.istore 5, 2) := by decide +kernel
theorem d_La_law_217 : decode code 217 = .ok (.aload_n 2, 1) := by decide +kernel
theorem d_La_law_218 : decode code 218 = .ok (.aload_n 0, 1) := by decide +kernel
theorem d_La_law_219 : decode code 219 = .ok (.iload 4, 2) := by decide +kernel
theorem d_La_law_221 : decode code 221 = .ok (.iconst 1, 1) := by decide +kernel
theorem d_La_law_222 : decode code 222 = .ok (.iadd, 1) := by decide +kernel
theorem d_La_law_223 : decode code 223 = .ok (.iaload, 1) := by decide +kernel
theorem d_La_law_224 : decode code 224 = .ok (.invokevirtual 87, 3) := by decide +kernel
theorem d_La_law_227 : decode code 227 = .ok (.istore 6, 2) := by decide +kernel
theorem d_La_law_229 : decode code 229 = .ok (.aload_n 2, 1) := by decide +kernel
theorem d_La_law_230 : decode code 230 = .ok (.invokevirtual 81, 3) := by decide +kernel
theorem d_La_law_233 : decode code 233 = .ok (.iload 5, 2) := by decide +kernel
theorem d_La_law_235 : decode code 235 = .ok (.if_icmp .eq 5, 3) := by decide +kernel
theorem d_La_law_238 : decode code 238 = .ok (.iconst 0, 1) := by decide +kernel
theorem d_La_law_239 : decode code 239 = .ok (.ireturn, 1) := by decide +kernel
theorem d_La_law_240 : decode code 240 = .ok (.iload 5, 2) := by decide +kernel
theorem d_La_law_242 : decode code 242 = .ok (.ifCond .ne 15, 3) := by decide +kernel
theorem d_La_law_245 : decode code 245 = .ok (.aload_n 3, 1) := by decide +kernel
theorem d_La_law_246 : decode code 246 = .ok (.iconst 0, 1) := by decide +kernel
theorem d_La_law_247 : decode code 247 = .ok (.laload, 1) := by decide +kernel
theorem d_La_law_248 : decode code 248 = .ok (.iload 6, 2) := by decide +kernel
theorem d_La_law_250 : decode code 250 = .ok (.i2l, 1) := by decide +kernel
theorem d_La_law_251 : decode code 251 = .ok (.lcmp, 1) := by decide +kernel
theorem d_La_law_252 : decode code 252 = .ok (.ifCond .eq 5, 3) := by decide +kernel
theorem d_La_law_255 : decode code 255 = .ok (.iconst 0, 1) := by decide +kernel
theorem d_La_law_256 : decode code 256 = .ok (.ireturn, 1) := by decide +kernel
theorem d_La_law_257 : decode code 257 = .ok (.goto 888, 3) := by decide +kernel
theorem d_La_law_260 : decode code 260 = .ok (.aload_n 1, 1) := by decide +kernel
theorem d_La_law_261 : decode code 261 = .ok (.aload_n 3, 1) := by decide +kernel
theorem d_La_law_262 : decode code 262 = .ok (.invokestatic 88, 3) := by decide +kernel
theorem d_La_law_265 : decode code 265 = .ok (.istore 5, 2) := by decide +kernel
theorem d_La_law_267 : decode code 267 = .ok (.aload_n 2, 1) := by decide +kernel
theorem d_La_law_268 : decode code 268 = .ok (.invokevirtual 91, 3) := by decide +kernel
theorem d_La_law_271 : decode code 271 = .ok (.istore 6, 2) := by decide +kernel
theorem d_La_law_273 : decode code 273 = .ok (.aload_n 2, 1) := by decide +kernel
theorem d_La_law_274 : decode code 274 = .ok (.invokevirtual 81, 3) := by decide +kernel
theorem d_La_law_277 : decode code 277 = .ok (.iload 5, 2) := by decide +kernel
theorem d_La_law_279 : decode code 279 = .ok (.if_icmp .eq 5, 3) := by decide +kernel
theorem d_La_law_282 : decode code 282 = .ok (.iconst 0, 1) := by decide +kernel
theorem d_La_law_283 : decode code 283 = .ok (.ireturn, 1) := by decide +kernel
theorem d_La_law_284 : decode code 284 = .ok (.iload 5, 2) := by decide +kernel
theorem d_La_law_286 : decode code 286 = .ok (.ifCond .ne 15, 3) := by decide +kernel
theorem d_La_law_289 : decode code 289 = .ok (.aload_n 3, 1) := by decide +kernel
theorem d_La_law_290 : decode code 290 = .ok (.iconst 0, 1) := by decide +kernel
theorem d_La_law_291 : decode code 291 = .ok (.laload, 1) := by decide +kernel
theorem d_La_law_292 : decode code 292 = .ok (.iload 6, 2) := by decide +kernel
theorem d_La_law_294 : decode code 294 = .ok (.i2l, 1) := by decide +kernel
theorem d_La_law_295 : decode code 295 = .ok (.lcmp, 1) := by decide +kernel
theorem d_La_law_296 : decode code 296 = .ok (.ifCond .eq 5, 3) := by decide +kernel
theorem d_La_law_299 : decode code 299 = .ok (.iconst 0, 1) := by decide +kernel
theorem d_La_law_300 : decode code 300 = .ok (.ireturn, 1) := by decide +kernel
theorem d_La_law_301 : decode code 301 = .ok (.goto 844, 3) := by decide +kernel
theorem d_La_law_304 : decode code 304 = .ok (.aload_n 1, 1) := by decide +kernel
theorem d_La_law_305 : decode code 305 = .ok (.aload_n 0, 1) := by decide +kernel
theorem d_La_law_306 : decode code 306 = .ok (.iload 4, 2) := by decide +kernel
theorem d_La_law_308 : decode code 308 = .ok (.iconst 1, 1) := by decide +kernel
theorem d_La_law_309 : decode code 309 = .ok (.iadd, 1) := by decide +kernel
theorem d_La_law_310 : decode code 310 = .ok (.iaload, 1) := by decide +kernel
theorem d_La_law_311 : decode code 311 = .ok (.aload_n 3, 1) := by decide +kernel
theorem d_La_law_312 : decode code 312 = .ok (.invokestatic 92, 3) := by decide +kernel
theorem d_La_law_315 : decode code 315 = .ok (.istore 5, 2) := by decide +kernel
theorem d_La_law_317 : decode code 317 = .ok (.aload_n 2, 1) := by decide +kernel
theorem d_La_law_318 : decode code 318 = .ok (.aload_n 0, 1) := by decide +kernel
theorem d_La_law_319 : decode code 319 = .ok (.iload 4, 2) := by decide +kernel
theorem d_La_law_321 : decode code 321 = .ok (.iconst 1, 1) := by decide +kernel
theorem d_La_law_322 : decode code 322 = .ok (.iadd, 1) := by decide +kernel
theorem d_La_law_323 : decode code 323 = .ok (.iaload, 1) := by decide +kernel
theorem d_La_law_324 : decode code 324 = .ok (.invokevirtual 94, 3) := by decide +kernel
theorem d_La_law_327 : decode code 327 = .ok (.istore 6, 2) := by decide +kernel
theorem d_La_law_329 : decode code 329 = .ok (.aload_n 2, 1) := by decide +kernel
theorem d_La_law_330 : decode code 330 = .ok (.invokevirtual 81, 3) := by decide +kernel
theorem d_La_law_333 : decode code 333 = .ok (.iload 5, 2) := by decide +kernel
theorem d_La_law_335 : decode code 335 = .ok (.if_icmp .eq 5, 3) := by decide +kernel
theorem d_La_law_338 : decode code 338 = .ok (.iconst 0, 1) := by decide +kernel
theorem d_La_law_339 : decode code 339 = .ok (.ireturn, 1) := by decide +kernel
theorem d_La_law_340 : decode code 340 = .ok (.iload 5, 2) := by decide +kernel
theorem d_La_law_342 : decode code 342 = .ok (.ifCond .ne 15, 3) := by decide +kernel
theorem d_La_law_345 : decode code 345 = .ok (.aload_n 3, 1) := by decide +kernel
theorem d_La_law_346 : decode code 346 = .ok (.iconst 0, 1) := by decide +kernel
theorem d_La_law_347 : decode code 347 = .ok (.laload, 1) := by decide +kernel
theorem d_La_law_348 : decode code 348 = .ok (.iload 6, 2) := by decide +kernel
theorem d_La_law_350 : decode code 350 = .ok (.i2l, 1) := by decide +kernel
theorem d_La_law_351 : decode code 351 = .ok (.lcmp, 1) := by decide +kernel
theorem d_La_law_352 : decode code 352 = .ok (.ifCond .eq 5, 3) := by decide +kernel
theorem d_La_law_355 : decode code 355 = .ok (.iconst 0, 1) := by decide +kernel
theorem d_La_law_356 : decode code 356 = .ok (.ireturn, 1) := by decide +kernel
theorem d_La_law_357 : decode code 357 = .ok (.goto 788, 3) := by decide +kernel
theorem d_La_law_360 : decode code 360 = .ok (.aload_n 1, 1) := by decide +kernel
theorem d_La_law_361 : decode code 361 = .ok (.aload_n 0, 1) := by decide +kernel
theorem d_La_law_362 : decode code 362 = .ok (.iload 4, 2) := by decide +kernel
theorem d_La_law_364 : decode code 364 = .ok (.iconst 1, 1) := by decide +kernel
theorem d_La_law_365 : decode code 365 = .ok (.iadd, 1) := by decide +kernel
theorem d_La_law_366 : decode code 366 = .ok (.iaload, 1) := by decide +kernel
theorem d_La_law_367 : decode code 367 = .ok (.aload_n 0, 1) := by decide +kernel
theorem d_La_law_368 : decode code 368 = .ok (.iload 4, 2) := by decide +kernel
theorem d_La_law_370 : decode code 370 = .ok (.iconst 2, 1) := by decide +kernel
theorem d_La_law_371 : decode code 371 = .ok (.iadd, 1) := by decide +kernel
theorem d_La_law_372 : decode code 372 = .ok (.iaload, 1) := by decide +kernel
theorem d_La_law_373 : decode code 373 = .ok (.aload_n 3, 1) := by decide +kernel
theorem d_La_law_374 : decode code 374 = .ok (.invokestatic 95, 3) := by decide +kernel
theorem d_La_law_377 : decode code 377 = .ok (.istore 5, 2) := by decide +kernel
theorem d_La_law_379 : decode code 379 = .ok (.aload_n 2, 1) := by decide +kernel
theorem d_La_law_380 : decode code 380 = .ok (.aload_n 0, 1) := by decide +kernel
theorem d_La_law_381 : decode code 381 = .ok (.iload 4, 2) := by decide +kernel
theorem d_La_law_383 : decode code 383 = .ok (.iconst 1, 1) := by decide +kernel
theorem d_La_law_384 : decode code 384 = .ok (.iadd, 1) := by decide +kernel
theorem d_La_law_385 : decode code 385 = .ok (.iaload, 1) := by decide +kernel
theorem d_La_law_386 : decode code 386 = .ok (.aload_n 0, 1) := by decide +kernel
theorem d_La_law_387 : decode code 387 = .ok (.iload 4, 2) := by decide +kernel
theorem d_La_law_389 : decode code 389 = .ok (.iconst 2, 1) := by decide +kernel
theorem d_La_law_390 : decode code 390 = .ok (.iadd, 1) := by decide +kernel
theorem d_La_law_391 : decode code 391 = .ok (.iaload, 1) := by decide +kernel
theorem d_La_law_392 : decode code 392 = .ok (.invokevirtual 98, 3) := by decide +kernel
theorem d_La_law_395 : decode code 395 = .ok (.istore 6, 2) := by decide +kernel
theorem d_La_law_397 : decode code 397 = .ok (.aload_n 2, 1) := by decide +kernel
theorem d_La_law_398 : decode code 398 = .ok (.invokevirtual 81, 3) := by decide +kernel
theorem d_La_law_401 : decode code 401 = .ok (.iload 5, 2) := by decide +kernel
theorem d_La_law_403 : decode code 403 = .ok (.if_icmp .eq 5, 3) := by decide +kernel
theorem d_La_law_406 : decode code 406 = .ok (.iconst 0, 1) := by decide +kernel
theorem d_La_law_407 : decode code 407 = .ok (.ireturn, 1) := by decide +kernel
theorem d_La_law_408 : decode code 408 = .ok (.iload 5, 2) := by decide +kernel
theorem d_La_law_410 : decode code 410 = .ok (.ifCond .ne 15, 3) := by decide +kernel
theorem d_La_law_413 : decode code 413 = .ok (.aload_n 3, 1) := by decide +kernel
theorem d_La_law_414 : decode code 414 = .ok (.iconst 0, 1) := by decide +kernel
theorem d_La_law_415 : decode code 415 = .ok (.laload, 1) := by decide +kernel
theorem d_La_law_416 : decode code 416 = .ok (.iload 6, 2) := by decide +kernel
theorem d_La_law_418 : decode code 418 = .ok (.i2l, 1) := by decide +kernel
theorem d_La_law_419 : decode code 419 = .ok (.lcmp, 1) := by decide +kernel
theorem d_La_law_420 : decode code 420 = .ok (.ifCond .eq 5, 3) := by decide +kernel
theorem d_La_law_423 : decode code 423 = .ok (.iconst 0, 1) := by decide +kernel
theorem d_La_law_424 : decode code 424 = .ok (.ireturn, 1) := by decide +kernel
theorem d_La_law_425 : decode code 425 = .ok (.goto 720, 3) := by decide +kernel
theorem d_La_law_428 : decode code 428 = .ok (.aload_n 1, 1) := by decide +kernel
theorem d_La_law_429 : decode code 429 = .ok (.aload_n 0, 1) := by decide +kernel
theorem d_La_law_430 : decode code 430 = .ok (.iload 4, 2) := by decide +kernel
theorem d_La_law_432 : decode code 432 = .ok (.iconst 1, 1) := by decide +kernel
theorem d_La_law_433 : decode code 433 = .ok (.iadd, 1) := by decide +kernel
theorem d_La_law_434 : decode code 434 = .ok (.iaload, 1) := by decide +kernel
theorem d_La_law_435 : decode code 435 = .ok (.aload_n 0, 1) := by decide +kernel
theorem d_La_law_436 : decode code 436 = .ok (.iload 4, 2) := by decide +kernel
theorem d_La_law_438 : decode code 438 = .ok (.iconst 2, 1) := by decide +kernel
theorem d_La_law_439 : decode code 439 = .ok (.iadd, 1) := by decide +kernel
theorem d_La_law_440 : decode code 440 = .ok (.iaload, 1) := by decide +kernel
theorem d_La_law_441 : decode code 441 = .ok (.invokestatic 99, 3) := by decide +kernel
theorem d_La_law_444 : decode code 444 = .ok (.istore 5, 2) := by decide +kernel
theorem d_La_law_446 : decode code 446 = .ok (.aload_n 2, 1) := by decide +kernel
theorem d_La_law_447 : decode code 447 = .ok (.aload_n 0, 1) := by decide +kernel
theorem d_La_law_448 : decode code 448 = .ok (.iload 4, 2) := by decide +kernel
theorem d_La_law_450 : decode code 450 = .ok (.iconst 1, 1) := by decide +kernel
theorem d_La_law_451 : decode code 451 = .ok (.iadd, 1) := by decide +kernel
theorem d_La_law_452 : decode code 452 = .ok (.iaload, 1) := by decide +kernel
theorem d_La_law_453 : decode code 453 = .ok (.aload_n 0, 1) := by decide +kernel
theorem d_La_law_454 : decode code 454 = .ok (.iload 4, 2) := by decide +kernel
theorem d_La_law_456 : decode code 456 = .ok (.iconst 2, 1) := by decide +kernel
theorem d_La_law_457 : decode code 457 = .ok (.iadd, 1) := by decide +kernel
theorem d_La_law_458 : decode code 458 = .ok (.iaload, 1) := by decide +kernel
theorem d_La_law_459 : decode code 459 = .ok (.invokevirtual 102, 3) := by decide +kernel
theorem d_La_law_462 : decode code 462 = .ok (.aload_n 2, 1) := by decide +kernel
theorem d_La_law_463 : decode code 463 = .ok (.invokevirtual 81, 3) := by decide +kernel
theorem d_La_law_466 : decode code 466 = .ok (.iload 5, 2) := by decide +kernel
theorem d_La_law_468 : decode code 468 = .ok (.if_icmp .eq 5, 3) := by decide +kernel
theorem d_La_law_471 : decode code 471 = .ok (.iconst 0, 1) := by decide +kernel
theorem d_La_law_472 : decode code 472 = .ok (.ireturn, 1) := by decide +kernel
theorem d_La_law_473 : decode code 473 = .ok (.goto 672, 3) := by decide +kernel
theorem d_La_law_476 : decode code 476 = .ok (.aload_n 1, 1) := by decide +kernel
theorem d_La_law_477 : decode code 477 = .ok (.aload_n 0, 1) := by decide +kernel
theorem d_La_law_478 : decode code 478 = .ok (.iload 4, 2) := by decide +kernel
theorem d_La_law_480 : decode code 480 = .ok (.iconst 1, 1) := by decide +kernel
theorem d_La_law_481 : decode code 481 = .ok (.iadd, 1) := by decide +kernel
theorem d_La_law_482 : decode code 482 = .ok (.iaload, 1) := by decide +kernel
theorem d_La_law_483 : decode code 483 = .ok (.aload_n 0, 1) := by decide +kernel
theorem d_La_law_484 : decode code 484 = .ok (.iload 4, 2) := by decide +kernel
theorem d_La_law_486 : decode code 486 = .ok (.iconst 2, 1) := by decide +kernel
theorem d_La_law_487 : decode code 487 = .ok (.iadd, 1) := by decide +kernel
theorem d_La_law_488 : decode code 488 = .ok (.iaload, 1) := by decide +kernel
theorem d_La_law_489 : decode code 489 = .ok (.aload_n 0, 1) := by decide +kernel
theorem d_La_law_490 : decode code 490 = .ok (.iload 4, 2) := by decide +kernel
theorem d_La_law_492 : decode code 492 = .ok (.iconst 3, 1) := by decide +kernel
theorem d_La_law_493 : decode code 493 = .ok (.iadd, 1) := by decide +kernel
theorem d_La_law_494 : decode code 494 = .ok (.iaload, 1) := by decide +kernel
theorem d_La_law_495 : decode code 495 = .ok (.aload_n 3, 1) := by decide +kernel
theorem d_La_law_496 : decode code 496 = .ok (.invokestatic 103, 3) := by decide +kernel
theorem d_La_law_499 : decode code 499 = .ok (.istore 5, 2) := by decide +kernel
theorem d_La_law_501 : decode code 501 = .ok (.aload_n 2, 1) := by decide +kernel
theorem d_La_law_502 : decode code 502 = .ok (.aload_n 0, 1) := by decide +kernel
theorem d_La_law_503 : decode code 503 = .ok (.iload 4, 2) := by decide +kernel
theorem d_La_law_505 : decode code 505 = .ok (.iconst 1, 1) := by decide +kernel
theorem d_La_law_506 : decode code 506 = .ok (.iadd, 1) := by decide +kernel
theorem d_La_law_507 : decode code 507 = .ok (.iaload, 1) := by decide +kernel
theorem d_La_law_508 : decode code 508 = .ok (.aload_n 0, 1) := by decide +kernel
theorem d_La_law_509 : decode code 509 = .ok (.iload 4, 2) := by decide +kernel
theorem d_La_law_511 : decode code 511 = .ok (.iconst 2, 1) := by decide +kernel
theorem d_La_law_512 : decode code 512 = .ok (.iadd, 1) := by decide +kernel
theorem d_La_law_513 : decode code 513 = .ok (.iaload, 1) := by decide +kernel
theorem d_La_law_514 : decode code 514 = .ok (.aload_n 0, 1) := by decide +kernel
theorem d_La_law_515 : decode code 515 = .ok (.iload 4, 2) := by decide +kernel
theorem d_La_law_517 : decode code 517 = .ok (.iconst 3, 1) := by decide +kernel
theorem d_La_law_518 : decode code 518 = .ok (.iadd, 1) := by decide +kernel
theorem d_La_law_519 : decode code 519 = .ok (.iaload, 1) := by decide +kernel
theorem d_La_law_520 : decode code 520 = .ok (.invokevirtual 106, 3) := by decide +kernel
theorem d_La_law_523 : decode code 523 = .ok (.istore 6, 2) := by decide +kernel
theorem d_La_law_525 : decode code 525 = .ok (.aload_n 2, 1) := by decide +kernel
theorem d_La_law_526 : decode code 526 = .ok (.invokevirtual 81, 3) := by decide +kernel
theorem d_La_law_529 : decode code 529 = .ok (.iload 5, 2) := by decide +kernel
theorem d_La_law_531 : decode code 531 = .ok (.if_icmp .eq 5, 3) := by decide +kernel
theorem d_La_law_534 : decode code 534 = .ok (.iconst 0, 1) := by decide +kernel
theorem d_La_law_535 : decode code 535 = .ok (.ireturn, 1) := by decide +kernel
theorem d_La_law_536 : decode code 536 = .ok (.iload 5, 2) := by decide +kernel
theorem d_La_law_538 : decode code 538 = .ok (.ifCond .ne 15, 3) := by decide +kernel
theorem d_La_law_541 : decode code 541 = .ok (.aload_n 3, 1) := by decide +kernel
theorem d_La_law_542 : decode code 542 = .ok (.iconst 0, 1) := by decide +kernel
theorem d_La_law_543 : decode code 543 = .ok (.laload, 1) := by decide +kernel
theorem d_La_law_544 : decode code 544 = .ok (.iload 6, 2) := by decide +kernel
theorem d_La_law_546 : decode code 546 = .ok (.i2l, 1) := by decide +kernel
theorem d_La_law_547 : decode code 547 = .ok (.lcmp, 1) := by decide +kernel
theorem d_La_law_548 : decode code 548 = .ok (.ifCond .eq 5, 3) := by decide +kernel
theorem d_La_law_551 : decode code 551 = .ok (.iconst 0, 1) := by decide +kernel
theorem d_La_law_552 : decode code 552 = .ok (.ireturn, 1) := by decide +kernel
theorem d_La_law_553 : decode code 553 = .ok (.goto 592, 3) := by decide +kernel
theorem d_La_law_556 : decode code 556 = .ok (.aload_n 1, 1) := by decide +kernel
theorem d_La_law_557 : decode code 557 = .ok (.aload_n 0, 1) := by decide +kernel
theorem d_La_law_558 : decode code 558 = .ok (.iload 4, 2) := by decide +kernel
theorem d_La_law_560 : decode code 560 = .ok (.iconst 1, 1) := by decide +kernel
theorem d_La_law_561 : decode code 561 = .ok (.iadd, 1) := by decide +kernel
theorem d_La_law_562 : decode code 562 = .ok (.iaload, 1) := by decide +kernel
theorem d_La_law_563 : decode code 563 = .ok (.aload_n 0, 1) := by decide +kernel
theorem d_La_law_564 : decode code 564 = .ok (.iload 4, 2) := by decide +kernel
theorem d_La_law_566 : decode code 566 = .ok (.iconst 2, 1) := by decide +kernel
theorem d_La_law_567 : decode code 567 = .ok (.iadd, 1) := by decide +kernel
theorem d_La_law_568 : decode code 568 = .ok (.iaload, 1) := by decide +kernel
theorem d_La_law_569 : decode code 569 = .ok (.aload_n 0, 1) := by decide +kernel
theorem d_La_law_570 : decode code 570 = .ok (.iload 4, 2) := by decide +kernel
theorem d_La_law_572 : decode code 572 = .ok (.iconst 3, 1) := by decide +kernel
theorem d_La_law_573 : decode code 573 = .ok (.iadd, 1) := by decide +kernel
theorem d_La_law_574 : decode code 574 = .ok (.iaload, 1) := by decide +kernel
theorem d_La_law_575 : decode code 575 = .ok (.aload_n 0, 1) := by decide +kernel
theorem d_La_law_576 : decode code 576 = .ok (.iload 4, 2) := by decide +kernel
theorem d_La_law_578 : decode code 578 = .ok (.iconst 4, 1) := by decide +kernel
theorem d_La_law_579 : decode code 579 = .ok (.iadd, 1) := by decide +kernel
theorem d_La_law_580 : decode code 580 = .ok (.iaload, 1) := by decide +kernel
theorem d_La_law_581 : decode code 581 = .ok (.invokestatic 107, 3) := by decide +kernel
theorem d_La_law_584 : decode code 584 = .ok (.istore 5, 2) := by decide +kernel
theorem d_La_law_586 : decode code 586 = .ok (.aload_n 2, 1) := by decide +kernel
theorem d_La_law_587 : decode code 587 = .ok (.aload_n 0, 1) := by decide +kernel
theorem d_La_law_588 : decode code 588 = .ok (.iload 4, 2) := by decide +kernel
theorem d_La_law_590 : decode code 590 = .ok (.iconst 1, 1) := by decide +kernel
theorem d_La_law_591 : decode code 591 = .ok (.iadd, 1) := by decide +kernel
theorem d_La_law_592 : decode code 592 = .ok (.iaload, 1) := by decide +kernel
theorem d_La_law_593 : decode code 593 = .ok (.aload_n 0, 1) := by decide +kernel
theorem d_La_law_594 : decode code 594 = .ok (.iload 4, 2) := by decide +kernel
theorem d_La_law_596 : decode code 596 = .ok (.iconst 2, 1) := by decide +kernel
theorem d_La_law_597 : decode code 597 = .ok (.iadd, 1) := by decide +kernel
theorem d_La_law_598 : decode code 598 = .ok (.iaload, 1) := by decide +kernel
theorem d_La_law_599 : decode code 599 = .ok (.aload_n 0, 1) := by decide +kernel
theorem d_La_law_600 : decode code 600 = .ok (.iload 4, 2) := by decide +kernel
theorem d_La_law_602 : decode code 602 = .ok (.iconst 3, 1) := by decide +kernel
theorem d_La_law_603 : decode code 603 = .ok (.iadd, 1) := by decide +kernel
theorem d_La_law_604 : decode code 604 = .ok (.iaload, 1) := by decide +kernel
theorem d_La_law_605 : decode code 605 = .ok (.aload_n 0, 1) := by decide +kernel
theorem d_La_law_606 : decode code 606 = .ok (.iload 4, 2) := by decide +kernel
theorem d_La_law_608 : decode code 608 = .ok (.iconst 4, 1) := by decide +kernel
theorem d_La_law_609 : decode code 609 = .ok (.iadd, 1) := by decide +kernel
theorem d_La_law_610 : decode code 610 = .ok (.iaload, 1) := by decide +kernel
theorem d_La_law_611 : decode code 611 = .ok (.invokevirtual 110, 3) := by decide +kernel
theorem d_La_law_614 : decode code 614 = .ok (.aload_n 2, 1) := by decide +kernel
theorem d_La_law_615 : decode code 615 = .ok (.invokevirtual 81, 3) := by decide +kernel
theorem d_La_law_618 : decode code 618 = .ok (.iload 5, 2) := by decide +kernel
theorem d_La_law_620 : decode code 620 = .ok (.if_icmp .eq 5, 3) := by decide +kernel
theorem d_La_law_623 : decode code 623 = .ok (.iconst 0, 1) := by decide +kernel
theorem d_La_law_624 : decode code 624 = .ok (.ireturn, 1) := by decide +kernel
theorem d_La_law_625 : decode code 625 = .ok (.goto 520, 3) := by decide +kernel
theorem d_La_law_628 : decode code 628 = .ok (.aload_n 1, 1) := by decide +kernel
theorem d_La_law_629 : decode code 629 = .ok (.aload_n 0, 1) := by decide +kernel
theorem d_La_law_630 : decode code 630 = .ok (.iload 4, 2) := by decide +kernel
theorem d_La_law_632 : decode code 632 = .ok (.iconst 1, 1) := by decide +kernel
theorem d_La_law_633 : decode code 633 = .ok (.iadd, 1) := by decide +kernel
theorem d_La_law_634 : decode code 634 = .ok (.iaload, 1) := by decide +kernel
theorem d_La_law_635 : decode code 635 = .ok (.aload_n 0, 1) := by decide +kernel
theorem d_La_law_636 : decode code 636 = .ok (.iload 4, 2) := by decide +kernel
theorem d_La_law_638 : decode code 638 = .ok (.iconst 2, 1) := by decide +kernel
theorem d_La_law_639 : decode code 639 = .ok (.iadd, 1) := by decide +kernel
theorem d_La_law_640 : decode code 640 = .ok (.iaload, 1) := by decide +kernel
theorem d_La_law_641 : decode code 641 = .ok (.aload_n 0, 1) := by decide +kernel
theorem d_La_law_642 : decode code 642 = .ok (.iload 4, 2) := by decide +kernel
theorem d_La_law_644 : decode code 644 = .ok (.iconst 3, 1) := by decide +kernel
theorem d_La_law_645 : decode code 645 = .ok (.iadd, 1) := by decide +kernel
theorem d_La_law_646 : decode code 646 = .ok (.iaload, 1) := by decide +kernel
theorem d_La_law_647 : decode code 647 = .ok (.aload_n 3, 1) := by decide +kernel
theorem d_La_law_648 : decode code 648 = .ok (.invokestatic 111, 3) := by decide +kernel
theorem d_La_law_651 : decode code 651 = .ok (.istore 5, 2) := by decide +kernel
theorem d_La_law_653 : decode code 653 = .ok (.aload_n 2, 1) := by decide +kernel
theorem d_La_law_654 : decode code 654 = .ok (.aload_n 0, 1) := by decide +kernel
theorem d_La_law_655 : decode code 655 = .ok (.iload 4, 2) := by decide +kernel
theorem d_La_law_657 : decode code 657 = .ok (.iconst 1, 1) := by decide +kernel
theorem d_La_law_658 : decode code 658 = .ok (.iadd, 1) := by decide +kernel
theorem d_La_law_659 : decode code 659 = .ok (.iaload, 1) := by decide +kernel
theorem d_La_law_660 : decode code 660 = .ok (.aload_n 0, 1) := by decide +kernel
theorem d_La_law_661 : decode code 661 = .ok (.iload 4, 2) := by decide +kernel
theorem d_La_law_663 : decode code 663 = .ok (.iconst 2, 1) := by decide +kernel
theorem d_La_law_664 : decode code 664 = .ok (.iadd, 1) := by decide +kernel
theorem d_La_law_665 : decode code 665 = .ok (.iaload, 1) := by decide +kernel
theorem d_La_law_666 : decode code 666 = .ok (.aload_n 0, 1) := by decide +kernel
theorem d_La_law_667 : decode code 667 = .ok (.iload 4, 2) := by decide +kernel
theorem d_La_law_669 : decode code 669 = .ok (.iconst 3, 1) := by decide +kernel
theorem d_La_law_670 : decode code 670 = .ok (.iadd, 1) := by decide +kernel
theorem d_La_law_671 : decode code 671 = .ok (.iaload, 1) := by decide +kernel
theorem d_La_law_672 : decode code 672 = .ok (.invokevirtual 113, 3) := by decide +kernel
theorem d_La_law_675 : decode code 675 = .ok (.istore 6, 2) := by decide +kernel
theorem d_La_law_677 : decode code 677 = .ok (.aload_n 2, 1) := by decide +kernel
theorem d_La_law_678 : decode code 678 = .ok (.invokevirtual 81, 3) := by decide +kernel
theorem d_La_law_681 : decode code 681 = .ok (.iload 5, 2) := by decide +kernel
theorem d_La_law_683 : decode code 683 = .ok (.if_icmp .eq 5, 3) := by decide +kernel
theorem d_La_law_686 : decode code 686 = .ok (.iconst 0, 1) := by decide +kernel
theorem d_La_law_687 : decode code 687 = .ok (.ireturn, 1) := by decide +kernel
theorem d_La_law_688 : decode code 688 = .ok (.iload 5, 2) := by decide +kernel
theorem d_La_law_690 : decode code 690 = .ok (.ifCond .ne 15, 3) := by decide +kernel
theorem d_La_law_693 : decode code 693 = .ok (.aload_n 3, 1) := by decide +kernel
theorem d_La_law_694 : decode code 694 = .ok (.iconst 0, 1) := by decide +kernel
theorem d_La_law_695 : decode code 695 = .ok (.laload, 1) := by decide +kernel
theorem d_La_law_696 : decode code 696 = .ok (.iload 6, 2) := by decide +kernel
theorem d_La_law_698 : decode code 698 = .ok (.i2l, 1) := by decide +kernel
theorem d_La_law_699 : decode code 699 = .ok (.lcmp, 1) := by decide +kernel
theorem d_La_law_700 : decode code 700 = .ok (.ifCond .eq 5, 3) := by decide +kernel
theorem d_La_law_703 : decode code 703 = .ok (.iconst 0, 1) := by decide +kernel
theorem d_La_law_704 : decode code 704 = .ok (.ireturn, 1) := by decide +kernel
theorem d_La_law_705 : decode code 705 = .ok (.goto 440, 3) := by decide +kernel
theorem d_La_law_708 : decode code 708 = .ok (.aload_n 1, 1) := by decide +kernel
theorem d_La_law_709 : decode code 709 = .ok (.aload_n 0, 1) := by decide +kernel
theorem d_La_law_710 : decode code 710 = .ok (.iload 4, 2) := by decide +kernel
theorem d_La_law_712 : decode code 712 = .ok (.iconst 1, 1) := by decide +kernel
theorem d_La_law_713 : decode code 713 = .ok (.iadd, 1) := by decide +kernel
theorem d_La_law_714 : decode code 714 = .ok (.iaload, 1) := by decide +kernel
theorem d_La_law_715 : decode code 715 = .ok (.aload_n 0, 1) := by decide +kernel
theorem d_La_law_716 : decode code 716 = .ok (.iload 4, 2) := by decide +kernel
theorem d_La_law_718 : decode code 718 = .ok (.iconst 2, 1) := by decide +kernel
theorem d_La_law_719 : decode code 719 = .ok (.iadd, 1) := by decide +kernel
theorem d_La_law_720 : decode code 720 = .ok (.iaload, 1) := by decide +kernel
theorem d_La_law_721 : decode code 721 = .ok (.aload_n 0, 1) := by decide +kernel
theorem d_La_law_722 : decode code 722 = .ok (.iload 4, 2) := by decide +kernel
theorem d_La_law_724 : decode code 724 = .ok (.iconst 3, 1) := by decide +kernel
theorem d_La_law_725 : decode code 725 = .ok (.iadd, 1) := by decide +kernel
theorem d_La_law_726 : decode code 726 = .ok (.iaload, 1) := by decide +kernel
theorem d_La_law_727 : decode code 727 = .ok (.aload_n 0, 1) := by decide +kernel
theorem d_La_law_728 : decode code 728 = .ok (.iload 4, 2) := by decide +kernel
theorem d_La_law_730 : decode code 730 = .ok (.iconst 4, 1) := by decide +kernel
theorem d_La_law_731 : decode code 731 = .ok (.iadd, 1) := by decide +kernel
theorem d_La_law_732 : decode code 732 = .ok (.iaload, 1) := by decide +kernel
theorem d_La_law_733 : decode code 733 = .ok (.invokestatic 114, 3) := by decide +kernel
theorem d_La_law_736 : decode code 736 = .ok (.istore 5, 2) := by decide +kernel
theorem d_La_law_738 : decode code 738 = .ok (.aload_n 2, 1) := by decide +kernel
theorem d_La_law_739 : decode code 739 = .ok (.aload_n 0, 1) := by decide +kernel
theorem d_La_law_740 : decode code 740 = .ok (.iload 4, 2) := by decide +kernel
theorem d_La_law_742 : decode code 742 = .ok (.iconst 1, 1) := by decide +kernel
theorem d_La_law_743 : decode code 743 = .ok (.iadd, 1) := by decide +kernel
theorem d_La_law_744 : decode code 744 = .ok (.iaload, 1) := by decide +kernel
theorem d_La_law_745 : decode code 745 = .ok (.aload_n 0, 1) := by decide +kernel
theorem d_La_law_746 : decode code 746 = .ok (.iload 4, 2) := by decide +kernel
theorem d_La_law_748 : decode code 748 = .ok (.iconst 2, 1) := by decide +kernel
theorem d_La_law_749 : decode code 749 = .ok (.iadd, 1) := by decide +kernel
theorem d_La_law_750 : decode code 750 = .ok (.iaload, 1) := by decide +kernel
theorem d_La_law_751 : decode code 751 = .ok (.aload_n 0, 1) := by decide +kernel
theorem d_La_law_752 : decode code 752 = .ok (.iload 4, 2) := by decide +kernel
theorem d_La_law_754 : decode code 754 = .ok (.iconst 3, 1) := by decide +kernel
theorem d_La_law_755 : decode code 755 = .ok (.iadd, 1) := by decide +kernel
theorem d_La_law_756 : decode code 756 = .ok (.iaload, 1) := by decide +kernel
theorem d_La_law_757 : decode code 757 = .ok (.aload_n 0, 1) := by decide +kernel
theorem d_La_law_758 : decode code 758 = .ok (.iload 4, 2) := by decide +kernel
theorem d_La_law_760 : decode code 760 = .ok (.iconst 4, 1) := by decide +kernel
theorem d_La_law_761 : decode code 761 = .ok (.iadd, 1) := by decide +kernel
theorem d_La_law_762 : decode code 762 = .ok (.iaload, 1) := by decide +kernel
theorem d_La_law_763 : decode code 763 = .ok (.invokevirtual 116, 3) := by decide +kernel
theorem d_La_law_766 : decode code 766 = .ok (.aload_n 2, 1) := by decide +kernel
theorem d_La_law_767 : decode code 767 = .ok (.invokevirtual 81, 3) := by decide +kernel
theorem d_La_law_770 : decode code 770 = .ok (.iload 5, 2) := by decide +kernel
theorem d_La_law_772 : decode code 772 = .ok (.if_icmp .eq 5, 3) := by decide +kernel
theorem d_La_law_775 : decode code 775 = .ok (.iconst 0, 1) := by decide +kernel
theorem d_La_law_776 : decode code 776 = .ok (.ireturn, 1) := by decide +kernel
theorem d_La_law_777 : decode code 777 = .ok (.goto 368, 3) := by decide +kernel
theorem d_La_law_780 : decode code 780 = .ok (.aload_n 1, 1) := by decide +kernel
theorem d_La_law_781 : decode code 781 = .ok (.aload_n 0, 1) := by decide +kernel
theorem d_La_law_782 : decode code 782 = .ok (.iload 4, 2) := by decide +kernel
theorem d_La_law_784 : decode code 784 = .ok (.iconst 1, 1) := by decide +kernel
theorem d_La_law_785 : decode code 785 = .ok (.iadd, 1) := by decide +kernel
theorem d_La_law_786 : decode code 786 = .ok (.iaload, 1) := by decide +kernel
theorem d_La_law_787 : decode code 787 = .ok (.aload_n 0, 1) := by decide +kernel
theorem d_La_law_788 : decode code 788 = .ok (.iload 4, 2) := by decide +kernel
theorem d_La_law_790 : decode code 790 = .ok (.iconst 2, 1) := by decide +kernel
theorem d_La_law_791 : decode code 791 = .ok (.iadd, 1) := by decide +kernel
theorem d_La_law_792 : decode code 792 = .ok (.iaload, 1) := by decide +kernel
theorem d_La_law_793 : decode code 793 = .ok (.aload_n 3, 1) := by decide +kernel
theorem d_La_law_794 : decode code 794 = .ok (.invokestatic 117, 3) := by decide +kernel
theorem d_La_law_797 : decode code 797 = .ok (.istore 5, 2) := by decide +kernel
theorem d_La_law_799 : decode code 799 = .ok (.aload_n 2, 1) := by decide +kernel
theorem d_La_law_800 : decode code 800 = .ok (.aload_n 0, 1) := by decide +kernel
theorem d_La_law_801 : decode code 801 = .ok (.iload 4, 2) := by decide +kernel
theorem d_La_law_803 : decode code 803 = .ok (.iconst 1, 1) := by decide +kernel
theorem d_La_law_804 : decode code 804 = .ok (.iadd, 1) := by decide +kernel
theorem d_La_law_805 : decode code 805 = .ok (.iaload, 1) := by decide +kernel
theorem d_La_law_806 : decode code 806 = .ok (.aload_n 0, 1) := by decide +kernel
theorem d_La_law_807 : decode code 807 = .ok (.iload 4, 2) := by decide +kernel
theorem d_La_law_809 : decode code 809 = .ok (.iconst 2, 1) := by decide +kernel
theorem d_La_law_810 : decode code 810 = .ok (.iadd, 1) := by decide +kernel
theorem d_La_law_811 : decode code 811 = .ok (.iaload, 1) := by decide +kernel
theorem d_La_law_812 : decode code 812 = .ok (.invokevirtual 119, 3) := by decide +kernel
theorem d_La_law_815 : decode code 815 = .ok (.istore 6, 2) := by decide +kernel
theorem d_La_law_817 : decode code 817 = .ok (.aload_n 2, 1) := by decide +kernel
theorem d_La_law_818 : decode code 818 = .ok (.invokevirtual 81, 3) := by decide +kernel
theorem d_La_law_821 : decode code 821 = .ok (.iload 5, 2) := by decide +kernel
theorem d_La_law_823 : decode code 823 = .ok (.if_icmp .eq 5, 3) := by decide +kernel
theorem d_La_law_826 : decode code 826 = .ok (.iconst 0, 1) := by decide +kernel
theorem d_La_law_827 : decode code 827 = .ok (.ireturn, 1) := by decide +kernel
theorem d_La_law_828 : decode code 828 = .ok (.iload 5, 2) := by decide +kernel
theorem d_La_law_830 : decode code 830 = .ok (.ifCond .ne 15, 3) := by decide +kernel
theorem d_La_law_833 : decode code 833 = .ok (.aload_n 3, 1) := by decide +kernel
theorem d_La_law_834 : decode code 834 = .ok (.iconst 0, 1) := by decide +kernel
theorem d_La_law_835 : decode code 835 = .ok (.laload, 1) := by decide +kernel
theorem d_La_law_836 : decode code 836 = .ok (.iload 6, 2) := by decide +kernel
theorem d_La_law_838 : decode code 838 = .ok (.i2l, 1) := by decide +kernel
theorem d_La_law_839 : decode code 839 = .ok (.lcmp, 1) := by decide +kernel
theorem d_La_law_840 : decode code 840 = .ok (.ifCond .eq 5, 3) := by decide +kernel
theorem d_La_law_843 : decode code 843 = .ok (.iconst 0, 1) := by decide +kernel
theorem d_La_law_844 : decode code 844 = .ok (.ireturn, 1) := by decide +kernel
theorem d_La_law_845 : decode code 845 = .ok (.goto 300, 3) := by decide +kernel
theorem d_La_law_848 : decode code 848 = .ok (.aload_n 1, 1) := by decide +kernel
theorem d_La_law_849 : decode code 849 = .ok (.aload_n 0, 1) := by decide +kernel
theorem d_La_law_850 : decode code 850 = .ok (.iload 4, 2) := by decide +kernel
theorem d_La_law_852 : decode code 852 = .ok (.iconst 1, 1) := by decide +kernel
theorem d_La_law_853 : decode code 853 = .ok (.iadd, 1) := by decide +kernel
theorem d_La_law_854 : decode code 854 = .ok (.iaload, 1) := by decide +kernel
theorem d_La_law_855 : decode code 855 = .ok (.aload_n 0, 1) := by decide +kernel
theorem d_La_law_856 : decode code 856 = .ok (.iload 4, 2) := by decide +kernel
theorem d_La_law_858 : decode code 858 = .ok (.iconst 2, 1) := by decide +kernel
theorem d_La_law_859 : decode code 859 = .ok (.iadd, 1) := by decide +kernel
theorem d_La_law_860 : decode code 860 = .ok (.iaload, 1) := by decide +kernel
theorem d_La_law_861 : decode code 861 = .ok (.aload_n 3, 1) := by decide +kernel
theorem d_La_law_862 : decode code 862 = .ok (.invokestatic 120, 3) := by decide +kernel
theorem d_La_law_865 : decode code 865 = .ok (.istore 5, 2) := by decide +kernel
theorem d_La_law_867 : decode code 867 = .ok (.aload_n 2, 1) := by decide +kernel
theorem d_La_law_868 : decode code 868 = .ok (.aload_n 0, 1) := by decide +kernel
theorem d_La_law_869 : decode code 869 = .ok (.iload 4, 2) := by decide +kernel
theorem d_La_law_871 : decode code 871 = .ok (.iconst 1, 1) := by decide +kernel
theorem d_La_law_872 : decode code 872 = .ok (.iadd, 1) := by decide +kernel
theorem d_La_law_873 : decode code 873 = .ok (.iaload, 1) := by decide +kernel
theorem d_La_law_874 : decode code 874 = .ok (.aload_n 0, 1) := by decide +kernel
theorem d_La_law_875 : decode code 875 = .ok (.iload 4, 2) := by decide +kernel
theorem d_La_law_877 : decode code 877 = .ok (.iconst 2, 1) := by decide +kernel
theorem d_La_law_878 : decode code 878 = .ok (.iadd, 1) := by decide +kernel
theorem d_La_law_879 : decode code 879 = .ok (.iaload, 1) := by decide +kernel
theorem d_La_law_880 : decode code 880 = .ok (.invokevirtual 122, 3) := by decide +kernel
theorem d_La_law_883 : decode code 883 = .ok (.istore 6, 2) := by decide +kernel
theorem d_La_law_885 : decode code 885 = .ok (.aload_n 2, 1) := by decide +kernel
theorem d_La_law_886 : decode code 886 = .ok (.invokevirtual 81, 3) := by decide +kernel
theorem d_La_law_889 : decode code 889 = .ok (.iload 5, 2) := by decide +kernel
theorem d_La_law_891 : decode code 891 = .ok (.if_icmp .eq 5, 3) := by decide +kernel
theorem d_La_law_894 : decode code 894 = .ok (.iconst 0, 1) := by decide +kernel
theorem d_La_law_895 : decode code 895 = .ok (.ireturn, 1) := by decide +kernel
theorem d_La_law_896 : decode code 896 = .ok (.iload 5, 2) := by decide +kernel
theorem d_La_law_898 : decode code 898 = .ok (.ifCond .ne 15, 3) := by decide +kernel
theorem d_La_law_901 : decode code 901 = .ok (.aload_n 3, 1) := by decide +kernel
theorem d_La_law_902 : decode code 902 = .ok (.iconst 0, 1) := by decide +kernel
theorem d_La_law_903 : decode code 903 = .ok (.laload, 1) := by decide +kernel
theorem d_La_law_904 : decode code 904 = .ok (.iload 6, 2) := by decide +kernel
theorem d_La_law_906 : decode code 906 = .ok (.i2l, 1) := by decide +kernel
theorem d_La_law_907 : decode code 907 = .ok (.lcmp, 1) := by decide +kernel
theorem d_La_law_908 : decode code 908 = .ok (.ifCond .eq 5, 3) := by decide +kernel
theorem d_La_law_911 : decode code 911 = .ok (.iconst 0, 1) := by decide +kernel
theorem d_La_law_912 : decode code 912 = .ok (.ireturn, 1) := by decide +kernel
theorem d_La_law_913 : decode code 913 = .ok (.goto 232, 3) := by decide +kernel
theorem d_La_law_916 : decode code 916 = .ok (.aload_n 1, 1) := by decide +kernel
theorem d_La_law_917 : decode code 917 = .ok (.aload_n 0, 1) := by decide +kernel
theorem d_La_law_918 : decode code 918 = .ok (.iload 4, 2) := by decide +kernel
theorem d_La_law_920 : decode code 920 = .ok (.iconst 1, 1) := by decide +kernel
theorem d_La_law_921 : decode code 921 = .ok (.iadd, 1) := by decide +kernel
theorem d_La_law_922 : decode code 922 = .ok (.iaload, 1) := by decide +kernel
theorem d_La_law_923 : decode code 923 = .ok (.aload_n 0, 1) := by decide +kernel
theorem d_La_law_924 : decode code 924 = .ok (.iload 4, 2) := by decide +kernel
theorem d_La_law_926 : decode code 926 = .ok (.iconst 2, 1) := by decide +kernel
theorem d_La_law_927 : decode code 927 = .ok (.iadd, 1) := by decide +kernel
theorem d_La_law_928 : decode code 928 = .ok (.iaload, 1) := by decide +kernel
theorem d_La_law_929 : decode code 929 = .ok (.aload_n 3, 1) := by decide +kernel
theorem d_La_law_930 : decode code 930 = .ok (.invokestatic 123, 3) := by decide +kernel
theorem d_La_law_933 : decode code 933 = .ok (.istore 5, 2) := by decide +kernel
theorem d_La_law_935 : decode code 935 = .ok (.aload_n 2, 1) := by decide +kernel
theorem d_La_law_936 : decode code 936 = .ok (.aload_n 0, 1) := by decide +kernel
theorem d_La_law_937 : decode code 937 = .ok (.iload 4, 2) := by decide +kernel
theorem d_La_law_939 : decode code 939 = .ok (.iconst 1, 1) := by decide +kernel
theorem d_La_law_940 : decode code 940 = .ok (.iadd, 1) := by decide +kernel
theorem d_La_law_941 : decode code 941 = .ok (.iaload, 1) := by decide +kernel
theorem d_La_law_942 : decode code 942 = .ok (.aload_n 0, 1) := by decide +kernel
theorem d_La_law_943 : decode code 943 = .ok (.iload 4, 2) := by decide +kernel
theorem d_La_law_945 : decode code 945 = .ok (.iconst 2, 1) := by decide +kernel
theorem d_La_law_946 : decode code 946 = .ok (.iadd, 1) := by decide +kernel
theorem d_La_law_947 : decode code 947 = .ok (.iaload, 1) := by decide +kernel
theorem d_La_law_948 : decode code 948 = .ok (.invokevirtual 125, 3) := by decide +kernel
theorem d_La_law_951 : decode code 951 = .ok (.istore 6, 2) := by decide +kernel
theorem d_La_law_953 : decode code 953 = .ok (.aload_n 2, 1) := by decide +kernel
theorem d_La_law_954 : decode code 954 = .ok (.invokevirtual 81, 3) := by decide +kernel
theorem d_La_law_957 : decode code 957 = .ok (.iload 5, 2) := by decide +kernel
theorem d_La_law_959 : decode code 959 = .ok (.if_icmp .eq 5, 3) := by decide +kernel
theorem d_La_law_962 : decode code 962 = .ok (.iconst 0, 1) := by decide +kernel
theorem d_La_law_963 : decode code 963 = .ok (.ireturn, 1) := by decide +kernel
theorem d_La_law_964 : decode code 964 = .ok (.iload 5, 2) := by decide +kernel
theorem d_La_law_966 : decode code 966 = .ok (.ifCond .ne 15, 3) := by decide +kernel
theorem d_La_law_969 : decode code 969 = .ok (.aload_n 3, 1) := by decide +kernel
theorem d_La_law_970 : decode code 970 = .ok (.iconst 0, 1) := by decide +kernel
theorem d_La_law_971 : decode code 971 = .ok (.laload, 1) := by decide +kernel
theorem d_La_law_972 : decode code 972 = .ok (.iload 6, 2) := by decide +kernel
theorem d_La_law_974 : decode code 974 = .ok (.i2l, 1) := by decide +kernel
theorem d_La_law_975 : decode code 975 = .ok (.lcmp, 1) := by decide +kernel
theorem d_La_law_976 : decode code 976 = .ok (.ifCond .eq 5, 3) := by decide +kernel
theorem d_La_law_979 : decode code 979 = .ok (.iconst 0, 1) := by decide +kernel
theorem d_La_law_980 : decode code 980 = .ok (.ireturn, 1) := by decide +kernel
theorem d_La_law_981 : decode code 981 = .ok (.goto 164, 3) := by decide +kernel
theorem d_La_law_984 : decode code 984 = .ok (.aload_n 1, 1) := by decide +kernel
theorem d_La_law_985 : decode code 985 = .ok (.aload_n 0, 1) := by decide +kernel
theorem d_La_law_986 : decode code 986 = .ok (.iload 4, 2) := by decide +kernel
theorem d_La_law_988 : decode code 988 = .ok (.iconst 1, 1) := by decide +kernel
theorem d_La_law_989 : decode code 989 = .ok (.iadd, 1) := by decide +kernel
theorem d_La_law_990 : decode code 990 = .ok (.iaload, 1) := by decide +kernel
theorem d_La_law_991 : decode code 991 = .ok (.aload_n 0, 1) := by decide +kernel
theorem d_La_law_992 : decode code 992 = .ok (.iload 4, 2) := by decide +kernel
theorem d_La_law_994 : decode code 994 = .ok (.iconst 2, 1) := by decide +kernel
theorem d_La_law_995 : decode code 995 = .ok (.iadd, 1) := by decide +kernel
theorem d_La_law_996 : decode code 996 = .ok (.iaload, 1) := by decide +kernel
theorem d_La_law_997 : decode code 997 = .ok (.aload_n 3, 1) := by decide +kernel
theorem d_La_law_998 : decode code 998 = .ok (.invokestatic 126, 3) := by decide +kernel
theorem d_La_law_1001 : decode code 1001 = .ok (.istore 5, 2) := by decide +kernel
theorem d_La_law_1003 : decode code 1003 = .ok (.aload_n 2, 1) := by decide +kernel
theorem d_La_law_1004 : decode code 1004 = .ok (.aload_n 0, 1) := by decide +kernel
theorem d_La_law_1005 : decode code 1005 = .ok (.iload 4, 2) := by decide +kernel
theorem d_La_law_1007 : decode code 1007 = .ok (.iconst 1, 1) := by decide +kernel
theorem d_La_law_1008 : decode code 1008 = .ok (.iadd, 1) := by decide +kernel
theorem d_La_law_1009 : decode code 1009 = .ok (.iaload, 1) := by decide +kernel
theorem d_La_law_1010 : decode code 1010 = .ok (.aload_n 0, 1) := by decide +kernel
theorem d_La_law_1011 : decode code 1011 = .ok (.iload 4, 2) := by decide +kernel
theorem d_La_law_1013 : decode code 1013 = .ok (.iconst 2, 1) := by decide +kernel
theorem d_La_law_1014 : decode code 1014 = .ok (.iadd, 1) := by decide +kernel
theorem d_La_law_1015 : decode code 1015 = .ok (.iaload, 1) := by decide +kernel
theorem d_La_law_1016 : decode code 1016 = .ok (.invokevirtual 128, 3) := by decide +kernel
theorem d_La_law_1019 : decode code 1019 = .ok (.istore 6, 2) := by decide +kernel
theorem d_La_law_1021 : decode code 1021 = .ok (.aload_n 2, 1) := by decide +kernel
theorem d_La_law_1022 : decode code 1022 = .ok (.invokevirtual 81, 3) := by decide +kernel
theorem d_La_law_1025 : decode code 1025 = .ok (.iload 5, 2) := by decide +kernel
theorem d_La_law_1027 : decode code 1027 = .ok (.if_icmp .eq 5, 3) := by decide +kernel
theorem d_La_law_1030 : decode code 1030 = .ok (.iconst 0, 1) := by decide +kernel
theorem d_La_law_1031 : decode code 1031 = .ok (.ireturn, 1) := by decide +kernel
theorem d_La_law_1032 : decode code 1032 = .ok (.iload 5, 2) := by decide +kernel
theorem d_La_law_1034 : decode code 1034 = .ok (.ifCond .ne 15, 3) := by decide +kernel
theorem d_La_law_1037 : decode code 1037 = .ok (.aload_n 3, 1) := by decide +kernel
theorem d_La_law_1038 : decode code 1038 = .ok (.iconst 0, 1) := by decide +kernel
theorem d_La_law_1039 : decode code 1039 = .ok (.laload, 1) := by decide +kernel
theorem d_La_law_1040 : decode code 1040 = .ok (.iload 6, 2) := by decide +kernel
theorem d_La_law_1042 : decode code 1042 = .ok (.i2l, 1) := by decide +kernel
theorem d_La_law_1043 : decode code 1043 = .ok (.lcmp, 1) := by decide +kernel
theorem d_La_law_1044 : decode code 1044 = .ok (.ifCond .eq 5, 3) := by decide +kernel
theorem d_La_law_1047 : decode code 1047 = .ok (.iconst 0, 1) := by decide +kernel
theorem d_La_law_1048 : decode code 1048 = .ok (.ireturn, 1) := by decide +kernel
theorem d_La_law_1049 : decode code 1049 = .ok (.goto 96, 3) := by decide +kernel
theorem d_La_law_1052 : decode code 1052 = .ok (.aload_n 1, 1) := by decide +kernel
theorem d_La_law_1053 : decode code 1053 = .ok (.aload_n 0, 1) := by decide +kernel
theorem d_La_law_1054 : decode code 1054 = .ok (.iload 4, 2) := by decide +kernel
theorem d_La_law_1056 : decode code 1056 = .ok (.iconst 1, 1) := by decide +kernel
theorem d_La_law_1057 : decode code 1057 = .ok (.iadd, 1) := by decide +kernel
theorem d_La_law_1058 : decode code 1058 = .ok (.iaload, 1) := by decide +kernel
theorem d_La_law_1059 : decode code 1059 = .ok (.aload_n 0, 1) := by decide +kernel
theorem d_La_law_1060 : decode code 1060 = .ok (.iload 4, 2) := by decide +kernel
theorem d_La_law_1062 : decode code 1062 = .ok (.iconst 2, 1) := by decide +kernel
theorem d_La_law_1063 : decode code 1063 = .ok (.iadd, 1) := by decide +kernel
theorem d_La_law_1064 : decode code 1064 = .ok (.iaload, 1) := by decide +kernel
theorem d_La_law_1065 : decode code 1065 = .ok (.aload_n 3, 1) := by decide +kernel
theorem d_La_law_1066 : decode code 1066 = .ok (.invokestatic 129, 3) := by decide +kernel
theorem d_La_law_1069 : decode code 1069 = .ok (.istore 5, 2) := by decide +kernel
theorem d_La_law_1071 : decode code 1071 = .ok (.aload_n 2, 1) := by decide +kernel
theorem d_La_law_1072 : decode code 1072 = .ok (.aload_n 0, 1) := by decide +kernel
theorem d_La_law_1073 : decode code 1073 = .ok (.iload 4, 2) := by decide +kernel
theorem d_La_law_1075 : decode code 1075 = .ok (.iconst 1, 1) := by decide +kernel
theorem d_La_law_1076 : decode code 1076 = .ok (.iadd, 1) := by decide +kernel
theorem d_La_law_1077 : decode code 1077 = .ok (.iaload, 1) := by decide +kernel
theorem d_La_law_1078 : decode code 1078 = .ok (.aload_n 0, 1) := by decide +kernel
theorem d_La_law_1079 : decode code 1079 = .ok (.iload 4, 2) := by decide +kernel
theorem d_La_law_1081 : decode code 1081 = .ok (.iconst 2, 1) := by decide +kernel
theorem d_La_law_1082 : decode code 1082 = .ok (.iadd, 1) := by decide +kernel
theorem d_La_law_1083 : decode code 1083 = .ok (.iaload, 1) := by decide +kernel
theorem d_La_law_1084 : decode code 1084 = .ok (.invokevirtual 131, 3) := by decide +kernel
theorem d_La_law_1087 : decode code 1087 = .ok (.istore 6, 2) := by decide +kernel
theorem d_La_law_1089 : decode code 1089 = .ok (.aload_n 2, 1) := by decide +kernel
theorem d_La_law_1090 : decode code 1090 = .ok (.invokevirtual 81, 3) := by decide +kernel
theorem d_La_law_1093 : decode code 1093 = .ok (.iload 5, 2) := by decide +kernel
theorem d_La_law_1095 : decode code 1095 = .ok (.if_icmp .eq 5, 3) := by decide +kernel
theorem d_La_law_1098 : decode code 1098 = .ok (.iconst 0, 1) := by decide +kernel
theorem d_La_law_1099 : decode code 1099 = .ok (.ireturn, 1) := by decide +kernel
theorem d_La_law_1100 : decode code 1100 = .ok (.iload 5, 2) := by decide +kernel
theorem d_La_law_1102 : decode code 1102 = .ok (.ifCond .ne 15, 3) := by decide +kernel
theorem d_La_law_1105 : decode code 1105 = .ok (.aload_n 3, 1) := by decide +kernel
theorem d_La_law_1106 : decode code 1106 = .ok (.iconst 0, 1) := by decide +kernel
theorem d_La_law_1107 : decode code 1107 = .ok (.laload, 1) := by decide +kernel
theorem d_La_law_1108 : decode code 1108 = .ok (.iload 6, 2) := by decide +kernel
theorem d_La_law_1110 : decode code 1110 = .ok (.i2l, 1) := by decide +kernel
theorem d_La_law_1111 : decode code 1111 = .ok (.lcmp, 1) := by decide +kernel
theorem d_La_law_1112 : decode code 1112 = .ok (.ifCond .eq 5, 3) := by decide +kernel
theorem d_La_law_1115 : decode code 1115 = .ok (.iconst 0, 1) := by decide +kernel
theorem d_La_law_1116 : decode code 1116 = .ok (.ireturn, 1) := by decide +kernel
theorem d_La_law_1117 : decode code 1117 = .ok (.goto 28, 3) := by decide +kernel
theorem d_La_law_1120 : decode code 1120 = .ok (.aload_n 1, 1) := by decide +kernel
theorem d_La_law_1121 : decode code 1121 = .ok (.aload_n 0, 1) := by decide +kernel
theorem d_La_law_1122 : decode code 1122 = .ok (.iload 4, 2) := by decide +kernel
theorem d_La_law_1124 : decode code 1124 = .ok (.iconst 1, 1) := by decide +kernel
theorem d_La_law_1125 : decode code 1125 = .ok (.iadd, 1) := by decide +kernel
theorem d_La_law_1126 : decode code 1126 = .ok (.iaload, 1) := by decide +kernel
theorem d_La_law_1127 : decode code 1127 = .ok (.invokevirtual 132, 3) := by decide +kernel
theorem d_La_law_1130 : decode code 1130 = .ok (.aload_n 2, 1) := by decide +kernel
theorem d_La_law_1131 : decode code 1131 = .ok (.aload_n 0, 1) := by decide +kernel
theorem d_La_law_1132 : decode code 1132 = .ok (.iload 4, 2) := by decide +kernel
theorem d_La_law_1134 : decode code 1134 = .ok (.iconst 1, 1) := by decide +kernel
theorem d_La_law_1135 : decode code 1135 = .ok (.iadd, 1) := by decide +kernel
theorem d_La_law_1136 : decode code 1136 = .ok (.iaload, 1) := by decide +kernel
theorem d_La_law_1137 : decode code 1137 = .ok (.invokevirtual 135, 3) := by decide +kernel
theorem d_La_law_1140 : decode code 1140 = .ok (.if_icmp .eq 5, 3) := by decide +kernel
theorem d_La_law_1143 : decode code 1143 = .ok (.iconst 0, 1) := by decide +kernel
theorem d_La_law_1144 : decode code 1144 = .ok (.ireturn, 1) := by decide +kernel
theorem d_La_law_1145 : decode code 1145 = .ok (.iinc 4 5, 3) := by decide +kernel
theorem d_La_law_1148 : decode code 1148 = .ok (.goto (-1125), 3) := by decide +kernel
theorem d_La_law_1151 : decode code 1151 = .ok (.iconst 1, 1) := by decide +kernel
theorem d_La_law_1152 : decode code 1152 = .ok (.ireturn, 1) := by decide +kernel
end
section
/-! Contracts of methods that may throw: MX; the judgement WT: an exception is on its way in this frame. My own rows, over the library's Stand laws. -/
def x_End (first t : State) (L : List Loc) (k n : Nat) : Prop := first.WarmedH t.vm ∧ first.sameButNew ({ t with vm := first.vm } : State) L k n
def MX (l : Launch) (y : MethodName) (ws : List Cond) (rm : Room) (Pc : Array Value → State → Prop) (Qc : Array Value → State → Outcome → State → Prop) (free : Addr → Prop) : Prop :=
  MetFree l y (headSpec ws rm) Pc (fun _ _ _ _ _ => True) (fun a st o t => Qc a st o t ∧ ∃ L, x_End st t L rm.cells rm.slots ∧ ∀ q ∈ L, free q.base)
def MQX (below : List Frame) (Qc : Array Value → State → Outcome → State → Prop) (a : Array Value) (s : State) (mc ms : Nat) (free : Addr → Prop) : State → Prop := fun t =>
  ∃ o, t.status = .running ∧ Ended t below o ∧ Qc a s o t ∧ ∃ L, x_End s t L mc ms ∧ ∀ q ∈ L, free q.base
theorem MQ.toX {below : List Frame} {Qc : Array Value → State → Outcome → State → Prop} {a : Array Value} {s t : State} {mc ms : Nat} {free : Addr → Prop} (h : MQ below Qc a s mc ms free t) : MQX below Qc a s mc ms free t := by
  obtain ⟨o, h1, h2, h3, L, ⟨-, hW, hs⟩, hL⟩ := h
  exact ⟨o, h1, h2, h3, L, ⟨hW, hs⟩, hL⟩
section XW
variable {p : Program} {l : Launch} {e : Env} {R : Room} {s : State} {m : MethodId} {args : Array Value} {below : List Frame} {meth : Method} {c : Code} {H : Heap} {locs : List Loc} {cells slots : Nat} {Q : State → Prop}
theorem W.mono {Q' : State → Prop} {g : JFrame} (h : ∀ t, Q t → Q' t) (k : W p l e R s m args below meth c H locs cells slots Q g) : W p l e R s m args below meth c H locs cells slots Q' g := by
  intro T hT X
  obtain ⟨t, a, b⟩ := k T hT X
  exact ⟨t, a, h t b⟩
/-- the exception at x is on its way: it stands above the frame g -/
def WT (p : Program) (l : Launch) (e : Env) (R : Room) (s : State) (m : MethodId) (args : Array Value) (below : List Frame) (meth : Method) (c : Code) (H : Heap) (locs : List Loc) (cells slots : Nat) (Q : State → Prop) (g : JFrame) (x : Addr) : Prop :=
  ∀ T : State, T.heap = H → Stand p l e R s m args below meth c T locs cells slots → ∃ t, Steps p.tables e below ((T.setTop g).pushFrame (.throwing x)) t ∧ Q t
theorem WT.widen {g : JFrame} {x : Addr} {k n : Nat} (h1 : cells ≤ k) (h2 : slots ≤ n) (kk : WT p l e R s m args below meth c H locs k n Q g x) : WT p l e R s m args below meth c H locs cells slots Q g x := fun T hT X => kk T hT (stand_widen X h1 h2)
theorem x_empty {a : Array ExceptionTableEntry} (h : a.isEmpty = true) (pc : Nat) : ∀ x ∈ a.toList, covers x pc = false := by
  have : a = #[] := by simpa [Array.isEmpty_iff] using h
  subst this
  intro x hx
  cases hx
/-- no handler of this method: it throws in its turn -/
theorem WT.leave {Qc : Array Value → State → Outcome → State → Prop} {free : Addr → Prop} {x : Addr} {pc : Nat} {ls : Array Slot} {rest : List Value} (hno : c.exceptionTable.isEmpty = true) (hlocks : meth.locks = false)
    (hq : ∀ t : State, t.heap = H → s.WarmedH t.vm → Qc args s (.threw x) t) (hf : ∀ q ∈ locs, free q.base) :
    WT p l e R s m args below meth c H locs cells slots (MQX below Qc args s cells slots free) (F0 m pc ls rest) x := by
  intro T hT X
  obtain ⟨h1, h2, h3, h4, h5⟩ := X.leaveThrown x (g := F0 m pc ls rest) rfl rfl rfl (x_empty hno _) hlocks
  exact ⟨_, h1, .threw x, h2, h3, hq _ hT h4, locs, ⟨h4, h5⟩, hf⟩
theorem x_athrow {cc : ByteArray} (hexec : p.tables.exec = Jvm.exec) (hb : c.code = cc) {x : Addr} {pc : Nat} {ls : Array Slot} {rest : List Value} (hdg : decode cc pc = .ok (.athrow, 1))
    (k : WT p l e R s m args below meth c H locs cells slots Q (F0 m pc ls rest) x) : W p l e R s m args below meth c H locs cells slots Q (F0 m pc ls (.ref x :: rest)) := by
  intro T hT X
  subst hb
  obtain ⟨t, h1, h2⟩ := k T hT X
  refine ⟨t, ?_, h2⟩
  jvm_step X.here [hexec, hdg, athrow.wp_sem]
  exact h1
theorem x_iret {cc : ByteArray} {Qc : Array Value → State → Outcome → State → Prop} {free : Addr → Prop} {v : Int32} (hexec : p.tables.exec = Jvm.exec) (hb : c.code = cc) (hr : meth.sig.returnType = some .int) (hlocks : meth.locks = false)
    (hq : ∀ t : State, t.heap = H → s.WarmedH t.vm → Qc args s (.returned (some (.int v))) t) (hf : ∀ q ∈ locs, free q.base)
    {pc : Nat} {ls : Array Slot} (hdg : decode cc pc = .ok (.ireturn, 1)) : W p l e R s m args below meth c H locs cells slots (MQX below Qc args s cells slots free) (F0 m pc ls [.int v]) :=
  W.mono (fun _ h => MQ.toX h) (W.iret hexec hb hr hq hf hdg hlocks)
theorem x_zret {cc : ByteArray} {Qc : Array Value → State → Outcome → State → Prop} {free : Addr → Prop} {v : Int32} {ty : FieldType} (hexec : p.tables.exec = Jvm.exec) (hb : c.code = cc) (hr : meth.sig.returnType = some ty) (hlocks : meth.locks = false) (hn : narrow ty (.int v) = .int v)
    (hq : ∀ t : State, t.heap = H → s.WarmedH t.vm → Qc args s (.returned (some (.int v))) t) (hf : ∀ q ∈ locs, free q.base)
    {pc : Nat} {ls : Array Slot} (hdg : decode cc pc = .ok (.ireturn, 1)) : W p l e R s m args below meth c H locs cells slots (MQX below Qc args s cells slots free) (F0 m pc ls [.int v]) :=
  W.mono (fun _ h => MQ.toX h) (W.zret hexec hb hr hn hq hf hdg hlocks)
theorem x_vret {cc : ByteArray} {Qc : Array Value → State → Outcome → State → Prop} {free : Addr → Prop} (hexec : p.tables.exec = Jvm.exec) (hb : c.code = cc) (hr : meth.sig.returnType = none) (hlocks : meth.locks = false)
    (hq : ∀ t : State, t.heap = H → s.WarmedH t.vm → Qc args s (.returned none) t) (hf : ∀ q ∈ locs, free q.base)
    {pc : Nat} {ls : Array Slot} (hdg : decode cc pc = .ok (.return_, 1)) : W p l e R s m args below meth c H locs cells slots (MQX below Qc args s cells slots free) (F0 m pc ls []) :=
  W.mono (fun _ h => MQ.toX h) (W.vret hexec hb hr hq hf hdg hlocks)
end XW
section XM
variable {l : Launch}
theorem MX.ofW {y : MethodName} {ws ws' : List Cond} {rm : Room} {Pc : Array Value → State → Prop} {Qc : Array Value → State → Outcome → State → Prop} {free : Addr → Prop} {cc : ByteArray} {maxL : Nat} {ret : Option FieldType}
    (hy : plainName y.cls = true) (hw : ws = Cond.code y cc maxL ret :: ws')
    (body : ∀ p e s m args below meth c s₁, BodyLoose p l y (headSpec ws rm) cc maxL ret e s m args below meth c s₁ → c.maxLocals = maxL → c.exceptionTable.isEmpty = true → Pc args s →
      W p l e rm s m args below meth c s.heap [] 0 0 (MQX below Qc args s rm.cells rm.slots free) (entryFrame m args maxL)) : MX l y ws rm Pc Qc free := by
  have hcw : Cond.code y cc maxL ret ∈ ws := by rw [hw]; exact List.mem_cons_self
  refine MetFree.of_bodyS (code := cc) (maxLocals := maxL) (ret := ret) hy ?_ ?_
  · intro args s m h hn
    obtain ⟨meth, c, h1, h2, h3, h4, h5, h6, -, -⟩ := Cond.code_spec hn (atoms_spec (ws := ws) h _ hcw)
    exact ⟨meth, c, h1, h2, h3, h4, h5, h6⟩
  · intro p e s m args below meth c s₁ B hml hP _
    have hh0 : s₁.heap = s.heap := by rw [B.state]; rfl
    obtain ⟨t, a1, o, b1, b2, b3⟩ := body p e s m args below meth c s₁ B hml (B.noHandlers (atoms_spec (ws := ws) B.pre _ hcw)) hP s₁ hh0 (Stand.of_body B)
    exact ⟨t, o, a1, b1, b2, b3⟩
/-- .. of a method with an exception table -/
theorem MX.ofWh {y : MethodName} {ws ws' : List Cond} {rm : Room} {Pc : Array Value → State → Prop} {Qc : Array Value → State → Outcome → State → Prop} {free : Addr → Prop} {cc : ByteArray} {maxL : Nat} {ret : Option FieldType} {hh : List (Nat × Nat × Nat × Nat)}
    (hy : plainName y.cls = true) (hw : ws = Cond.codeWith y cc maxL ret hh :: ws')
    (body : ∀ p e s m args below meth c s₁, BodyLoose p l y (headSpec ws rm) cc maxL ret e s m args below meth c s₁ → c.maxLocals = maxL → c.exceptionTable.toList.map (fun h => (h.startPc, h.endPc, h.handlerPc, h.catchType)) = hh → Pc args s →
      W p l e rm s m args below meth c s.heap [] 0 0 (MQX below Qc args s rm.cells rm.slots free) (entryFrame m args maxL)) : MX l y ws rm Pc Qc free := by
  have hcw : Cond.codeWith y cc maxL ret hh ∈ ws := by rw [hw]; exact List.mem_cons_self
  refine MetFree.of_bodyS (code := cc) (maxLocals := maxL) (ret := ret) hy ?_ ?_
  · intro args s m h hn
    obtain ⟨m9, meth, c, hn9, h1, h2, h3, h4, -, h5, h6, -⟩ := Cond.codeWith_spec (atoms_spec (ws := ws) h _ hcw)
    cases hn.symm.trans hn9
    exact ⟨meth, c, h1, h2, h3, h4, h5, h6⟩
  · intro p e s m args below meth c s₁ B hml hP _
    have hh0 : s₁.heap = s.heap := by rw [B.state]; rfl
    obtain ⟨m9, meth9, c9, hn9, h1, h2, -, -, h5, -⟩ := Cond.codeWith_spec (atoms_spec (ws := ws) B.pre _ hcw)
    cases B.named.symm.trans hn9
    cases B.method.symm.trans h1
    cases (Stand.of_body B).code.symm.trans h2
    obtain ⟨t, a1, o, b1, b2, b3⟩ := body p e s m args below meth c s₁ B hml h5 hP s₁ hh0 (Stand.of_body B)
    exact ⟨t, o, a1, b1, b2, b3⟩
/-- a contract of the kit is one of these -/
theorem MX.ofMet {y : MethodName} {ws : List Cond} {rm : Room} {Pc : Array Value → State → Prop} {Qc : Array Value → State → Outcome → State → Prop} {free : Addr → Prop} (h : Met l y ws rm Pc Qc rm.cells rm.slots free) : MX l y ws rm Pc Qc free := by
  intro p e ha hc hk s m args below hf happ hP hK
  obtain ⟨n, o, h1, h2, h3, hq, L, ⟨-, hW, hs⟩, hL⟩ := h p e ha hc hk s m args below hf happ hP hK
  exact ⟨n, o, h1, h2, h3, hq, L, ⟨hW, hs⟩, hL⟩
end XM
/-- nothing that was there has changed but what 'free' names -/
def x_Keep (free : Addr → Prop) (H H1 : Heap) : Prop := H.size ≤ H1.size ∧ ∀ q : Nat, q < H.size → ¬ free q → H1[q]? = H[q]?
theorem x_End.keep {st t : State} {L : List Loc} {k n : Nat} {free : Addr → Prop} (h : x_End st t L k n) (hL : ∀ q ∈ L, free q.base) : x_Keep free st.heap t.heap := by
  refine ⟨h.2.2.1, fun q hq hf => ?_⟩
  obtain ⟨cell, hc⟩ : ∃ cell, st.heap[q]? = some cell := ⟨_, Array.getElem?_eq_getElem hq⟩
  rw [hc]
  exact h.2.kept_off (fun i hi => hf (hL _ hi)) hc
section XR
variable {p : Program} {l : Launch} {e : Env} {R : Room} {s : State} {m : MethodId} {args : Array Value} {below : List Frame} {meth : Method} {c : Code} {U : State} {locs : List Loc} {cells slots : Nat}
/-- where a call comes out: behind it, or with the exception above the caller's frame -/
def x_Out (p : Program) (e : Env) (below : List Frame) (Z : State) (g : JFrame) (len : Nat) (T' : State) : Outcome → Prop
  | .returned v => Steps p.tables e below Z (T'.setTop { g with pc := g.pc + len, stack := v.toList ++ g.stack })
  | .threw x => Steps p.tables e below Z ((T'.setTop g).pushFrame (.throwing x))
theorem x_run {y : MethodName} {ws : List Cond} {rm : Room} {Pc : Array Value → State → Prop} {Qc : Array Value → State → Outcome → State → Prop} {free : Addr → Prop} {maxL : Nat} (hM : MX l y ws rm Pc Qc free) (hblind : FrameBlind Pc)
    (hfr : rm.frames + 1 ≤ R.frames) (hlo : 8 + (maxL + 11) + rm.locals ≤ R.locals) (X : Stand p l e R s m args below meth c U locs cells slots) {g : JFrame} (hg : g.method = m) (hsize : g.locals.size = c.maxLocals)
    {ig : Instr} {len : Nat} (hdg : decode c.code g.pc = .ok (ig, len)) (hW : 2 * g.monitorRoom + (g.stack.map fun v => v.category).sum ≤ 8) {mk : MethodId} (hn : U.methodNamed? y = some mk)
    {methY : Method} {cY : Code} (hmY : U.vm.method? mk = some methY) (hcY : methY.code = some cY) (hlY : cY.maxLocals = maxL) {kY : Class} (hkY : U.vm.classes[mk.cls]? = some kY) (hinitY : kY.init = .initialized)
    {a : Array Value} (hpre : ∀ w ∈ ws, w.before a U = true) (hcells : cells + rm.cells ≤ R.cells) (hslots : slots + rm.slots ≤ R.slots) (hP : Pc a U) :
    ∃ (o : Outcome) (st₀ t T' : State) (L : List Loc), Stand p l e R s m args below meth c T' (locs ++ L) (cells + rm.cells) (slots + rm.slots) ∧ (∀ q ∈ L, free q.base) ∧ T'.heap = t.heap ∧ T'.vm = t.vm ∧ st₀.heap = U.heap ∧ Qc a st₀ o t ∧ x_Keep free U.heap t.heap ∧
      x_Out p e below (doInvoke e (U.setTop g) [] mk a).1 g len T' o := by
  have h : At U g.method c below := by rw [hg]; exact X.here
  have happ : (headSpec ws rm).appliesLoose y e.platform (U.calling g mk a) = true :=
    Spec.appliesLoose_calling (g := g) h hdg hn hkY hinitY (X.room_calling (g := g) (R' := rm) hsize hmY hcY hfr (by rw [hlY]; omega) hcells hslots) (atoms_intro hpre)
  obtain ⟨mid, hmid⟩ := h.above
  have hfrm : (U.setTop g).frames = (.java g :: mid) ++ below := by rw [State.frames_setTop' g h.top, hmid]; rfl
  obtain ⟨o, s₂, hsteps, -, hend, hq, L, hE, hL⟩ := Steps.callFree hM p X.admits X.cas X.clock (acts := []) hfrm happ (hblind _ _ _ _ hP) trivial
  rw [State.frames_setTop' g h.top, X.tail] at hend
  cases o with
  | returned v =>
    obtain ⟨T', X', -, -, ht⟩ := X.outOf hg hdg hend hE.1 hE.2
    refine ⟨.returned v, _, s₂, T', L, X', hL, by rw [ht]; rfl, by rw [ht]; rfl, ?_, hq, hE.keep hL, by rw [ht] at hsteps; exact hsteps⟩
    rfl
  | threw x =>
    obtain ⟨T', X', -, -, ht⟩ := X.outOfThrown hg hend hE.1 hE.2
    refine ⟨.threw x, _, s₂, T', L, X', hL, by rw [ht, Stand.throwing_heap], by rw [ht, Stand.throwing_vm], ?_, hq, hE.keep hL, by rw [ht] at hsteps; exact hsteps⟩
    rfl
end XR
end
section
/-! Calls of methods that may throw: the way in (x_In), the callee's words (x_Ok), the call (x_call). -/
def x_good (w : Cond) : Prop := (w.onTables && w.keeps) = true ∨ ∃ ty, w = .arrayClass ty
def x_Ok (s : State) (y : MethodName) (ws : List Cond) (maxL : Nat) : Prop :=
  (∀ w ∈ ws, ∀ (a' : Array Value) (U : State), s.WarmedH U.vm → w.before a' U = true) ∧
  (∀ (U : State), s.WarmedH U.vm → ∀ mk, U.methodNamed? y = some mk → ∃ methY cY, U.vm.method? mk = some methY ∧ methY.code = some cY ∧ cY.maxLocals = maxL) ∧
  ∀ (a' : Array Value) (U : State), s.WarmedH U.vm → (Cond.initialized y.cls).before a' U = true
theorem x_ok {s : State} {args : Array Value} {WL : List Cond} {y : MethodName} {bytes : ByteArray} {maxL : Nat} {ret : Option FieldType} (hW : ∀ w ∈ WL, w.before args s = true) (hg : ∀ w ∈ WL, x_good w) (hc : Cond.code y bytes maxL ret ∈ WL) (hi : Cond.initialized y.cls ∈ WL) :
    x_Ok s y (Cond.code y bytes maxL ret :: WL) maxL := by
  refine ⟨fun w hw a' U hU => ?_, fun U hU mk hn => ?_, fun a' U hU => word_at hU (hg _ hi) (hW _ hi)⟩
  · rcases List.mem_cons.mp hw with rfl | h
    · exact word_at hU (hg _ hc) (hW _ hc)
    · exact word_at hU (hg _ h) (hW _ h)
  · obtain ⟨meth, cc, h1, h2, -, h4, -⟩ := Cond.code_spec hn (word_at (a' := #[]) hU (hg _ hc) (hW _ hc))
    exact ⟨meth, cc, h1, h2, h4⟩
theorem x_okh {s : State} {args : Array Value} {WL : List Cond} {y : MethodName} {bytes : ByteArray} {maxL : Nat} {ret : Option FieldType} {hh : List (Nat × Nat × Nat × Nat)} (hW : ∀ w ∈ WL, w.before args s = true) (hg : ∀ w ∈ WL, x_good w) (hc : Cond.codeWith y bytes maxL ret hh ∈ WL) (hi : Cond.initialized y.cls ∈ WL) :
    x_Ok s y (Cond.codeWith y bytes maxL ret hh :: WL) maxL := by
  refine ⟨fun w hw a' U hU => ?_, fun U hU mk hn => ?_, fun a' U hU => word_at hU (hg _ hi) (hW _ hi)⟩
  · rcases List.mem_cons.mp hw with rfl | h
    · exact word_at hU (hg _ hc) (hW _ hc)
    · exact word_at hU (hg _ h) (hW _ h)
  · obtain ⟨m9, meth, cc, hn9, h1, h2, -, h4, -⟩ := Cond.codeWith_spec (word_at (a' := #[]) hU (hg _ hc) (hW _ hc))
    cases hn.symm.trans hn9
    exact ⟨meth, cc, h1, h2, h4⟩
section XC
variable {p : Program} {l : Launch} {e : Env} {R : Room} {s : State} {m : MethodId} {args : Array Value} {below : List Frame} {meth : Method} {c : Code} {H : Heap} {locs : List Loc} {cells slots : Nat} {Q : State → Prop}
/-- the instruction at g calls the method named y with the arguments a -/
def x_In (p : Program) (l : Launch) (e : Env) (R : Room) (s : State) (m : MethodId) (args : Array Value) (below : List Frame) (meth : Method) (c : Code) (H : Heap) (locs : List Loc) (cells slots : Nat) (g : JFrame) (rest : List Value) (y : MethodName) (a : Array Value) : Prop :=
  ∀ T : State, T.heap = H → Stand p l e R s m args below meth c T locs cells slots → ∃ (vm₁ : Vm) (mk : MethodId), Stand p l e R s m args below meth c (T.setVm vm₁) locs cells slots ∧ (T.setVm vm₁).methodNamed? y = some mk ∧
    ∀ target, Steps p.tables e below (doInvoke e ((T.setVm vm₁).setTop { g with stack := rest }) [] mk a).1 target → Steps p.tables e below (T.setTop g) target
variable {cc : ByteArray} {pc index : Nat} {ls : Array Slot} {As rest st0 : List Value} {y : MethodName} {own C host : String} {b : Addr}
theorem x_inS (hexec : p.tables.exec = Jvm.exec) (hb : c.code = cc) (hown : s.vm.findClass own = some m.cls) (hlink : (Cond.methodLink own index y).before args s = true) (hstat : (Cond.static y).before args s = true) (hinit : (Cond.initialized y.cls).before args s = true)
    (hd : y.cls ≠ "java/lang/invoke/MethodHandle" ∧ y.cls ≠ "java/lang/invoke/VarHandle" ∧ (parseMethodDescriptor y.desc).map (fun d => d.parameters.length) = some As.length) {bytes : ByteArray} {maxL : Nat} {ret : Option FieldType}
    (hcode : (Cond.code y bytes maxL ret).before args s = true ∨ ∃ hh, (Cond.codeWith y bytes maxL ret hh).before args s = true) (hst : st0 = As.reverse ++ rest) (hdg : decode cc pc = .ok (.invokestatic index, 3)) :
    x_In p l e R s m args below meth c H locs cells slots (F0 m pc ls st0) rest y As.toArray := by
  intro T hT X
  subst hb
  obtain ⟨mk, methM, hnamed, hmethM, hsigM⟩ : ∃ mk methM, s.methodNamed? y = some mk ∧ s.vm.method? mk = some methM ∧ parseMethodDescriptor y.desc = some methM.sig := by
    rcases hcode with h | ⟨hh, h⟩
    · obtain ⟨mk, hn⟩ := Cond.code_named h
      obtain ⟨methM, cM, h1, -, -, -, -, -, -, h2⟩ := Cond.code_spec hn h
      exact ⟨mk, methM, hn, h1, h2⟩
    · obtain ⟨mk, methM, cM, hn, h1, -, -, -, -, -, -, h2⟩ := Cond.codeWith_spec h
      exact ⟨mk, methM, hn, h1, h2⟩
  have hstatic : methM.isStatic = true := Cond.static_spec hnamed hmethM hstat
  obtain ⟨kP, hkP, -⟩ := className_of_methodNamed hnamed
  have hinitP : kP.init = .initialized := Cond.initialized_spec (findClass_of_methodNamed hnamed) hkP hinit
  have hlen : As.length = methM.sig.parameters.length := by
    have h2 := hd.2.2
    rw [hsigM] at h2
    exact (Option.some.inj h2).symm
  obtain ⟨vm₁, X₁, hstep⟩ := X.invokestatic hexec hown hlink hnamed hmethM hstatic hkP hinitP ⟨hd.1, hd.2.1⟩ (g := F0 m pc ls st0) rfl (argsL := As) (rest := rest) hlen hst hdg
  exact ⟨vm₁, mk, X₁, X₁.named hnamed, fun target h => hstep _ fun acts => by rw [doInvoke_state]; exact h⟩
theorem x_inV (hexec : p.tables.exec = Jvm.exec) (hb : c.code = cc) (hown : s.vm.findClass own = some m.cls) (hlink : (Cond.methodLink own index y).before args s = true) (hinst : (Cond.instanceMethod y).before args s = true) (hsel : (Cond.selects C y y).before args s = true)
    (hd : y.cls ≠ "java/lang/invoke/MethodHandle" ∧ y.cls ≠ "java/lang/invoke/VarHandle" ∧ (parseMethodDescriptor y.desc).map (fun d => d.parameters.length) = some As.length) {bytes : ByteArray} {maxL : Nat} {ret : Option FieldType}
    (hcode : (Cond.code y bytes maxL ret).before args s = true) (hrecv : ∃ cellB : Cell, H[b]? = some cellB ∧ cellB.vm.isStatics = false ∧ s.vm.findClass C = some cellB.cls) (hst : st0 = As.reverse ++ .ref b :: rest) (hdg : decode cc pc = .ok (.invokevirtual index, 3)) :
    x_In p l e R s m args below meth c H locs cells slots (F0 m pc ls st0) rest y (Value.ref b :: As).toArray := by
  intro T hT X
  subst hb
  obtain ⟨cellB, hcell, hobj, hcls⟩ := hrecv
  obtain ⟨mk, methM, hnamed, hmethM, hstM, habM⟩ := Cond.instanceMethod_spec hinst
  obtain ⟨methM', cM, hmethM', -, -, -, -, -, -, hsigM⟩ := Cond.code_spec hnamed hcode
  cases hmethM.symm.trans hmethM'
  obtain ⟨c2, r2, m2, q1, q2, q3, q4, kP, hkP, hkPi⟩ := Cond.selects_spec hsel
  cases hcls.symm.trans q1
  cases (State.methodFound?_of_named hnamed ⟨hd.1, hd.2.1⟩).symm.trans q2
  cases hnamed.symm.trans q3
  have hselP : selectMethod e.platform s.vm cellB.cls mk = .method mk := by rw [Launch.admits_selectMethod X.admits]; exact q4
  have hlen : As.length = methM.sig.parameters.length := by
    have h2 := hd.2.2
    rw [hsigM] at h2
    exact (Option.some.inj h2).symm
  obtain ⟨vm₁, X₁, hstep⟩ := X.invokevirtual hexec hown hlink hnamed hmethM hstM hkP hkPi ⟨hd.1, hd.2.1⟩ (a := b) (cell := cellB) (by rw [hT]; exact hcell)
    (fun z h => by rw [h] at hobj; cases hobj) hselP hmethM habM hkP hkPi (g := F0 m pc ls st0) rfl (argsL := As) (rest := rest) hlen hst hdg
  exact ⟨vm₁, mk, X₁, X₁.named hnamed, fun target h => hstep _ fun acts => by rw [doInvoke_state]; exact h⟩
theorem x_inVN (hexec : p.tables.exec = Jvm.exec) (hb : c.code = cc) (hown : s.vm.findClass own = some m.cls) (hlink : (Cond.methodLinkNest own index y host).before args s = true) (hinst : (Cond.instanceMethod y).before args s = true) (hsel : (Cond.selects C y y).before args s = true)
    (hd : y.cls ≠ "java/lang/invoke/MethodHandle" ∧ y.cls ≠ "java/lang/invoke/VarHandle" ∧ (parseMethodDescriptor y.desc).map (fun d => d.parameters.length) = some As.length) {bytes : ByteArray} {maxL : Nat} {ret : Option FieldType}
    (hcode : (Cond.code y bytes maxL ret).before args s = true) (hrecv : ∃ cellB : Cell, H[b]? = some cellB ∧ cellB.vm.isStatics = false ∧ s.vm.findClass C = some cellB.cls) (hst : st0 = As.reverse ++ .ref b :: rest) (hdg : decode cc pc = .ok (.invokevirtual index, 3)) :
    x_In p l e R s m args below meth c H locs cells slots (F0 m pc ls st0) rest y (Value.ref b :: As).toArray := by
  intro T hT X
  subst hb
  obtain ⟨cellB, hcell, hobj, hcls⟩ := hrecv
  obtain ⟨mk, methM, hnamed, hmethM, hstM, habM⟩ := Cond.instanceMethod_spec hinst
  obtain ⟨methM', cM, hmethM', -, -, -, -, -, -, hsigM⟩ := Cond.code_spec hnamed hcode
  cases hmethM.symm.trans hmethM'
  obtain ⟨c2, r2, m2, q1, q2, q3, q4, kP, hkP, hkPi⟩ := Cond.selects_spec hsel
  cases hcls.symm.trans q1
  cases (State.methodFound?_of_named hnamed ⟨hd.1, hd.2.1⟩).symm.trans q2
  cases hnamed.symm.trans q3
  have hselP : selectMethod e.platform s.vm cellB.cls mk = .method mk := by rw [Launch.admits_selectMethod X.admits]; exact q4
  have hlen : As.length = methM.sig.parameters.length := by
    have h2 := hd.2.2
    rw [hsigM] at h2
    exact (Option.some.inj h2).symm
  obtain ⟨vm₁, X₁, hstep⟩ := X.invokevirtualNest hexec hown hlink hnamed hmethM hstM hkP hkPi ⟨hd.1, hd.2.1⟩ (a := b) (cell := cellB) (by rw [hT]; exact hcell)
    (fun z h => by rw [h] at hobj; cases hobj) hselP hmethM habM hkP hkPi (g := F0 m pc ls st0) rfl (argsL := As) (rest := rest) hlen hst hdg
  exact ⟨vm₁, mk, X₁, X₁.named hnamed, fun target h => hstep _ fun acts => by rw [doInvoke_state]; exact h⟩
variable {ws : List Cond} {rm : Room} {Pc : Array Value → State → Prop} {Qc : Array Value → State → Outcome → State → Prop} {free : Addr → Prop} {maxL nL : Nat} {a : Array Value}
/-- a callee that left the heap as it was: nothing was made -/
theorem x_tight {T T' : State} {L : List Loc} {k n : Nat} (X : Stand p l e R s m args below meth c T locs cells slots) (X' : Stand p l e R s m args below meth c T' (locs ++ L) (cells + k) (slots + n)) (h : T'.heap = T.heap) : Stand p l e R s m args below meth c T' locs cells slots := by
  refine { X' with same := ?_ }
  obtain ⟨a1, a2, a3, a4, a5, a6⟩ := X'.same
  obtain ⟨-, b2, b3, -, b5, b6⟩ := X.same
  have h' : (T'.setVm s.vm).heap = (T.setVm s.vm).heap := h
  exact ⟨a1, by rw [h']; exact b2, by rw [h']; exact b3, a4, by rw [h']; exact b5, by rw [h']; exact b6⟩
/-- THE CALL: two roads go on, behind it and with an exception -/
theorem x_call {ig : Instr} (hIn : x_In p l e R s m args below meth c H locs cells slots (F0 m pc ls st0) rest y a) (hok : x_Ok s y ws maxL) (hM : MX l y ws rm Pc Qc free) (hblind : FrameBlind Pc) (hml : c.maxLocals = nL) (hsize : ls.size = nL)
    (hb : c.code = cc) (hdg : decode cc pc = .ok (ig, 3)) (hW : (rest.map fun v => v.category).sum ≤ 8) (hR : rm.frames + 1 ≤ R.frames ∧ 8 + (maxL + 11) + rm.locals ≤ R.locals) (hf : cells + rm.cells ≤ R.cells ∧ slots + rm.slots ≤ R.slots)
    (hP : ∀ U : State, U.heap = H → s.WarmedH U.vm → Pc a U)
    (kr : ∀ (v : Option Value) (st₀ t : State) (L : List Loc), st₀.heap = H → s.vm.Alike t.vm → Qc a st₀ (.returned v) t → x_Keep free H t.heap → (∀ q ∈ L, free q.base) → W p l e R s m args below meth c t.heap (locs ++ L) (cells + rm.cells) (slots + rm.slots) Q (F0 m (pc + 3) ls (v.toList ++ rest)))
    (kt : ∀ (x : Addr) (st₀ t : State) (L : List Loc), st₀.heap = H → s.vm.Alike t.vm → Qc a st₀ (.threw x) t → x_Keep free H t.heap → (∀ q ∈ L, free q.base) → WT p l e R s m args below meth c t.heap (locs ++ L) (cells + rm.cells) (slots + rm.slots) Q (F0 m pc ls rest) x) :
    W p l e R s m args below meth c H locs cells slots Q (F0 m pc ls st0) := by
  intro T hT X
  obtain ⟨vm₁, mk, X₁, hn, hin⟩ := hIn T hT X
  obtain ⟨methY, cY, hmY, hcY, hlY⟩ := hok.2.1 _ X₁.warmed mk hn
  obtain ⟨kY, hkY, -⟩ := className_of_methodNamed hn
  have hinitY : kY.init = .initialized := Cond.initialized_spec (args := a) (findClass_of_methodNamed hn) hkY (hok.2.2 a _ X₁.warmed)
  obtain ⟨o, st₀, t, T', L, X', hL, e1, e2, e3, hq, hkp, hout⟩ := x_run hM hblind hR.1 hR.2 X₁ (g := F0 m pc ls rest) rfl (hsize.trans hml.symm) (by rw [hb]; exact hdg) (by show 2 * 0 + (rest.map fun v => v.category).sum ≤ 8; omega) hn hmY hcY hlY hkY hinitY (a := a) (fun w hw => hok.1 w hw _ _ X₁.warmed) hf.1 hf.2 (hP _ hT X₁.warmed)
  cases o with
  | returned v =>
    obtain ⟨t2, a1, b1⟩ := kr v st₀ t L (e3.trans hT) (by rw [← e2]; exact X'.warmed.alike) hq (by rw [← hT]; exact hkp) hL T' e1 X'
    exact ⟨t2, hin _ (Steps.trans hout a1), b1⟩
  | threw x =>
    obtain ⟨t2, a1, b1⟩ := kt x st₀ t L (e3.trans hT) (by rw [← e2]; exact X'.warmed.alike) hq (by rw [← hT]; exact hkp) hL T' e1 X'
    exact ⟨t2, hin _ (Steps.trans hout a1), b1⟩
/-- .. of a callee that leaves the heap as it was where it returns -/
theorem x_callR {ig : Instr} (hIn : x_In p l e R s m args below meth c H locs cells slots (F0 m pc ls st0) rest y a) (hok : x_Ok s y ws maxL) (hM : MX l y ws rm Pc Qc free) (hblind : FrameBlind Pc) (hml : c.maxLocals = nL) (hsize : ls.size = nL)
    (hb : c.code = cc) (hdg : decode cc pc = .ok (ig, 3)) (hW : (rest.map fun v => v.category).sum ≤ 8) (hR : rm.frames + 1 ≤ R.frames ∧ 8 + (maxL + 11) + rm.locals ≤ R.locals) (hf : cells + rm.cells ≤ R.cells ∧ slots + rm.slots ≤ R.slots)
    (hP : ∀ U : State, U.heap = H → s.WarmedH U.vm → Pc a U) (hsm : ∀ v st₀ t, st₀.heap = H → Qc a st₀ (.returned v) t → t.heap = st₀.heap)
    (kr : ∀ (v : Option Value) (st₀ t : State), st₀.heap = H → t.heap = H → Qc a st₀ (.returned v) t → W p l e R s m args below meth c H locs cells slots Q (F0 m (pc + 3) ls (v.toList ++ rest)))
    (kt : ∀ (x : Addr) (st₀ t : State) (L : List Loc), st₀.heap = H → s.vm.Alike t.vm → Qc a st₀ (.threw x) t → x_Keep free H t.heap → (∀ q ∈ L, free q.base) → WT p l e R s m args below meth c t.heap (locs ++ L) (cells + rm.cells) (slots + rm.slots) Q (F0 m pc ls rest) x) :
    W p l e R s m args below meth c H locs cells slots Q (F0 m pc ls st0) := by
  intro T hT X
  obtain ⟨vm₁, mk, X₁, hn, hin⟩ := hIn T hT X
  obtain ⟨methY, cY, hmY, hcY, hlY⟩ := hok.2.1 _ X₁.warmed mk hn
  obtain ⟨kY, hkY, -⟩ := className_of_methodNamed hn
  have hinitY : kY.init = .initialized := Cond.initialized_spec (args := a) (findClass_of_methodNamed hn) hkY (hok.2.2 a _ X₁.warmed)
  obtain ⟨o, st₀, t, T', L, X', hL, e1, e2, e3, hq, hkp, hout⟩ := x_run hM hblind hR.1 hR.2 X₁ (g := F0 m pc ls rest) rfl (hsize.trans hml.symm) (by rw [hb]; exact hdg) (by show 2 * 0 + (rest.map fun v => v.category).sum ≤ 8; omega) hn hmY hcY hlY hkY hinitY (a := a) (fun w hw => hok.1 w hw _ _ X₁.warmed) hf.1 hf.2 (hP _ hT X₁.warmed)
  cases o with
  | returned v =>
    have e4 : t.heap = st₀.heap := hsm v st₀ t (e3.trans hT) hq
    obtain ⟨t2, a1, b1⟩ := kr v st₀ t (e3.trans hT) (e4.trans (e3.trans hT)) hq T' (e1.trans (e4.trans (e3.trans hT))) (x_tight X₁ X' (e1.trans (e4.trans e3)))
    exact ⟨t2, hin _ (Steps.trans hout a1), b1⟩
  | threw x =>
    obtain ⟨t2, a1, b1⟩ := kt x st₀ t L (e3.trans hT) (by rw [← e2]; exact X'.warmed.alike) hq (by rw [← hT]; exact hkp) hL T' e1 X'
    exact ⟨t2, hin _ (Steps.trans hout a1), b1⟩
theorem x_Keep.S {A : Nat → Prop} {H0 H1 : Heap} {L : List Loc} (hS : va_S A H0 H locs) (hk : x_Keep free H H1) (hf : ∀ q, free q → A q) (hL : ∀ q ∈ L, free q.base) : va_S A H0 H1 (locs ++ L) := by
  have h1 := hS.1
  refine ⟨Nat.le_trans h1 hk.1, fun q h2 h3 => ?_, fun q hq => ?_⟩
  · rw [hk.2 q (by omega) (fun z => h3 (hf q z))]
    exact hS.2.1 q h2 h3
  · rcases List.mem_append.mp hq with h | h
    · exact hS.2.2 q h
    · exact hf _ (hL q h)
end XC
end
section
/-! A world that lies in one block of addresses, base .. base + n - 1, its cells told by a function M of their places. -/
def wl (base n : Nat) (M : Nat → va_E) : va_W := (List.range n).map (fun k => (base + k, M k))
theorem wl_len {base n : Nat} {M : Nat → va_E} : (wl base n M).length = n := by simp [wl]
theorem wl_get {base n k : Nat} {M : Nat → va_E} (hk : k < n) : (wl base n M)[k]? = some (base + k, M k) := by simp [wl, hk]
theorem wl_none {base n k : Nat} {M : Nat → va_E} (hk : ¬ k < n) : (wl base n M)[k]? = none := by simp [wl]; omega
theorem wl_some {base n k : Nat} {M : Nat → va_E} {q : Nat × va_E} (h : (wl base n M)[k]? = some q) : k < n ∧ q = (base + k, M k) := by
  by_cases hk : k < n
  · rw [wl_get hk] at h
    exact ⟨hk, (Option.some.inj h).symm⟩
  · rw [wl_none hk] at h
    cases h
theorem wl_ext {base n : Nat} {M : Nat → va_E} {w : va_W} (h : ∀ k, k < n → w[k]? = some (base + k, M k)) (hl : w.length = n) : w = wl base n M := by
  apply List.ext_getElem?
  intro i
  by_cases hi : i < n
  · rw [h i hi, wl_get hi]
  · rw [wl_none hi]
    exact List.getElem?_eq_none (by omega)
theorem wl_set {base n k : Nat} {M : Nat → va_E} (e : va_E) : (wl base n M).set k (base + k, e) = wl base n (va_up M k e) := by
  refine wl_ext (fun i hi => ?_) (by rw [List.length_set, wl_len])
  by_cases h : i = k
  · subst h
    rw [List.getElem?_set_self (by rw [wl_len]; exact hi), va_up_self]
  · rw [List.getElem?_set_ne (Ne.symm h), wl_get hi, va_up_ne _ _ h]
theorem wl_push {base n : Nat} {M : Nat → va_E} (e : va_E) : wl base n M ++ [(base + n, e)] = wl base (n + 1) (va_up M n e) := by
  refine wl_ext (fun i hi => ?_) (by simp [wl_len])
  by_cases h : i = n
  · subst h
    rw [List.getElem?_append_right (by rw [wl_len]; omega), wl_len, Nat.sub_self, va_up_self]
    rfl
  · rw [List.getElem?_append_left (by rw [wl_len]; omega), wl_get (by omega), va_up_ne _ _ h]
theorem wl_congr {base n : Nat} {M M' : Nat → va_E} (h : ∀ k, k < n → M k = M' k) : wl base n M = wl base n M' :=
  wl_ext (fun i hi => by rw [wl_get hi, h i hi]) wl_len
theorem wl_D {base n : Nat} {M : Nat → va_E} {A : Nat → Prop} (h : ∀ k, k < n → A (base + k)) : va_D A (wl base n M) := by
  refine ⟨fun i j p q hi hj hpq => ?_, fun k q hk => ?_⟩
  · obtain ⟨-, rfl⟩ := wl_some hi
    obtain ⟨-, rfl⟩ := wl_some hj
    have : base + i = base + j := hpq
    omega
  · obtain ⟨h1, rfl⟩ := wl_some hk
    exact h k h1
/-- a cell of the block -/
theorem wl_at {D : va_G} {cl : List vw_C} {base n k : Nat} {M : Nat → va_E} {H : Heap} (h : va_P D cl (wl base n M) H) (hk : k < n) : va_at D cl (base + k, M k) H := h k _ (wl_get hk)
theorem wl_lt {D : va_G} {cl : List vw_C} {base n k : Nat} {M : Nat → va_E} {H : Heap} (h : va_P D cl (wl base n M) H) (hk : k < n) : base + k < H.size := (wl_at h hk).lt
theorem wl_kept {D : va_G} {cl : List vw_C} {base n : Nat} {M : Nat → va_E} {H H1 : Heap} (h : va_P D cl (wl base n M) H) (hq : ∀ q, base ≤ q → q < base + n → H1[q]? = H[q]?) : va_P D cl (wl base n M) H1 :=
  h.kept (fun k q hk => by obtain ⟨h1, rfl⟩ := wl_some hk; exact hq _ (by omega) (by simp; omega))
/-- the block's addresses -/
def inB (base n : Nat) : Nat → Prop := fun q => base ≤ q ∧ q < base + n
theorem inB_at {base n : Nat} : ∀ k, k < n → inB base n (base + k) := fun k h => ⟨by omega, by omega⟩
section BL
variable {p : Program} {l : Launch} {e : Env} {R : Room} {s : State} {m : MethodId} {args : Array Value} {below : List Frame} {meth : Method} {c : Code} {H : Heap} {locs : List Loc} {cells slots : Nat} {Q : State → Prop}
variable {cc : ByteArray} {pc : Nat} {ls : Array Slot} {rest : List Value} {D : va_G} {cl : List vw_C} {tys : List (ClassId × FieldType)} {H0 : Heap} {base n : Nat} {M : Nat → va_E} {A : Nat → Prop}
theorem b_get (hexec : p.tables.exec = Jvm.exec) (hb : c.code = cc) {own ref C : String} {T : u_T} {N ci index : Nat} {Ts : List Cond} (hts : ∀ w ∈ Ts, w.before args s = true) (hin : ∀ w ∈ u_ws C T N, w ∈ Ts) (hown : s.vm.findClass own = some m.cls) (hK : va_K D cl tys s) (hP : va_P D cl (wl base n M) H) (q0 : Nat) (hq : q0 < n) {fs : List Value} (he : M q0 = .inr (ci, fs)) (hc : cl[ci]? = some (C, T, N)) (k : Nat) (hk : k < N) (hlink : (Cond.fieldLink own index ref (T k).2.1 (T k).2.2.1).before args s = true) (hsame : ∀ x, s.fieldFound? (T k).1 (T k).2.1 (T k).2.2.1 = some x → s.fieldFound? ref (T k).2.1 (T k).2.2.1 = some x) {v : Value} (hv : fs[k]? = some v) (hdg : decode cc pc = .ok (.getfield index, 3))
    (kk : W p l e R s m args below meth c H locs cells slots Q (F0 m (pc + 3) ls (v :: rest))) : W p l e R s m args below meth c H locs cells slots Q (F0 m pc ls (.ref (base + q0) :: rest)) :=
  va_get hexec hb hts hin hown hK hP q0 (by rw [wl_get hq, he]) hc k hk hlink hsame hv hdg kk
theorem b_getN (hexec : p.tables.exec = Jvm.exec) (hb : c.code = cc) {own ref C host : String} {T : u_T} {N ci index : Nat} {Ts : List Cond} (hts : ∀ w ∈ Ts, w.before args s = true) (hin : ∀ w ∈ u_ws C T N, w ∈ Ts) (hown : s.vm.findClass own = some m.cls) (hK : va_K D cl tys s) (hP : va_P D cl (wl base n M) H) (q0 : Nat) (hq : q0 < n) {fs : List Value} (he : M q0 = .inr (ci, fs)) (hc : cl[ci]? = some (C, T, N)) (k : Nat) (hk : k < N) (hlink : (Cond.fieldLinkNest own index ref (T k).2.1 (T k).2.2.1 host).before args s = true) (hsame : ∀ x, s.fieldFound? (T k).1 (T k).2.1 (T k).2.2.1 = some x → s.fieldFound? ref (T k).2.1 (T k).2.2.1 = some x) {v : Value} (hv : fs[k]? = some v) (hdg : decode cc pc = .ok (.getfield index, 3))
    (kk : W p l e R s m args below meth c H locs cells slots Q (F0 m (pc + 3) ls (v :: rest))) : W p l e R s m args below meth c H locs cells slots Q (F0 m pc ls (.ref (base + q0) :: rest)) :=
  va_getN hexec hb hts hin hown hK hP q0 (by rw [wl_get hq, he]) hc k hk hlink hsame hv hdg kk
theorem b_put (hexec : p.tables.exec = Jvm.exec) (hb : c.code = cc) {own ref C : String} {T : u_T} {N ci index : Nat} {Ts : List Cond} (hts : ∀ w ∈ Ts, w.before args s = true) (hin : ∀ w ∈ u_ws C T N, w ∈ Ts) (ty0 : Nat → FieldType) (hty : ∀ k, k < N → parseFieldDescriptor (T k).2.2.1 = some (ty0 k)) (hnm : ∀ a, a < N → ∀ b, b < N → a ≠ b → (T a).2.1 ≠ (T b).2.1) (hown : s.vm.findClass own = some m.cls) (hK : va_K D cl tys s) (hP : va_P D cl (wl base n M) H) (hA : ∀ k, k < n → A (base + k)) (hS0 : va_S A H0 H locs) (q0 : Nat) (hq : q0 < n) {fs : List Value} (he : M q0 = .inr (ci, fs)) (hc : cl[ci]? = some (C, T, N)) (k : Nat) (hk : k < N) (hlink : (Cond.fieldLink own index ref (T k).2.1 (T k).2.2.1).before args s = true) (hsame : ∀ x, s.fieldFound? (T k).1 (T k).2.1 (T k).2.2.1 = some x → s.fieldFound? ref (T k).2.1 (T k).2.2.1 = some x) (hfin : (T k).2.2.2 = false) {ty : FieldType} {v : Value} (hd : parseFieldDescriptor (T k).2.2.1 = some ty) (hn : narrow ty v = v) (hfit : fits ty v = true) (hl : k < fs.length)
    (hdg : decode cc pc = .ok (.putfield index, 3)) (kk : ∀ (H1 : Heap) (locs1 : List Loc), va_P D cl (wl base n (va_up M q0 (.inr (ci, fs.set k v)))) H1 → va_S A H0 H1 locs1 → W p l e R s m args below meth c H1 locs1 cells slots Q (F0 m (pc + 3) ls rest)) : W p l e R s m args below meth c H locs cells slots Q (F0 m pc ls (v :: .ref (base + q0) :: rest)) :=
  va_put hexec hb hts hin ty0 hty hnm hown hK hP (wl_D hA) hS0 q0 (by rw [wl_get hq, he]) hc k hk hlink hsame hfin hd hn hfit hl hdg (fun H1 locs1 h1 _ h3 => kk H1 locs1 (by rw [wl_set] at h1; exact h1) h3)
theorem b_putN (hexec : p.tables.exec = Jvm.exec) (hb : c.code = cc) {own ref C host : String} {T : u_T} {N ci index : Nat} {Ts : List Cond} (hts : ∀ w ∈ Ts, w.before args s = true) (hin : ∀ w ∈ u_ws C T N, w ∈ Ts) (ty0 : Nat → FieldType) (hty : ∀ k, k < N → parseFieldDescriptor (T k).2.2.1 = some (ty0 k)) (hnm : ∀ a, a < N → ∀ b, b < N → a ≠ b → (T a).2.1 ≠ (T b).2.1) (hown : s.vm.findClass own = some m.cls) (hK : va_K D cl tys s) (hP : va_P D cl (wl base n M) H) (hA : ∀ k, k < n → A (base + k)) (hS0 : va_S A H0 H locs) (q0 : Nat) (hq : q0 < n) {fs : List Value} (he : M q0 = .inr (ci, fs)) (hc : cl[ci]? = some (C, T, N)) (k : Nat) (hk : k < N) (hlink : (Cond.fieldLinkNest own index ref (T k).2.1 (T k).2.2.1 host).before args s = true) (hsame : ∀ x, s.fieldFound? (T k).1 (T k).2.1 (T k).2.2.1 = some x → s.fieldFound? ref (T k).2.1 (T k).2.2.1 = some x) (hfin : (T k).2.2.2 = false) {ty : FieldType} {v : Value} (hd : parseFieldDescriptor (T k).2.2.1 = some ty) (hn : narrow ty v = v) (hfit : fits ty v = true) (hl : k < fs.length)
    (hdg : decode cc pc = .ok (.putfield index, 3)) (kk : ∀ (H1 : Heap) (locs1 : List Loc), va_P D cl (wl base n (va_up M q0 (.inr (ci, fs.set k v)))) H1 → va_S A H0 H1 locs1 → W p l e R s m args below meth c H1 locs1 cells slots Q (F0 m (pc + 3) ls rest)) : W p l e R s m args below meth c H locs cells slots Q (F0 m pc ls (v :: .ref (base + q0) :: rest)) :=
  va_putN hexec hb hts hin ty0 hty hnm hown hK hP (wl_D hA) hS0 q0 (by rw [wl_get hq, he]) hc k hk hlink hsame hfin hd hn hfit hl hdg (fun H1 locs1 h1 _ h3 => kk H1 locs1 (by rw [wl_set] at h1; exact h1) h3)
theorem b_putF (hexec : p.tables.exec = Jvm.exec) (hb : c.code = cc) {own ref C : String} {T : u_T} {N ci index : Nat} {Ts : List Cond} (hts : ∀ w ∈ Ts, w.before args s = true) (hin : ∀ w ∈ u_ws C T N, w ∈ Ts) (ty0 : Nat → FieldType) (hty : ∀ k, k < N → parseFieldDescriptor (T k).2.2.1 = some (ty0 k)) (hnm : ∀ a, a < N → ∀ b, b < N → a ≠ b → (T a).2.1 ≠ (T b).2.1) (hown : s.vm.findClass own = some m.cls) (hK : va_K D cl tys s) (hP : va_P D cl (wl base n M) H) (hA : ∀ k, k < n → A (base + k)) (hS0 : va_S A H0 H locs) (q0 : Nat) (hq : q0 < n) {fs : List Value} (he : M q0 = .inr (ci, fs)) (hc : cl[ci]? = some (C, T, N)) (k : Nat) (hk : k < N) (hlink : (Cond.fieldLink own index ref (T k).2.1 (T k).2.2.1).before args s = true) (hsame : ∀ x, s.fieldFound? (T k).1 (T k).2.1 (T k).2.2.1 = some x → s.fieldFound? ref (T k).2.1 (T k).2.2.1 = some x) (hfin : (T k).2.2.2 = true) (hin2 : meth.name = "<init>") (hdecl : (T k).1 = own) {ty : FieldType} {v : Value} (hd : parseFieldDescriptor (T k).2.2.1 = some ty) (hn : narrow ty v = v) (hfit : fits ty v = true) (hl : k < fs.length)
    (hdg : decode cc pc = .ok (.putfield index, 3)) (kk : ∀ (H1 : Heap) (locs1 : List Loc), va_P D cl (wl base n (va_up M q0 (.inr (ci, fs.set k v)))) H1 → va_S A H0 H1 locs1 → W p l e R s m args below meth c H1 locs1 cells slots Q (F0 m (pc + 3) ls rest)) : W p l e R s m args below meth c H locs cells slots Q (F0 m pc ls (v :: .ref (base + q0) :: rest)) :=
  va_putF hexec hb hts hin ty0 hty hnm hown hK hP (wl_D hA) hS0 q0 (by rw [wl_get hq, he]) hc k hk hlink hsame hfin hin2 hdecl hd hn hfit hl hdg (fun H1 locs1 h1 _ h3 => kk H1 locs1 (by rw [wl_set] at h1; exact h1) h3)
theorem b_iald (hexec : p.tables.exec = Jvm.exec) (hb : c.code = cc) (hK : va_K D cl tys s) (hP : va_P D cl (wl base n M) H) (q0 t0 : Nat) (hq : q0 < n) {cA : ClassId} {N : Nat} {f : Nat → Int32} (he : M q0 = .inl (cA, N, .inl f)) (ht : tys[t0]? = some (cA, .int)) {i : Int32} (hin : vp_in i N) (hdg : decode cc pc = .ok (.iaload, 1))
    (kk : W p l e R s m args below meth c H locs cells slots Q (F0 m (pc + 1) ls (.int (f i.toNatClampNeg) :: rest))) : W p l e R s m args below meth c H locs cells slots Q (F0 m pc ls (.int i :: .ref (base + q0) :: rest)) :=
  va_iald hexec hb hK hP q0 t0 (by rw [wl_get hq, he]) ht hin hdg kk
theorem b_cald (hexec : p.tables.exec = Jvm.exec) (hb : c.code = cc) (hK : va_K D cl tys s) (hP : va_P D cl (wl base n M) H) (q0 t0 : Nat) (hq : q0 < n) {cA : ClassId} {N : Nat} {f : Nat → Int32} (he : M q0 = .inl (cA, N, .inl f)) (ht : tys[t0]? = some (cA, .char)) {i : Int32} (hin : vp_in i N) (hdg : decode cc pc = .ok (.caload, 1))
    (kk : W p l e R s m args below meth c H locs cells slots Q (F0 m (pc + 1) ls (.int (f i.toNatClampNeg) :: rest))) : W p l e R s m args below meth c H locs cells slots Q (F0 m pc ls (.int i :: .ref (base + q0) :: rest)) :=
  va_cald hexec hb hK hP q0 t0 (by rw [wl_get hq, he]) ht hin hdg kk
theorem b_zald (hexec : p.tables.exec = Jvm.exec) (hb : c.code = cc) (hK : va_K D cl tys s) (hP : va_P D cl (wl base n M) H) (q0 t0 : Nat) (hq : q0 < n) {cA : ClassId} {N : Nat} {f : Nat → Int32} (he : M q0 = .inl (cA, N, .inl f)) (ht : tys[t0]? = some (cA, .boolean)) {i : Int32} (hin : vp_in i N) (hdg : decode cc pc = .ok (.baload, 1))
    (kk : W p l e R s m args below meth c H locs cells slots Q (F0 m (pc + 1) ls (.int (f i.toNatClampNeg) :: rest))) : W p l e R s m args below meth c H locs cells slots Q (F0 m pc ls (.int i :: .ref (base + q0) :: rest)) :=
  va_zald hexec hb hK hP q0 t0 (by rw [wl_get hq, he]) ht hin hdg kk
theorem b_aldq (hexec : p.tables.exec = Jvm.exec) (hb : c.code = cc) (hK : va_K D cl tys s) (hP : va_P D cl (wl base n M) H) (q0 t0 : Nat) (hq : q0 < n) {cA : ClassId} {C : String} {N : Nat} {f : Nat → Option Nat} (he : M q0 = .inl (cA, N, .inr (.inr (.inr (.inr f))))) (ht : tys[t0]? = some (cA, .object C)) {i : Int32} {v : Nat} (hv : f i.toNatClampNeg = some v) (hin : vp_in i N) (hdg : decode cc pc = .ok (.aaload, 1))
    (kk : W p l e R s m args below meth c H locs cells slots Q (F0 m (pc + 1) ls (.ref v :: rest))) : W p l e R s m args below meth c H locs cells slots Q (F0 m pc ls (.int i :: .ref (base + q0) :: rest)) :=
  va_aldq hexec hb hK hP q0 t0 (by rw [wl_get hq, he]) ht hin hdg (by rw [hv]; exact kk)
theorem b_iast (hexec : p.tables.exec = Jvm.exec) (hb : c.code = cc) (hK : va_K D cl tys s) (hP : va_P D cl (wl base n M) H) (hA : ∀ k, k < n → A (base + k)) (hS : va_S A H0 H locs) (q0 t0 : Nat) (hq : q0 < n) {cA : ClassId} {N : Nat} {f : Nat → Int32} (he : M q0 = .inl (cA, N, .inl f)) (ht : tys[t0]? = some (cA, .int)) {i x : Int32} (hin : vp_in i N) (hdg : decode cc pc = .ok (.iastore, 1))
    (kk : ∀ (H1 : Heap) (locs1 : List Loc), va_P D cl (wl base n (va_up M q0 (.inl (cA, N, .inl (upd f i.toNatClampNeg x))))) H1 → va_S A H0 H1 locs1 → W p l e R s m args below meth c H1 locs1 cells slots Q (F0 m (pc + 1) ls rest)) : W p l e R s m args below meth c H locs cells slots Q (F0 m pc ls (.int x :: .int i :: .ref (base + q0) :: rest)) :=
  va_iast hexec hb hK hP (wl_D hA) hS q0 t0 (by rw [wl_get hq, he]) ht hin hdg (fun H1 locs1 h1 _ h3 => kk H1 locs1 (by rw [wl_set] at h1; exact h1) h3)
theorem b_cast (hexec : p.tables.exec = Jvm.exec) (hb : c.code = cc) (hK : va_K D cl tys s) (hP : va_P D cl (wl base n M) H) (hA : ∀ k, k < n → A (base + k)) (hS : va_S A H0 H locs) (q0 t0 : Nat) (hq : q0 < n) {cA : ClassId} {N : Nat} {f : Nat → Int32} (he : M q0 = .inl (cA, N, .inl f)) (ht : tys[t0]? = some (cA, .char)) {i x : Int32} (hin : vp_in i N) (hdg : decode cc pc = .ok (.castore, 1))
    (kk : ∀ (H1 : Heap) (locs1 : List Loc), va_P D cl (wl base n (va_up M q0 (.inl (cA, N, .inl (upd f i.toNatClampNeg (vp_nar .char x)))))) H1 → va_S A H0 H1 locs1 → W p l e R s m args below meth c H1 locs1 cells slots Q (F0 m (pc + 1) ls rest)) : W p l e R s m args below meth c H locs cells slots Q (F0 m pc ls (.int x :: .int i :: .ref (base + q0) :: rest)) :=
  va_cast hexec hb hK hP (wl_D hA) hS q0 t0 (by rw [wl_get hq, he]) ht hin hdg (fun H1 locs1 h1 _ h3 => kk H1 locs1 (by rw [wl_set] at h1; exact h1) h3)
theorem b_zast (hexec : p.tables.exec = Jvm.exec) (hb : c.code = cc) (hK : va_K D cl tys s) (hP : va_P D cl (wl base n M) H) (hA : ∀ k, k < n → A (base + k)) (hS : va_S A H0 H locs) (q0 t0 : Nat) (hq : q0 < n) {cA : ClassId} {N : Nat} {f : Nat → Int32} (he : M q0 = .inl (cA, N, .inl f)) (ht : tys[t0]? = some (cA, .boolean)) {i x : Int32} (hin : vp_in i N) (hdg : decode cc pc = .ok (.bastore, 1))
    (kk : ∀ (H1 : Heap) (locs1 : List Loc), va_P D cl (wl base n (va_up M q0 (.inl (cA, N, .inl (upd f i.toNatClampNeg (vp_nar .boolean x)))))) H1 → va_S A H0 H1 locs1 → W p l e R s m args below meth c H1 locs1 cells slots Q (F0 m (pc + 1) ls rest)) : W p l e R s m args below meth c H locs cells slots Q (F0 m pc ls (.int x :: .int i :: .ref (base + q0) :: rest)) :=
  va_zast hexec hb hK hP (wl_D hA) hS q0 t0 (by rw [wl_get hq, he]) ht hin hdg (fun H1 locs1 h1 _ h3 => kk H1 locs1 (by rw [wl_set] at h1; exact h1) h3)
theorem b_astq (hexec : p.tables.exec = Jvm.exec) (hb : c.code = cc) (hK : va_K D cl tys s) (hP : va_P D cl (wl base n M) H) (hA : ∀ k, k < n → A (base + k)) (hS : va_S A H0 H locs) (q0 t0 qk ci : Nat) (hq : q0 < n) (hqk : qk < n) {cA : ClassId} {r : vw_C} {N : Nat} {vs : List Value} {f : Nat → Option Nat} (he : M q0 = .inl (cA, N, .inr (.inr (.inr (.inr f))))) (ht : tys[t0]? = some (cA, .object r.1)) (hv : M qk = .inr (ci, vs)) (hc : cl[ci]? = some r) {i : Int32} (hin : vp_in i N) (hdg : decode cc pc = .ok (.aastore, 1))
    (kk : ∀ (H1 : Heap) (locs1 : List Loc), va_P D cl (wl base n (va_up M q0 (.inl (cA, N, .inr (.inr (.inr (.inr (va_up f i.toNatClampNeg (some (base + qk)))))))))) H1 → va_S A H0 H1 locs1 → W p l e R s m args below meth c H1 locs1 cells slots Q (F0 m (pc + 1) ls rest)) : W p l e R s m args below meth c H locs cells slots Q (F0 m pc ls (.ref (base + qk) :: .int i :: .ref (base + q0) :: rest)) :=
  va_astq hexec hb hK hP (wl_D hA) hS q0 t0 qk ci (by rw [wl_get hq, he]) ht (by rw [wl_get hqk, hv]) hc hin hdg (fun H1 locs1 h1 _ h3 => kk H1 locs1 (by rw [wl_set] at h1; exact h1) h3)
end BL
section BN
variable {p : Program} {l : Launch} {e : Env} {R : Room} {s : State} {m : MethodId} {args : Array Value} {below : List Frame} {meth : Method} {c : Code} {H : Heap} {locs : List Loc} {cells slots : Nat} {Q : State → Prop}
variable {cc : ByteArray} {pc : Nat} {ls : Array Slot} {rest : List Value} {D : va_G} {cl : List vw_C} {tys : List (ClassId × FieldType)} {H0 : Heap} {base n : Nat} {M : Nat → va_E} {A : Nat → Prop}
/-- one more cell behind the block -/
theorem wl_grow {H1 : Heap} {x : va_E} (hP : va_P D cl (wl base n M) H) (o1 : ∀ q, q < base + n → H1[q]? = H[q]?) (hx : va_at D cl (base + n, x) H1) : va_P D cl (wl base (n + 1) (va_up M n x)) H1 := by
  rw [← wl_push]
  refine va_P.app (wl_kept hP (fun q _ h2 => o1 q h2)) (fun k y hy => ?_)
  have hz : k < 1 := (List.getElem?_eq_some_iff.mp hy).1
  rw [show k = 0 by omega] at hy
  cases hy
  exact hx
theorem b_new (hexec : p.tables.exec = Jvm.exec) (hb : c.code = cc) {own C : String} {T : u_T} {N ci index : Nat} {Ts : List Cond} (hts : ∀ w ∈ Ts, w.before args s = true) (hin : ∀ w ∈ u_ws C T N, w ∈ Ts) (ty : Nat → FieldType) (hty : ∀ k, k < N → parseFieldDescriptor (T k).2.2.1 = some (ty k)) (hown : s.vm.findClass own = some m.cls) (hcl : (Cond.classLink own index C).before args s = true) (hinst : (Cond.instantiable C N).before args s = true) (hini : (Cond.initialized C).before args s = true)
    (hK : va_K D cl tys s) (hP : va_P D cl (wl base n M) H) (hz : H.size = base + n) (hS : va_S A H0 H locs) (hc : cl[ci]? = some (C, T, N)) {fs : List Value} (hfs : ∀ j, j < N → defaultValue (ty j) = vp_V fs j) (hcells : cells + 1 ≤ R.cells) (hslots : slots + N ≤ R.slots) (hdg : decode cc pc = .ok (.new index, 3))
    (kk : ∀ (H1 : Heap), H1.size = base + (n + 1) → va_P D cl (wl base (n + 1) (va_up M n (.inr (ci, fs)))) H1 → va_S A H0 H1 locs →
      W p l e R s m args below meth c H1 locs (cells + 1) (slots + N) Q (F0 m (pc + 3) ls (.ref (base + n) :: rest))) : W p l e R s m args below meth c H locs cells slots Q (F0 m pc ls rest) := by
  have hKn := hK.1 ci _ hc
  have hS1 := hS.1
  refine W.newcK hexec hb hown hcl hinst hini rfl hdg hcells hslots hKn.2.1 hz fun H1 kC hkC e1 z1 o1 => ?_
  exact kk H1 (by omega) (wl_grow hP o1 ⟨_, hc, (u_born ty hts hin hKn hkC e1 hty).to hfs⟩) ⟨by omega, fun x h1 h2 => (o1 x (by omega)).trans (hS.2.1 x h1 h2), hS.2.2⟩
theorem b_newa (hexec : p.tables.exec = Jvm.exec) (hb : c.code = cc) {atype : ArrayType} (harr : (Cond.arrayClass (newarray.typeOf atype)).before args s = true) {ty : FieldType} (hty : newarray.typeOf atype = ty) {cA : ClassId} (hra : s.vm.findClass ("[" ++ ty.toString) = some cA)
    (hP : va_P D cl (wl base n M) H) (hz : H.size = base + n) (hS : va_S A H0 H locs)
    {i : Int32} {N' : Nat} {a0 : vp_A} (ha : ∀ cA : ClassId, vp_cell cA a0 = arrV cA N' (fun _ => defaultValue ty)) (hn : ¬ i < 0) (hN : i.toNatClampNeg = N') (hbytes : N' * componentBytes ty ≤ 536870912) (hcells : cells + 1 ≤ R.cells) (hslots : slots + N' ≤ R.slots) (hdg : decode cc pc = .ok (.newarray atype, 2))
    (kk : ∀ (H1 : Heap), H1.size = base + (n + 1) → va_P D cl (wl base (n + 1) (va_up M n (.inl (cA, a0)))) H1 → va_S A H0 H1 locs →
      W p l e R s m args below meth c H1 locs (cells + 1) (slots + N') Q (F0 m (pc + 2) ls (.ref (base + n) :: rest))) : W p l e R s m args below meth c H locs cells slots Q (F0 m pc ls (.int i :: rest)) := by
  subst hty
  have hS1 := hS.1
  refine va_newaK hexec hb harr rfl hdg rfl hn hN hbytes hcells hslots hz fun H1 cA' e1 z1 o1 hAr hNm => ?_
  cases hra.symm.trans hNm
  refine kk H1 (by omega) (wl_grow hP o1 ?_) ⟨by omega, fun x h1 h2 => (o1 x (by omega)).trans (hS.2.1 x h1 h2), hS.2.2⟩
  show H1[base + n]? = some (vp_cell _ _)
  rw [ha]
  exact e1
theorem b_newq (hexec : p.tables.exec = Jvm.exec) (hb : c.code = cc) {own C : String} {index : Nat} (hown : s.vm.findClass own = some m.cls) (hclink : (Cond.classLink own index C).before args s = true) (hover : va_AO C s) {cA : ClassId} (hra : s.vm.findClass ("[" ++ (FieldType.object C).toString) = some cA)
    (hP : va_P D cl (wl base n M) H) (hz : H.size = base + n) (hS : va_S A H0 H locs)
    {i : Int32} {N' : Nat} (hn : ¬ i < 0) (hN : i.toNatClampNeg = N') (hbytes : N' * 4 ≤ 536870912) (hcells : cells + 1 ≤ R.cells) (hslots : slots + N' ≤ R.slots) (hdg : decode cc pc = .ok (.anewarray index, 3))
    (kk : ∀ (H1 : Heap), H1.size = base + (n + 1) → va_P D cl (wl base (n + 1) (va_up M n (.inl (cA, N', .inr (.inr (.inr (.inr (fun _ => none)))))))) H1 → va_S A H0 H1 locs →
      W p l e R s m args below meth c H1 locs (cells + 1) (slots + N') Q (F0 m (pc + 3) ls (.ref (base + n) :: rest))) : W p l e R s m args below meth c H locs cells slots Q (F0 m pc ls (.int i :: rest)) := by
  subst hN
  have hS1 := hS.1
  refine W.anew hexec hb hown hclink (va_AO.use hover) rfl hdg rfl hn hbytes hcells hslots fun cA' kA comp f1 f2 f3 f4 => ?_
  cases hra.symm.trans f1
  generalize hH1 : H.push ({ cls := cA, slots := Array.replicate i.toNatClampNeg .null, vm := .none } : Cell) = H1
  have z1 : H1.size = H.size + 1 := by rw [← hH1, Array.size_push]
  have e1 : H1[H.size]? = some (arrV cA i.toNatClampNeg (fun _ => .null)) := by rw [← hH1, Array.getElem?_push_size, ← arrV_new]
  have o1 : ∀ q : Nat, q < base + n → H1[q]? = H[q]? := fun q hq => by rw [← hH1, Array.getElem?_push, if_neg (by omega)]
  rw [hz] at e1
  refine W.eq (g2 := F0 m (pc + 3) ls (.ref (base + n) :: rest)) (by rw [← hz]) ?_
  refine kk H1 (by omega) (wl_grow hP o1 ?_) ⟨by omega, fun x h1 h2 => (o1 x (by omega)).trans (hS.2.1 x h1 h2), hS.2.2⟩
  show H1[base + n]? = some (vp_cell _ _)
  rw [vp_cell_q]
  exact e1
end BN
end
section
/-! The class's cells as a picture of a memory σ of ints: σ kind i j. Cells stand in the order in which the constructor makes them. -/
abbrev Mem : Type := Nat → Nat → Nat → Int32
def up (σ : Mem) (k i j : Nat) (v : Int32) : Mem := fun a b c => if a = k ∧ b = i ∧ c = j then v else σ a b c
theorem up_self {σ : Mem} {k i j : Nat} {v : Int32} : up σ k i j v k i j = v := by simp [up]
/-- the place of contract number c: 0 the draft, 1 .. 4 the contracts, 5 .. 10 the channels' -/
def cad (c : Nat) : Nat := if c = 0 then 2 else if c < 5 then 8 + 5 * (c - 1) else 55 + 5 * (c - 5)
/-- the place of a cell of a kind -/
def ad (kd i : Nat) : Nat := match kd with
  | 0 => 0 | 1 => 1 | 2 => 7 | 3 => 28 | 4 => 29 | 5 => 54 | 6 => 85
  | 7 => cad i | 8 => cad i + 1 | 9 => cad i + 2 | 10 => cad i + 3 | 11 => cad i + 4
  | 12 => 30 + 2 * i | 13 => 31 + 2 * i | 14 => 86 + 3 * i | 15 => 87 + 3 * i | _ => 88 + 3 * i
def adN (kd : Nat) : Nat := if kd < 7 then 1 else if kd < 12 then 11 else 12
def ckOf (k : Nat) : Nat := if k = 0 then 0 else if k = 1 then 1 else if k < 7 then 7 + (k - 2) else if k = 7 then 2 else if k < 28 then 7 + (k - 8) % 5 else if k = 28 then 3 else if k = 29 then 4 else if k < 54 then 12 + (k - 30) % 2 else if k = 54 then 5 else if k < 85 then 7 + (k - 55) % 5 else if k = 85 then 6 else 14 + (k - 86) % 3
def ciOf (k : Nat) : Nat := if k < 8 then 0 else if k < 28 then 1 + (k - 8) / 5 else if k < 30 then 0 else if k < 54 then (k - 30) / 2 else if k = 54 then 0 else if k < 85 then 5 + (k - 55) / 5 else if k = 85 then 0 else (k - 86) / 3
theorem ad_ok : ∀ kd, kd < 17 → ∀ i, i < adN kd → (ckOf (ad kd i) = kd ∧ ciOf (ad kd i) = i ∧ ad kd i < 122) := by decide +kernel
theorem ad_back : ∀ k, k < 122 → (ad (ckOf k) (ciOf k) = k ∧ ckOf k < 17 ∧ ciOf k < adN (ckOf k)) := by decide +kernel
theorem ad_lt {kd i : Nat} (h : kd < 17) (hi : i < adN kd) : ad kd i < 122 := (ad_ok kd h i hi).2.2
abbrev refs (f : Nat → Option Nat) : (Nat → Int32) ⊕ (Nat → Int64) ⊕ (Nat → UInt32) ⊕ (Nat → UInt64) ⊕ (Nat → Option Nat) := .inr (.inr (.inr (.inr f)))
/-- what the cell of a kind holds -/
def cont (ar : Nat → ClassId) (base : Nat) (σ : Mem) (kd i : Nat) : va_E := match kd with
  | 0 => .inr (0, [.ref (base + ad 1 0), .int (σ 0 0 0), .ref (base + ad 7 0), .ref (base + ad 2 0), .ref (base + ad 3 0), .ref (base + ad 4 0), .ref (base + ad 5 0), .ref (base + ad 6 0), .int (σ 0 0 1), .int (σ 0 0 2), .int (σ 0 0 3), .int (σ 0 0 4)])
  | 1 => .inl (ar 1, 36, .inl (fun j => σ 1 0 j))
  | 2 => .inl (ar 3, 4, refs (fun j => some (base + ad 7 (j + 1))))
  | 3 => .inl (ar 2, 4, .inl (fun j => σ 2 0 j))
  | 4 => .inl (ar 4, 12, refs (fun j => some (base + ad 12 j)))
  | 5 => .inl (ar 3, 6, refs (fun j => some (base + ad 7 (j + 5))))
  | 6 => .inl (ar 5, 12, refs (fun j => some (base + ad 14 j)))
  | 7 => .inr (1, [.ref (base + ad 8 i), .ref (base + ad 9 i), .ref (base + ad 10 i), .ref (base + ad 11 i), .int (σ 3 i 0)])
  | 8 => .inl (ar 0, 9, .inl (fun j => σ 4 i j))
  | 9 => .inl (ar 0, 9, .inl (fun j => σ 5 i j))
  | 10 => .inl (ar 0, 9, .inl (fun j => σ 6 i j))
  | 11 => .inl (ar 0, 9, .inl (fun j => σ 7 i j))
  | 12 => .inr (2, [.ref (base + ad 13 i), .int (σ 8 i 0), .int (σ 9 i 0)])
  | 13 => .inl (ar 0, 8, .inl (fun j => σ 10 i j))
  | 14 => .inr (3, [.ref (base + ad 15 i), .ref (base + ad 16 i), .int (σ 11 i 0), .int (σ 12 i 0), .int (σ 13 i 0)])
  | 15 => .inl (ar 0, 3, .inl (fun j => σ 14 i j))
  | _ => .inl (ar 0, 3, .inl (fun j => σ 15 i j))
def mem (ar : Nat → ClassId) (base : Nat) (σ : Mem) (k : Nat) : va_E := cont ar base σ (ckOf k) (ciOf k)
theorem mem_at {ar : Nat → ClassId} {base : Nat} {σ : Mem} {kd i : Nat} (h : kd < 17) (hi : i < adN kd) : mem ar base σ (ad kd i) = cont ar base σ kd i := by
  obtain ⟨h1, h2, -⟩ := ad_ok kd h i hi
  simp only [mem, h1, h2]
/-- the kind of the cells in which an int of kind k lies -/
def ow (k : Nat) : Nat := match k with
  | 0 => 0 | 1 => 1 | 2 => 3 | 3 => 7 | 4 => 8 | 5 => 9 | 6 => 10 | 7 => 11 | 8 => 12 | 9 => 12 | 10 => 13 | 11 => 14 | 12 => 14 | 13 => 14 | 14 => 15 | _ => 16
theorem cont_ne {ar : Nat → ClassId} {base : Nat} {σ : Mem} {k i j : Nat} {v : Int32} (hk : k < 16) {kd' i' : Nat} (h : ¬ (kd' = ow k ∧ i' = i)) (h0 : adN kd' = 1 → i' = 0) (hkd : kd' < 17) : cont ar base (up σ k i j v) kd' i' = cont ar base σ kd' i' := by
  have hk' : k = 0 ∨ k = 1 ∨ k = 2 ∨ k = 3 ∨ k = 4 ∨ k = 5 ∨ k = 6 ∨ k = 7 ∨ k = 8 ∨ k = 9 ∨ k = 10 ∨ k = 11 ∨ k = 12 ∨ k = 13 ∨ k = 14 ∨ k = 15 := by omega
  have hd' : kd' = 0 ∨ kd' = 1 ∨ kd' = 2 ∨ kd' = 3 ∨ kd' = 4 ∨ kd' = 5 ∨ kd' = 6 ∨ kd' = 7 ∨ kd' = 8 ∨ kd' = 9 ∨ kd' = 10 ∨ kd' = 11 ∨ kd' = 12 ∨ kd' = 13 ∨ kd' = 14 ∨ kd' = 15 ∨ kd' = 16 := by omega
  rcases hd' with rfl | rfl | rfl | rfl | rfl | rfl | rfl | rfl | rfl | rfl | rfl | rfl | rfl | rfl | rfl | rfl | rfl <;>
    rcases hk' with rfl | rfl | rfl | rfl | rfl | rfl | rfl | rfl | rfl | rfl | rfl | rfl | rfl | rfl | rfl | rfl <;>
    first
    | rfl
    | (simp [ow, adN] at h h0; simp [cont, up]; done)
    | (simp [ow, adN] at h h0; subst h0; simp [cont, up, h]; done)
    | (simp [ow, adN] at h h0; simp [cont, up, h]; done)
/-- a store into the picture: the cell's new content is what the picture of the new memory has there -/
theorem mem_up {ar : Nat → ClassId} {base : Nat} {σ : Mem} {k i j : Nat} {v : Int32} {D : va_G} {H : Heap} {cl : List vw_C} {x : va_E} (hk : k < 16) (hi : i < adN (ow k)) (he : x = cont ar base (up σ k i j v) (ow k) i)
    (hP : va_P D cl (wl base 122 (va_up (mem ar base σ) (ad (ow k) i) x)) H) : va_P D cl (wl base 122 (mem ar base (up σ k i j v))) H := by
  have how : ow k < 17 := by
    have : ∀ k, k < 16 → ow k < 17 := by decide
    exact this k hk
  rw [wl_congr (M' := mem ar base (up σ k i j v))] at hP
  · exact hP
  · intro a ha
    by_cases h : a = ad (ow k) i
    · subst h
      rw [va_up_self, mem_at how hi, he]
    · rw [va_up_ne _ _ h]
      obtain ⟨h1, h2, h3⟩ := ad_back a ha
      show cont ar base σ (ckOf a) (ciOf a) = cont ar base (up σ k i j v) (ckOf a) (ciOf a)
      refine (cont_ne hk (fun z => h ?_) (fun z => by rw [z] at h3; omega) h2).symm
      rw [← h1, z.1, z.2]
end
section
/-! What holds in every method of the class: the start S0 (the law's entry), from which every table's word is had; the class's block at base holds the picture of σ. -/
def tysOf (ar : Nat → ClassId) : List (ClassId × FieldType) := [(ar 0, .int), (ar 1, .char), (ar 2, .boolean), (ar 3, .object R_Co), (ar 4, .object R_Bl), (ar 5, .object R_En), (ar 6, .long)]
def E0 (S0 : State) (A0 : Array Value) (D : va_G) (ar : Nat → ClassId) : Prop :=
  (∀ w ∈ lw_tbl, w.before A0 S0 = true) ∧ va_K D classes (tysOf ar) S0 ∧ (Jvm.Cond.and given_1 narrow_1).before A0 S0 = true
/-- a state of the run: its tables are warmer than the start's, and the start's cells are as they were -/
def At0 (S0 : State) (A0 : Array Value) (D : va_G) (ar : Nat → ClassId) (s : State) : Prop := E0 S0 A0 D ar ∧ S0.WarmedH s.vm ∧ x_Keep (fun _ => False) S0.heap s.heap
section A0
variable {S0 : State} {A0 : Array Value} {D : va_G} {ar : Nat → ClassId} {s : State} {args : Array Value}
theorem At0.word (h : At0 S0 A0 D ar s) {w : Cond} (hw : w ∈ lw_tbl) (hg : goodWord w = true) : w.before args s = true := word_at h.2.1 (good_of_word hg) (h.1.1 w hw)
theorem At0.K (h : At0 S0 A0 D ar s) : va_K D classes (tysOf ar) s := va_K.moved h.2.1.alike h.1.2.1
theorem At0.nestF (h : At0 S0 A0 D ar s) {a : String} {i : Nat} {b n d g : String} (hw : Cond.fieldLinkNest a i b n d g ∈ lw_tbl) : (Cond.fieldLinkNest a i b n d g).before args s = true :=
  va_Nw.use rfl (va_Nw.warmF h.2.1 (va_Nw.of rfl (h.1.1 _ hw)))
theorem At0.nestM (h : At0 S0 A0 D ar s) {a : String} {i : Nat} {x : MethodName} {g : String} (hw : Cond.methodLinkNest a i x g ∈ lw_tbl) : (Cond.methodLinkNest a i x g).before args s = true :=
  va_Nw.use rfl (va_Nw.warmM h.2.1 (va_Nw.of rfl (h.1.1 _ hw)))
theorem At0.step (h : At0 S0 A0 D ar s) {U : State} {free : Nat → Prop} (hW : s.WarmedH U.vm) (hk : x_Keep free s.heap U.heap) (hf : ∀ q, free q → S0.heap.size ≤ q) : At0 S0 A0 D ar U := by
  refine ⟨h.1, State.WarmedH.trans h.2.1 hW, Nat.le_trans h.2.2.1 hk.1, fun q hq _ => ?_⟩
  rw [hk.2 q (Nat.lt_of_lt_of_le hq h.2.2.1) (fun z => absurd (hf q z) (by omega))]
  exact h.2.2.2 q hq id
theorem At0.warm (h : At0 S0 A0 D ar s) {U : State} {A : Nat → Prop} {locs : List Loc} (hW : s.WarmedH U.vm) (hS : va_S A s.heap U.heap locs) (hA : ∀ q, A q → S0.heap.size ≤ q) : At0 S0 A0 D ar U :=
  h.step hW (free := A) ⟨hS.1, hS.2.1⟩ hA
theorem uws_good {C : String} {T : u_T} {N : Nat} : ∀ w ∈ u_ws C T N, goodWord w = true := by
  intro w hw
  obtain ⟨k, -, rfl⟩ := List.mem_map.mp hw
  unfold u_lay
  split <;> rfl
theorem cls_in : ∀ (ci : Nat) (C : String) (T : u_T) (N : Nat), classes[ci]? = some (C, T, N) → ∀ w ∈ u_ws C T N, w ∈ lw_tbl := by
  intro ci C T N h
  match ci, h with
  | 0, h => cases h; exact i_Sy
  | 1, h => cases h; exact i_Co
  | 2, h => cases h; exact i_Bl
  | 3, h => cases h; exact i_En
  | 4, h => cases h; exact i_Mo
  | k + 5, h => simp [classes] at h
end A0
/-- the class's methods: what they are called with -/
def PS (S0 : State) (A0 : Array Value) (D : va_G) (ar : Nat → ClassId) (base : Nat) (σ : Mem) (av : List Value) : Array Value → State → Prop :=
  va_Pc av (fun U => At0 S0 A0 D ar U ∧ S0.heap.size ≤ base ∧ va_P D classes (wl base 122 (mem ar base σ)) U.heap)
theorem PS_blind {S0 : State} {A0 : Array Value} {D : va_G} {ar : Nat → ClassId} {base : Nat} {σ : Mem} {av : List Value} : FrameBlind (PS S0 A0 D ar base σ av) := by
  intro a U g mk h
  obtain ⟨h0, ⟨h1, h2, h3⟩, h4, h5⟩ := h
  exact ⟨h0, ⟨h1, h2, h3⟩, h4, h5⟩
def exN (k : Nat) : String := if k = 1 then "java/lang/IllegalArgumentException" else if k = 2 then "java/lang/IllegalStateException" else if k = 3 then "java/util/NoSuchElementException" else "java/lang/UnsupportedOperationException"
/-- the exception at x is an object of the class named E -/
def x_is (E : String) (x : Addr) (t : State) : Prop := ∃ cell : Cell, t.heap[x]? = some cell ∧ cell.vm = .none ∧ t.vm.findClass E = some cell.cls
/-- how a method ended: k = 0: it returned r; else it threw the exception number k -/
def oR (k : Nat) (r : Option Int32) (o : Outcome) (t : State) : Prop := if k = 0 then o = .returned (r.map Value.int) else ∃ x, o = .threw x ∧ x_is (exN k) x t
theorem oR_ret {k : Nat} {r : Option Int32} {v : Option Value} {t : State} (h : oR k r (.returned v) t) : k = 0 ∧ v = r.map Value.int := by
  unfold oR at h
  split at h
  · rename_i h0
    cases h
    exact ⟨h0, rfl⟩
  · obtain ⟨x, h1, -⟩ := h
    cases h1
theorem oR_thr {k : Nat} {r : Option Int32} {x : Addr} {t : State} (h : oR k r (.threw x) t) : k ≠ 0 ∧ x_is (exN k) x t := by
  unfold oR at h
  split at h
  · cases h
  · rename_i h0
    obtain ⟨y, h1, h2⟩ := h
    cases h1
    exact ⟨h0, h2⟩
theorem x_is.to {E : String} {x : Addr} {t u : State} (h : x_is E x t) (hh : u.heap = t.heap) (hv : t.vm.Alike u.vm) : x_is E x u := by
  obtain ⟨cell, h1, h2, h3⟩ := h
  exact ⟨cell, by rw [hh]; exact h1, h2, by rw [hv.findClass]; exact h3⟩
/-- the end of a method that changes nothing -/
def QP (P : Nat → Option Int32 → Prop) : Array Value → State → Outcome → State → Prop := fun _ st o t => ∃ k r, P k r ∧ oR k r o t ∧ (k = 0 → t.heap = st.heap)
/-- the end of a method that may change the class's block -/
def QI (D : va_G) (ar : Nat → ClassId) (base : Nat) (P : Nat → Option Int32 → Mem → Prop) : Array Value → State → Outcome → State → Prop := fun _ _ o t => ∃ k r σ', P k r σ' ∧ oR k r o t ∧ va_P D classes (wl base 122 (mem ar base σ')) t.heap
/-- inside a method of the class named own -/
def Cx (S0 : State) (A0 : Array Value) (D : va_G) (ar : Nat → ClassId) (base : Nat) (p : Program) (l : Launch) (s : State) (m : MethodId) (args : Array Value) (meth : Method) (c : Code) (own : String) (cc : ByteArray) (nL : Nat) (ret : Option FieldType) : Prop :=
  p.tables.exec = Jvm.exec ∧ c.code = cc ∧ meth.sig.returnType = ret ∧ c.maxLocals = nL ∧ s.vm.findClass own = some m.cls ∧ meth.locks = false ∧ c.exceptionTable.isEmpty = true ∧ l.stackTraces = false ∧ At0 S0 A0 D ar s ∧ S0.heap.size ≤ base
section CX
variable {S0 : State} {A0 : Array Value} {D : va_G} {ar : Nat → ClassId} {base : Nat} {σ : Mem}
variable {p : Program} {l : Launch} {e : Env} {R : Room} {s : State} {m : MethodId} {args : Array Value} {below : List Frame} {meth : Method} {c : Code} {H : Heap} {locs : List Loc} {cells slots : Nat} {Q : State → Prop}
variable {own : String} {cc : ByteArray} {nL : Nat} {ret : Option FieldType} {pc : Nat} {ls : Array Slot} {rest : List Value}
/-- THE HEAD OF EVERY METHOD OF THE CLASS -/
theorem cx_head {y : MethodName} {av : List Value} {rm : Room} {Qc : Array Value → State → Outcome → State → Prop} {free : Addr → Prop} (hl : l.stackTraces = false) (hy : plainName y.cls = true) (hlen : (lg_sl av).length ≤ nL)
    (body : ∀ p e s m below meth c (ls : Array Slot), Cx S0 A0 D ar base p l s m av.toArray meth c y.cls cc nL ret → va_P D classes (wl base 122 (mem ar base σ)) s.heap → lv_has ls nL (lv_args 0 av) →
      W p l e rm s m av.toArray below meth c s.heap [] 0 0 (MQX below Qc av.toArray s rm.cells rm.slots free) (F0 m 0 ls [])) : MX l y [Cond.code y cc nL ret] rm (PS S0 A0 D ar base σ av) Qc free := by
  refine MX.ofW hy rfl ?_
  intro p e s m args below meth c s₁ B hml hno hv
  obtain ⟨rfl, h0, h1, h2⟩ := hv
  have hl9 := lv_entry av hlen
  rw [lg_entry_eq]
  exact body p e s m below meth c _ ⟨B.exec, B.bytes, B.returns, hml, findClass_of_methodNamed B.named, B.notSynchronized, hno, hl, h0, h1⟩ h2 hl9
theorem q_get (C0 : Cx S0 A0 D ar base p l s m args meth c own cc nL ret) (hP : va_P D classes (wl base 122 (mem ar base σ)) H) {kd i ci index : Nat} {C : String} {T : u_T} {N : Nat} {fs : List Value} (hkd : kd < 17) (hi : i < adN kd) (he : cont ar base σ kd i = .inr (ci, fs)) (hc : classes[ci]? = some (C, T, N)) (k : Nat) (hk : k < N) (hT : (T k).1 = C)
    (hlink : Cond.fieldLink own index C (T k).2.1 (T k).2.2.1 ∈ lw_tbl) {v : Value} (hv : fs[k]? = some v) (hdg : decode cc pc = .ok (.getfield index, 3))
    (kk : W p l e R s m args below meth c H locs cells slots Q (F0 m (pc + 3) ls (v :: rest))) : W p l e R s m args below meth c H locs cells slots Q (F0 m pc ls (.ref (base + ad kd i) :: rest)) := by
  obtain ⟨hx, hb, -, -, hown, -, -, -, h0, -⟩ := C0
  exact b_get hx hb (Ts := u_ws C T N) (fun w hw => h0.word (cls_in ci C T N hc w hw) (uws_good w hw)) (fun w hw => hw) hown h0.K hP (ad kd i) (ad_lt hkd hi) ((mem_at hkd hi).trans he) hc k hk (h0.word hlink rfl) (fun x hx => by rw [hT] at hx; exact hx) hv hdg kk
theorem q_getN (C0 : Cx S0 A0 D ar base p l s m args meth c own cc nL ret) (hP : va_P D classes (wl base 122 (mem ar base σ)) H) {kd i ci index : Nat} {C host : String} {T : u_T} {N : Nat} {fs : List Value} (hkd : kd < 17) (hi : i < adN kd) (he : cont ar base σ kd i = .inr (ci, fs)) (hc : classes[ci]? = some (C, T, N)) (k : Nat) (hk : k < N) (hT : (T k).1 = C)
    (hlink : Cond.fieldLinkNest own index C (T k).2.1 (T k).2.2.1 host ∈ lw_tbl) {v : Value} (hv : fs[k]? = some v) (hdg : decode cc pc = .ok (.getfield index, 3))
    (kk : W p l e R s m args below meth c H locs cells slots Q (F0 m (pc + 3) ls (v :: rest))) : W p l e R s m args below meth c H locs cells slots Q (F0 m pc ls (.ref (base + ad kd i) :: rest)) := by
  obtain ⟨hx, hb, -, -, hown, -, -, -, h0, -⟩ := C0
  exact b_getN hx hb (Ts := u_ws C T N) (fun w hw => h0.word (cls_in ci C T N hc w hw) (uws_good w hw)) (fun w hw => hw) hown h0.K hP (ad kd i) (ad_lt hkd hi) ((mem_at hkd hi).trans he) hc k hk (h0.nestF hlink) (fun x hx => by rw [hT] at hx; exact hx) hv hdg kk
/-- an int field is written: σ K i j becomes x -/
theorem q_put (C0 : Cx S0 A0 D ar base p l s m args meth c own cc nL ret) (hP : va_P D classes (wl base 122 (mem ar base σ)) H) (hS : va_S (inB base 122) s.heap H locs) {kd i ci index : Nat} {C : String} {T : u_T} {N : Nat} {fs : List Value} (K j : Nat) (hK : K < 16) (hkd : ow K = kd) (hi : i < adN kd) (he : cont ar base σ kd i = .inr (ci, fs)) (hc : classes[ci]? = some (C, T, N)) (ty0 : Nat → FieldType) (hty : ∀ k, k < N → parseFieldDescriptor (T k).2.2.1 = some (ty0 k)) (hnm : ∀ a, a < N → ∀ b, b < N → a ≠ b → (T a).2.1 ≠ (T b).2.1) (k : Nat) (hk : k < N) (hT : (T k).1 = C)
    (hlink : Cond.fieldLink own index C (T k).2.1 (T k).2.2.1 ∈ lw_tbl) (hfin : (T k).2.2.2 = false) (hd : parseFieldDescriptor (T k).2.2.1 = some .int) (hl : k < fs.length) {x : Int32} (he' : .inr (ci, fs.set k (.int x)) = cont ar base (up σ K i j x) kd i) (hdg : decode cc pc = .ok (.putfield index, 3))
    (kk : ∀ (H1 : Heap) (locs1 : List Loc), va_P D classes (wl base 122 (mem ar base (up σ K i j x))) H1 → va_S (inB base 122) s.heap H1 locs1 → W p l e R s m args below meth c H1 locs1 cells slots Q (F0 m (pc + 3) ls rest)) : W p l e R s m args below meth c H locs cells slots Q (F0 m pc ls (.int x :: .ref (base + ad kd i) :: rest)) := by
  obtain ⟨hx, hb, -, -, hown, -, -, -, h0, -⟩ := C0
  subst hkd
  have how : ow K < 17 := (by decide : ∀ k, k < 16 → ow k < 17) K hK
  exact b_put hx hb (Ts := u_ws C T N) (fun w hw => h0.word (cls_in ci C T N hc w hw) (uws_good w hw)) (fun w hw => hw) ty0 hty hnm hown h0.K hP inB_at hS (ad (ow K) i) (ad_lt how hi) ((mem_at how hi).trans he) hc k hk (h0.word hlink rfl) (fun x hx => by rw [hT] at hx; exact hx) hfin hd rfl rfl hl hdg (fun H1 locs1 h1 h2 => kk H1 locs1 (mem_up hK hi he' h1) h2)
theorem q_putN (C0 : Cx S0 A0 D ar base p l s m args meth c own cc nL ret) (hP : va_P D classes (wl base 122 (mem ar base σ)) H) (hS : va_S (inB base 122) s.heap H locs) {kd i ci index : Nat} {C host : String} {T : u_T} {N : Nat} {fs : List Value} (K j : Nat) (hK : K < 16) (hkd : ow K = kd) (hi : i < adN kd) (he : cont ar base σ kd i = .inr (ci, fs)) (hc : classes[ci]? = some (C, T, N)) (ty0 : Nat → FieldType) (hty : ∀ k, k < N → parseFieldDescriptor (T k).2.2.1 = some (ty0 k)) (hnm : ∀ a, a < N → ∀ b, b < N → a ≠ b → (T a).2.1 ≠ (T b).2.1) (k : Nat) (hk : k < N) (hT : (T k).1 = C)
    (hlink : Cond.fieldLinkNest own index C (T k).2.1 (T k).2.2.1 host ∈ lw_tbl) (hfin : (T k).2.2.2 = false) (hd : parseFieldDescriptor (T k).2.2.1 = some .int) (hl : k < fs.length) {x : Int32} (he' : .inr (ci, fs.set k (.int x)) = cont ar base (up σ K i j x) kd i) (hdg : decode cc pc = .ok (.putfield index, 3))
    (kk : ∀ (H1 : Heap) (locs1 : List Loc), va_P D classes (wl base 122 (mem ar base (up σ K i j x))) H1 → va_S (inB base 122) s.heap H1 locs1 → W p l e R s m args below meth c H1 locs1 cells slots Q (F0 m (pc + 3) ls rest)) : W p l e R s m args below meth c H locs cells slots Q (F0 m pc ls (.int x :: .ref (base + ad kd i) :: rest)) := by
  obtain ⟨hx, hb, -, -, hown, -, -, -, h0, -⟩ := C0
  subst hkd
  have how : ow K < 17 := (by decide : ∀ k, k < 16 → ow k < 17) K hK
  exact b_putN hx hb (Ts := u_ws C T N) (fun w hw => h0.word (cls_in ci C T N hc w hw) (uws_good w hw)) (fun w hw => hw) ty0 hty hnm hown h0.K hP inB_at hS (ad (ow K) i) (ad_lt how hi) ((mem_at how hi).trans he) hc k hk (h0.nestF hlink) (fun x hx => by rw [hT] at hx; exact hx) hfin hd rfl rfl hl hdg (fun H1 locs1 h1 h2 => kk H1 locs1 (mem_up hK hi he' h1) h2)
theorem q_iald (C0 : Cx S0 A0 D ar base p l s m args meth c own cc nL ret) (hP : va_P D classes (wl base 122 (mem ar base σ)) H) {kd i N : Nat} {f : Nat → Int32} (hkd : kd < 17) (hi : i < adN kd) (he : cont ar base σ kd i = .inl (ar 0, N, .inl f)) {x : Int32} (hin : vp_in x N) (hdg : decode cc pc = .ok (.iaload, 1))
    (kk : W p l e R s m args below meth c H locs cells slots Q (F0 m (pc + 1) ls (.int (f x.toNatClampNeg) :: rest))) : W p l e R s m args below meth c H locs cells slots Q (F0 m pc ls (.int x :: .ref (base + ad kd i) :: rest)) := by
  obtain ⟨hx, hb, -, -, hown, -, -, -, h0, -⟩ := C0
  exact b_iald hx hb h0.K hP (ad kd i) 0 (ad_lt hkd hi) ((mem_at hkd hi).trans he) rfl hin hdg kk
theorem q_cald (C0 : Cx S0 A0 D ar base p l s m args meth c own cc nL ret) (hP : va_P D classes (wl base 122 (mem ar base σ)) H) {kd i N : Nat} {f : Nat → Int32} (hkd : kd < 17) (hi : i < adN kd) (he : cont ar base σ kd i = .inl (ar 1, N, .inl f)) {x : Int32} (hin : vp_in x N) (hdg : decode cc pc = .ok (.caload, 1))
    (kk : W p l e R s m args below meth c H locs cells slots Q (F0 m (pc + 1) ls (.int (f x.toNatClampNeg) :: rest))) : W p l e R s m args below meth c H locs cells slots Q (F0 m pc ls (.int x :: .ref (base + ad kd i) :: rest)) := by
  obtain ⟨hx, hb, -, -, hown, -, -, -, h0, -⟩ := C0
  exact b_cald hx hb h0.K hP (ad kd i) 1 (ad_lt hkd hi) ((mem_at hkd hi).trans he) rfl hin hdg kk
theorem q_zald (C0 : Cx S0 A0 D ar base p l s m args meth c own cc nL ret) (hP : va_P D classes (wl base 122 (mem ar base σ)) H) {kd i N : Nat} {f : Nat → Int32} (hkd : kd < 17) (hi : i < adN kd) (he : cont ar base σ kd i = .inl (ar 2, N, .inl f)) {x : Int32} (hin : vp_in x N) (hdg : decode cc pc = .ok (.baload, 1))
    (kk : W p l e R s m args below meth c H locs cells slots Q (F0 m (pc + 1) ls (.int (f x.toNatClampNeg) :: rest))) : W p l e R s m args below meth c H locs cells slots Q (F0 m pc ls (.int x :: .ref (base + ad kd i) :: rest)) := by
  obtain ⟨hx, hb, -, -, hown, -, -, -, h0, -⟩ := C0
  exact b_zald hx hb h0.K hP (ad kd i) 2 (ad_lt hkd hi) ((mem_at hkd hi).trans he) rfl hin hdg kk
/-- an array of references of the class: its element at x is the cell of a kind -/
theorem q_aald (C0 : Cx S0 A0 D ar base p l s m args meth c own cc nL ret) (hP : va_P D classes (wl base 122 (mem ar base σ)) H) {kd i N t0 : Nat} {C : String} {cA : ClassId} {f : Nat → Option Nat} (hkd : kd < 17) (hi : i < adN kd) (he : cont ar base σ kd i = .inl (cA, N, refs f)) (ht : (tysOf ar)[t0]? = some (cA, .object C)) {x : Int32} {v : Nat} (hv : f x.toNatClampNeg = some v) (hin : vp_in x N) (hdg : decode cc pc = .ok (.aaload, 1))
    (kk : W p l e R s m args below meth c H locs cells slots Q (F0 m (pc + 1) ls (.ref v :: rest))) : W p l e R s m args below meth c H locs cells slots Q (F0 m pc ls (.int x :: .ref (base + ad kd i) :: rest)) := by
  obtain ⟨hx, hb, -, -, hown, -, -, -, h0, -⟩ := C0
  exact b_aldq hx hb h0.K hP (ad kd i) t0 (ad_lt hkd hi) ((mem_at hkd hi).trans he) ht hv hin hdg kk
theorem q_iast (C0 : Cx S0 A0 D ar base p l s m args meth c own cc nL ret) (hP : va_P D classes (wl base 122 (mem ar base σ)) H) (hS : va_S (inB base 122) s.heap H locs) {kd i N : Nat} {f : Nat → Int32} (K : Nat) (hK : K < 16) (hkd : ow K = kd) (hi : i < adN kd) (he : cont ar base σ kd i = .inl (ar 0, N, .inl f)) {x v : Int32} (hin : vp_in x N) (he' : .inl (ar 0, N, .inl (upd f x.toNatClampNeg v)) = cont ar base (up σ K i x.toNatClampNeg v) kd i) (hdg : decode cc pc = .ok (.iastore, 1))
    (kk : ∀ (H1 : Heap) (locs1 : List Loc), va_P D classes (wl base 122 (mem ar base (up σ K i x.toNatClampNeg v))) H1 → va_S (inB base 122) s.heap H1 locs1 → W p l e R s m args below meth c H1 locs1 cells slots Q (F0 m (pc + 1) ls rest)) : W p l e R s m args below meth c H locs cells slots Q (F0 m pc ls (.int v :: .int x :: .ref (base + ad kd i) :: rest)) := by
  obtain ⟨hx, hb, -, -, hown, -, -, -, h0, -⟩ := C0
  subst hkd
  have how : ow K < 17 := (by decide : ∀ k, k < 16 → ow k < 17) K hK
  exact b_iast hx hb h0.K hP inB_at hS (ad (ow K) i) 0 (ad_lt how hi) ((mem_at how hi).trans he) rfl hin hdg (fun H1 locs1 h1 h2 => kk H1 locs1 (mem_up hK hi he' h1) h2)
theorem q_cast (C0 : Cx S0 A0 D ar base p l s m args meth c own cc nL ret) (hP : va_P D classes (wl base 122 (mem ar base σ)) H) (hS : va_S (inB base 122) s.heap H locs) {kd i N : Nat} {f : Nat → Int32} (K : Nat) (hK : K < 16) (hkd : ow K = kd) (hi : i < adN kd) (he : cont ar base σ kd i = .inl (ar 1, N, .inl f)) {x v : Int32} (hin : vp_in x N) (he' : .inl (ar 1, N, .inl (upd f x.toNatClampNeg (vp_nar .char v))) = cont ar base (up σ K i x.toNatClampNeg (vp_nar .char v)) kd i) (hdg : decode cc pc = .ok (.castore, 1))
    (kk : ∀ (H1 : Heap) (locs1 : List Loc), va_P D classes (wl base 122 (mem ar base (up σ K i x.toNatClampNeg (vp_nar .char v)))) H1 → va_S (inB base 122) s.heap H1 locs1 → W p l e R s m args below meth c H1 locs1 cells slots Q (F0 m (pc + 1) ls rest)) : W p l e R s m args below meth c H locs cells slots Q (F0 m pc ls (.int v :: .int x :: .ref (base + ad kd i) :: rest)) := by
  obtain ⟨hx, hb, -, -, hown, -, -, -, h0, -⟩ := C0
  subst hkd
  have how : ow K < 17 := (by decide : ∀ k, k < 16 → ow k < 17) K hK
  exact b_cast hx hb h0.K hP inB_at hS (ad (ow K) i) 1 (ad_lt how hi) ((mem_at how hi).trans he) rfl hin hdg (fun H1 locs1 h1 h2 => kk H1 locs1 (mem_up hK hi he' h1) h2)
theorem q_zast (C0 : Cx S0 A0 D ar base p l s m args meth c own cc nL ret) (hP : va_P D classes (wl base 122 (mem ar base σ)) H) (hS : va_S (inB base 122) s.heap H locs) {kd i N : Nat} {f : Nat → Int32} (K : Nat) (hK : K < 16) (hkd : ow K = kd) (hi : i < adN kd) (he : cont ar base σ kd i = .inl (ar 2, N, .inl f)) {x v : Int32} (hin : vp_in x N) (he' : .inl (ar 2, N, .inl (upd f x.toNatClampNeg (vp_nar .boolean v))) = cont ar base (up σ K i x.toNatClampNeg (vp_nar .boolean v)) kd i) (hdg : decode cc pc = .ok (.bastore, 1))
    (kk : ∀ (H1 : Heap) (locs1 : List Loc), va_P D classes (wl base 122 (mem ar base (up σ K i x.toNatClampNeg (vp_nar .boolean v)))) H1 → va_S (inB base 122) s.heap H1 locs1 → W p l e R s m args below meth c H1 locs1 cells slots Q (F0 m (pc + 1) ls rest)) : W p l e R s m args below meth c H locs cells slots Q (F0 m pc ls (.int v :: .int x :: .ref (base + ad kd i) :: rest)) := by
  obtain ⟨hx, hb, -, -, hown, -, -, -, h0, -⟩ := C0
  subst hkd
  have how : ow K < 17 := (by decide : ∀ k, k < 16 → ow k < 17) K hK
  exact b_zast hx hb h0.K hP inB_at hS (ad (ow K) i) 2 (ad_lt how hi) ((mem_at how hi).trans he) rfl hin hdg (fun H1 locs1 h1 h2 => kk H1 locs1 (mem_up hK hi he' h1) h2)
end CX
end
section
/-! Calls, returns and throws in the class's methods. -/
section CS0
variable {S0 : State} {A0 : Array Value} {D : va_G} {ar : Nat → ClassId} {s : State} {args : Array Value}
theorem x_ok1 {y : MethodName} {bytes : ByteArray} {maxL : Nat} {ret : Option FieldType} (hc : (Cond.code y bytes maxL ret).before args s = true) (hi : (Cond.initialized y.cls).before args s = true) : x_Ok s y [Cond.code y bytes maxL ret] maxL := by
  refine ⟨fun w hw a' U hU => ?_, fun U hU mk hn => ?_, fun a' U hU => word_at hU (Or.inl rfl) hi⟩
  · cases List.mem_singleton.mp hw
    exact word_at hU (Or.inl rfl) hc
  · obtain ⟨meth, cc, h1, h2, -, h4, -⟩ := Cond.code_spec hn (word_at (a' := #[]) hU (Or.inl rfl) hc)
    exact ⟨meth, cc, h1, h2, h4⟩
theorem castable_at {a b : String} {U : State} {a' : Array Value} (hv : s.vm.Alike U.vm) (h : (Cond.castable a b).before args s = true) : (Cond.castable a b).before a' U = true := by
  rw [← Cond.castable_setVm hv] at h
  exact h
theorem declares_at {x : MethodName} {U : State} {a' : Array Value} (hv : s.vm.Alike U.vm) (h : (Cond.declares x).before args s = true) : (Cond.declares x).before a' U = true := by
  rw [← Cond.declares_setVm hv] at h
  exact h
/-- the words of a throw: each stands in the tables, and stays -/
theorem At0.thr (h : At0 S0 A0 D ar s) {L : List Cond} (hL : ∀ w ∈ L, w ∈ lw_tbl) (hg : L.all (fun w => goodWord w || (match w with | .castable _ _ => true | .declares _ => true | _ => false)) = true) : ∀ w ∈ L, w.before args s = true := by
  intro w hw
  have h1 := List.all_eq_true.mp hg w hw
  rcases Bool.or_eq_true_iff.mp h1 with h2 | h2
  · exact h.word (hL w hw) h2
  · cases w <;> first | exact castable_at h.2.1.alike (h.1.1 _ (hL _ hw)) | exact declares_at h.2.1.alike (h.1.1 _ (hL _ hw)) | (simp at h2; done)
theorem At0.str (h : At0 S0 A0 D ar s) {own tx : String} {k : Nat} (hw : Cond.stringRef own k tx ∈ lw_tbl) (hx : (Cond.exactly (.string own k) "java/lang/String").before A0 S0 = true) : ∃ a, vk_R own k tx a s := by
  obtain ⟨a, c, cA, kA, q1, -⟩ := Cond.exactly_spec (args := A0) (first := S0) (o := none) (s := S0) (idx := []) hx
  exact ⟨a, vk_R.warm h.2.1 (vk_R.of (h.1.1 _ hw) q1)⟩
theorem At0.zq (h : At0 S0 A0 D ar s) {C n d : String} (hl : Cond.laysStatic C n d ∈ lw_tbl) (hi : Cond.initialized C ∈ lw_tbl) (hr : (Cond.isRef (.static C n d)).before A0 S0 = true) {A : Nat → Prop} (hA : ∀ q, A q → S0.heap.size ≤ q) : vx_Zq C n d A s s.heap := by
  have h1 : vx_Zq C n d (fun q => S0.heap.size ≤ q) S0 S0.heap := vx_Zqof (h.1.1 _ hl) (h.1.1 _ hi) hr (fun a ha hz => by omega)
  exact (vx_Zq.moved h.2.1.alike (h1.kept (fun a ha _ => h.2.2.2 a ha id))).narrow hA
end CS0
section CS
variable {S0 : State} {A0 : Array Value} {D : va_G} {ar : Nat → ClassId} {base : Nat} {σ : Mem}
variable {p : Program} {l : Launch} {e : Env} {R : Room} {s : State} {m : MethodId} {args : Array Value} {below : List Frame} {meth : Method} {c : Code} {H : Heap} {locs : List Loc} {cells slots : Nat} {Q : State → Prop}
variable {own : String} {cc : ByteArray} {nL : Nat} {ret : Option FieldType} {pc index : Nat} {ls : Array Slot} {rest As st0 av : List Value} {y : MethodName} {bytes : ByteArray} {maxL : Nat} {rt : Option FieldType} {rm : Room}
theorem inB_old {S : State} {base n : Nat} (h : S.heap.size ≤ base) : ∀ q, inB base n q → S.heap.size ≤ q := fun q hq => Nat.le_trans h hq.1
/-- the way into a method of an object of the block -/
theorem cs_V (C0 : Cx S0 A0 D ar base p l s m args meth c own cc nL ret) (hP : va_P D classes (wl base 122 (mem ar base σ)) H) {kd i ci : Nat} {C : String} {T : u_T} {N : Nat} {fs : List Value} (hkd : kd < 17) (hi : i < adN kd) (he : cont ar base σ kd i = .inr (ci, fs)) (hc : classes[ci]? = some (C, T, N))
    (hml : Cond.methodLink own index y ∈ lw_tbl) (him : Cond.instanceMethod y ∈ lw_tbl) (hsl : Cond.selects C y y ∈ lw_tbl) (hcd : Cond.code y bytes maxL rt ∈ lw_tbl) (hin : Cond.initialized y.cls ∈ lw_tbl)
    (hd : y.cls ≠ "java/lang/invoke/MethodHandle" ∧ y.cls ≠ "java/lang/invoke/VarHandle" ∧ (parseMethodDescriptor y.desc).map (fun d => d.parameters.length) = some As.length) (hst : st0 = As.reverse ++ .ref (base + ad kd i) :: rest) (hdg : decode cc pc = .ok (.invokevirtual index, 3)) :
    x_In p l e R s m args below meth c H locs cells slots (F0 m pc ls st0) rest y (Value.ref (base + ad kd i) :: As).toArray ∧ x_Ok s y [Cond.code y bytes maxL rt] maxL := by
  obtain ⟨hx, hb, -, -, hown, -, -, -, h0, -⟩ := C0
  exact ⟨x_inV (C := C) hx hb hown (h0.word hml rfl) (h0.word him rfl) (h0.word hsl rfl) hd (h0.word hcd rfl) (va_recv h0.K hP (ci := ci) (q0 := ad kd i) hc (by rw [wl_get (ad_lt hkd hi), (mem_at hkd hi).trans he])) hst hdg, x_ok1 (args := args) (h0.word hcd rfl) (h0.word hin rfl)⟩
theorem cs_S (C0 : Cx S0 A0 D ar base p l s m args meth c own cc nL ret) (hml : Cond.methodLink own index y ∈ lw_tbl) (him : Cond.static y ∈ lw_tbl) (hcd : Cond.code y bytes maxL rt ∈ lw_tbl) (hin : Cond.initialized y.cls ∈ lw_tbl)
    (hd : y.cls ≠ "java/lang/invoke/MethodHandle" ∧ y.cls ≠ "java/lang/invoke/VarHandle" ∧ (parseMethodDescriptor y.desc).map (fun d => d.parameters.length) = some As.length) (hst : st0 = As.reverse ++ rest) (hdg : decode cc pc = .ok (.invokestatic index, 3)) :
    x_In p l e R s m args below meth c H locs cells slots (F0 m pc ls st0) rest y As.toArray ∧ x_Ok s y [Cond.code y bytes maxL rt] maxL := by
  obtain ⟨hx, hb, -, -, hown, -, -, -, h0, -⟩ := C0
  exact ⟨x_inS hx hb hown (h0.word hml rfl) (h0.word him rfl) (h0.word hin rfl) hd (Or.inl (h0.word hcd rfl)) hst hdg, x_ok1 (args := args) (h0.word hcd rfl) (h0.word hin rfl)⟩
/-- a call of a method that changes nothing, and may throw -/
theorem cs_P {P : Nat → Option Int32 → Prop} {ig : Instr} (C0 : Cx S0 A0 D ar base p l s m args meth c own cc nL ret) (hP : va_P D classes (wl base 122 (mem ar base σ)) H) (hS : va_S (inB base 122) s.heap H locs)
    (hcall : x_In p l e R s m args below meth c H locs cells slots (F0 m pc ls st0) rest y av.toArray ∧ x_Ok s y [Cond.code y bytes maxL rt] maxL) (hM : MX l y [Cond.code y bytes maxL rt] rm (PS S0 A0 D ar base σ av) (QP P) (fun _ => False))
    (hsize : ls.size = nL) (hdg : decode cc pc = .ok (ig, 3)) (hW : (rest.map fun v => v.category).sum ≤ 8) (hR : rm.frames + 1 ≤ R.frames ∧ 8 + (maxL + 11) + rm.locals ≤ R.locals) (hf : cells + rm.cells ≤ R.cells ∧ slots + rm.slots ≤ R.slots)
    (kt : ∀ (k : Nat) (r : Option Int32) (x : Addr) (t : State), k ≠ 0 → P k r → x_is (exN k) x t → s.vm.Alike t.vm → x_Keep (fun _ => False) H t.heap → WT p l e R s m args below meth c t.heap locs (cells + rm.cells) (slots + rm.slots) Q (F0 m pc ls rest) x)
    (kr : ∀ r : Option Int32, P 0 r → W p l e R s m args below meth c H locs cells slots Q (F0 m (pc + 3) ls ((r.map Value.int).toList ++ rest))) : W p l e R s m args below meth c H locs cells slots Q (F0 m pc ls st0) := by
  obtain ⟨hx, hb, hr, hml, hown, hlk, hno, hl, h0, hbase⟩ := C0
  refine x_callR hcall.1 hcall.2 hM PS_blind hml hsize hb hdg hW hR hf (fun U hU hWU => ⟨rfl, h0.warm hWU (locs := locs) (by rw [hU]; exact hS) (inB_old hbase), hbase, by rw [hU]; exact hP⟩) ?_ ?_ ?_
  · intro v st₀ t _ hq
    obtain ⟨k, r, hp, ho, hh⟩ := hq
    exact hh (oR_ret ho).1
  · intro v st₀ t _ _ hq
    obtain ⟨k, r, hp, ho, hh⟩ := hq
    obtain ⟨rfl, rfl⟩ := oR_ret ho
    exact kr r hp
  · intro x st₀ t L _ hv hq hkp hL
    obtain ⟨k, r, hp, ho, -⟩ := hq
    obtain ⟨hk, hxx⟩ := oR_thr ho
    have hL0 : L = [] := by
      cases L with
      | nil => rfl
      | cons a b => exact (hL a List.mem_cons_self).elim
    subst hL0
    rw [List.append_nil]
    exact kt k r x t hk hp hxx hv hkp
/-- an exception passes through a method that has changed nothing so far -/
theorem th_I {P' : Nat → Option Int32 → Mem → Prop} {k mc ms : Nat} {x : Addr} {t : State} (C0 : Cx S0 A0 D ar base p l s m args meth c own cc nL ret) (hP : va_P D classes (wl base 122 (mem ar base σ)) H) (hS : va_S (inB base 122) s.heap H locs) (hk : k ≠ 0) (hx : x_is (exN k) x t) (hv : s.vm.Alike t.vm) (hkp : x_Keep (fun _ => False) H t.heap) (hp : P' k none σ) (h1 : cells ≤ mc) (h2 : slots ≤ ms) :
    WT p l e R s m args below meth c t.heap locs cells slots (MQX below (QI D ar base P') args s mc ms (inB base 122)) (F0 m pc ls rest) x := by
  obtain ⟨-, -, -, -, -, hlk, hno, -, -, -⟩ := C0
  refine WT.widen h1 h2 (WT.leave hno hlk (fun t' ht hW => ⟨k, none, σ, hp, ?_, ?_⟩) hS.2.2)
  · unfold oR
    rw [if_neg hk]
    exact ⟨x, rfl, hx.to ht (hv.symm.trans hW.alike)⟩
  · rw [ht]
    exact wl_kept hP (fun q _ h4 => hkp.2 q (by have := wl_lt hP (k := q - base) (by omega); omega) id)
theorem th_P {P' : Nat → Option Int32 → Prop} {k mc ms : Nat} {x : Addr} {t : State} (C0 : Cx S0 A0 D ar base p l s m args meth c own cc nL ret) (hk : k ≠ 0) (hx : x_is (exN k) x t) (hv : s.vm.Alike t.vm) (hp : P' k none) (h1 : cells ≤ mc) (h2 : slots ≤ ms) :
    WT p l e R s m args below meth c t.heap [] cells slots (MQX below (QP P') args s mc ms (fun _ => False)) (F0 m pc ls rest) x := by
  obtain ⟨-, -, -, -, -, hlk, hno, -, -, -⟩ := C0
  refine WT.widen h1 h2 (WT.leave hno hlk (fun t' ht hW => ⟨k, none, hp, ?_, fun h => absurd h hk⟩) (fun q hq => by cases hq))
  unfold oR
  rw [if_neg hk]
  exact ⟨x, rfl, hx.to ht (hv.symm.trans hW.alike)⟩
/-- such a call, in a method that may change the block but hasn't yet -/
theorem cs_PI {P : Nat → Option Int32 → Prop} {P' : Nat → Option Int32 → Mem → Prop} {ig : Instr} (C0 : Cx S0 A0 D ar base p l s m args meth c own cc nL ret) (hP : va_P D classes (wl base 122 (mem ar base σ)) H) (hS : va_S (inB base 122) s.heap H locs)
    (hcall : x_In p l e R s m args below meth c H locs cells slots (F0 m pc ls st0) rest y av.toArray ∧ x_Ok s y [Cond.code y bytes maxL rt] maxL) (hM : MX l y [Cond.code y bytes maxL rt] rm (PS S0 A0 D ar base σ av) (QP P) (fun _ => False))
    (hsize : ls.size = nL) (hdg : decode cc pc = .ok (ig, 3)) (hW : (rest.map fun v => v.category).sum ≤ 8) (hR : rm.frames + 1 ≤ R.frames ∧ 8 + (maxL + 11) + rm.locals ≤ R.locals) (hf : cells + rm.cells ≤ R.cells ∧ slots + rm.slots ≤ R.slots)
    (kt : ∀ (k : Nat) (r : Option Int32), k ≠ 0 → P k r → P' k none σ)
    (kr : ∀ r : Option Int32, P 0 r → W p l e R s m args below meth c H locs cells slots (MQX below (QI D ar base P') args s R.cells R.slots (inB base 122)) (F0 m (pc + 3) ls ((r.map Value.int).toList ++ rest))) :
    W p l e R s m args below meth c H locs cells slots (MQX below (QI D ar base P') args s R.cells R.slots (inB base 122)) (F0 m pc ls st0) :=
  cs_P C0 hP hS hcall hM hsize hdg hW hR hf (fun k r x t hk hp hx hv hkp => th_I C0 hP hS hk hx hv hkp (kt k r hk hp) hf.1 hf.2) kr
/-- .. in a method that changes nothing -/
theorem cs_PP {P P' : Nat → Option Int32 → Prop} {ig : Instr} (C0 : Cx S0 A0 D ar base p l s m args meth c own cc nL ret) (hP : va_P D classes (wl base 122 (mem ar base σ)) s.heap)
    (hcall : x_In p l e R s m args below meth c s.heap [] cells slots (F0 m pc ls st0) rest y av.toArray ∧ x_Ok s y [Cond.code y bytes maxL rt] maxL) (hM : MX l y [Cond.code y bytes maxL rt] rm (PS S0 A0 D ar base σ av) (QP P) (fun _ => False))
    (hsize : ls.size = nL) (hdg : decode cc pc = .ok (ig, 3)) (hW : (rest.map fun v => v.category).sum ≤ 8) (hR : rm.frames + 1 ≤ R.frames ∧ 8 + (maxL + 11) + rm.locals ≤ R.locals) (hf : cells + rm.cells ≤ R.cells ∧ slots + rm.slots ≤ R.slots)
    (kt : ∀ (k : Nat) (r : Option Int32), k ≠ 0 → P k r → P' k none)
    (kr : ∀ r : Option Int32, P 0 r → W p l e R s m args below meth c s.heap [] cells slots (MQX below (QP P') args s R.cells R.slots (fun _ => False)) (F0 m (pc + 3) ls ((r.map Value.int).toList ++ rest))) :
    W p l e R s m args below meth c s.heap [] cells slots (MQX below (QP P') args s R.cells R.slots (fun _ => False)) (F0 m pc ls st0) :=
  cs_P C0 hP va_S.rf hcall hM hsize hdg hW hR hf (fun k r x t hk hp hx hv hkp => th_P C0 hk hx hv (kt k r hk hp) hf.1 hf.2) kr
/-- a call of a method that changes the block and never throws -/
theorem cs_I {P : Nat → Option Int32 → Mem → Prop} {ig : Instr} (C0 : Cx S0 A0 D ar base p l s m args meth c own cc nL ret) (hP : va_P D classes (wl base 122 (mem ar base σ)) H) (hS : va_S (inB base 122) s.heap H locs)
    (hcall : x_In p l e R s m args below meth c H locs cells slots (F0 m pc ls st0) rest y av.toArray ∧ x_Ok s y [Cond.code y bytes maxL rt] maxL) (hM : MX l y [Cond.code y bytes maxL rt] rm (PS S0 A0 D ar base σ av) (QI D ar base P) (inB base 122))
    (hno : ∀ k r σ', P k r σ' → k = 0) (hz : rm.cells = 0 ∧ rm.slots = 0)
    (hsize : ls.size = nL) (hdg : decode cc pc = .ok (ig, 3)) (hW : (rest.map fun v => v.category).sum ≤ 8) (hR : rm.frames + 1 ≤ R.frames ∧ 8 + (maxL + 11) + rm.locals ≤ R.locals) (hf : cells ≤ R.cells ∧ slots ≤ R.slots)
    (kr : ∀ (r : Option Int32) (σ' : Mem) (H1 : Heap) (locs1 : List Loc), P 0 r σ' → va_P D classes (wl base 122 (mem ar base σ')) H1 → va_S (inB base 122) s.heap H1 locs1 → W p l e R s m args below meth c H1 locs1 cells slots Q (F0 m (pc + 3) ls ((r.map Value.int).toList ++ rest))) : W p l e R s m args below meth c H locs cells slots Q (F0 m pc ls st0) := by
  obtain ⟨hx, hb, hr, hml, hown, hlk, hn0, hl, h0, hbase⟩ := C0
  refine x_call hcall.1 hcall.2 hM PS_blind hml hsize hb hdg hW hR ⟨by rw [hz.1]; exact hf.1, by rw [hz.2]; exact hf.2⟩ (fun U hU hWU => ⟨rfl, h0.warm hWU (locs := locs) (by rw [hU]; exact hS) (inB_old hbase), hbase, by rw [hU]; exact hP⟩) ?_ ?_
  · intro v st₀ t L _ _ hq hkp hL
    obtain ⟨k, r, σ', hp, ho, hh⟩ := hq
    obtain ⟨rfl, rfl⟩ := oR_ret ho
    rw [hz.1, hz.2]
    exact kr r σ' t.heap _ hp hh (hkp.S hS (fun q h => h) hL)
  · intro x st₀ t L _ _ hq _ _
    obtain ⟨k, r, σ', hp, ho, hh⟩ := hq
    exact absurd (hno k r σ' hp) (oR_thr ho).1
-- returns
theorem rI_i {P : Nat → Option Int32 → Mem → Prop} {v : Int32} (C0 : Cx S0 A0 D ar base p l s m args meth c own cc nL (some .int)) (hP : va_P D classes (wl base 122 (mem ar base σ)) H) (hS : va_S (inB base 122) s.heap H locs) (hc : cells ≤ R.cells ∧ slots ≤ R.slots) (hp : P 0 (some v) σ) (hdg : decode cc pc = .ok (.ireturn, 1)) :
    W p l e R s m args below meth c H locs cells slots (MQX below (QI D ar base P) args s R.cells R.slots (inB base 122)) (F0 m pc ls [.int v]) := by
  obtain ⟨hx, hb, hr, -, -, hlk, -, -, -, -⟩ := C0
  exact W.widen hc.1 hc.2 (x_iret hx hb hr hlk (fun t ht _ => ⟨0, some v, σ, hp, rfl, by rw [ht]; exact hP⟩) hS.2.2 hdg)
theorem rI_z {P : Nat → Option Int32 → Mem → Prop} {v : Int32} (C0 : Cx S0 A0 D ar base p l s m args meth c own cc nL (some .boolean)) (hP : va_P D classes (wl base 122 (mem ar base σ)) H) (hS : va_S (inB base 122) s.heap H locs) (hc : cells ≤ R.cells ∧ slots ≤ R.slots) (hn : v = 0 ∨ v = 1) (hp : P 0 (some v) σ) (hdg : decode cc pc = .ok (.ireturn, 1)) :
    W p l e R s m args below meth c H locs cells slots (MQX below (QI D ar base P) args s R.cells R.slots (inB base 122)) (F0 m pc ls [.int v]) := by
  obtain ⟨hx, hb, hr, -, -, hlk, -, -, -, -⟩ := C0
  exact W.widen hc.1 hc.2 (x_zret hx hb hr hlk (by rcases hn with rfl | rfl <;> rfl) (fun t ht _ => ⟨0, some v, σ, hp, rfl, by rw [ht]; exact hP⟩) hS.2.2 hdg)
theorem rI_v {P : Nat → Option Int32 → Mem → Prop} (C0 : Cx S0 A0 D ar base p l s m args meth c own cc nL none) (hP : va_P D classes (wl base 122 (mem ar base σ)) H) (hS : va_S (inB base 122) s.heap H locs) (hc : cells ≤ R.cells ∧ slots ≤ R.slots) (hp : P 0 none σ) (hdg : decode cc pc = .ok (.return_, 1)) :
    W p l e R s m args below meth c H locs cells slots (MQX below (QI D ar base P) args s R.cells R.slots (inB base 122)) (F0 m pc ls []) := by
  obtain ⟨hx, hb, hr, -, -, hlk, -, -, -, -⟩ := C0
  exact W.widen hc.1 hc.2 (x_vret hx hb hr hlk (fun t ht _ => ⟨0, none, σ, hp, rfl, by rw [ht]; exact hP⟩) hS.2.2 hdg)
theorem rP_i {P : Nat → Option Int32 → Prop} {v : Int32} (C0 : Cx S0 A0 D ar base p l s m args meth c own cc nL (some .int)) (hc : cells ≤ R.cells ∧ slots ≤ R.slots) (hp : P 0 (some v)) (hdg : decode cc pc = .ok (.ireturn, 1)) :
    W p l e R s m args below meth c s.heap [] cells slots (MQX below (QP P) args s R.cells R.slots (fun _ => False)) (F0 m pc ls [.int v]) := by
  obtain ⟨hx, hb, hr, -, -, hlk, -, -, -, -⟩ := C0
  exact W.widen hc.1 hc.2 (x_iret hx hb hr hlk (fun t ht _ => ⟨0, some v, hp, rfl, fun _ => ht⟩) (fun q hq => by cases hq) hdg)
theorem rP_z {P : Nat → Option Int32 → Prop} {v : Int32} (C0 : Cx S0 A0 D ar base p l s m args meth c own cc nL (some .boolean)) (hc : cells ≤ R.cells ∧ slots ≤ R.slots) (hn : v = 0 ∨ v = 1) (hp : P 0 (some v)) (hdg : decode cc pc = .ok (.ireturn, 1)) :
    W p l e R s m args below meth c s.heap [] cells slots (MQX below (QP P) args s R.cells R.slots (fun _ => False)) (F0 m pc ls [.int v]) := by
  obtain ⟨hx, hb, hr, -, -, hlk, -, -, -, -⟩ := C0
  exact W.widen hc.1 hc.2 (x_zret hx hb hr hlk (by rcases hn with rfl | rfl <;> rfl) (fun t ht _ => ⟨0, some v, hp, rfl, fun _ => ht⟩) (fun q hq => by cases hq) hdg)
theorem rP_v {P : Nat → Option Int32 → Prop} (C0 : Cx S0 A0 D ar base p l s m args meth c own cc nL none) (hc : cells ≤ R.cells ∧ slots ≤ R.slots) (hp : P 0 none) (hdg : decode cc pc = .ok (.return_, 1)) :
    W p l e R s m args below meth c s.heap [] cells slots (MQX below (QP P) args s R.cells R.slots (fun _ => False)) (F0 m pc ls []) := by
  obtain ⟨hx, hb, hr, -, -, hlk, -, -, -, -⟩ := C0
  exact W.widen hc.1 hc.2 (x_vret hx hb hr hlk (fun t ht _ => ⟨0, none, hp, rfl, fun _ => ht⟩) (fun q hq => by cases hq) hdg)
/-- throw new E("text"); the block may have been changed -/
theorem tn_any {Qc : Array Value → State → Outcome → State → Prop} {free : Addr → Prop} {E text : String} {ik is ic : Nat} (C0 : Cx S0 A0 D ar base p l s m args meth c own cc nL ret) (hS : va_S (inB base 122) s.heap H locs) (hE : Bundle.fit E = true)
    (hk : Cond.classLink own ik E ∈ lw_tbl) (hini : Cond.initialized E ∈ lw_tbl) (hsr : Cond.stringRef own is text ∈ lw_tbl) (hex : ∀ A S, (Jvm.Cond.and given_1 narrow_1).before A S = true → (Cond.exactly (.string own is) "java/lang/String").before A S = true)
    (hat : ∀ w ∈ vx_atS own ic E ["java/lang/RuntimeException", "java/lang/Exception"], w ∈ lw_tbl) (hag : (vx_atS own ic E ["java/lang/RuntimeException", "java/lang/Exception"]).all (fun w => goodWord w || (match w with | .castable _ _ => true | .declares _ => true | _ => false)) = true)
    (hag2 : (vx_atS own ic E ["java/lang/RuntimeException", "java/lang/Exception"]).all vx_ot = true)
    (hu : ∀ A S, (Jvm.Cond.and given_1 narrow_1).before A S = true → (Cond.isRef (.static Bundle.tN "UNASSIGNED_STACK" Bundle.steD)).before A S = true ∧ (Cond.isRef (.static Bundle.tN "SUPPRESSED_SENTINEL" Bundle.listD)).before A S = true)
    (hz : Cond.laysStatic Bundle.tN "UNASSIGNED_STACK" Bundle.steD ∈ lw_tbl ∧ Cond.laysStatic Bundle.tN "SUPPRESSED_SENTINEL" Bundle.listD ∈ lw_tbl ∧ Cond.initialized Bundle.tN ∈ lw_tbl) (hsize : ls.size = nL)
    (d0 : decode cc pc = .ok (.new ik, 3)) (d3 : decode cc (pc + 3) = .ok (.dup, 1)) (d4 : decode cc (pc + 4) = .ok (.ldc is, 2)) (d6 : decode cc (pc + 6) = .ok (.invokespecial ic, 3)) (d9 : decode cc (pc + 9) = .ok (.athrow, 1))
    (hRf : 5 < R.frames) (hRl : (rest.map fun v => v.category).sum + 82 ≤ R.locals) (hc : cells + 1 ≤ R.cells ∧ slots + 6 ≤ R.slots) (hf : ∀ z ∈ locs, free z.base)
    (hq : ∀ (t : State) (x : Addr), s.WarmedH t.vm → x_Keep (fun _ => False) H t.heap → x_is E x t → Qc args s (.threw x) t) :
    W p l e R s m args below meth c H locs cells slots (MQX below Qc args s R.cells R.slots free) (F0 m pc ls rest) := by
  obtain ⟨hx, hb, -, hml, hown, hlk, hno, hl, h0, hbase⟩ := C0
  obtain ⟨sa, hsa⟩ := h0.str hsr (hex _ _ h0.1.2.2)
  have h1 := vx_throwS (p := p) (l := l) (e := e) (R := R) (s := s) (m := m) (args := args) (below := below) (meth := meth) (c := c) (H := H) (locs := locs) (cells := cells) (slots := slots) (free := free) (ls := ls) (rest := rest) (Qc := fun _ _ _ _ => False) (XC := fun E' _ t => E' = E ∧ x_Keep (fun _ => False) H t.heap) (A := inB base 122) (mc := R.cells) (ms := R.slots) (names := ["java/lang/RuntimeException", "java/lang/Exception"]) hx hb hl hown hE (by decide +kernel) (h0.word hk rfl) (h0.word hini rfl) hsa (h0.thr hat hag)
    (fun w hw => by
      rcases List.mem_cons.mp hw with rfl | hw
      · rfl
      · rcases List.mem_cons.mp hw with rfl | hw
        · rfl
        · exact List.all_eq_true.mp hag2 w hw)
    (h0.zq hz.1 hz.2.2 (hu _ _ h0.1.2.2).1 (inB_old hbase)) (h0.zq hz.2.1 hz.2.2 (hu _ _ h0.1.2.2).2 (inB_old hbase)) hS (hsize.trans hml.symm) d0 d3 d4 d6 d9 (x_empty hno _) hRf hRl hc.1 hc.2 hlk
    (fun t _ h3 h4 => ⟨rfl, h3, fun q hq _ => h4 q hq⟩) hf hc.1 hc.2
  refine W.mono ?_ h1
  rintro t ⟨o, h2, h3, h4⟩
  rcases h4 with ⟨h5, -⟩ | ⟨q, rfl, E', ce, L, ⟨rfl, h6⟩, h7, h8, h9, h10, h11, h12⟩
  · exact h5.elim
  · exact ⟨.threw q, h2, h3, hq t q h10 h6 ⟨ce, h7, h8, by rw [h10.alike.findClass]; exact h9⟩, L, ⟨h10, h11⟩, h12⟩
end CS
end
section
/-! Small rows, rooms, and the class's throws. -/
def b2i (c : Prop) [Decidable c] : Int32 := if c then 1 else 0
theorem b2i_t {c : Prop} [Decidable c] (h : c) : b2i c = 1 := if_pos h
theorem b2i_f {c : Prop} [Decidable c] (h : ¬ c) : b2i c = 0 := if_neg h
theorem b2i_01 {c : Prop} [Decidable c] : b2i c = 0 ∨ b2i c = 1 := by
  unfold b2i
  split
  · exact Or.inr rfl
  · exact Or.inl rfl
theorem b2i_ne {c : Prop} [Decidable c] : ¬ b2i c = 0 ↔ c := by
  unfold b2i
  split <;> simp_all
theorem vin_lt {x : Int32} {n : Nat} (h : vp_in x n) : x.toNatClampNeg < n := Nat.not_le.mp fun q => h (Or.inr q)
theorem vin_off {x : Int32} {n k N : Nat} (h : vp_in x n) (hk : n + k ≤ N) : x.toNatClampNeg + k < N := by
  have := vin_lt h
  omega
theorem vin_nI {k n : Nat} (h : k < n) (hn : n < 2 ^ 31 := by decide) : vp_in (nI k) n := vp_in_nI h hn
theorem vin_rg {x : Int32} {n : Nat} (h0 : ¬ x < 0) (h1 : x.toInt < n) : vp_in x n := by
  rw [vp_in_iff]
  refine ⟨?_, h1⟩
  rw [Int32.lt_iff_toInt_lt] at h0
  simpa using h0
theorem ast_fn {σ : Mem} {K i x : Nat} {v : Int32} : upd (fun j => σ K i j) x v = fun j => up σ K i x v K i j := by
  funext j
  by_cases h : j = x <;> simp [upd, up, h]
def rmL (n : Nat) : Room := { frames := n, cells := 0, slots := 0, locals := 32 * n }
def rmT (n : Nat) : Room := { frames := 6 + n, cells := 1, slots := 6, locals := 100 + 32 * n }
theorem xu_0 : ∀ A S, (Jvm.Cond.and given_1 narrow_1).before A S = true → (Cond.isRef (.static Bundle.tN "UNASSIGNED_STACK" Bundle.steD)).before A S = true ∧ (Cond.isRef (.static Bundle.tN "SUPPRESSED_SENTINEL" Bundle.listD)).before A S = true :=
  fun A S h => ⟨flat_of_before _ h _ (by decide +kernel), flat_of_before _ h _ (by decide +kernel)⟩
theorem xz_a : Cond.laysStatic Bundle.tN "UNASSIGNED_STACK" Bundle.steD ∈ lw_tbl := List.mem_append_right _ (List.mem_of_getElem? (i := 222) (by decide +kernel))
theorem xz_b : Cond.laysStatic Bundle.tN "SUPPRESSED_SENTINEL" Bundle.listD ∈ lw_tbl := List.mem_append_right _ (List.mem_of_getElem? (i := 224) (by decide +kernel))
theorem xz : Cond.laysStatic Bundle.tN "UNASSIGNED_STACK" Bundle.steD ∈ lw_tbl ∧ Cond.laysStatic Bundle.tN "SUPPRESSED_SENTINEL" Bundle.listD ∈ lw_tbl ∧ Cond.initialized Bundle.tN ∈ lw_tbl := ⟨xz_a, xz_b, k_in_Throwable⟩
theorem xs_230 : ∀ A S, (Jvm.Cond.and given_1 narrow_1).before A S = true → (Cond.exactly (.string R_Sy 230) "java/lang/String").before A S = true := fun A S h => flat_of_before _ h _ (by decide +kernel)
theorem xs_59 : ∀ A S, (Jvm.Cond.and given_1 narrow_1).before A S = true → (Cond.exactly (.string R_Sy 59) "java/lang/String").before A S = true := fun A S h => flat_of_before _ h _ (by decide +kernel)
theorem xs_142 : ∀ A S, (Jvm.Cond.and given_1 narrow_1).before A S = true → (Cond.exactly (.string R_Sy 142) "java/lang/String").before A S = true := fun A S h => flat_of_before _ h _ (by decide +kernel)
theorem xs_273 : ∀ A S, (Jvm.Cond.and given_1 narrow_1).before A S = true → (Cond.exactly (.string R_Sy 273) "java/lang/String").before A S = true := fun A S h => flat_of_before _ h _ (by decide +kernel)
theorem xs_74 : ∀ A S, (Jvm.Cond.and given_1 narrow_1).before A S = true → (Cond.exactly (.string R_Sy 74) "java/lang/String").before A S = true := fun A S h => flat_of_before _ h _ (by decide +kernel)
theorem xs_84 : ∀ A S, (Jvm.Cond.and given_1 narrow_1).before A S = true → (Cond.exactly (.string R_Sy 84) "java/lang/String").before A S = true := fun A S h => flat_of_before _ h _ (by decide +kernel)
theorem xs_232 : ∀ A S, (Jvm.Cond.and given_1 narrow_1).before A S = true → (Cond.exactly (.string R_Sy 232) "java/lang/String").before A S = true := fun A S h => flat_of_before _ h _ (by decide +kernel)
theorem xs_111 : ∀ A S, (Jvm.Cond.and given_1 narrow_1).before A S = true → (Cond.exactly (.string R_Sy 111) "java/lang/String").before A S = true := fun A S h => flat_of_before _ h _ (by decide +kernel)
theorem xs_234 : ∀ A S, (Jvm.Cond.and given_1 narrow_1).before A S = true → (Cond.exactly (.string R_Sy 234) "java/lang/String").before A S = true := fun A S h => flat_of_before _ h _ (by decide +kernel)
theorem xs_236 : ∀ A S, (Jvm.Cond.and given_1 narrow_1).before A S = true → (Cond.exactly (.string R_Sy 236) "java/lang/String").before A S = true := fun A S h => flat_of_before _ h _ (by decide +kernel)
theorem xs_131 : ∀ A S, (Jvm.Cond.and given_1 narrow_1).before A S = true → (Cond.exactly (.string R_Sy 131) "java/lang/String").before A S = true := fun A S h => flat_of_before _ h _ (by decide +kernel)
theorem xs_137 : ∀ A S, (Jvm.Cond.and given_1 narrow_1).before A S = true → (Cond.exactly (.string R_Sy 137) "java/lang/String").before A S = true := fun A S h => flat_of_before _ h _ (by decide +kernel)
theorem xs_238 : ∀ A S, (Jvm.Cond.and given_1 narrow_1).before A S = true → (Cond.exactly (.string R_Sy 238) "java/lang/String").before A S = true := fun A S h => flat_of_before _ h _ (by decide +kernel)
theorem xs_240 : ∀ A S, (Jvm.Cond.and given_1 narrow_1).before A S = true → (Cond.exactly (.string R_Sy 240) "java/lang/String").before A S = true := fun A S h => flat_of_before _ h _ (by decide +kernel)
theorem xs_250 : ∀ A S, (Jvm.Cond.and given_1 narrow_1).before A S = true → (Cond.exactly (.string R_Sy 250) "java/lang/String").before A S = true := fun A S h => flat_of_before _ h _ (by decide +kernel)
theorem xs_259 : ∀ A S, (Jvm.Cond.and given_1 narrow_1).before A S = true → (Cond.exactly (.string R_Sy 259) "java/lang/String").before A S = true := fun A S h => flat_of_before _ h _ (by decide +kernel)
theorem xs_176 : ∀ A S, (Jvm.Cond.and given_1 narrow_1).before A S = true → (Cond.exactly (.string R_Sy 176) "java/lang/String").before A S = true := fun A S h => flat_of_before _ h _ (by decide +kernel)
theorem xs_183 : ∀ A S, (Jvm.Cond.and given_1 narrow_1).before A S = true → (Cond.exactly (.string R_Sy 183) "java/lang/String").before A S = true := fun A S h => flat_of_before _ h _ (by decide +kernel)
theorem xs_195 : ∀ A S, (Jvm.Cond.and given_1 narrow_1).before A S = true → (Cond.exactly (.string R_Sy 195) "java/lang/String").before A S = true := fun A S h => flat_of_before _ h _ (by decide +kernel)
theorem xs_209 : ∀ A S, (Jvm.Cond.and given_1 narrow_1).before A S = true → (Cond.exactly (.string R_Sy 209) "java/lang/String").before A S = true := fun A S h => flat_of_before _ h _ (by decide +kernel)
theorem xa_1 : ∀ w ∈ vx_atS R_Sy 76 "java/lang/IllegalArgumentException" ["java/lang/RuntimeException", "java/lang/Exception"], w ∈ lw_tbl := by decide +kernel
theorem xb_1 : (vx_atS R_Sy 76 "java/lang/IllegalArgumentException" ["java/lang/RuntimeException", "java/lang/Exception"]).all (fun w => goodWord w || (match w with | .castable _ _ => true | .declares _ => true | _ => false)) = true := by decide +kernel
theorem xc_1 : (vx_atS R_Sy 76 "java/lang/IllegalArgumentException" ["java/lang/RuntimeException", "java/lang/Exception"]).all vx_ot = true := by decide +kernel
theorem tP_1 {S0 : State} {A0 : Array Value} {D : va_G} {ar : Nat → ClassId} {base : Nat} {p : Program} {l : Launch} {e : Env} {R : Room} {s : State} {m : MethodId} {args : Array Value} {below : List Frame} {meth : Method} {c : Code} {cells slots : Nat} {cc : ByteArray} {nL : Nat} {ret : Option FieldType} {pc is : Nat} {ls : Array Slot} {rest : List Value} {text : String} {P : Nat → Option Int32 → Prop} (C0 : Cx S0 A0 D ar base p l s m args meth c R_Sy cc nL ret) (hsr : Cond.stringRef R_Sy is text ∈ lw_tbl) (hex : ∀ A S, (Jvm.Cond.and given_1 narrow_1).before A S = true → (Cond.exactly (.string R_Sy is) "java/lang/String").before A S = true) (hsize : ls.size = nL)
    (d0 : decode cc pc = .ok (.new 72, 3)) (d3 : decode cc (pc + 3) = .ok (.dup, 1)) (d4 : decode cc (pc + 4) = .ok (.ldc is, 2)) (d6 : decode cc (pc + 6) = .ok (.invokespecial 76, 3)) (d9 : decode cc (pc + 9) = .ok (.athrow, 1)) (hRf : 5 < R.frames) (hRl : (rest.map fun v => v.category).sum + 82 ≤ R.locals) (hc : cells + 1 ≤ R.cells ∧ slots + 6 ≤ R.slots) (hp : P 1 none) :
    W p l e R s m args below meth c s.heap [] cells slots (MQX below (QP P) args s R.cells R.slots (fun _ => False)) (F0 m pc ls rest) :=
  tn_any C0 va_S.rf (by decide +kernel) k_cl_Sy_72 k_in_IllegalArgumentException hsr hex xa_1 xb_1 xc_1 xu_0 xz hsize d0 d3 d4 d6 d9 hRf hRl hc (fun z hz => by cases hz) (fun t x _ _ hx => ⟨1, none, hp, ⟨x, rfl, hx⟩, fun h => absurd h (by decide)⟩)
theorem tI_1 {S0 : State} {A0 : Array Value} {D : va_G} {ar : Nat → ClassId} {base : Nat} {σ : Mem} {p : Program} {l : Launch} {e : Env} {R : Room} {s : State} {m : MethodId} {args : Array Value} {below : List Frame} {meth : Method} {c : Code} {H : Heap} {locs : List Loc} {cells slots : Nat} {cc : ByteArray} {nL : Nat} {ret : Option FieldType} {pc is : Nat} {ls : Array Slot} {rest : List Value} {text : String} {P : Nat → Option Int32 → Mem → Prop} (C0 : Cx S0 A0 D ar base p l s m args meth c R_Sy cc nL ret) (hP : va_P D classes (wl base 122 (mem ar base σ)) H) (hS : va_S (inB base 122) s.heap H locs) (hsr : Cond.stringRef R_Sy is text ∈ lw_tbl) (hex : ∀ A S, (Jvm.Cond.and given_1 narrow_1).before A S = true → (Cond.exactly (.string R_Sy is) "java/lang/String").before A S = true) (hsize : ls.size = nL)
    (d0 : decode cc pc = .ok (.new 72, 3)) (d3 : decode cc (pc + 3) = .ok (.dup, 1)) (d4 : decode cc (pc + 4) = .ok (.ldc is, 2)) (d6 : decode cc (pc + 6) = .ok (.invokespecial 76, 3)) (d9 : decode cc (pc + 9) = .ok (.athrow, 1)) (hRf : 5 < R.frames) (hRl : (rest.map fun v => v.category).sum + 82 ≤ R.locals) (hc : cells + 1 ≤ R.cells ∧ slots + 6 ≤ R.slots) (hp : P 1 none σ) :
    W p l e R s m args below meth c H locs cells slots (MQX below (QI D ar base P) args s R.cells R.slots (inB base 122)) (F0 m pc ls rest) :=
  tn_any C0 hS (by decide +kernel) k_cl_Sy_72 k_in_IllegalArgumentException hsr hex xa_1 xb_1 xc_1 xu_0 xz hsize d0 d3 d4 d6 d9 hRf hRl hc hS.2.2 (fun t x _ hkp hx => ⟨1, none, σ, hp, ⟨x, rfl, hx⟩, wl_kept hP (fun q _ h4 => hkp.2 q (by have := wl_lt hP (k := q - base) (by omega); omega) id)⟩)
theorem xa_2 : ∀ w ∈ vx_atS R_Sy 185 "java/lang/IllegalStateException" ["java/lang/RuntimeException", "java/lang/Exception"], w ∈ lw_tbl := by decide +kernel
theorem xb_2 : (vx_atS R_Sy 185 "java/lang/IllegalStateException" ["java/lang/RuntimeException", "java/lang/Exception"]).all (fun w => goodWord w || (match w with | .castable _ _ => true | .declares _ => true | _ => false)) = true := by decide +kernel
theorem xc_2 : (vx_atS R_Sy 185 "java/lang/IllegalStateException" ["java/lang/RuntimeException", "java/lang/Exception"]).all vx_ot = true := by decide +kernel
theorem tP_2 {S0 : State} {A0 : Array Value} {D : va_G} {ar : Nat → ClassId} {base : Nat} {p : Program} {l : Launch} {e : Env} {R : Room} {s : State} {m : MethodId} {args : Array Value} {below : List Frame} {meth : Method} {c : Code} {cells slots : Nat} {cc : ByteArray} {nL : Nat} {ret : Option FieldType} {pc is : Nat} {ls : Array Slot} {rest : List Value} {text : String} {P : Nat → Option Int32 → Prop} (C0 : Cx S0 A0 D ar base p l s m args meth c R_Sy cc nL ret) (hsr : Cond.stringRef R_Sy is text ∈ lw_tbl) (hex : ∀ A S, (Jvm.Cond.and given_1 narrow_1).before A S = true → (Cond.exactly (.string R_Sy is) "java/lang/String").before A S = true) (hsize : ls.size = nL)
    (d0 : decode cc pc = .ok (.new 181, 3)) (d3 : decode cc (pc + 3) = .ok (.dup, 1)) (d4 : decode cc (pc + 4) = .ok (.ldc is, 2)) (d6 : decode cc (pc + 6) = .ok (.invokespecial 185, 3)) (d9 : decode cc (pc + 9) = .ok (.athrow, 1)) (hRf : 5 < R.frames) (hRl : (rest.map fun v => v.category).sum + 82 ≤ R.locals) (hc : cells + 1 ≤ R.cells ∧ slots + 6 ≤ R.slots) (hp : P 2 none) :
    W p l e R s m args below meth c s.heap [] cells slots (MQX below (QP P) args s R.cells R.slots (fun _ => False)) (F0 m pc ls rest) :=
  tn_any C0 va_S.rf (by decide +kernel) k_cl_Sy_181 k_in_IllegalStateException hsr hex xa_2 xb_2 xc_2 xu_0 xz hsize d0 d3 d4 d6 d9 hRf hRl hc (fun z hz => by cases hz) (fun t x _ _ hx => ⟨2, none, hp, ⟨x, rfl, hx⟩, fun h => absurd h (by decide)⟩)
theorem tI_2 {S0 : State} {A0 : Array Value} {D : va_G} {ar : Nat → ClassId} {base : Nat} {σ : Mem} {p : Program} {l : Launch} {e : Env} {R : Room} {s : State} {m : MethodId} {args : Array Value} {below : List Frame} {meth : Method} {c : Code} {H : Heap} {locs : List Loc} {cells slots : Nat} {cc : ByteArray} {nL : Nat} {ret : Option FieldType} {pc is : Nat} {ls : Array Slot} {rest : List Value} {text : String} {P : Nat → Option Int32 → Mem → Prop} (C0 : Cx S0 A0 D ar base p l s m args meth c R_Sy cc nL ret) (hP : va_P D classes (wl base 122 (mem ar base σ)) H) (hS : va_S (inB base 122) s.heap H locs) (hsr : Cond.stringRef R_Sy is text ∈ lw_tbl) (hex : ∀ A S, (Jvm.Cond.and given_1 narrow_1).before A S = true → (Cond.exactly (.string R_Sy is) "java/lang/String").before A S = true) (hsize : ls.size = nL)
    (d0 : decode cc pc = .ok (.new 181, 3)) (d3 : decode cc (pc + 3) = .ok (.dup, 1)) (d4 : decode cc (pc + 4) = .ok (.ldc is, 2)) (d6 : decode cc (pc + 6) = .ok (.invokespecial 185, 3)) (d9 : decode cc (pc + 9) = .ok (.athrow, 1)) (hRf : 5 < R.frames) (hRl : (rest.map fun v => v.category).sum + 82 ≤ R.locals) (hc : cells + 1 ≤ R.cells ∧ slots + 6 ≤ R.slots) (hp : P 2 none σ) :
    W p l e R s m args below meth c H locs cells slots (MQX below (QI D ar base P) args s R.cells R.slots (inB base 122)) (F0 m pc ls rest) :=
  tn_any C0 hS (by decide +kernel) k_cl_Sy_181 k_in_IllegalStateException hsr hex xa_2 xb_2 xc_2 xu_0 xz hsize d0 d3 d4 d6 d9 hRf hRl hc hS.2.2 (fun t x _ hkp hx => ⟨2, none, σ, hp, ⟨x, rfl, hx⟩, wl_kept hP (fun q _ h4 => hkp.2 q (by have := wl_lt hP (k := q - base) (by omega); omega) id)⟩)
theorem xa_4 : ∀ w ∈ vx_atS R_Sy 61 "java/lang/UnsupportedOperationException" ["java/lang/RuntimeException", "java/lang/Exception"], w ∈ lw_tbl := by decide +kernel
theorem xb_4 : (vx_atS R_Sy 61 "java/lang/UnsupportedOperationException" ["java/lang/RuntimeException", "java/lang/Exception"]).all (fun w => goodWord w || (match w with | .castable _ _ => true | .declares _ => true | _ => false)) = true := by decide +kernel
theorem xc_4 : (vx_atS R_Sy 61 "java/lang/UnsupportedOperationException" ["java/lang/RuntimeException", "java/lang/Exception"]).all vx_ot = true := by decide +kernel
theorem tP_4 {S0 : State} {A0 : Array Value} {D : va_G} {ar : Nat → ClassId} {base : Nat} {p : Program} {l : Launch} {e : Env} {R : Room} {s : State} {m : MethodId} {args : Array Value} {below : List Frame} {meth : Method} {c : Code} {cells slots : Nat} {cc : ByteArray} {nL : Nat} {ret : Option FieldType} {pc is : Nat} {ls : Array Slot} {rest : List Value} {text : String} {P : Nat → Option Int32 → Prop} (C0 : Cx S0 A0 D ar base p l s m args meth c R_Sy cc nL ret) (hsr : Cond.stringRef R_Sy is text ∈ lw_tbl) (hex : ∀ A S, (Jvm.Cond.and given_1 narrow_1).before A S = true → (Cond.exactly (.string R_Sy is) "java/lang/String").before A S = true) (hsize : ls.size = nL)
    (d0 : decode cc pc = .ok (.new 57, 3)) (d3 : decode cc (pc + 3) = .ok (.dup, 1)) (d4 : decode cc (pc + 4) = .ok (.ldc is, 2)) (d6 : decode cc (pc + 6) = .ok (.invokespecial 61, 3)) (d9 : decode cc (pc + 9) = .ok (.athrow, 1)) (hRf : 5 < R.frames) (hRl : (rest.map fun v => v.category).sum + 82 ≤ R.locals) (hc : cells + 1 ≤ R.cells ∧ slots + 6 ≤ R.slots) (hp : P 4 none) :
    W p l e R s m args below meth c s.heap [] cells slots (MQX below (QP P) args s R.cells R.slots (fun _ => False)) (F0 m pc ls rest) :=
  tn_any C0 va_S.rf (by decide +kernel) k_cl_Sy_57 k_in_UnsupportedOperationException hsr hex xa_4 xb_4 xc_4 xu_0 xz hsize d0 d3 d4 d6 d9 hRf hRl hc (fun z hz => by cases hz) (fun t x _ _ hx => ⟨4, none, hp, ⟨x, rfl, hx⟩, fun h => absurd h (by decide)⟩)
theorem tI_4 {S0 : State} {A0 : Array Value} {D : va_G} {ar : Nat → ClassId} {base : Nat} {σ : Mem} {p : Program} {l : Launch} {e : Env} {R : Room} {s : State} {m : MethodId} {args : Array Value} {below : List Frame} {meth : Method} {c : Code} {H : Heap} {locs : List Loc} {cells slots : Nat} {cc : ByteArray} {nL : Nat} {ret : Option FieldType} {pc is : Nat} {ls : Array Slot} {rest : List Value} {text : String} {P : Nat → Option Int32 → Mem → Prop} (C0 : Cx S0 A0 D ar base p l s m args meth c R_Sy cc nL ret) (hP : va_P D classes (wl base 122 (mem ar base σ)) H) (hS : va_S (inB base 122) s.heap H locs) (hsr : Cond.stringRef R_Sy is text ∈ lw_tbl) (hex : ∀ A S, (Jvm.Cond.and given_1 narrow_1).before A S = true → (Cond.exactly (.string R_Sy is) "java/lang/String").before A S = true) (hsize : ls.size = nL)
    (d0 : decode cc pc = .ok (.new 57, 3)) (d3 : decode cc (pc + 3) = .ok (.dup, 1)) (d4 : decode cc (pc + 4) = .ok (.ldc is, 2)) (d6 : decode cc (pc + 6) = .ok (.invokespecial 61, 3)) (d9 : decode cc (pc + 9) = .ok (.athrow, 1)) (hRf : 5 < R.frames) (hRl : (rest.map fun v => v.category).sum + 82 ≤ R.locals) (hc : cells + 1 ≤ R.cells ∧ slots + 6 ≤ R.slots) (hp : P 4 none σ) :
    W p l e R s m args below meth c H locs cells slots (MQX below (QI D ar base P) args s R.cells R.slots (inB base 122)) (F0 m pc ls rest) :=
  tn_any C0 hS (by decide +kernel) k_cl_Sy_57 k_in_UnsupportedOperationException hsr hex xa_4 xb_4 xc_4 xu_0 xz hsize d0 d3 d4 d6 d9 hRf hRl hc hS.2.2 (fun t x _ hkp hx => ⟨4, none, σ, hp, ⟨x, rfl, hx⟩, wl_kept hP (fun q _ h4 => hkp.2 q (by have := wl_lt hP (k := q - base) (by omega); omega) id)⟩)
end
section
/-! throw new NoSuchElementException("text"): its constructor's link to RuntimeException's stands at another place of its pool (13, not 7) than the library's own law of a chain has it; the rest of the chain is the library's. -/
def nseE : String := "java/util/NoSuchElementException"
def nseR : String := "java/lang/RuntimeException"
/-- the words of that throw (those on Throwable's statics apart) -/
def nseW (own : String) (ic : Nat) (bytes : ByteArray) : List Cond :=
  Bundle.throwableAtoms ++ Bundle.throwableSAtoms ++ Bundle.passSAtoms nseE nseR 13 bytes ++ Bundle.chainSAtoms nseR ["java/lang/Exception"] ++
  [.methodLink own ic (Bundle.initS nseE), .instantiable nseE 6, .selects nseE Bundle.tFill0 Bundle.tFill0, .selects nseE Bundle.tFill Bundle.tFill,
   .lays nseE Bundle.tN "cause" "Ljava/lang/Throwable;", .lays nseE Bundle.tN "stackTrace" Bundle.steD, .lays nseE Bundle.tN "suppressedExceptions" Bundle.listD, .lays nseE Bundle.tN "detailMessage" "Ljava/lang/String;",
   .isRef (.static Bundle.tN "UNASSIGNED_STACK" Bundle.steD), .isRef (.static Bundle.tN "SUPPRESSED_SENTINEL" Bundle.listD),
   .fieldLink Bundle.tN 198 Bundle.tN "backtrace" "Ljava/lang/Object;", .lays Bundle.tN Bundle.tN "backtrace" "Ljava/lang/Object;", .lays nseE Bundle.tN "backtrace" "Ljava/lang/Object;"]
section NSE
variable {p : Program} {l : Launch} {e : Env} {R : Room} {s : State} {m₀ : MethodId} {args : Array Value} {below : List Frame} {meth : Method} {c : Code} {T0 : State} {locs : List Loc} {cells slots : Nat}
set_option maxHeartbeats 4000000 in
theorem nse_thr (X : Stand p l e R s m₀ args below meth c T0 [] cells slots) (hexec : p.tables.exec = Jvm.exec) (htr : e.platform.stackTraces = false) {own : String} {ic : Nat} {bytes : ByteArray}
    (hown : s.vm.findClass own = some m₀.cls) (b0 : decode bytes 0 = .ok (.aload_n 0, 1)) (b1 : decode bytes 1 = .ok (.aload_n 1, 1)) (b2 : decode bytes 2 = .ok (.invokespecial 13, 3)) (b5 : decode bytes 5 = .ok (.return_, 1))
    (h : ∀ a ∈ nseW own ic bytes, a.before args s = true)
    {a : Addr} {cX : ClassId} {kX : Class} (hfoundX : s.vm.findClass nseE = some cX) (hkX : s.vm.classes[cX]? = some kX) (hcell : T0.heap[a]? = some (freshCell cX kX)) (hnew : s.heap.size ≤ a)
    {msg : Value} (hmsg : msg.isRef = true)
    {g : JFrame} (hg : g.method = m₀) (hsize : g.locals.size = c.maxLocals) (hlocked : g.locked = none) (hentered : g.entered = []) {rest : List Value} (hstack : g.stack = msg :: .ref a :: .ref a :: rest)
    (hd6 : decode c.code g.pc = .ok (.invokespecial ic, 3)) (hd9 : decode c.code (g.pc + 3) = .ok (.athrow, 1)) (hout : ∀ x ∈ c.exceptionTable.toList, covers x (g.pc + 3) = false)
    (hRframes : 5 < R.frames) (hRlocals : 2 * g.monitorRoom + ((Value.ref a :: rest).map fun v => v.category).sum + 81 ≤ R.locals) (hlocks : meth.locks = false) :
    ∃ U : State, Steps p.tables e below (T0.setTop g) U ∧ U.status = .running ∧ Ended U below (.threw a) ∧ s.WarmedH U.vm ∧ s.sameButNew ({ U with vm := s.vm } : State) [] cells slots ∧
      ∃ ce, U.heap[a]? = some ce ∧ ce.vm = .none ∧ s.vm.findClass nseE = some ce.cls := by
  have howns : e.platform.frameOwnsMonitors = true := by rw [X.admits.platform]
  have hfin : e.platform.finalization = false := by rw [X.admits.platform]
  have hpl : e.platform.magicAccessors = ({} : Platform).magicAccessors := by rw [X.admits.platform]
  have a' : ∀ x, x ∈ nseW own ic bytes → x.holds args s none s [] = true := fun x hx => h x hx
  obtain ⟨T, Z0, L, -, Y⟩ := ThrowableC.of_atoms (args := args) howns hfin hpl (fun x hx => h x (by simp [nseW, hx]))
  obtain ⟨Z, M, LZ, LM, hnZ⟩ := Init0T.ofS_atoms (args := args) hpl L Y (fun x hx => h x (by simp [nseW, hx]))
  obtain ⟨P2, Ps, hlen, L2, hL, hP2m, hlink2, hlink⟩ := Bundle.chainS (args := args) hpl hnZ ["java/lang/Exception"] nseR (by decide +kernel) (by decide +kernel) (fun x hx => h x (by simp [nseW, hx]))
  obtain ⟨P1, L1, hP1m, hP1s⟩ := PassC.ofS_atoms (args := args) (X := nseE) (Y := nseR) (index := 13) (bytes := bytes) hpl (by decide +kernel) (by decide +kernel) b0 b1 b2 b5 (fun x hx => h x (by simp [nseW, hx]))
  have hsup : P1.sup = P2.m := Option.some.inj (hP1s.symm.trans hP2m)
  have hfound : s.vm.findClass nseE = some P1.m.cls := findClass_of_methodNamed hP1m
  cases Option.some.inj (hfoundX.symm.trans hfound)
  obtain ⟨c1, kX', hc1, hk, hord, -, -, hn6⟩ := Cond.instantiable_spec (a' (.instantiable nseE 6) (by simp [nseW]))
  cases Option.some.inj (hc1.symm.trans hfound)
  cases Option.some.inj (hkX.symm.trans hk)
  have hsel0 : selectMethod e.platform s.vm P1.m.cls T.fill0 = .method T.fill0 := by
    obtain ⟨c2, r2, m2, q1, q2, q3, q4, -⟩ := Cond.selects_spec (a' (.selects nseE Bundle.tFill0 Bundle.tFill0) (by simp [nseW]))
    cases Option.some.inj (q1.symm.trans hfound)
    cases Option.some.inj (q2.symm.trans (State.methodFound?_of_named Y.fill0 (by decide)))
    cases Option.some.inj (q3.symm.trans Y.fill0)
    rw [Launch.admits_selectMethod X.admits]; exact q4
  have hselF : selectMethod e.platform s.vm P1.m.cls T.fill = .method T.fill := by
    obtain ⟨c2, r2, m2, q1, q2, q3, q4, -⟩ := Cond.selects_spec (a' (.selects nseE Bundle.tFill Bundle.tFill) (by simp [nseW]))
    cases Option.some.inj (q1.symm.trans hfound)
    cases Option.some.inj (q2.symm.trans (State.methodFound?_of_named Y.fill (by decide)))
    cases Option.some.inj (q3.symm.trans Y.fill)
    rw [Launch.admits_selectMethod X.admits]; exact q4
  obtain ⟨cellS0, hcS0, hiss⟩ := Y.statics
  obtain ⟨u0, hu0⟩ := Cond.staticRefV Y.unassigned L.unassignedStatic L.statics hcS0 hiss (a' (.isRef (.static Bundle.tN "UNASSIGNED_STACK" Bundle.steD)) (by simp [nseW]))
  obtain ⟨sen, hsen⟩ := Cond.staticRefV Y.sentinel L.sentinelStatic L.statics hcS0 hiss (a' (.isRef (.static Bundle.tN "SUPPRESSED_SENTINEL" Bundle.listD)) (by simp [nseW]))
  obtain ⟨ci198, i198, fB, hk198, hg198, ha198, hsB, -, hnB, htB, hffB⟩ := Cond.ownField (t := .object "java/lang/Object") Y.found L.cls (by decide +kernel) (a' (.fieldLink Bundle.tN 198 Bundle.tN "backtrace" "Ljava/lang/Object;") (by simp [nseW])) (a' (.lays Bundle.tN Bundle.tN "backtrace" "Ljava/lang/Object;") (by simp [nseW])) e.platform hpl
  have hcellS : T0.heap[T.aS]? = some cellS0 := X.same.old_cell hcS0
  have hknownS : cellS0.vm ≠ .unknown := by
    intro hu
    rw [hu] at hiss
    cases hiss
  have hneS : T.aS ≠ a := Nat.ne_of_lt (Nat.lt_of_lt_of_le (Array.getElem?_eq_some_iff.mp hcS0).1 hnew)
  obtain ⟨iM, hffM⟩ := Y.msg
  obtain ⟨tyC, dC, hdC, hdnC⟩ := Cond.laysAt hfound hk Y.cause (a' (.lays nseE Bundle.tN "cause" "Ljava/lang/Throwable;") (by simp [nseW]))
  obtain ⟨tyS, dS, hdS, hdnS⟩ := Cond.laysAt hfound hk Y.stack (a' (.lays nseE Bundle.tN "stackTrace" Bundle.steD) (by simp [nseW]))
  obtain ⟨tyP, dP, hdP, hdnP⟩ := Cond.laysAt hfound hk Y.supp (a' (.lays nseE Bundle.tN "suppressedExceptions" Bundle.listD) (by simp [nseW]))
  obtain ⟨tyM, dM, hdM, hdnM⟩ := Cond.laysAt hfound hk hffM (a' (.lays nseE Bundle.tN "detailMessage" "Ljava/lang/String;") (by simp [nseW]))
  obtain ⟨tyB, dB, hdB, hdnB⟩ := Cond.laysAt hfound hk hffB (a' (.lays nseE Bundle.tN "backtrace" "Ljava/lang/Object;") (by simp [nseW]))
  have bC := Cond.laysApart hdB hdC hdnB hdnC (by rw [hnB, Y.causeName]; decide)
  have bS := Cond.laysApart hdB hdS hdnB hdnS (by rw [hnB, Y.stackName]; decide)
  have bP := Cond.laysApart hdB hdP hdnB hdnP (by rw [hnB, Y.suppName]; decide)
  have hskip : SkipFacts T e.platform s (fun u => u) u0 ((preparedCellV T.toThrowableT (freshCell P1.m.cls kX) a u0 sen).withEntry T0.cur) :=
    ⟨{ ci198 := ci198, i198 := i198, fBack := fB }, ⟨hk198, hg198, ha198, hsB⟩, by
      have := fresh_default (c := P1.m.cls) tyB
      rw [htB] at this
      simpa [preparedCellV, Cell.setSlot, Cell.withEntry, Array.getElem?_setIfInBounds, bC, bS, bP, bC.symm, bS.symm, bP.symm, defaultValue] using this, fun _ _ => rfl⟩
  obtain ⟨tm, methC, cdC, kC, vm₁, hnC, -, -, -, -, -, -, -, hW₁, st1⟩ := Steps.initColdS (tb := p.tables) (e := e) (below := below) (s := s) (U := T0) X.here hexec X.warmed hpl hown (t := Bundle.initS nseE) rfl rfl (by decide +kernel)
    (a' (.methodLink own ic (Bundle.initS nseE)) (by simp [nseW])) (h (.instanceMethod (Bundle.initS nseE)) (by simp [nseW, Bundle.passSAtoms])) (bytes := bytes) (maxL := 2) (h (.code (Bundle.initS nseE) bytes 2 none) (by simp [nseW, Bundle.passSAtoms]))
    (f := g) hg (a := a) (msg := msg) (rest := .ref a :: rest) hstack hd6
  cases Option.some.inj (hnC.symm.trans hP1m)
  have X₁ := X.noted hW₁
  obtain ⟨vm₂, X₂, st2⟩ := X₁.ctorMessageOffV hexec (g := { g with stack := .ref a :: rest }) hg hsize T L Z LZ M LM (P1 :: P2 :: Ps)
    (fun P hP => by
      rcases List.mem_cons.mp hP with rfl | hP
      · exact L1
      · rcases List.mem_cons.mp hP with rfl | hP
        · exact L2
        · exact hL P hP) ⟨hsup, hlink2, hlink⟩ (u0 := u0) (sen := sen) (self := a) hmsg (cell := freshCell P1.m.cls kX) (cellS := cellS0)
    hcell (fun _ => by simp) (by simp) rfl rfl hsel0 hselF hcellS hneS hknownS hu0 hsen
    (Takes.of_laid hk hord tyC (by rw [Y.causeType]; rfl)) (Takes.of_laid hk hord tyS (by rw [Y.stackType]; exact fits_refV_array _ u0)) (Takes.of_laid hk hord tyP (by rw [Y.suppType]; exact fits_refV_object _ sen))
    (Takes.of_laid hk hord tyM (by rw [Y.msgType]; exact fits_refV_object _ ⟨msg, hmsg⟩)) Y.objLocals hskip htr [] hd6
    (by simp only [List.length_cons, hlen, List.length_nil]; omega) (by simp only [List.length_cons, hlen, List.length_nil]; exact hRlocals)
  obtain ⟨hwalk, hrun, hended, hWU, hsame⟩ := X₂.athrowLeaves hexec (g := { g with stack := .ref a :: rest, pc := g.pc + 3 }) hg hlocked hentered hout (a := a) (rest := rest) rfl hd9 hlocks
  have hlt : a < ((T0.setVm vm₁).setVm vm₂).heap.size := (Array.getElem?_eq_some_iff.mp hcell).1
  have hU := heapAt_setCell_self (s := (T0.setVm vm₁).setVm vm₂) (plainBareV T.toThrowableT (freshCell P1.m.cls kX) a u0 sen msg) hlt
  refine ⟨_, st1 _ (fun acts => ?_), hrun, hended, hWU, hsame.weaken (fun y hy hlt' => ?_) (Nat.le_refl _) (Nat.le_refl _), _, hU, rfl, hfound⟩
  · rw [doInvoke_state]
    exact st2 _ hwalk
  · exfalso
    have hb : y.base = a := by
      rw [List.nil_append] at hy
      simp only [List.mem_cons, List.not_mem_nil, or_false] at hy
      rcases hy with rfl | rfl | rfl | rfl | rfl <;> rfl
    rw [hb] at hlt'
    exact Nat.not_lt.mpr hnew hlt'
end NSE
section NSW
variable {S0 : State} {A0 : Array Value} {D : va_G} {ar : Nat → ClassId} {base : Nat} {σ : Mem}
variable {p : Program} {l : Launch} {e : Env} {R : Room} {s : State} {m : MethodId} {args : Array Value} {below : List Frame} {meth : Method} {c : Code} {H : Heap} {locs : List Loc} {cells slots : Nat}
variable {own : String} {cc : ByteArray} {nL : Nat} {ret : Option FieldType} {pc : Nat} {ls : Array Slot} {rest : List Value}
set_option maxHeartbeats 4000000 in
theorem tn_nse {Qc : Array Value → State → Outcome → State → Prop} {free : Addr → Prop} {text : String} {ik is ic : Nat} {bytes : ByteArray} (C0 : Cx S0 A0 D ar base p l s m args meth c own cc nL ret) (hS : va_S (inB base 122) s.heap H locs)
    (hk : Cond.classLink own ik nseE ∈ lw_tbl) (hini : Cond.initialized nseE ∈ lw_tbl) (hsr : Cond.stringRef own is text ∈ lw_tbl) (hex : ∀ A S, (Jvm.Cond.and given_1 narrow_1).before A S = true → (Cond.exactly (.string own is) "java/lang/String").before A S = true)
    (b0 : decode bytes 0 = .ok (.aload_n 0, 1)) (b1 : decode bytes 1 = .ok (.aload_n 1, 1)) (b2 : decode bytes 2 = .ok (.invokespecial 13, 3)) (b5 : decode bytes 5 = .ok (.return_, 1))
    (hat : ∀ w ∈ (nseW own ic bytes).filter vx_no, w ∈ lw_tbl) (hag : ((nseW own ic bytes).filter vx_no).all (fun w => goodWord w || (match w with | .castable _ _ => true | .declares _ => true | _ => false)) = true)
    (hu : ∀ A S, (Jvm.Cond.and given_1 narrow_1).before A S = true → (Cond.isRef (.static Bundle.tN "UNASSIGNED_STACK" Bundle.steD)).before A S = true ∧ (Cond.isRef (.static Bundle.tN "SUPPRESSED_SENTINEL" Bundle.listD)).before A S = true)
    (hz : Cond.laysStatic Bundle.tN "UNASSIGNED_STACK" Bundle.steD ∈ lw_tbl ∧ Cond.laysStatic Bundle.tN "SUPPRESSED_SENTINEL" Bundle.listD ∈ lw_tbl ∧ Cond.initialized Bundle.tN ∈ lw_tbl) (hsize : ls.size = nL)
    (d0 : decode cc pc = .ok (.new ik, 3)) (d3 : decode cc (pc + 3) = .ok (.dup, 1)) (d4 : decode cc (pc + 4) = .ok (.ldc is, 2)) (d6 : decode cc (pc + 6) = .ok (.invokespecial ic, 3)) (d9 : decode cc (pc + 9) = .ok (.athrow, 1))
    (hRf : 5 < R.frames) (hRl : (rest.map fun v => v.category).sum + 82 ≤ R.locals) (hc : cells + 1 ≤ R.cells ∧ slots + 6 ≤ R.slots) (hf : ∀ z ∈ locs, free z.base)
    (hq : ∀ (t : State) (x : Addr), s.WarmedH t.vm → x_Keep (fun _ => False) H t.heap → x_is nseE x t → Qc args s (.threw x) t) :
    W p l e R s m args below meth c H locs cells slots (MQX below Qc args s R.cells R.slots free) (F0 m pc ls rest) := by
  obtain ⟨hx, hb, -, hml, hown, hlk, hno, hl, h0, hbase⟩ := C0
  intro T hT X
  have htr : e.platform.stackTraces = false := (show e.platform.stackTraces = l.stackTraces by rw [X.admits.platform]).trans hl
  have Y := vx_rebase X (R' := { frames := R.frames, locals := R.locals, cells := 1, slots := 6 }) (Nat.le_refl _) (Nat.le_refl _) hc.1 hc.2
  obtain ⟨s', hA⟩ : ∃ z, z = (T.setVm s.vm).setFrames (.invoking m args :: below) := ⟨_, rfl⟩
  rw [← hA] at Y
  have hvm : s'.vm = s.vm := by rw [hA]; rfl
  have hhp : s'.heap = H := by rw [hA]; exact hT
  have hW0 : s.WarmedH s'.vm := by rw [hvm]; exact State.WarmedH.refl s
  have h1 : At0 S0 A0 D ar s' := h0.warm hW0 (locs := locs) (by rw [hhp]; exact hS) (inB_old hbase)
  have hown' : s'.vm.findClass own = some m.cls := by rw [hvm]; exact hown
  obtain ⟨sa, hsa⟩ := h1.str hsr (hex _ _ h1.1.2.2)
  have hU := h1.zq (A := fun q => S0.heap.size ≤ q) hz.1 hz.2.2 (hu _ _ h1.1.2.2).1 (fun q h => h)
  have hN := h1.zq (A := fun q => S0.heap.size ≤ q) hz.2.1 hz.2.2 (hu _ _ h1.1.2.2).2 (fun q h => h)
  have hW : ∀ w ∈ nseW own ic bytes, w.before args s' = true := vx_own (h1.thr hat hag) (vx_isRefq hU.1) (vx_isRefq hN.1) hU.2.word hN.2.word
  have hins : (Cond.instantiable nseE 6).before args s' = true := hW _ (by simp [nseW])
  obtain ⟨cX, kX, hfX, hkX, -⟩ := Cond.instantiable_spec hins
  have key : W p l e { frames := R.frames, locals := R.locals, cells := 1, slots := 6 } s' m args below meth c s'.heap [] 0 0 (fun t => t.status = .running ∧ ∃ a, Ended t below (.threw a) ∧ s'.WarmedH t.vm ∧ s'.sameButNew ({ t with vm := s'.vm } : State) [] 1 6 ∧ ∃ ce, t.heap[a]? = some ce ∧ ce.vm = .none ∧ s'.vm.findClass nseE = some ce.cls) (F0 m pc ls rest) := by
    refine W.newcK hx hb hown' (h1.word hk rfl) hins (h1.word hini rfl) rfl d0 (Nat.le_refl _) (Nat.le_refl _) hfX rfl fun H1 kC hkC e1 z1 o1 => ?_
    refine lv_dup hx hb d3 rfl ?_
    refine va_ldcS hx hb hown' hsa d4 ?_
    intro T1 hT1 X1
    obtain ⟨U, g1, g2, g3, g4, g5, ce, g6, g7, g8⟩ := nse_thr X1 hx htr hown' b0 b1 b2 b5 hW hfX hkC (by rw [hT1]; exact e1) (Nat.le_refl _) (msg := .ref sa) rfl (g := F0 m (pc + 6) ls (.ref sa :: .ref s'.heap.size :: .ref s'.heap.size :: rest)) rfl (hsize.trans hml.symm) rfl rfl (rest := rest) rfl (by rw [hb]; exact d6) (by rw [hb]; exact d9) (x_empty hno _) hRf (by
      show 2 * 0 + (1 + (rest.map fun v => v.category).sum) + 81 ≤ R.locals
      omega) hlk
    exact ⟨U, g1, g2, _, g3, g4, g5, ce, g6, g7, g8⟩
  obtain ⟨U, g1, g2, a, g3, g4, g5, ce, g6, g7, g8⟩ := key T (by rw [hhp]; exact hT) Y
  have hWs : s.WarmedH U.vm := State.WarmedH.trans hW0 g4
  obtain ⟨f1, f2⟩ := vx_frame g5
  rw [hhp] at f1 f2
  have hall : s.sameButNew ({ U with vm := s.vm } : State) locs R.cells R.slots := by
    subst hA
    obtain ⟨e1, e2⟩ := g5
    rw [State.setFrames_setFrames] at e1
    have h2 : (T.setVm s.vm).sameButNew ({ U with vm := s.vm } : State) [] 1 6 := ⟨e1, e2⟩
    have h3 := X.same.trans h2
    rw [List.append_nil] at h3
    exact h3.mono hc.1 hc.2
  exact ⟨U, g1, .threw a, g2, g3, hq U a hWs ⟨f1, fun q hq _ => f2 q hq (fun z hz => nomatch hz)⟩ ⟨ce, g6, g7, by rw [hWs.alike.findClass, ← hvm]; exact g8⟩, locs, ⟨hWs, hall⟩, hf⟩
end NSW
end
section
theorem xn_0 : decode b_NoSuchElementException_init_S 0 = .ok (.aload_n 0, 1) := by decide +kernel
theorem xn_1 : decode b_NoSuchElementException_init_S 1 = .ok (.aload_n 1, 1) := by decide +kernel
theorem xn_2 : decode b_NoSuchElementException_init_S 2 = .ok (.invokespecial 13, 3) := by decide +kernel
theorem xn_5 : decode b_NoSuchElementException_init_S 5 = .ok (.return_, 1) := by decide +kernel
theorem xa_3 : ∀ w ∈ (nseW R_Sy 133 b_NoSuchElementException_init_S).filter vx_no, w ∈ lw_tbl := by decide +kernel
theorem xb_3 : ((nseW R_Sy 133 b_NoSuchElementException_init_S).filter vx_no).all (fun w => goodWord w || (match w with | .castable _ _ => true | .declares _ => true | _ => false)) = true := by decide +kernel
theorem tP_3 {S0 : State} {A0 : Array Value} {D : va_G} {ar : Nat → ClassId} {base : Nat} {p : Program} {l : Launch} {e : Env} {R : Room} {s : State} {m : MethodId} {args : Array Value} {below : List Frame} {meth : Method} {c : Code} {cells slots : Nat} {cc : ByteArray} {nL : Nat} {ret : Option FieldType} {pc is : Nat} {ls : Array Slot} {rest : List Value} {text : String} {P : Nat → Option Int32 → Prop} (C0 : Cx S0 A0 D ar base p l s m args meth c R_Sy cc nL ret) (hsr : Cond.stringRef R_Sy is text ∈ lw_tbl) (hex : ∀ A S, (Jvm.Cond.and given_1 narrow_1).before A S = true → (Cond.exactly (.string R_Sy is) "java/lang/String").before A S = true) (hsize : ls.size = nL)
    (d0 : decode cc pc = .ok (.new 129, 3)) (d3 : decode cc (pc + 3) = .ok (.dup, 1)) (d4 : decode cc (pc + 4) = .ok (.ldc is, 2)) (d6 : decode cc (pc + 6) = .ok (.invokespecial 133, 3)) (d9 : decode cc (pc + 9) = .ok (.athrow, 1)) (hRf : 5 < R.frames) (hRl : (rest.map fun v => v.category).sum + 82 ≤ R.locals) (hc : cells + 1 ≤ R.cells ∧ slots + 6 ≤ R.slots) (hp : P 3 none) :
    W p l e R s m args below meth c s.heap [] cells slots (MQX below (QP P) args s R.cells R.slots (fun _ => False)) (F0 m pc ls rest) :=
  tn_nse C0 va_S.rf k_cl_Sy_129 k_in_NoSuchElementException hsr hex xn_0 xn_1 xn_2 xn_5 xa_3 xb_3 xu_0 xz hsize d0 d3 d4 d6 d9 hRf hRl hc (fun z hz => by cases hz) (fun t x _ _ hx => ⟨3, none, hp, ⟨x, rfl, hx⟩, fun h => absurd h (by decide)⟩)
theorem tI_3 {S0 : State} {A0 : Array Value} {D : va_G} {ar : Nat → ClassId} {base : Nat} {σ : Mem} {p : Program} {l : Launch} {e : Env} {R : Room} {s : State} {m : MethodId} {args : Array Value} {below : List Frame} {meth : Method} {c : Code} {H : Heap} {locs : List Loc} {cells slots : Nat} {cc : ByteArray} {nL : Nat} {ret : Option FieldType} {pc is : Nat} {ls : Array Slot} {rest : List Value} {text : String} {P : Nat → Option Int32 → Mem → Prop} (C0 : Cx S0 A0 D ar base p l s m args meth c R_Sy cc nL ret) (hP : va_P D classes (wl base 122 (mem ar base σ)) H) (hS : va_S (inB base 122) s.heap H locs) (hsr : Cond.stringRef R_Sy is text ∈ lw_tbl) (hex : ∀ A S, (Jvm.Cond.and given_1 narrow_1).before A S = true → (Cond.exactly (.string R_Sy is) "java/lang/String").before A S = true) (hsize : ls.size = nL)
    (d0 : decode cc pc = .ok (.new 129, 3)) (d3 : decode cc (pc + 3) = .ok (.dup, 1)) (d4 : decode cc (pc + 4) = .ok (.ldc is, 2)) (d6 : decode cc (pc + 6) = .ok (.invokespecial 133, 3)) (d9 : decode cc (pc + 9) = .ok (.athrow, 1)) (hRf : 5 < R.frames) (hRl : (rest.map fun v => v.category).sum + 82 ≤ R.locals) (hc : cells + 1 ≤ R.cells ∧ slots + 6 ≤ R.slots) (hp : P 3 none σ) :
    W p l e R s m args below meth c H locs cells slots (MQX below (QI D ar base P) args s R.cells R.slots (inB base 122)) (F0 m pc ls rest) :=
  tn_nse C0 hS k_cl_Sy_129 k_in_NoSuchElementException hsr hex xn_0 xn_1 xn_2 xn_5 xa_3 xb_3 xu_0 xz hsize d0 d3 d4 d6 d9 hRf hRl hc hS.2.2 (fun t x _ hkp hx => ⟨3, none, σ, hp, ⟨x, rfl, hx⟩, wl_kept hP (fun q _ h4 => hkp.2 q (by have := wl_lt hP (k := q - base) (by omega); omega) id)⟩)
end
section
/-! what a call asks of the callee's name -/
theorem z_Sy_init : y_Sy_init.cls ≠ "java/lang/invoke/MethodHandle" ∧ y_Sy_init.cls ≠ "java/lang/invoke/VarHandle" ∧ (parseMethodDescriptor y_Sy_init.desc).map (fun d => d.parameters.length) = some 0 := by decide +kernel
theorem z_Object_init_ : y_Object_init_.cls ≠ "java/lang/invoke/MethodHandle" ∧ y_Object_init_.cls ≠ "java/lang/invoke/VarHandle" ∧ (parseMethodDescriptor y_Object_init_.desc).map (fun d => d.parameters.length) = some 0 := by decide +kernel
theorem z_Co_init : y_Co_init.cls ≠ "java/lang/invoke/MethodHandle" ∧ y_Co_init.cls ≠ "java/lang/invoke/VarHandle" ∧ (parseMethodDescriptor y_Co_init.desc).map (fun d => d.parameters.length) = some 0 := by decide +kernel
theorem z_Bl_init : y_Bl_init.cls ≠ "java/lang/invoke/MethodHandle" ∧ y_Bl_init.cls ≠ "java/lang/invoke/VarHandle" ∧ (parseMethodDescriptor y_Bl_init.desc).map (fun d => d.parameters.length) = some 0 := by decide +kernel
theorem z_En_init : y_En_init.cls ≠ "java/lang/invoke/MethodHandle" ∧ y_En_init.cls ≠ "java/lang/invoke/VarHandle" ∧ (parseMethodDescriptor y_En_init.desc).map (fun d => d.parameters.length) = some 0 := by decide +kernel
theorem z_Sy_count : y_Sy_count.cls ≠ "java/lang/invoke/MethodHandle" ∧ y_Sy_count.cls ≠ "java/lang/invoke/VarHandle" ∧ (parseMethodDescriptor y_Sy_count.desc).map (fun d => d.parameters.length) = some 1 := by decide +kernel
theorem z_Sy_processesAlive : y_Sy_processesAlive.cls ≠ "java/lang/invoke/MethodHandle" ∧ y_Sy_processesAlive.cls ≠ "java/lang/invoke/VarHandle" ∧ (parseMethodDescriptor y_Sy_processesAlive.desc).map (fun d => d.parameters.length) = some 0 := by decide +kernel
theorem z_Sy_blocksInUse : y_Sy_blocksInUse.cls ≠ "java/lang/invoke/MethodHandle" ∧ y_Sy_blocksInUse.cls ≠ "java/lang/invoke/VarHandle" ∧ (parseMethodDescriptor y_Sy_blocksInUse.desc).map (fun d => d.parameters.length) = some 0 := by decide +kernel
theorem z_Bl_isFree : y_Bl_isFree.cls ≠ "java/lang/invoke/MethodHandle" ∧ y_Bl_isFree.cls ≠ "java/lang/invoke/VarHandle" ∧ (parseMethodDescriptor y_Bl_isFree.desc).map (fun d => d.parameters.length) = some 0 := by decide +kernel
theorem z_Sy_cellsInUse : y_Sy_cellsInUse.cls ≠ "java/lang/invoke/MethodHandle" ∧ y_Sy_cellsInUse.cls ≠ "java/lang/invoke/VarHandle" ∧ (parseMethodDescriptor y_Sy_cellsInUse.desc).map (fun d => d.parameters.length) = some 0 := by decide +kernel
theorem z_Sy_endsOpen : y_Sy_endsOpen.cls ≠ "java/lang/invoke/MethodHandle" ∧ y_Sy_endsOpen.cls ≠ "java/lang/invoke/VarHandle" ∧ (parseMethodDescriptor y_Sy_endsOpen.desc).map (fun d => d.parameters.length) = some 0 := by decide +kernel
theorem z_En_isOpen : y_En_isOpen.cls ≠ "java/lang/invoke/MethodHandle" ∧ y_En_isOpen.cls ≠ "java/lang/invoke/VarHandle" ∧ (parseMethodDescriptor y_En_isOpen.desc).map (fun d => d.parameters.length) = some 0 := by decide +kernel
theorem z_Sy_messagesWaiting : y_Sy_messagesWaiting.cls ≠ "java/lang/invoke/MethodHandle" ∧ y_Sy_messagesWaiting.cls ≠ "java/lang/invoke/VarHandle" ∧ (parseMethodDescriptor y_Sy_messagesWaiting.desc).map (fun d => d.parameters.length) = some 0 := by decide +kernel
theorem z_Sy_contractsMade : y_Sy_contractsMade.cls ≠ "java/lang/invoke/MethodHandle" ∧ y_Sy_contractsMade.cls ≠ "java/lang/invoke/VarHandle" ∧ (parseMethodDescriptor y_Sy_contractsMade.desc).map (fun d => d.parameters.length) = some 0 := by decide +kernel
theorem z_Co_isNone : y_Co_isNone.cls ≠ "java/lang/invoke/MethodHandle" ∧ y_Co_isNone.cls ≠ "java/lang/invoke/VarHandle" ∧ (parseMethodDescriptor y_Co_isNone.desc).map (fun d => d.parameters.length) = some 0 := by decide +kernel
theorem z_La_type : y_La_type.cls ≠ "java/lang/invoke/MethodHandle" ∧ y_La_type.cls ≠ "java/lang/invoke/VarHandle" ∧ (parseMethodDescriptor y_La_type.desc).map (fun d => d.parameters.length) = some 3 := by decide +kernel
theorem z_Sy_type : y_Sy_type.cls ≠ "java/lang/invoke/MethodHandle" ∧ y_Sy_type.cls ≠ "java/lang/invoke/VarHandle" ∧ (parseMethodDescriptor y_Sy_type.desc).map (fun d => d.parameters.length) = some 1 := by decide +kernel
theorem z_Sy_byteAt : y_Sy_byteAt.cls ≠ "java/lang/invoke/MethodHandle" ∧ y_Sy_byteAt.cls ≠ "java/lang/invoke/VarHandle" ∧ (parseMethodDescriptor y_Sy_byteAt.desc).map (fun d => d.parameters.length) = some 2 := by decide +kernel
theorem z_Sy_needWithin : y_Sy_needWithin.cls ≠ "java/lang/invoke/MethodHandle" ∧ y_Sy_needWithin.cls ≠ "java/lang/invoke/VarHandle" ∧ (parseMethodDescriptor y_Sy_needWithin.desc).map (fun d => d.parameters.length) = some 3 := by decide +kernel
theorem z_Throwable_init_ : y_Throwable_init_.cls ≠ "java/lang/invoke/MethodHandle" ∧ y_Throwable_init_.cls ≠ "java/lang/invoke/VarHandle" ∧ (parseMethodDescriptor y_Throwable_init_.desc).map (fun d => d.parameters.length) = some 0 := by decide +kernel
theorem z_Throwable_fillInStackTrace_ : y_Throwable_fillInStackTrace_.cls ≠ "java/lang/invoke/MethodHandle" ∧ y_Throwable_fillInStackTrace_.cls ≠ "java/lang/invoke/VarHandle" ∧ (parseMethodDescriptor y_Throwable_fillInStackTrace_.desc).map (fun d => d.parameters.length) = some 0 := by decide +kernel
theorem z_IllegalArgumentException_init_S : y_IllegalArgumentException_init_S.cls ≠ "java/lang/invoke/MethodHandle" ∧ y_IllegalArgumentException_init_S.cls ≠ "java/lang/invoke/VarHandle" ∧ (parseMethodDescriptor y_IllegalArgumentException_init_S.desc).map (fun d => d.parameters.length) = some 1 := by decide +kernel
theorem z_RuntimeException_init_S : y_RuntimeException_init_S.cls ≠ "java/lang/invoke/MethodHandle" ∧ y_RuntimeException_init_S.cls ≠ "java/lang/invoke/VarHandle" ∧ (parseMethodDescriptor y_RuntimeException_init_S.desc).map (fun d => d.parameters.length) = some 1 := by decide +kernel
theorem z_Exception_init_S : y_Exception_init_S.cls ≠ "java/lang/invoke/MethodHandle" ∧ y_Exception_init_S.cls ≠ "java/lang/invoke/VarHandle" ∧ (parseMethodDescriptor y_Exception_init_S.desc).map (fun d => d.parameters.length) = some 1 := by decide +kernel
theorem z_Throwable_init_S : y_Throwable_init_S.cls ≠ "java/lang/invoke/MethodHandle" ∧ y_Throwable_init_S.cls ≠ "java/lang/invoke/VarHandle" ∧ (parseMethodDescriptor y_Throwable_init_S.desc).map (fun d => d.parameters.length) = some 1 := by decide +kernel
theorem z_UnsupportedOperationException_init_S : y_UnsupportedOperationException_init_S.cls ≠ "java/lang/invoke/MethodHandle" ∧ y_UnsupportedOperationException_init_S.cls ≠ "java/lang/invoke/VarHandle" ∧ (parseMethodDescriptor y_UnsupportedOperationException_init_S.desc).map (fun d => d.parameters.length) = some 1 := by decide +kernel
theorem z_La_contract : y_La_contract.cls ≠ "java/lang/invoke/MethodHandle" ∧ y_La_contract.cls ≠ "java/lang/invoke/VarHandle" ∧ (parseMethodDescriptor y_La_contract.desc).map (fun d => d.parameters.length) = some 3 := by decide +kernel
theorem z_Sy_contract : y_Sy_contract.cls ≠ "java/lang/invoke/MethodHandle" ∧ y_Sy_contract.cls ≠ "java/lang/invoke/VarHandle" ∧ (parseMethodDescriptor y_Sy_contract.desc).map (fun d => d.parameters.length) = some 1 := by decide +kernel
theorem z_Sy_needBelow : y_Sy_needBelow.cls ≠ "java/lang/invoke/MethodHandle" ∧ y_Sy_needBelow.cls ≠ "java/lang/invoke/VarHandle" ∧ (parseMethodDescriptor y_Sy_needBelow.desc).map (fun d => d.parameters.length) = some 2 := by decide +kernel
theorem z_Sy_draftFromText : y_Sy_draftFromText.cls ≠ "java/lang/invoke/MethodHandle" ∧ y_Sy_draftFromText.cls ≠ "java/lang/invoke/VarHandle" ∧ (parseMethodDescriptor y_Sy_draftFromText.desc).map (fun d => d.parameters.length) = some 0 := by decide +kernel
theorem z_Co_clear : y_Co_clear.cls ≠ "java/lang/invoke/MethodHandle" ∧ y_Co_clear.cls ≠ "java/lang/invoke/VarHandle" ∧ (parseMethodDescriptor y_Co_clear.desc).map (fun d => d.parameters.length) = some 0 := by decide +kernel
theorem z_Sy_draftRuleAt : y_Sy_draftRuleAt.cls ≠ "java/lang/invoke/MethodHandle" ∧ y_Sy_draftRuleAt.cls ≠ "java/lang/invoke/VarHandle" ∧ (parseMethodDescriptor y_Sy_draftRuleAt.desc).map (fun d => d.parameters.length) = some 1 := by decide +kernel
theorem z_String_indexOf_I : y_String_indexOf_I.cls ≠ "java/lang/invoke/MethodHandle" ∧ y_String_indexOf_I.cls ≠ "java/lang/invoke/VarHandle" ∧ (parseMethodDescriptor y_String_indexOf_I.desc).map (fun d => d.parameters.length) = some 1 := by decide +kernel
theorem z_String_indexOf_II : y_String_indexOf_II.cls ≠ "java/lang/invoke/MethodHandle" ∧ y_String_indexOf_II.cls ≠ "java/lang/invoke/VarHandle" ∧ (parseMethodDescriptor y_String_indexOf_II.desc).map (fun d => d.parameters.length) = some 2 := by decide +kernel
theorem z_String_isLatin1_ : y_String_isLatin1_.cls ≠ "java/lang/invoke/MethodHandle" ∧ y_String_isLatin1_.cls ≠ "java/lang/invoke/VarHandle" ∧ (parseMethodDescriptor y_String_isLatin1_.desc).map (fun d => d.parameters.length) = some 0 := by decide +kernel
theorem z_String_length_ : y_String_length_.cls ≠ "java/lang/invoke/MethodHandle" ∧ y_String_length_.cls ≠ "java/lang/invoke/VarHandle" ∧ (parseMethodDescriptor y_String_length_.desc).map (fun d => d.parameters.length) = some 0 := by decide +kernel
theorem z_String_coder_ : y_String_coder_.cls ≠ "java/lang/invoke/MethodHandle" ∧ y_String_coder_.cls ≠ "java/lang/invoke/VarHandle" ∧ (parseMethodDescriptor y_String_coder_.desc).map (fun d => d.parameters.length) = some 0 := by decide +kernel
theorem z_StringLatin1_indexOf_aBIII : y_StringLatin1_indexOf_aBIII.cls ≠ "java/lang/invoke/MethodHandle" ∧ y_StringLatin1_indexOf_aBIII.cls ≠ "java/lang/invoke/VarHandle" ∧ (parseMethodDescriptor y_StringLatin1_indexOf_aBIII.desc).map (fun d => d.parameters.length) = some 4 := by decide +kernel
theorem z_StringLatin1_canEncode_I : y_StringLatin1_canEncode_I.cls ≠ "java/lang/invoke/MethodHandle" ∧ y_StringLatin1_canEncode_I.cls ≠ "java/lang/invoke/VarHandle" ∧ (parseMethodDescriptor y_StringLatin1_canEncode_I.desc).map (fun d => d.parameters.length) = some 1 := by decide +kernel
theorem z_Math_max_II : y_Math_max_II.cls ≠ "java/lang/invoke/MethodHandle" ∧ y_Math_max_II.cls ≠ "java/lang/invoke/VarHandle" ∧ (parseMethodDescriptor y_Math_max_II.desc).map (fun d => d.parameters.length) = some 2 := by decide +kernel
theorem z_Math_min_II : y_Math_min_II.cls ≠ "java/lang/invoke/MethodHandle" ∧ y_Math_min_II.cls ≠ "java/lang/invoke/VarHandle" ∧ (parseMethodDescriptor y_Math_min_II.desc).map (fun d => d.parameters.length) = some 2 := by decide +kernel
theorem z_StringLatin1_indexOfChar_aBIII : y_StringLatin1_indexOfChar_aBIII.cls ≠ "java/lang/invoke/MethodHandle" ∧ y_StringLatin1_indexOfChar_aBIII.cls ≠ "java/lang/invoke/VarHandle" ∧ (parseMethodDescriptor y_StringLatin1_indexOfChar_aBIII.desc).map (fun d => d.parameters.length) = some 4 := by decide +kernel
theorem z_StringUTF16_indexOf_aBIII : y_StringUTF16_indexOf_aBIII.cls ≠ "java/lang/invoke/MethodHandle" ∧ y_StringUTF16_indexOf_aBIII.cls ≠ "java/lang/invoke/VarHandle" ∧ (parseMethodDescriptor y_StringUTF16_indexOf_aBIII.desc).map (fun d => d.parameters.length) = some 4 := by decide +kernel
theorem z_StringUTF16_indexOfChar_aBIII : y_StringUTF16_indexOfChar_aBIII.cls ≠ "java/lang/invoke/MethodHandle" ∧ y_StringUTF16_indexOfChar_aBIII.cls ≠ "java/lang/invoke/VarHandle" ∧ (parseMethodDescriptor y_StringUTF16_indexOfChar_aBIII.desc).map (fun d => d.parameters.length) = some 4 := by decide +kernel
theorem z_StringUTF16_checkBoundsBeginEnd_IIaB : y_StringUTF16_checkBoundsBeginEnd_IIaB.cls ≠ "java/lang/invoke/MethodHandle" ∧ y_StringUTF16_checkBoundsBeginEnd_IIaB.cls ≠ "java/lang/invoke/VarHandle" ∧ (parseMethodDescriptor y_StringUTF16_checkBoundsBeginEnd_IIaB.desc).map (fun d => d.parameters.length) = some 3 := by decide +kernel
theorem z_StringUTF16_length_aB : y_StringUTF16_length_aB.cls ≠ "java/lang/invoke/MethodHandle" ∧ y_StringUTF16_length_aB.cls ≠ "java/lang/invoke/VarHandle" ∧ (parseMethodDescriptor y_StringUTF16_length_aB.desc).map (fun d => d.parameters.length) = some 1 := by decide +kernel
theorem z_String_checkBoundsBeginEnd_III : y_String_checkBoundsBeginEnd_III.cls ≠ "java/lang/invoke/MethodHandle" ∧ y_String_checkBoundsBeginEnd_III.cls ≠ "java/lang/invoke/VarHandle" ∧ (parseMethodDescriptor y_String_checkBoundsBeginEnd_III.desc).map (fun d => d.parameters.length) = some 3 := by decide +kernel
theorem z_Preconditions_checkFromToIndex_IIILjavautilfunctionBiFunction : y_Preconditions_checkFromToIndex_IIILjavautilfunctionBiFunction.cls ≠ "java/lang/invoke/MethodHandle" ∧ y_Preconditions_checkFromToIndex_IIILjavautilfunctionBiFunction.cls ≠ "java/lang/invoke/VarHandle" ∧ (parseMethodDescriptor y_Preconditions_checkFromToIndex_IIILjavautilfunctionBiFunction.desc).map (fun d => d.parameters.length) = some 4 := by decide +kernel
theorem z_StringUTF16_indexOfCharUnsafe_aBIII : y_StringUTF16_indexOfCharUnsafe_aBIII.cls ≠ "java/lang/invoke/MethodHandle" ∧ y_StringUTF16_indexOfCharUnsafe_aBIII.cls ≠ "java/lang/invoke/VarHandle" ∧ (parseMethodDescriptor y_StringUTF16_indexOfCharUnsafe_aBIII.desc).map (fun d => d.parameters.length) = some 4 := by decide +kernel
theorem z_StringUTF16_getChar_aBI : y_StringUTF16_getChar_aBI.cls ≠ "java/lang/invoke/MethodHandle" ∧ y_StringUTF16_getChar_aBI.cls ≠ "java/lang/invoke/VarHandle" ∧ (parseMethodDescriptor y_StringUTF16_getChar_aBI.desc).map (fun d => d.parameters.length) = some 2 := by decide +kernel
theorem z_StringUTF16_indexOfSupplementary_aBIII : y_StringUTF16_indexOfSupplementary_aBIII.cls ≠ "java/lang/invoke/MethodHandle" ∧ y_StringUTF16_indexOfSupplementary_aBIII.cls ≠ "java/lang/invoke/VarHandle" ∧ (parseMethodDescriptor y_StringUTF16_indexOfSupplementary_aBIII.desc).map (fun d => d.parameters.length) = some 4 := by decide +kernel
theorem z_Character_isValidCodePoint_I : y_Character_isValidCodePoint_I.cls ≠ "java/lang/invoke/MethodHandle" ∧ y_Character_isValidCodePoint_I.cls ≠ "java/lang/invoke/VarHandle" ∧ (parseMethodDescriptor y_Character_isValidCodePoint_I.desc).map (fun d => d.parameters.length) = some 1 := by decide +kernel
theorem z_Character_highSurrogate_I : y_Character_highSurrogate_I.cls ≠ "java/lang/invoke/MethodHandle" ∧ y_Character_highSurrogate_I.cls ≠ "java/lang/invoke/VarHandle" ∧ (parseMethodDescriptor y_Character_highSurrogate_I.desc).map (fun d => d.parameters.length) = some 1 := by decide +kernel
theorem z_Character_lowSurrogate_I : y_Character_lowSurrogate_I.cls ≠ "java/lang/invoke/MethodHandle" ∧ y_Character_lowSurrogate_I.cls ≠ "java/lang/invoke/VarHandle" ∧ (parseMethodDescriptor y_Character_lowSurrogate_I.desc).map (fun d => d.parameters.length) = some 1 := by decide +kernel
theorem z_Co_addRule : y_Co_addRule.cls ≠ "java/lang/invoke/MethodHandle" ∧ y_Co_addRule.cls ≠ "java/lang/invoke/VarHandle" ∧ (parseMethodDescriptor y_Co_addRule.desc).map (fun d => d.parameters.length) = some 4 := by decide +kernel
theorem z_Co_ruleFor : y_Co_ruleFor.cls ≠ "java/lang/invoke/MethodHandle" ∧ y_Co_ruleFor.cls ≠ "java/lang/invoke/VarHandle" ∧ (parseMethodDescriptor y_Co_ruleFor.desc).map (fun d => d.parameters.length) = some 2 := by decide +kernel
theorem z_Co_become : y_Co_become.cls ≠ "java/lang/invoke/MethodHandle" ∧ y_Co_become.cls ≠ "java/lang/invoke/VarHandle" ∧ (parseMethodDescriptor y_Co_become.desc).map (fun d => d.parameters.length) = some 1 := by decide +kernel
theorem z_La_start : y_La_start.cls ≠ "java/lang/invoke/MethodHandle" ∧ y_La_start.cls ≠ "java/lang/invoke/VarHandle" ∧ (parseMethodDescriptor y_La_start.desc).map (fun d => d.parameters.length) = some 2 := by decide +kernel
theorem z_Sy_start : y_Sy_start.cls ≠ "java/lang/invoke/MethodHandle" ∧ y_Sy_start.cls ≠ "java/lang/invoke/VarHandle" ∧ (parseMethodDescriptor y_Sy_start.desc).map (fun d => d.parameters.length) = some 0 := by decide +kernel
theorem z_La_kill : y_La_kill.cls ≠ "java/lang/invoke/MethodHandle" ∧ y_La_kill.cls ≠ "java/lang/invoke/VarHandle" ∧ (parseMethodDescriptor y_La_kill.desc).map (fun d => d.parameters.length) = some 3 := by decide +kernel
theorem z_Sy_kill : y_Sy_kill.cls ≠ "java/lang/invoke/MethodHandle" ∧ y_Sy_kill.cls ≠ "java/lang/invoke/VarHandle" ∧ (parseMethodDescriptor y_Sy_kill.desc).map (fun d => d.parameters.length) = some 1 := by decide +kernel
theorem z_Sy_needAlive : y_Sy_needAlive.cls ≠ "java/lang/invoke/MethodHandle" ∧ y_Sy_needAlive.cls ≠ "java/lang/invoke/VarHandle" ∧ (parseMethodDescriptor y_Sy_needAlive.desc).map (fun d => d.parameters.length) = some 1 := by decide +kernel
theorem z_IllegalStateException_init_S : y_IllegalStateException_init_S.cls ≠ "java/lang/invoke/MethodHandle" ∧ y_IllegalStateException_init_S.cls ≠ "java/lang/invoke/VarHandle" ∧ (parseMethodDescriptor y_IllegalStateException_init_S.desc).map (fun d => d.parameters.length) = some 1 := by decide +kernel
theorem z_Bl_giveBack : y_Bl_giveBack.cls ≠ "java/lang/invoke/MethodHandle" ∧ y_Bl_giveBack.cls ≠ "java/lang/invoke/VarHandle" ∧ (parseMethodDescriptor y_Bl_giveBack.desc).map (fun d => d.parameters.length) = some 0 := by decide +kernel
theorem z_Sy_closeEnd : y_Sy_closeEnd.cls ≠ "java/lang/invoke/MethodHandle" ∧ y_Sy_closeEnd.cls ≠ "java/lang/invoke/VarHandle" ∧ (parseMethodDescriptor y_Sy_closeEnd.desc).map (fun d => d.parameters.length) = some 2 := by decide +kernel
theorem z_Sy_dropMessage : y_Sy_dropMessage.cls ≠ "java/lang/invoke/MethodHandle" ∧ y_Sy_dropMessage.cls ≠ "java/lang/invoke/VarHandle" ∧ (parseMethodDescriptor y_Sy_dropMessage.desc).map (fun d => d.parameters.length) = some 3 := by decide +kernel
theorem z_Sy_carriesBlock : y_Sy_carriesBlock.cls ≠ "java/lang/invoke/MethodHandle" ∧ y_Sy_carriesBlock.cls ≠ "java/lang/invoke/VarHandle" ∧ (parseMethodDescriptor y_Sy_carriesBlock.desc).map (fun d => d.parameters.length) = some 1 := by decide +kernel
theorem z_Sy_carriesEnd : y_Sy_carriesEnd.cls ≠ "java/lang/invoke/MethodHandle" ∧ y_Sy_carriesEnd.cls ≠ "java/lang/invoke/VarHandle" ∧ (parseMethodDescriptor y_Sy_carriesEnd.desc).map (fun d => d.parameters.length) = some 1 := by decide +kernel
theorem z_La_block : y_La_block.cls ≠ "java/lang/invoke/MethodHandle" ∧ y_La_block.cls ≠ "java/lang/invoke/VarHandle" ∧ (parseMethodDescriptor y_La_block.desc).map (fun d => d.parameters.length) = some 4 := by decide +kernel
theorem z_Sy_block : y_Sy_block.cls ≠ "java/lang/invoke/MethodHandle" ∧ y_Sy_block.cls ≠ "java/lang/invoke/VarHandle" ∧ (parseMethodDescriptor y_Sy_block.desc).map (fun d => d.parameters.length) = some 2 := by decide +kernel
theorem z_Sy_leastFreeBlock : y_Sy_leastFreeBlock.cls ≠ "java/lang/invoke/MethodHandle" ∧ y_Sy_leastFreeBlock.cls ≠ "java/lang/invoke/VarHandle" ∧ (parseMethodDescriptor y_Sy_leastFreeBlock.desc).map (fun d => d.parameters.length) = some 0 := by decide +kernel
theorem z_Bl_handOut : y_Bl_handOut.cls ≠ "java/lang/invoke/MethodHandle" ∧ y_Bl_handOut.cls ≠ "java/lang/invoke/VarHandle" ∧ (parseMethodDescriptor y_Bl_handOut.desc).map (fun d => d.parameters.length) = some 2 := by decide +kernel
theorem z_Arrays_fill_aII : y_Arrays_fill_aII.cls ≠ "java/lang/invoke/MethodHandle" ∧ y_Arrays_fill_aII.cls ≠ "java/lang/invoke/VarHandle" ∧ (parseMethodDescriptor y_Arrays_fill_aII.desc).map (fun d => d.parameters.length) = some 2 := by decide +kernel
theorem z_La_free : y_La_free.cls ≠ "java/lang/invoke/MethodHandle" ∧ y_La_free.cls ≠ "java/lang/invoke/VarHandle" ∧ (parseMethodDescriptor y_La_free.desc).map (fun d => d.parameters.length) = some 3 := by decide +kernel
theorem z_Sy_free : y_Sy_free.cls ≠ "java/lang/invoke/MethodHandle" ∧ y_Sy_free.cls ≠ "java/lang/invoke/VarHandle" ∧ (parseMethodDescriptor y_Sy_free.desc).map (fun d => d.parameters.length) = some 2 := by decide +kernel
theorem z_Sy_needOwnBlock : y_Sy_needOwnBlock.cls ≠ "java/lang/invoke/MethodHandle" ∧ y_Sy_needOwnBlock.cls ≠ "java/lang/invoke/VarHandle" ∧ (parseMethodDescriptor y_Sy_needOwnBlock.desc).map (fun d => d.parameters.length) = some 2 := by decide +kernel
theorem z_La_read : y_La_read.cls ≠ "java/lang/invoke/MethodHandle" ∧ y_La_read.cls ≠ "java/lang/invoke/VarHandle" ∧ (parseMethodDescriptor y_La_read.desc).map (fun d => d.parameters.length) = some 5 := by decide +kernel
theorem z_Sy_read : y_Sy_read.cls ≠ "java/lang/invoke/MethodHandle" ∧ y_Sy_read.cls ≠ "java/lang/invoke/VarHandle" ∧ (parseMethodDescriptor y_Sy_read.desc).map (fun d => d.parameters.length) = some 3 := by decide +kernel
theorem z_Sy_needCell : y_Sy_needCell.cls ≠ "java/lang/invoke/MethodHandle" ∧ y_Sy_needCell.cls ≠ "java/lang/invoke/VarHandle" ∧ (parseMethodDescriptor y_Sy_needCell.desc).map (fun d => d.parameters.length) = some 2 := by decide +kernel
theorem z_NoSuchElementException_init_S : y_NoSuchElementException_init_S.cls ≠ "java/lang/invoke/MethodHandle" ∧ y_NoSuchElementException_init_S.cls ≠ "java/lang/invoke/VarHandle" ∧ (parseMethodDescriptor y_NoSuchElementException_init_S.desc).map (fun d => d.parameters.length) = some 1 := by decide +kernel
theorem z_La_write : y_La_write.cls ≠ "java/lang/invoke/MethodHandle" ∧ y_La_write.cls ≠ "java/lang/invoke/VarHandle" ∧ (parseMethodDescriptor y_La_write.desc).map (fun d => d.parameters.length) = some 5 := by decide +kernel
theorem z_Sy_write : y_Sy_write.cls ≠ "java/lang/invoke/MethodHandle" ∧ y_Sy_write.cls ≠ "java/lang/invoke/VarHandle" ∧ (parseMethodDescriptor y_Sy_write.desc).map (fun d => d.parameters.length) = some 4 := by decide +kernel
theorem z_La_open : y_La_open.cls ≠ "java/lang/invoke/MethodHandle" ∧ y_La_open.cls ≠ "java/lang/invoke/VarHandle" ∧ (parseMethodDescriptor y_La_open.desc).map (fun d => d.parameters.length) = some 5 := by decide +kernel
theorem z_Sy_open : y_Sy_open.cls ≠ "java/lang/invoke/MethodHandle" ∧ y_Sy_open.cls ≠ "java/lang/invoke/VarHandle" ∧ (parseMethodDescriptor y_Sy_open.desc).map (fun d => d.parameters.length) = some 3 := by decide +kernel
theorem z_Sy_leastFreeChannel : y_Sy_leastFreeChannel.cls ≠ "java/lang/invoke/MethodHandle" ∧ y_Sy_leastFreeChannel.cls ≠ "java/lang/invoke/VarHandle" ∧ (parseMethodDescriptor y_Sy_leastFreeChannel.desc).map (fun d => d.parameters.length) = some 0 := by decide +kernel
theorem z_En_begin : y_En_begin.cls ≠ "java/lang/invoke/MethodHandle" ∧ y_En_begin.cls ≠ "java/lang/invoke/VarHandle" ∧ (parseMethodDescriptor y_En_begin.desc).map (fun d => d.parameters.length) = some 1 := by decide +kernel
theorem z_La_say : y_La_say.cls ≠ "java/lang/invoke/MethodHandle" ∧ y_La_say.cls ≠ "java/lang/invoke/VarHandle" ∧ (parseMethodDescriptor y_La_say.desc).map (fun d => d.parameters.length) = some 5 := by decide +kernel
theorem z_Sy_say : y_Sy_say.cls ≠ "java/lang/invoke/MethodHandle" ∧ y_Sy_say.cls ≠ "java/lang/invoke/VarHandle" ∧ (parseMethodDescriptor y_Sy_say.desc).map (fun d => d.parameters.length) = some 4 := by decide +kernel
theorem z_Sy_needOwnEnd : y_Sy_needOwnEnd.cls ≠ "java/lang/invoke/MethodHandle" ∧ y_Sy_needOwnEnd.cls ≠ "java/lang/invoke/VarHandle" ∧ (parseMethodDescriptor y_Sy_needOwnEnd.desc).map (fun d => d.parameters.length) = some 2 := by decide +kernel
theorem z_Sy_sideOf : y_Sy_sideOf.cls ≠ "java/lang/invoke/MethodHandle" ∧ y_Sy_sideOf.cls ≠ "java/lang/invoke/VarHandle" ∧ (parseMethodDescriptor y_Sy_sideOf.desc).map (fun d => d.parameters.length) = some 1 := by decide +kernel
theorem z_Co_stateBehind : y_Co_stateBehind.cls ≠ "java/lang/invoke/MethodHandle" ∧ y_Co_stateBehind.cls ≠ "java/lang/invoke/VarHandle" ∧ (parseMethodDescriptor y_Co_stateBehind.desc).map (fun d => d.parameters.length) = some 3 := by decide +kernel
theorem z_Sy_needAllowed : y_Sy_needAllowed.cls ≠ "java/lang/invoke/MethodHandle" ∧ y_Sy_needAllowed.cls ≠ "java/lang/invoke/VarHandle" ∧ (parseMethodDescriptor y_Sy_needAllowed.desc).map (fun d => d.parameters.length) = some 1 := by decide +kernel
theorem z_Sy_needOwnLoad : y_Sy_needOwnLoad.cls ≠ "java/lang/invoke/MethodHandle" ∧ y_Sy_needOwnLoad.cls ≠ "java/lang/invoke/VarHandle" ∧ (parseMethodDescriptor y_Sy_needOwnLoad.desc).map (fun d => d.parameters.length) = some 4 := by decide +kernel
theorem z_Sy_ownsBlock : y_Sy_ownsBlock.cls ≠ "java/lang/invoke/MethodHandle" ∧ y_Sy_ownsBlock.cls ≠ "java/lang/invoke/VarHandle" ∧ (parseMethodDescriptor y_Sy_ownsBlock.desc).map (fun d => d.parameters.length) = some 2 := by decide +kernel
theorem z_Sy_ownsEndOfOtherChannel : y_Sy_ownsEndOfOtherChannel.cls ≠ "java/lang/invoke/MethodHandle" ∧ y_Sy_ownsEndOfOtherChannel.cls ≠ "java/lang/invoke/VarHandle" ∧ (parseMethodDescriptor y_Sy_ownsEndOfOtherChannel.desc).map (fun d => d.parameters.length) = some 3 := by decide +kernel
theorem z_Sy_otherEnd : y_Sy_otherEnd.cls ≠ "java/lang/invoke/MethodHandle" ∧ y_Sy_otherEnd.cls ≠ "java/lang/invoke/VarHandle" ∧ (parseMethodDescriptor y_Sy_otherEnd.desc).map (fun d => d.parameters.length) = some 1 := by decide +kernel
theorem z_Sy_giveLoad : y_Sy_giveLoad.cls ≠ "java/lang/invoke/MethodHandle" ∧ y_Sy_giveLoad.cls ≠ "java/lang/invoke/VarHandle" ∧ (parseMethodDescriptor y_Sy_giveLoad.desc).map (fun d => d.parameters.length) = some 3 := by decide +kernel
theorem z_En_addLast : y_En_addLast.cls ≠ "java/lang/invoke/MethodHandle" ∧ y_En_addLast.cls ≠ "java/lang/invoke/VarHandle" ∧ (parseMethodDescriptor y_En_addLast.desc).map (fun d => d.parameters.length) = some 2 := by decide +kernel
theorem z_La_hear : y_La_hear.cls ≠ "java/lang/invoke/MethodHandle" ∧ y_La_hear.cls ≠ "java/lang/invoke/VarHandle" ∧ (parseMethodDescriptor y_La_hear.desc).map (fun d => d.parameters.length) = some 4 := by decide +kernel
theorem z_Sy_hear : y_Sy_hear.cls ≠ "java/lang/invoke/MethodHandle" ∧ y_Sy_hear.cls ≠ "java/lang/invoke/VarHandle" ∧ (parseMethodDescriptor y_Sy_hear.desc).map (fun d => d.parameters.length) = some 2 := by decide +kernel
theorem z_En_removeFirst : y_En_removeFirst.cls ≠ "java/lang/invoke/MethodHandle" ∧ y_En_removeFirst.cls ≠ "java/lang/invoke/VarHandle" ∧ (parseMethodDescriptor y_En_removeFirst.desc).map (fun d => d.parameters.length) = some 0 := by decide +kernel
theorem z_La_choose : y_La_choose.cls ≠ "java/lang/invoke/MethodHandle" ∧ y_La_choose.cls ≠ "java/lang/invoke/VarHandle" ∧ (parseMethodDescriptor y_La_choose.desc).map (fun d => d.parameters.length) = some 4 := by decide +kernel
theorem z_Sy_choose : y_Sy_choose.cls ≠ "java/lang/invoke/MethodHandle" ∧ y_Sy_choose.cls ≠ "java/lang/invoke/VarHandle" ∧ (parseMethodDescriptor y_Sy_choose.desc).map (fun d => d.parameters.length) = some 2 := by decide +kernel
theorem z_La_close : y_La_close.cls ≠ "java/lang/invoke/MethodHandle" ∧ y_La_close.cls ≠ "java/lang/invoke/VarHandle" ∧ (parseMethodDescriptor y_La_close.desc).map (fun d => d.parameters.length) = some 4 := by decide +kernel
theorem z_Sy_close : y_Sy_close.cls ≠ "java/lang/invoke/MethodHandle" ∧ y_Sy_close.cls ≠ "java/lang/invoke/VarHandle" ∧ (parseMethodDescriptor y_Sy_close.desc).map (fun d => d.parameters.length) = some 2 := by decide +kernel
theorem z_La_ofBlock : y_La_ofBlock.cls ≠ "java/lang/invoke/MethodHandle" ∧ y_La_ofBlock.cls ≠ "java/lang/invoke/VarHandle" ∧ (parseMethodDescriptor y_La_ofBlock.desc).map (fun d => d.parameters.length) = some 4 := by decide +kernel
theorem z_Sy_ofBlock : y_Sy_ofBlock.cls ≠ "java/lang/invoke/MethodHandle" ∧ y_Sy_ofBlock.cls ≠ "java/lang/invoke/VarHandle" ∧ (parseMethodDescriptor y_Sy_ofBlock.desc).map (fun d => d.parameters.length) = some 2 := by decide +kernel
theorem z_La_ofEnd : y_La_ofEnd.cls ≠ "java/lang/invoke/MethodHandle" ∧ y_La_ofEnd.cls ≠ "java/lang/invoke/VarHandle" ∧ (parseMethodDescriptor y_La_ofEnd.desc).map (fun d => d.parameters.length) = some 4 := by decide +kernel
theorem z_Sy_ofEnd : y_Sy_ofEnd.cls ≠ "java/lang/invoke/MethodHandle" ∧ y_Sy_ofEnd.cls ≠ "java/lang/invoke/VarHandle" ∧ (parseMethodDescriptor y_Sy_ofEnd.desc).map (fun d => d.parameters.length) = some 2 := by decide +kernel
theorem z_Mo_init : y_Mo_init.cls ≠ "java/lang/invoke/MethodHandle" ∧ y_Mo_init.cls ≠ "java/lang/invoke/VarHandle" ∧ (parseMethodDescriptor y_Mo_init.desc).map (fun d => d.parameters.length) = some 0 := by decide +kernel
theorem z_Mo_thrown : y_Mo_thrown.cls ≠ "java/lang/invoke/MethodHandle" ∧ y_Mo_thrown.cls ≠ "java/lang/invoke/VarHandle" ∧ (parseMethodDescriptor y_Mo_thrown.desc).map (fun d => d.parameters.length) = some 0 := by decide +kernel
theorem z_Mo_type : y_Mo_type.cls ≠ "java/lang/invoke/MethodHandle" ∧ y_Mo_type.cls ≠ "java/lang/invoke/VarHandle" ∧ (parseMethodDescriptor y_Mo_type.desc).map (fun d => d.parameters.length) = some 1 := by decide +kernel
theorem z_Mo_in : y_Mo_in.cls ≠ "java/lang/invoke/MethodHandle" ∧ y_Mo_in.cls ≠ "java/lang/invoke/VarHandle" ∧ (parseMethodDescriptor y_Mo_in.desc).map (fun d => d.parameters.length) = some 3 := by decide +kernel
theorem z_Mo_bad : y_Mo_bad.cls ≠ "java/lang/invoke/MethodHandle" ∧ y_Mo_bad.cls ≠ "java/lang/invoke/VarHandle" ∧ (parseMethodDescriptor y_Mo_bad.desc).map (fun d => d.parameters.length) = some 1 := by decide +kernel
theorem z_Mo_fail : y_Mo_fail.cls ≠ "java/lang/invoke/MethodHandle" ∧ y_Mo_fail.cls ≠ "java/lang/invoke/VarHandle" ∧ (parseMethodDescriptor y_Mo_fail.desc).map (fun d => d.parameters.length) = some 1 := by decide +kernel
theorem z_Mo_contract : y_Mo_contract.cls ≠ "java/lang/invoke/MethodHandle" ∧ y_Mo_contract.cls ≠ "java/lang/invoke/VarHandle" ∧ (parseMethodDescriptor y_Mo_contract.desc).map (fun d => d.parameters.length) = some 1 := by decide +kernel
theorem z_Mo_readRules : y_Mo_readRules.cls ≠ "java/lang/invoke/MethodHandle" ∧ y_Mo_readRules.cls ≠ "java/lang/invoke/VarHandle" ∧ (parseMethodDescriptor y_Mo_readRules.desc).map (fun d => d.parameters.length) = some 0 := by decide +kernel
theorem z_Mo_letterOf : y_Mo_letterOf.cls ≠ "java/lang/invoke/MethodHandle" ∧ y_Mo_letterOf.cls ≠ "java/lang/invoke/VarHandle" ∧ (parseMethodDescriptor y_Mo_letterOf.desc).map (fun d => d.parameters.length) = some 1 := by decide +kernel
theorem z_Mo_start : y_Mo_start.cls ≠ "java/lang/invoke/MethodHandle" ∧ y_Mo_start.cls ≠ "java/lang/invoke/VarHandle" ∧ (parseMethodDescriptor y_Mo_start.desc).map (fun d => d.parameters.length) = some 0 := by decide +kernel
theorem z_Mo_kill : y_Mo_kill.cls ≠ "java/lang/invoke/MethodHandle" ∧ y_Mo_kill.cls ≠ "java/lang/invoke/VarHandle" ∧ (parseMethodDescriptor y_Mo_kill.desc).map (fun d => d.parameters.length) = some 1 := by decide +kernel
theorem z_Mo_freeBlock : y_Mo_freeBlock.cls ≠ "java/lang/invoke/MethodHandle" ∧ y_Mo_freeBlock.cls ≠ "java/lang/invoke/VarHandle" ∧ (parseMethodDescriptor y_Mo_freeBlock.desc).map (fun d => d.parameters.length) = some 1 := by decide +kernel
theorem z_Mo_closeEnd : y_Mo_closeEnd.cls ≠ "java/lang/invoke/MethodHandle" ∧ y_Mo_closeEnd.cls ≠ "java/lang/invoke/VarHandle" ∧ (parseMethodDescriptor y_Mo_closeEnd.desc).map (fun d => d.parameters.length) = some 1 := by decide +kernel
theorem z_Mo_clear : y_Mo_clear.cls ≠ "java/lang/invoke/MethodHandle" ∧ y_Mo_clear.cls ≠ "java/lang/invoke/VarHandle" ∧ (parseMethodDescriptor y_Mo_clear.desc).map (fun d => d.parameters.length) = some 0 := by decide +kernel
theorem z_Mo_block : y_Mo_block.cls ≠ "java/lang/invoke/MethodHandle" ∧ y_Mo_block.cls ≠ "java/lang/invoke/VarHandle" ∧ (parseMethodDescriptor y_Mo_block.desc).map (fun d => d.parameters.length) = some 2 := by decide +kernel
theorem z_Mo_allCells : y_Mo_allCells.cls ≠ "java/lang/invoke/MethodHandle" ∧ y_Mo_allCells.cls ≠ "java/lang/invoke/VarHandle" ∧ (parseMethodDescriptor y_Mo_allCells.desc).map (fun d => d.parameters.length) = some 0 := by decide +kernel
theorem z_Mo_free : y_Mo_free.cls ≠ "java/lang/invoke/MethodHandle" ∧ y_Mo_free.cls ≠ "java/lang/invoke/VarHandle" ∧ (parseMethodDescriptor y_Mo_free.desc).map (fun d => d.parameters.length) = some 2 := by decide +kernel
theorem z_Mo_notYours : y_Mo_notYours.cls ≠ "java/lang/invoke/MethodHandle" ∧ y_Mo_notYours.cls ≠ "java/lang/invoke/VarHandle" ∧ (parseMethodDescriptor y_Mo_notYours.desc).map (fun d => d.parameters.length) = some 2 := by decide +kernel
theorem z_Mo_read : y_Mo_read.cls ≠ "java/lang/invoke/MethodHandle" ∧ y_Mo_read.cls ≠ "java/lang/invoke/VarHandle" ∧ (parseMethodDescriptor y_Mo_read.desc).map (fun d => d.parameters.length) = some 3 := by decide +kernel
theorem z_Mo_write : y_Mo_write.cls ≠ "java/lang/invoke/MethodHandle" ∧ y_Mo_write.cls ≠ "java/lang/invoke/VarHandle" ∧ (parseMethodDescriptor y_Mo_write.desc).map (fun d => d.parameters.length) = some 4 := by decide +kernel
theorem z_Mo_open : y_Mo_open.cls ≠ "java/lang/invoke/MethodHandle" ∧ y_Mo_open.cls ≠ "java/lang/invoke/VarHandle" ∧ (parseMethodDescriptor y_Mo_open.desc).map (fun d => d.parameters.length) = some 3 := by decide +kernel
theorem z_Mo_say : y_Mo_say.cls ≠ "java/lang/invoke/MethodHandle" ∧ y_Mo_say.cls ≠ "java/lang/invoke/VarHandle" ∧ (parseMethodDescriptor y_Mo_say.desc).map (fun d => d.parameters.length) = some 4 := by decide +kernel
theorem z_Mo_notYourEnd : y_Mo_notYourEnd.cls ≠ "java/lang/invoke/MethodHandle" ∧ y_Mo_notYourEnd.cls ≠ "java/lang/invoke/VarHandle" ∧ (parseMethodDescriptor y_Mo_notYourEnd.desc).map (fun d => d.parameters.length) = some 2 := by decide +kernel
theorem z_Mo_lets : y_Mo_lets.cls ≠ "java/lang/invoke/MethodHandle" ∧ y_Mo_lets.cls ≠ "java/lang/invoke/VarHandle" ∧ (parseMethodDescriptor y_Mo_lets.desc).map (fun d => d.parameters.length) = some 3 := by decide +kernel
theorem z_Mo_hear : y_Mo_hear.cls ≠ "java/lang/invoke/MethodHandle" ∧ y_Mo_hear.cls ≠ "java/lang/invoke/VarHandle" ∧ (parseMethodDescriptor y_Mo_hear.desc).map (fun d => d.parameters.length) = some 2 := by decide +kernel
theorem z_Mo_choose : y_Mo_choose.cls ≠ "java/lang/invoke/MethodHandle" ∧ y_Mo_choose.cls ≠ "java/lang/invoke/VarHandle" ∧ (parseMethodDescriptor y_Mo_choose.desc).map (fun d => d.parameters.length) = some 2 := by decide +kernel
theorem z_Mo_close : y_Mo_close.cls ≠ "java/lang/invoke/MethodHandle" ∧ y_Mo_close.cls ≠ "java/lang/invoke/VarHandle" ∧ (parseMethodDescriptor y_Mo_close.desc).map (fun d => d.parameters.length) = some 2 := by decide +kernel
theorem z_Mo_ofBlock : y_Mo_ofBlock.cls ≠ "java/lang/invoke/MethodHandle" ∧ y_Mo_ofBlock.cls ≠ "java/lang/invoke/VarHandle" ∧ (parseMethodDescriptor y_Mo_ofBlock.desc).map (fun d => d.parameters.length) = some 2 := by decide +kernel
theorem z_Mo_ofEnd : y_Mo_ofEnd.cls ≠ "java/lang/invoke/MethodHandle" ∧ y_Mo_ofEnd.cls ≠ "java/lang/invoke/VarHandle" ∧ (parseMethodDescriptor y_Mo_ofEnd.desc).map (fun d => d.parameters.length) = some 2 := by decide +kernel
theorem z_Mo_count : y_Mo_count.cls ≠ "java/lang/invoke/MethodHandle" ∧ y_Mo_count.cls ≠ "java/lang/invoke/VarHandle" ∧ (parseMethodDescriptor y_Mo_count.desc).map (fun d => d.parameters.length) = some 1 := by decide +kernel
end
section
/-! Leaves: rows laid by gen/m20.py. -/
set_option maxHeartbeats 4000000 in
set_option maxRecDepth 100000 in
theorem c_En_isOpen {S0 : State} {A0 : Array Value} {D : va_G} {ar : Nat → ClassId} {base : Nat} {σ : Mem} {l : Launch} (hlt : l.stackTraces = false) {e0 : Nat} (he : e0 < 12) :
    MX l y_En_isOpen [Cond.code y_En_isOpen b_En_isOpen 1 (some .boolean)] (rmL 0) (PS S0 A0 D ar base σ [.ref (base + ad 14 e0)]) (QP (fun k r => k = 0 ∧ r = some (b2i (σ 11 e0 0 ≠ -1)))) (fun _ => False) := by
  refine cx_head hlt (by decide +kernel) (Nat.le_of_ble_eq_true rfl) ?_
  intro p ev s m below meth c ls C0 hP hl
  have C0 : Cx S0 A0 D ar base p l s m _ meth c R_En b_En_isOpen 1 (some .boolean) := C0
  obtain ⟨hx, hb, -⟩ := id C0
  have hl : lv_has ls 1 [(0, .ref (base + ad 14 e0))] := hl
  refine lv_aload_n hx hb d_En_isOpen_0 rfl (lv_at hl 0 rfl) ?_
  refine q_get C0 hP (kd := 14) (i := e0) (ci := 3) (by decide) (he) rfl rfl 2 (by decide) rfl k_fl_En_18 rfl d_En_isOpen_1 ?_
  refine lv_iconst (v := (-1)) hx hb d_En_isOpen_4 (by decide) ?_
  refine lv_icmp_eq (tgt := 12) hx hb d_En_isOpen_5 (by decide) (fun c_5 => ?_) (fun c_5 => ?_)
  · skip
    refine lv_iconst (v := 0) hx hb d_En_isOpen_12 (by decide) ?_
    exact rP_z C0 (⟨by decide, by decide⟩) (Or.inl rfl) (⟨rfl, by simp [b2i, c_5]⟩) d_En_isOpen_13
  · skip
    refine lv_iconst (v := 1) hx hb d_En_isOpen_8 (by decide) ?_
    refine lv_goto (tgt := 13) hx hb d_En_isOpen_9 (by decide) ?_
    exact rP_z C0 (⟨by decide, by decide⟩) (Or.inr rfl) (⟨rfl, by simp [b2i, c_5]⟩) d_En_isOpen_13
set_option maxHeartbeats 4000000 in
set_option maxRecDepth 100000 in
theorem c_Bl_isFree {S0 : State} {A0 : Array Value} {D : va_G} {ar : Nat → ClassId} {base : Nat} {σ : Mem} {l : Launch} (hlt : l.stackTraces = false) {b0 : Nat} (hb0 : b0 < 12) :
    MX l y_Bl_isFree [Cond.code y_Bl_isFree b_Bl_isFree 1 (some .boolean)] (rmL 0) (PS S0 A0 D ar base σ [.ref (base + ad 12 b0)]) (QP (fun k r => k = 0 ∧ r = some (b2i (σ 8 b0 0 = -1)))) (fun _ => False) := by
  refine cx_head hlt (by decide +kernel) (Nat.le_of_ble_eq_true rfl) ?_
  intro p ev s m below meth c ls C0 hP hl
  have C0 : Cx S0 A0 D ar base p l s m _ meth c R_Bl b_Bl_isFree 1 (some .boolean) := C0
  obtain ⟨hx, hb, -⟩ := id C0
  have hl : lv_has ls 1 [(0, .ref (base + ad 12 b0))] := hl
  refine lv_aload_n hx hb d_Bl_isFree_0 rfl (lv_at hl 0 rfl) ?_
  refine q_get C0 hP (kd := 12) (i := b0) (ci := 2) (by decide) (hb0) rfl rfl 1 (by decide) rfl k_fl_Bl_15 rfl d_Bl_isFree_1 ?_
  refine lv_iconst (v := (-1)) hx hb d_Bl_isFree_4 (by decide) ?_
  refine lv_icmp_ne (tgt := 12) hx hb d_Bl_isFree_5 (by decide) (fun c_5 => ?_) (fun c_5 => ?_)
  · skip
    refine lv_iconst (v := 0) hx hb d_Bl_isFree_12 (by decide) ?_
    exact rP_z C0 (⟨by decide, by decide⟩) (Or.inl rfl) (⟨rfl, by simp [b2i, c_5]⟩) d_Bl_isFree_13
  · skip
    refine lv_iconst (v := 1) hx hb d_Bl_isFree_8 (by decide) ?_
    refine lv_goto (tgt := 13) hx hb d_Bl_isFree_9 (by decide) ?_
    exact rP_z C0 (⟨by decide, by decide⟩) (Or.inr rfl) (⟨rfl, by simp [b2i, c_5]⟩) d_Bl_isFree_13
set_option maxHeartbeats 4000000 in
set_option maxRecDepth 100000 in
theorem c_Co_isNone {S0 : State} {A0 : Array Value} {D : va_G} {ar : Nat → ClassId} {base : Nat} {σ : Mem} {l : Launch} (hlt : l.stackTraces = false) {c0 : Nat} (hc0 : c0 < 11) :
    MX l y_Co_isNone [Cond.code y_Co_isNone b_Co_isNone 1 (some .boolean)] (rmL 0) (PS S0 A0 D ar base σ [.ref (base + ad 7 c0)]) (QP (fun k r => k = 0 ∧ r = some (b2i (σ 3 c0 0 = 0)))) (fun _ => False) := by
  refine cx_head hlt (by decide +kernel) (Nat.le_of_ble_eq_true rfl) ?_
  intro p ev s m below meth c ls C0 hP hl
  have C0 : Cx S0 A0 D ar base p l s m _ meth c R_Co b_Co_isNone 1 (some .boolean) := C0
  obtain ⟨hx, hb, -⟩ := id C0
  have hl : lv_has ls 1 [(0, .ref (base + ad 7 c0))] := hl
  refine lv_aload_n hx hb d_Co_isNone_0 rfl (lv_at hl 0 rfl) ?_
  refine q_get C0 hP (kd := 7) (i := c0) (ci := 1) (by decide) (hc0) rfl rfl 4 (by decide) rfl k_fl_Co_24 rfl d_Co_isNone_1 ?_
  refine lv_if_ne (tgt := 11) hx hb d_Co_isNone_4 (by decide) (fun c_4 => ?_) (fun c_4 => ?_)
  · skip
    refine lv_iconst (v := 0) hx hb d_Co_isNone_11 (by decide) ?_
    exact rP_z C0 (⟨by decide, by decide⟩) (Or.inl rfl) (⟨rfl, by simp [b2i, c_4]⟩) d_Co_isNone_12
  · skip
    refine lv_iconst (v := 1) hx hb d_Co_isNone_7 (by decide) ?_
    refine lv_goto (tgt := 12) hx hb d_Co_isNone_8 (by decide) ?_
    exact rP_z C0 (⟨by decide, by decide⟩) (Or.inr rfl) (⟨rfl, by simp [b2i, c_4]⟩) d_Co_isNone_12
set_option maxHeartbeats 4000000 in
set_option maxRecDepth 100000 in
theorem c_Co_clear {S0 : State} {A0 : Array Value} {D : va_G} {ar : Nat → ClassId} {base : Nat} {σ : Mem} {l : Launch} (hlt : l.stackTraces = false) {c0 : Nat} (hc0 : c0 < 11) :
    MX l y_Co_clear [Cond.code y_Co_clear b_Co_clear 1 none] (rmL 0) (PS S0 A0 D ar base σ [.ref (base + ad 7 c0)]) (QI D ar base (fun k r σ' => k = 0 ∧ r = none ∧ σ' = up σ 3 c0 0 0)) (inB base 122) := by
  refine cx_head hlt (by decide +kernel) (Nat.le_of_ble_eq_true rfl) ?_
  intro p ev s m below meth c ls C0 hP hl
  have C0 : Cx S0 A0 D ar base p l s m _ meth c R_Co b_Co_clear 1 none := C0
  obtain ⟨hx, hb, -⟩ := id C0
  have hl : lv_has ls 1 [(0, .ref (base + ad 7 c0))] := hl
  have hS : va_S (inB base 122) s.heap s.heap [] := va_S.rf
  refine lv_aload_n hx hb d_Co_clear_0 rfl (lv_at hl 0 rfl) ?_
  refine lv_iconst (v := 0) hx hb d_Co_clear_1 (by decide) ?_
  refine q_put C0 hP hS (kd := 7) (i := c0) (ci := 1) 3 0 (by decide) rfl (hc0) rfl rfl t_Co t_Co_ok n_Co 4 (by decide) rfl k_fl_Co_24 rfl (by decide +kernel) (Nat.le_of_ble_eq_true rfl) (by simp [cont, up]) d_Co_clear_2 (fun H locs hP hS => ?_)
  exact rI_v C0 hP hS (⟨by decide, by decide⟩) (⟨rfl, rfl, rfl⟩) d_Co_clear_5
set_option maxHeartbeats 4000000 in
set_option maxRecDepth 100000 in
theorem c_Bl_giveBack {S0 : State} {A0 : Array Value} {D : va_G} {ar : Nat → ClassId} {base : Nat} {σ : Mem} {l : Launch} (hlt : l.stackTraces = false) {b0 : Nat} (hb0 : b0 < 12) :
    MX l y_Bl_giveBack [Cond.code y_Bl_giveBack b_Bl_giveBack 1 none] (rmL 0) (PS S0 A0 D ar base σ [.ref (base + ad 12 b0)]) (QI D ar base (fun k r σ' => k = 0 ∧ r = none ∧ σ' = up (up σ 8 b0 0 (-1)) 9 b0 0 0)) (inB base 122) := by
  refine cx_head hlt (by decide +kernel) (Nat.le_of_ble_eq_true rfl) ?_
  intro p ev s m below meth c ls C0 hP hl
  have C0 : Cx S0 A0 D ar base p l s m _ meth c R_Bl b_Bl_giveBack 1 none := C0
  obtain ⟨hx, hb, -⟩ := id C0
  have hl : lv_has ls 1 [(0, .ref (base + ad 12 b0))] := hl
  have hS : va_S (inB base 122) s.heap s.heap [] := va_S.rf
  refine lv_aload_n hx hb d_Bl_giveBack_0 rfl (lv_at hl 0 rfl) ?_
  refine lv_iconst (v := (-1)) hx hb d_Bl_giveBack_1 (by decide) ?_
  refine q_put C0 hP hS (kd := 12) (i := b0) (ci := 2) 8 0 (by decide) rfl (hb0) rfl rfl t_Bl t_Bl_ok n_Bl 1 (by decide) rfl k_fl_Bl_15 rfl (by decide +kernel) (Nat.le_of_ble_eq_true rfl) (by simp [cont, up]) d_Bl_giveBack_2 (fun H locs hP hS => ?_)
  refine lv_aload_n hx hb d_Bl_giveBack_5 rfl (lv_at hl 0 rfl) ?_
  refine lv_iconst (v := 0) hx hb d_Bl_giveBack_6 (by decide) ?_
  refine q_put C0 hP hS (kd := 12) (i := b0) (ci := 2) 9 0 (by decide) rfl (hb0) rfl rfl t_Bl t_Bl_ok n_Bl 2 (by decide) rfl k_fl_Bl_19 rfl (by decide +kernel) (Nat.le_of_ble_eq_true rfl) (by simp [cont, up]) d_Bl_giveBack_7 (fun H locs hP hS => ?_)
  exact rI_v C0 hP hS (⟨by decide, by decide⟩) (⟨rfl, rfl, rfl⟩) d_Bl_giveBack_10
set_option maxHeartbeats 4000000 in
set_option maxRecDepth 100000 in
theorem c_En_begin {S0 : State} {A0 : Array Value} {D : va_G} {ar : Nat → ClassId} {base : Nat} {σ : Mem} {l : Launch} (hlt : l.stackTraces = false) {e0 : Nat} (he : e0 < 12) {q : Int32} :
    MX l y_En_begin [Cond.code y_En_begin b_En_begin 2 none] (rmL 0) (PS S0 A0 D ar base σ [.ref (base + ad 14 e0), .int q]) (QI D ar base (fun k r σ' => k = 0 ∧ r = none ∧ σ' = up (up σ 11 e0 0 q) 12 e0 0 1)) (inB base 122) := by
  refine cx_head hlt (by decide +kernel) (Nat.le_of_ble_eq_true rfl) ?_
  intro p ev s m below meth c ls C0 hP hl
  have C0 : Cx S0 A0 D ar base p l s m _ meth c R_En b_En_begin 2 none := C0
  obtain ⟨hx, hb, -⟩ := id C0
  have hl : lv_has ls 2 [(0, .ref (base + ad 14 e0)), (1, .int q)] := hl
  have hS : va_S (inB base 122) s.heap s.heap [] := va_S.rf
  refine lv_aload_n hx hb d_En_begin_0 rfl (lv_at hl 0 rfl) ?_
  refine lv_iload_n hx hb d_En_begin_1 rfl (lv_at hl 1 rfl) ?_
  refine q_put C0 hP hS (kd := 14) (i := e0) (ci := 3) 11 0 (by decide) rfl (he) rfl rfl t_En t_En_ok n_En 2 (by decide) rfl k_fl_En_18 rfl (by decide +kernel) (Nat.le_of_ble_eq_true rfl) (by simp [cont, up]) d_En_begin_2 (fun H locs hP hS => ?_)
  refine lv_aload_n hx hb d_En_begin_5 rfl (lv_at hl 0 rfl) ?_
  refine lv_iconst (v := 1) hx hb d_En_begin_6 (by decide) ?_
  refine q_put C0 hP hS (kd := 14) (i := e0) (ci := 3) 12 0 (by decide) rfl (he) rfl rfl t_En t_En_ok n_En 3 (by decide) rfl k_fl_En_22 rfl (by decide +kernel) (Nat.le_of_ble_eq_true rfl) (by simp [cont, up]) d_En_begin_7 (fun H locs hP hS => ?_)
  exact rI_v C0 hP hS (⟨by decide, by decide⟩) (⟨rfl, rfl, rfl⟩) d_En_begin_10
set_option maxHeartbeats 4000000 in
set_option maxRecDepth 100000 in
theorem c_Sy_sideOf {S0 : State} {A0 : Array Value} {D : va_G} {ar : Nat → ClassId} {base : Nat} {σ : Mem} {l : Launch} (hlt : l.stackTraces = false) {x : Int32} :
    MX l y_Sy_sideOf [Cond.code y_Sy_sideOf b_Sy_sideOf 1 (some .int)] (rmL 0) (PS S0 A0 D ar base σ [.int x]) (QP (fun k r => k = 0 ∧ r = some (x &&& 1))) (fun _ => False) := by
  refine cx_head hlt (by decide +kernel) (Nat.le_of_ble_eq_true rfl) ?_
  intro p ev s m below meth c ls C0 hP hl
  have C0 : Cx S0 A0 D ar base p l s m _ meth c R_Sy b_Sy_sideOf 1 (some .int) := C0
  obtain ⟨hx, hb, -⟩ := id C0
  have hl : lv_has ls 1 [(0, .int x)] := hl
  refine lv_iload_n hx hb d_Sy_sideOf_0 rfl (lv_at hl 0 rfl) ?_
  refine lv_iconst (v := 1) hx hb d_Sy_sideOf_1 (by decide) ?_
  refine lv_iand hx hb d_Sy_sideOf_2 ?_
  exact rP_i C0 (⟨by decide, by decide⟩) (⟨rfl, rfl⟩) d_Sy_sideOf_3
set_option maxHeartbeats 4000000 in
set_option maxRecDepth 100000 in
theorem c_Sy_otherEnd {S0 : State} {A0 : Array Value} {D : va_G} {ar : Nat → ClassId} {base : Nat} {σ : Mem} {l : Launch} (hlt : l.stackTraces = false) {x : Int32} :
    MX l y_Sy_otherEnd [Cond.code y_Sy_otherEnd b_Sy_otherEnd 1 (some .int)] (rmL 0) (PS S0 A0 D ar base σ [.int x]) (QP (fun k r => k = 0 ∧ r = some (x ^^^ 1))) (fun _ => False) := by
  refine cx_head hlt (by decide +kernel) (Nat.le_of_ble_eq_true rfl) ?_
  intro p ev s m below meth c ls C0 hP hl
  have C0 : Cx S0 A0 D ar base p l s m _ meth c R_Sy b_Sy_otherEnd 1 (some .int) := C0
  obtain ⟨hx, hb, -⟩ := id C0
  have hl : lv_has ls 1 [(0, .int x)] := hl
  refine lv_iload_n hx hb d_Sy_otherEnd_0 rfl (lv_at hl 0 rfl) ?_
  refine lv_iconst (v := 1) hx hb d_Sy_otherEnd_1 (by decide) ?_
  refine lv_ixor hx hb d_Sy_otherEnd_2 ?_
  exact rP_i C0 (⟨by decide, by decide⟩) (⟨rfl, rfl⟩) d_Sy_otherEnd_3
set_option maxHeartbeats 4000000 in
set_option maxRecDepth 100000 in
theorem c_Sy_carriesBlock {S0 : State} {A0 : Array Value} {D : va_G} {ar : Nat → ClassId} {base : Nat} {σ : Mem} {l : Launch} (hlt : l.stackTraces = false) {x : Int32} :
    MX l y_Sy_carriesBlock [Cond.code y_Sy_carriesBlock b_Sy_carriesBlock 1 (some .boolean)] (rmL 0) (PS S0 A0 D ar base σ [.int x]) (QP (fun k r => k = 0 ∧ r = some (b2i (¬ x < 3 ∧ ¬ 6 ≤ x)))) (fun _ => False) := by
  refine cx_head hlt (by decide +kernel) (Nat.le_of_ble_eq_true rfl) ?_
  intro p ev s m below meth c ls C0 hP hl
  have C0 : Cx S0 A0 D ar base p l s m _ meth c R_Sy b_Sy_carriesBlock 1 (some .boolean) := C0
  obtain ⟨hx, hb, -⟩ := id C0
  have hl : lv_has ls 1 [(0, .int x)] := hl
  refine lv_iload_n hx hb d_Sy_carriesBlock_0 rfl (lv_at hl 0 rfl) ?_
  refine lv_iconst (v := 3) hx hb d_Sy_carriesBlock_1 (by decide) ?_
  refine lv_icmp_lt (tgt := 15) hx hb d_Sy_carriesBlock_2 (by decide) (fun c_2 => ?_) (fun c_2 => ?_)
  · skip
    refine lv_iconst (v := 0) hx hb d_Sy_carriesBlock_15 (by decide) ?_
    exact rP_z C0 (⟨by decide, by decide⟩) (Or.inl rfl) (⟨rfl, by simp [b2i, c_2]⟩) d_Sy_carriesBlock_16
  · skip
    refine lv_iload_n hx hb d_Sy_carriesBlock_5 rfl (lv_at hl 0 rfl) ?_
    refine lv_bipush (v := 6) hx hb d_Sy_carriesBlock_6 (by decide) ?_
    refine lv_icmp_ge (tgt := 15) hx hb d_Sy_carriesBlock_8 (by decide) (fun c_8 => ?_) (fun c_8 => ?_)
    · skip
      refine lv_iconst (v := 0) hx hb d_Sy_carriesBlock_15 (by decide) ?_
      exact rP_z C0 (⟨by decide, by decide⟩) (Or.inl rfl) (⟨rfl, by simp [b2i, c_2, c_8]⟩) d_Sy_carriesBlock_16
    · skip
      refine lv_iconst (v := 1) hx hb d_Sy_carriesBlock_11 (by decide) ?_
      refine lv_goto (tgt := 16) hx hb d_Sy_carriesBlock_12 (by decide) ?_
      exact rP_z C0 (⟨by decide, by decide⟩) (Or.inr rfl) (⟨rfl, by simp [b2i, c_2, c_8]⟩) d_Sy_carriesBlock_16
set_option maxHeartbeats 4000000 in
set_option maxRecDepth 100000 in
theorem c_Sy_carriesEnd {S0 : State} {A0 : Array Value} {D : va_G} {ar : Nat → ClassId} {base : Nat} {σ : Mem} {l : Launch} (hlt : l.stackTraces = false) {x : Int32} :
    MX l y_Sy_carriesEnd [Cond.code y_Sy_carriesEnd b_Sy_carriesEnd 1 (some .boolean)] (rmL 0) (PS S0 A0 D ar base σ [.int x]) (QP (fun k r => k = 0 ∧ r = some (b2i (x = 6)))) (fun _ => False) := by
  refine cx_head hlt (by decide +kernel) (Nat.le_of_ble_eq_true rfl) ?_
  intro p ev s m below meth c ls C0 hP hl
  have C0 : Cx S0 A0 D ar base p l s m _ meth c R_Sy b_Sy_carriesEnd 1 (some .boolean) := C0
  obtain ⟨hx, hb, -⟩ := id C0
  have hl : lv_has ls 1 [(0, .int x)] := hl
  refine lv_iload_n hx hb d_Sy_carriesEnd_0 rfl (lv_at hl 0 rfl) ?_
  refine lv_bipush (v := 6) hx hb d_Sy_carriesEnd_1 (by decide) ?_
  refine lv_icmp_ne (tgt := 10) hx hb d_Sy_carriesEnd_3 (by decide) (fun c_3 => ?_) (fun c_3 => ?_)
  · skip
    refine lv_iconst (v := 0) hx hb d_Sy_carriesEnd_10 (by decide) ?_
    exact rP_z C0 (⟨by decide, by decide⟩) (Or.inl rfl) (⟨rfl, by simp [b2i, c_3]⟩) d_Sy_carriesEnd_11
  · skip
    refine lv_iconst (v := 1) hx hb d_Sy_carriesEnd_6 (by decide) ?_
    refine lv_goto (tgt := 11) hx hb d_Sy_carriesEnd_7 (by decide) ?_
    exact rP_z C0 (⟨by decide, by decide⟩) (Or.inr rfl) (⟨rfl, by simp [b2i, c_3]⟩) d_Sy_carriesEnd_11
set_option maxHeartbeats 4000000 in
set_option maxRecDepth 100000 in
theorem c_Sy_byteAt {S0 : State} {A0 : Array Value} {D : va_G} {ar : Nat → ClassId} {base : Nat} {σ : Mem} {l : Launch} (hlt : l.stackTraces = false) {x : Int64} {sh : Int32} :
    MX l y_Sy_byteAt [Cond.code y_Sy_byteAt b_Sy_byteAt 3 (some .int)] (rmL 0) (PS S0 A0 D ar base σ [.long x, .int sh]) (QP (fun k r => k = 0 ∧ r = some ((x.toUInt64 >>> (sh.toInt64.toUInt64 &&& Int64.toUInt64 63)).toInt64.toInt32 &&& 255))) (fun _ => False) := by
  refine cx_head hlt (by decide +kernel) (Nat.le_of_ble_eq_true rfl) ?_
  intro p ev s m below meth c ls C0 hP hl
  have C0 : Cx S0 A0 D ar base p l s m _ meth c R_Sy b_Sy_byteAt 3 (some .int) := C0
  obtain ⟨hx, hb, -⟩ := id C0
  have hl : lv_has ls 3 [(0, .long x), (2, .int sh)] := hl
  refine lv_lload_n hx hb d_Sy_byteAt_0 rfl (lv_at hl 0 rfl) ?_
  refine lv_iload_n hx hb d_Sy_byteAt_1 rfl (lv_at hl 1 rfl) ?_
  refine lv_lushr hx hb d_Sy_byteAt_2 rfl ?_
  refine lv_l2i hx hb d_Sy_byteAt_3 rfl ?_
  refine lv_sipush (v := 255) hx hb d_Sy_byteAt_4 (by decide) ?_
  refine lv_iand hx hb d_Sy_byteAt_7 ?_
  exact rP_i C0 (⟨by decide, by decide⟩) (⟨rfl, rfl⟩) d_Sy_byteAt_8
set_option maxHeartbeats 4000000 in
set_option maxRecDepth 100000 in
theorem c_Sy_needWithin {S0 : State} {A0 : Array Value} {D : va_G} {ar : Nat → ClassId} {base : Nat} {σ : Mem} {l : Launch} (hlt : l.stackTraces = false) {x lo hi : Int32} :
    MX l y_Sy_needWithin [Cond.code y_Sy_needWithin b_Sy_needWithin 3 none] (rmT 0) (PS S0 A0 D ar base σ [.int x, .int lo, .int hi]) (QP (fun k r => r = none ∧ k = if x < lo ∨ ¬ x ≤ hi then 1 else 0)) (fun _ => False) := by
  refine cx_head hlt (by decide +kernel) (Nat.le_of_ble_eq_true rfl) ?_
  intro p ev s m below meth c ls C0 hP hl
  have C0 : Cx S0 A0 D ar base p l s m _ meth c R_Sy b_Sy_needWithin 3 none := C0
  obtain ⟨hx, hb, -⟩ := id C0
  have hl : lv_has ls 3 [(0, .int x), (1, .int lo), (2, .int hi)] := hl
  refine lv_iload_n hx hb d_Sy_needWithin_0 rfl (lv_at hl 0 rfl) ?_
  refine lv_iload_n hx hb d_Sy_needWithin_1 rfl (lv_at hl 1 rfl) ?_
  refine lv_icmp_lt (tgt := 10) hx hb d_Sy_needWithin_2 (by decide) (fun c_2 => ?_) (fun c_2 => ?_)
  · skip
    exact tP_1 C0 k_sr_Sy_230 xs_230 hl.1 d_Sy_needWithin_10 d_Sy_needWithin_13 d_Sy_needWithin_14 d_Sy_needWithin_16 d_Sy_needWithin_19 (by decide) (by decide) (⟨by decide, by decide⟩) (⟨rfl, by simp [c_2]⟩)
  · skip
    refine lv_iload_n hx hb d_Sy_needWithin_5 rfl (lv_at hl 0 rfl) ?_
    refine lv_iload_n hx hb d_Sy_needWithin_6 rfl (lv_at hl 2 rfl) ?_
    refine lv_icmp_le (tgt := 20) hx hb d_Sy_needWithin_7 (by decide) (fun c_7 => ?_) (fun c_7 => ?_)
    · skip
      exact rP_v C0 (⟨by decide, by decide⟩) (⟨rfl, by simp [c_2, c_7]⟩) d_Sy_needWithin_20
    · skip
      exact tP_1 C0 k_sr_Sy_230 xs_230 hl.1 d_Sy_needWithin_10 d_Sy_needWithin_13 d_Sy_needWithin_14 d_Sy_needWithin_16 d_Sy_needWithin_19 (by decide) (by decide) (⟨by decide, by decide⟩) (⟨rfl, by simp [c_2, c_7]⟩)
end
section
/-! The class's checks: rows laid by gen/m21.py. -/
abbrev bad (x b : Int32) : Prop := x < 0 ∨ ¬ x ≤ b - 1
theorem nz_ok {c : Prop} [Decidable c] {n : Nat} (h : 0 = if c then n else 0) (hn : n ≠ 0 := by decide) : ¬ c := fun hc => hn (by rw [if_pos hc] at h; exact h.symm)
theorem nz_k {c : Prop} [Decidable c] {n k : Nat} (h : k = if c then n else 0) (hk : k ≠ 0) : c ∧ k = n := by
  by_cases hc : c
  · rw [if_pos hc] at h
    exact ⟨hc, h⟩
  · rw [if_neg hc] at h
    exact absurd h hk
theorem vin_b {x b : Int32} {n : Nat} (h : ¬ bad x b) (hb : (b - 1).toInt + 1 = n := by decide) : vp_in x n := by
  rw [vp_in_iff]
  have h0 : ¬ x < 0 := fun z => h (Or.inl z)
  have h1 : x ≤ b - 1 := Classical.byContradiction fun z => h (Or.inr z)
  rw [Int32.lt_iff_toInt_lt] at h0
  rw [Int32.le_iff_toInt_le] at h1
  have h2 : (0 : Int32).toInt = 0 := by decide
  omega
def kOwnB (σ : Mem) (q b : Int32) : Nat := if bad q 4 then 1 else if bad b 12 then 1 else if σ 2 0 q.toNatClampNeg = 0 then 2 else if σ 8 b.toNatClampNeg 0 = q then 0 else 2
def kOwnE (σ : Mem) (q x : Int32) : Nat := if bad q 4 then 1 else if bad x 12 then 1 else if σ 2 0 q.toNatClampNeg = 0 then 2 else if σ 11 x.toNatClampNeg 0 = q then 0 else 2
def kCell (σ : Mem) (b : Nat) (i : Int32) : Nat := if i < 0 then 3 else if ¬ i < σ 9 b 0 then 3 else 0
set_option maxHeartbeats 4000000 in
set_option maxRecDepth 100000 in
theorem c_Sy_needBelow {S0 : State} {A0 : Array Value} {D : va_G} {ar : Nat → ClassId} {base : Nat} {σ : Mem} {l : Launch} (hlt : l.stackTraces = false) {x b : Int32} :
    MX l y_Sy_needBelow [Cond.code y_Sy_needBelow b_Sy_needBelow 2 none] (rmT 1) (PS S0 A0 D ar base σ [.int x, .int b]) (QP (fun k r => r = none ∧ k = if bad x b then 1 else 0)) (fun _ => False) := by
  refine cx_head hlt (by decide +kernel) (Nat.le_of_ble_eq_true rfl) ?_
  intro p ev s m below meth c ls C0 hP hl
  have C0 : Cx S0 A0 D ar base p l s m _ meth c R_Sy b_Sy_needBelow 2 none := C0
  obtain ⟨hx, hb, -⟩ := id C0
  have hl : lv_has ls 2 [(0, .int x), (1, .int b)] := hl
  refine lv_iload_n hx hb d_Sy_needBelow_0 rfl (lv_at hl 0 rfl) ?_
  refine lv_iconst (v := 0) hx hb d_Sy_needBelow_1 (by decide) ?_
  refine lv_iload_n hx hb d_Sy_needBelow_2 rfl (lv_at hl 1 rfl) ?_
  refine lv_iconst (v := 1) hx hb d_Sy_needBelow_3 (by decide) ?_
  refine lv_isub hx hb d_Sy_needBelow_4 ?_
  refine cs_PP C0 hP (cs_S C0 (As := [.int x, .int 0, .int (b - 1)]) k_ml_Sy_49 k_st_Sy_needWithin k_cd_Sy_needWithin k_in_Sy z_Sy_needWithin rfl d_Sy_needBelow_5) (c_Sy_needWithin hlt) hl.1 d_Sy_needBelow_5 (by decide) ⟨by decide, by decide⟩ (⟨by decide, by decide⟩) (fun k r hk hp => ⟨rfl, hp.2⟩) (fun r_2 h_1 => ?_)
  obtain rfl := h_1.1
  exact rP_v C0 (⟨by decide, by decide⟩) (⟨rfl, h_1.2⟩) d_Sy_needBelow_8
set_option maxHeartbeats 4000000 in
set_option maxRecDepth 100000 in
theorem c_Sy_needAlive {S0 : State} {A0 : Array Value} {D : va_G} {ar : Nat → ClassId} {base : Nat} {σ : Mem} {l : Launch} (hlt : l.stackTraces = false) {q : Int32} (hq : vp_in q 4) :
    MX l y_Sy_needAlive [Cond.code y_Sy_needAlive b_Sy_needAlive 2 none] (rmT 0) (PS S0 A0 D ar base σ [.ref (base + ad 0 0), .int q]) (QP (fun k r => r = none ∧ k = if σ 2 0 q.toNatClampNeg = 0 then 2 else 0)) (fun _ => False) := by
  refine cx_head hlt (by decide +kernel) (Nat.le_of_ble_eq_true rfl) ?_
  intro p ev s m below meth c ls C0 hP hl
  have C0 : Cx S0 A0 D ar base p l s m _ meth c R_Sy b_Sy_needAlive 2 none := C0
  obtain ⟨hx, hb, -⟩ := id C0
  have hl : lv_has ls 2 [(0, .ref (base + ad 0 0)), (1, .int q)] := hl
  refine lv_aload_n hx hb d_Sy_needAlive_0 rfl (lv_at hl 0 rfl) ?_
  refine q_get C0 hP (kd := 0) (i := 0) (ci := 0) (by decide) (by decide) rfl rfl 4 (by decide) rfl k_fl_Sy_24 rfl d_Sy_needAlive_1 ?_
  refine lv_iload_n hx hb d_Sy_needAlive_4 rfl (lv_at hl 1 rfl) ?_
  refine q_zald C0 hP (kd := 3) (i := 0) (by decide) (by decide) rfl (hq) d_Sy_needAlive_5 ?_
  refine lv_if_ne (tgt := 19) hx hb d_Sy_needAlive_6 (by decide) (fun c_6 => ?_) (fun c_6 => ?_)
  · skip
    exact rP_v C0 (⟨by decide, by decide⟩) (⟨rfl, by simp [c_6]⟩) d_Sy_needAlive_19
  · skip
    exact tP_2 C0 k_sr_Sy_232 xs_232 hl.1 d_Sy_needAlive_9 d_Sy_needAlive_12 d_Sy_needAlive_13 d_Sy_needAlive_15 d_Sy_needAlive_18 (by decide) (by decide) (⟨by decide, by decide⟩) (⟨rfl, by simp [c_6]⟩)
set_option maxHeartbeats 4000000 in
set_option maxRecDepth 100000 in
theorem c_Sy_needAllowed {S0 : State} {A0 : Array Value} {D : va_G} {ar : Nat → ClassId} {base : Nat} {σ : Mem} {l : Launch} (hlt : l.stackTraces = false) {x : Int32} :
    MX l y_Sy_needAllowed [Cond.code y_Sy_needAllowed b_Sy_needAllowed 1 none] (rmT 0) (PS S0 A0 D ar base σ [.int x]) (QP (fun k r => r = none ∧ k = if x = -1 then 2 else 0)) (fun _ => False) := by
  refine cx_head hlt (by decide +kernel) (Nat.le_of_ble_eq_true rfl) ?_
  intro p ev s m below meth c ls C0 hP hl
  have C0 : Cx S0 A0 D ar base p l s m _ meth c R_Sy b_Sy_needAllowed 1 none := C0
  obtain ⟨hx, hb, -⟩ := id C0
  have hl : lv_has ls 1 [(0, .int x)] := hl
  refine lv_iload_n hx hb d_Sy_needAllowed_0 rfl (lv_at hl 0 rfl) ?_
  refine lv_iconst (v := (-1)) hx hb d_Sy_needAllowed_1 (by decide) ?_
  refine lv_icmp_ne (tgt := 15) hx hb d_Sy_needAllowed_2 (by decide) (fun c_2 => ?_) (fun c_2 => ?_)
  · skip
    exact rP_v C0 (⟨by decide, by decide⟩) (⟨rfl, by simp [c_2]⟩) d_Sy_needAllowed_15
  · skip
    exact tP_2 C0 k_sr_Sy_240 xs_240 hl.1 d_Sy_needAllowed_5 d_Sy_needAllowed_8 d_Sy_needAllowed_9 d_Sy_needAllowed_11 d_Sy_needAllowed_14 (by decide) (by decide) (⟨by decide, by decide⟩) (⟨rfl, by simp [c_2]⟩)
set_option maxHeartbeats 4000000 in
set_option maxRecDepth 100000 in
theorem c_Sy_needOwnBlock {S0 : State} {A0 : Array Value} {D : va_G} {ar : Nat → ClassId} {base : Nat} {σ : Mem} {l : Launch} (hlt : l.stackTraces = false) {q b : Int32} :
    MX l y_Sy_needOwnBlock [Cond.code y_Sy_needOwnBlock b_Sy_needOwnBlock 3 none] (rmT 2) (PS S0 A0 D ar base σ [.ref (base + ad 0 0), .int q, .int b]) (QP (fun k r => r = none ∧ k = kOwnB σ q b)) (fun _ => False) := by
  refine cx_head hlt (by decide +kernel) (Nat.le_of_ble_eq_true rfl) ?_
  intro p ev s m below meth c ls C0 hP hl
  have C0 : Cx S0 A0 D ar base p l s m _ meth c R_Sy b_Sy_needOwnBlock 3 none := C0
  obtain ⟨hx, hb, -⟩ := id C0
  have hl : lv_has ls 3 [(0, .ref (base + ad 0 0)), (1, .int q), (2, .int b)] := hl
  refine lv_iload_n hx hb d_Sy_needOwnBlock_0 rfl (lv_at hl 1 rfl) ?_
  refine lv_iconst (v := 4) hx hb d_Sy_needOwnBlock_1 (by decide) ?_
  refine cs_PP C0 hP (cs_S C0 (As := [.int q, .int 4]) k_ml_Sy_64 k_st_Sy_needBelow k_cd_Sy_needBelow k_in_Sy z_Sy_needBelow rfl d_Sy_needOwnBlock_2) (c_Sy_needBelow hlt) hl.1 d_Sy_needOwnBlock_2 (by decide) ⟨by decide, by decide⟩ (⟨by decide, by decide⟩) (fun k r hk hp => by obtain ⟨hc, rfl⟩ := nz_k hp.2 hk; exact ⟨rfl, by unfold kOwnB; rw [if_pos hc]⟩) (fun r_2 h_1 => ?_)
  have g_3 := nz_ok h_1.2
  obtain rfl := h_1.1
  refine lv_iload_n hx hb d_Sy_needOwnBlock_5 rfl (lv_at hl 2 rfl) ?_
  refine lv_bipush (v := 12) hx hb d_Sy_needOwnBlock_6 (by decide) ?_
  refine cs_PP C0 hP (cs_S C0 (As := [.int b, .int 12]) k_ml_Sy_64 k_st_Sy_needBelow k_cd_Sy_needBelow k_in_Sy z_Sy_needBelow rfl d_Sy_needOwnBlock_8) (c_Sy_needBelow hlt) hl.1 d_Sy_needOwnBlock_8 (by decide) ⟨by decide, by decide⟩ (⟨by decide, by decide⟩) (fun k r hk hp => by obtain ⟨hc, rfl⟩ := nz_k hp.2 hk; exact ⟨rfl, by unfold kOwnB; rw [if_neg g_3, if_pos hc]⟩) (fun r_5 h_4 => ?_)
  have g_6 := nz_ok h_4.2
  obtain rfl := h_4.1
  refine lv_aload_n hx hb d_Sy_needOwnBlock_11 rfl (lv_at hl 0 rfl) ?_
  refine lv_iload_n hx hb d_Sy_needOwnBlock_12 rfl (lv_at hl 1 rfl) ?_
  refine cs_PP C0 hP (cs_V C0 hP (kd := 0) (i := 0) (ci := 0) (As := [.int q]) (by decide) (by decide) rfl rfl k_ml_Sy_86 k_im_Sy_needAlive k_sl_Sy_Sy_needAlive k_cd_Sy_needAlive k_in_Sy z_Sy_needAlive rfl d_Sy_needOwnBlock_13) (c_Sy_needAlive hlt (vin_b g_3)) hl.1 d_Sy_needOwnBlock_13 (by decide) ⟨by decide, by decide⟩ (⟨by decide, by decide⟩) (fun k r hk hp => by obtain ⟨hc, rfl⟩ := nz_k hp.2 hk; exact ⟨rfl, by unfold kOwnB; rw [if_neg g_3, if_neg g_6, if_pos hc]⟩) (fun r_8 h_7 => ?_)
  have g_9 := nz_ok h_7.2
  obtain rfl := h_7.1
  refine lv_aload_n hx hb d_Sy_needOwnBlock_16 rfl (lv_at hl 0 rfl) ?_
  refine q_get C0 hP (kd := 0) (i := 0) (ci := 0) (by decide) (by decide) rfl rfl 5 (by decide) rfl k_fl_Sy_30 rfl d_Sy_needOwnBlock_17 ?_
  refine lv_iload_n hx hb d_Sy_needOwnBlock_20 rfl (lv_at hl 2 rfl) ?_
  refine q_aald C0 hP (kd := 4) (i := 0) (t0 := 4) (v := base + ad 12 b.toNatClampNeg) (by decide) (by decide) rfl rfl (rfl) (vin_b g_6) d_Sy_needOwnBlock_21 ?_
  refine q_getN C0 hP (kd := 12) (i := b.toNatClampNeg) (ci := 2) (by decide) (vin_lt (vin_b g_6)) rfl rfl 1 (by decide) rfl k_fn_Sy_93 rfl d_Sy_needOwnBlock_22 ?_
  refine lv_iload_n hx hb d_Sy_needOwnBlock_25 rfl (lv_at hl 1 rfl) ?_
  refine lv_icmp_eq (tgt := 39) hx hb d_Sy_needOwnBlock_26 (by decide) (fun c_26 => ?_) (fun c_26 => ?_)
  · skip
    exact rP_v C0 (⟨by decide, by decide⟩) (⟨rfl, by unfold kOwnB; rw [if_neg g_3, if_neg g_6, if_neg g_9, if_pos c_26]⟩) d_Sy_needOwnBlock_39
  · skip
    exact tP_2 C0 k_sr_Sy_234 xs_234 hl.1 d_Sy_needOwnBlock_29 d_Sy_needOwnBlock_32 d_Sy_needOwnBlock_33 d_Sy_needOwnBlock_35 d_Sy_needOwnBlock_38 (by decide) (by decide) (⟨by decide, by decide⟩) (⟨rfl, by unfold kOwnB; rw [if_neg g_3, if_neg g_6, if_neg g_9, if_neg c_26]⟩)
set_option maxHeartbeats 4000000 in
set_option maxRecDepth 100000 in
theorem c_Sy_needOwnEnd {S0 : State} {A0 : Array Value} {D : va_G} {ar : Nat → ClassId} {base : Nat} {σ : Mem} {l : Launch} (hlt : l.stackTraces = false) {q x : Int32} :
    MX l y_Sy_needOwnEnd [Cond.code y_Sy_needOwnEnd b_Sy_needOwnEnd 3 none] (rmT 2) (PS S0 A0 D ar base σ [.ref (base + ad 0 0), .int q, .int x]) (QP (fun k r => r = none ∧ k = kOwnE σ q x)) (fun _ => False) := by
  refine cx_head hlt (by decide +kernel) (Nat.le_of_ble_eq_true rfl) ?_
  intro p ev s m below meth c ls C0 hP hl
  have C0 : Cx S0 A0 D ar base p l s m _ meth c R_Sy b_Sy_needOwnEnd 3 none := C0
  obtain ⟨hx, hb, -⟩ := id C0
  have hl : lv_has ls 3 [(0, .ref (base + ad 0 0)), (1, .int q), (2, .int x)] := hl
  refine lv_iload_n hx hb d_Sy_needOwnEnd_0 rfl (lv_at hl 1 rfl) ?_
  refine lv_iconst (v := 4) hx hb d_Sy_needOwnEnd_1 (by decide) ?_
  refine cs_PP C0 hP (cs_S C0 (As := [.int q, .int 4]) k_ml_Sy_64 k_st_Sy_needBelow k_cd_Sy_needBelow k_in_Sy z_Sy_needBelow rfl d_Sy_needOwnEnd_2) (c_Sy_needBelow hlt) hl.1 d_Sy_needOwnEnd_2 (by decide) ⟨by decide, by decide⟩ (⟨by decide, by decide⟩) (fun k r hk hp => by obtain ⟨hc, rfl⟩ := nz_k hp.2 hk; exact ⟨rfl, by unfold kOwnE; rw [if_pos hc]⟩) (fun r_2 h_1 => ?_)
  have g_3 := nz_ok h_1.2
  obtain rfl := h_1.1
  refine lv_iload_n hx hb d_Sy_needOwnEnd_5 rfl (lv_at hl 2 rfl) ?_
  refine lv_bipush (v := 12) hx hb d_Sy_needOwnEnd_6 (by decide) ?_
  refine cs_PP C0 hP (cs_S C0 (As := [.int x, .int 12]) k_ml_Sy_64 k_st_Sy_needBelow k_cd_Sy_needBelow k_in_Sy z_Sy_needBelow rfl d_Sy_needOwnEnd_8) (c_Sy_needBelow hlt) hl.1 d_Sy_needOwnEnd_8 (by decide) ⟨by decide, by decide⟩ (⟨by decide, by decide⟩) (fun k r hk hp => by obtain ⟨hc, rfl⟩ := nz_k hp.2 hk; exact ⟨rfl, by unfold kOwnE; rw [if_neg g_3, if_pos hc]⟩) (fun r_5 h_4 => ?_)
  have g_6 := nz_ok h_4.2
  obtain rfl := h_4.1
  refine lv_aload_n hx hb d_Sy_needOwnEnd_11 rfl (lv_at hl 0 rfl) ?_
  refine lv_iload_n hx hb d_Sy_needOwnEnd_12 rfl (lv_at hl 1 rfl) ?_
  refine cs_PP C0 hP (cs_V C0 hP (kd := 0) (i := 0) (ci := 0) (As := [.int q]) (by decide) (by decide) rfl rfl k_ml_Sy_86 k_im_Sy_needAlive k_sl_Sy_Sy_needAlive k_cd_Sy_needAlive k_in_Sy z_Sy_needAlive rfl d_Sy_needOwnEnd_13) (c_Sy_needAlive hlt (vin_b g_3)) hl.1 d_Sy_needOwnEnd_13 (by decide) ⟨by decide, by decide⟩ (⟨by decide, by decide⟩) (fun k r hk hp => by obtain ⟨hc, rfl⟩ := nz_k hp.2 hk; exact ⟨rfl, by unfold kOwnE; rw [if_neg g_3, if_neg g_6, if_pos hc]⟩) (fun r_8 h_7 => ?_)
  have g_9 := nz_ok h_7.2
  obtain rfl := h_7.1
  refine lv_aload_n hx hb d_Sy_needOwnEnd_16 rfl (lv_at hl 0 rfl) ?_
  refine q_get C0 hP (kd := 0) (i := 0) (ci := 0) (by decide) (by decide) rfl rfl 7 (by decide) rfl k_fl_Sy_40 rfl d_Sy_needOwnEnd_17 ?_
  refine lv_iload_n hx hb d_Sy_needOwnEnd_20 rfl (lv_at hl 2 rfl) ?_
  refine q_aald C0 hP (kd := 6) (i := 0) (t0 := 5) (v := base + ad 14 x.toNatClampNeg) (by decide) (by decide) rfl rfl (rfl) (vin_b g_6) d_Sy_needOwnEnd_21 ?_
  refine q_getN C0 hP (kd := 14) (i := x.toNatClampNeg) (ci := 3) (by decide) (vin_lt (vin_b g_6)) rfl rfl 2 (by decide) rfl k_fn_Sy_99 rfl d_Sy_needOwnEnd_22 ?_
  refine lv_iload_n hx hb d_Sy_needOwnEnd_25 rfl (lv_at hl 1 rfl) ?_
  refine lv_icmp_eq (tgt := 39) hx hb d_Sy_needOwnEnd_26 (by decide) (fun c_26 => ?_) (fun c_26 => ?_)
  · skip
    exact rP_v C0 (⟨by decide, by decide⟩) (⟨rfl, by unfold kOwnE; rw [if_neg g_3, if_neg g_6, if_neg g_9, if_pos c_26]⟩) d_Sy_needOwnEnd_39
  · skip
    exact tP_2 C0 k_sr_Sy_238 xs_238 hl.1 d_Sy_needOwnEnd_29 d_Sy_needOwnEnd_32 d_Sy_needOwnEnd_33 d_Sy_needOwnEnd_35 d_Sy_needOwnEnd_38 (by decide) (by decide) (⟨by decide, by decide⟩) (⟨rfl, by unfold kOwnE; rw [if_neg g_3, if_neg g_6, if_neg g_9, if_neg c_26]⟩)
set_option maxHeartbeats 4000000 in
set_option maxRecDepth 100000 in
theorem c_Sy_needCell {S0 : State} {A0 : Array Value} {D : va_G} {ar : Nat → ClassId} {base : Nat} {σ : Mem} {l : Launch} (hlt : l.stackTraces = false) {b i : Int32} (hb0 : vp_in b 12) :
    MX l y_Sy_needCell [Cond.code y_Sy_needCell b_Sy_needCell 3 none] (rmT 0) (PS S0 A0 D ar base σ [.ref (base + ad 0 0), .int b, .int i]) (QP (fun k r => r = none ∧ k = kCell σ b.toNatClampNeg i)) (fun _ => False) := by
  refine cx_head hlt (by decide +kernel) (Nat.le_of_ble_eq_true rfl) ?_
  intro p ev s m below meth c ls C0 hP hl
  have C0 : Cx S0 A0 D ar base p l s m _ meth c R_Sy b_Sy_needCell 3 none := C0
  obtain ⟨hx, hb, -⟩ := id C0
  have hl : lv_has ls 3 [(0, .ref (base + ad 0 0)), (1, .int b), (2, .int i)] := hl
  refine lv_iload_n hx hb d_Sy_needCell_0 rfl (lv_at hl 2 rfl) ?_
  refine lv_if_lt (tgt := 17) hx hb d_Sy_needCell_1 (by decide) (fun c_1 => ?_) (fun c_1 => ?_)
  · skip
    exact tP_3 C0 k_sr_Sy_236 xs_236 hl.1 d_Sy_needCell_17 d_Sy_needCell_20 d_Sy_needCell_21 d_Sy_needCell_23 d_Sy_needCell_26 (by decide) (by decide) (⟨by decide, by decide⟩) (⟨rfl, by simp [kCell, c_1]⟩)
  · skip
    refine lv_iload_n hx hb d_Sy_needCell_4 rfl (lv_at hl 2 rfl) ?_
    refine lv_aload_n hx hb d_Sy_needCell_5 rfl (lv_at hl 0 rfl) ?_
    refine q_get C0 hP (kd := 0) (i := 0) (ci := 0) (by decide) (by decide) rfl rfl 5 (by decide) rfl k_fl_Sy_30 rfl d_Sy_needCell_6 ?_
    refine lv_iload_n hx hb d_Sy_needCell_9 rfl (lv_at hl 1 rfl) ?_
    refine q_aald C0 hP (kd := 4) (i := 0) (t0 := 4) (v := base + ad 12 b.toNatClampNeg) (by decide) (by decide) rfl rfl (rfl) (hb0) d_Sy_needCell_10 ?_
    refine q_getN C0 hP (kd := 12) (i := b.toNatClampNeg) (ci := 2) (by decide) (vin_lt (hb0)) rfl rfl 2 (by decide) rfl k_fn_Sy_211 rfl d_Sy_needCell_11 ?_
    refine lv_icmp_lt (tgt := 27) hx hb d_Sy_needCell_14 (by decide) (fun c_14 => ?_) (fun c_14 => ?_)
    · skip
      exact rP_v C0 (⟨by decide, by decide⟩) (⟨rfl, by simp [kCell, c_1, c_14]⟩) d_Sy_needCell_27
    · skip
      exact tP_3 C0 k_sr_Sy_236 xs_236 hl.1 d_Sy_needCell_17 d_Sy_needCell_20 d_Sy_needCell_21 d_Sy_needCell_23 d_Sy_needCell_26 (by decide) (by decide) (⟨by decide, by decide⟩) (⟨rfl, by simp [kCell, c_1, c_14]⟩)
end
section
/-! The class's counts and searches: rows laid by gen/m22.py. -/
theorem b2i_z {c : Prop} [Decidable c] : b2i c = 0 ↔ ¬ c := by
  unfold b2i
  split <;> simp_all
theorem ge_nI {N k : Nat} {x : Int32} (h : x ≤ nI k) (hx : x = nI N := by decide) (hk : k < 2 ^ 31 := by omega) (hN : N < 2 ^ 31 := by decide) : N ≤ k := by
  subst hx
  exact (nI_leI hN hk).mp h
theorem lt_nI {N k : Nat} {x : Int32} (h : ¬ x ≤ nI k) (hx : x = nI N := by decide) (hk : k < 2 ^ 31 := by omega) (hN : N < 2 ^ 31 := by decide) : k < N := by
  subst hx
  exact Nat.lt_of_not_le fun z => h ((nI_leI hN hk).mpr z)
def LFB (σ : Mem) (b : Nat) : Prop := b ≤ 12 ∧ (∀ j, j < b → ¬ σ 8 j 0 = -1) ∧ (b < 12 → σ 8 b 0 = -1)
def LFC (σ : Mem) (c : Nat) : Prop := c ≤ 6 ∧ (∀ j, j < c → ¬ (σ 11 (2 * j) 0 = -1 ∧ σ 11 (2 * j + 1) 0 = -1)) ∧ (c < 6 → σ 11 (2 * c) 0 = -1 ∧ σ 11 (2 * c + 1) 0 = -1)
def RUL (σ : Mem) (c : Nat) (st lt : Int32) (sz r : Nat) : Prop := r ≤ sz ∧ (∀ j, j < r → ¬ (σ 4 c j = st ∧ σ 5 c j = lt)) ∧ (r < sz → σ 4 c r = st ∧ σ 5 c r = lt)
abbrev sAlive (σ : Mem) : Nat → Int32 := bx_sum (fun j => b2i (¬ σ 2 0 j = 0))
abbrev sBlocks (σ : Mem) : Nat → Int32 := bx_sum (fun j => b2i (¬ σ 8 j 0 = -1))
abbrev sCells (σ : Mem) : Nat → Int32 := bx_sum (fun j => σ 9 j 0)
abbrev sOpen (σ : Mem) : Nat → Int32 := bx_sum (fun j => b2i (¬ σ 11 j 0 = -1))
abbrev sWait (σ : Mem) : Nat → Int32 := bx_sum (fun j => σ 13 j 0)
abbrev sMade (σ : Mem) : Nat → Int32 := bx_sum (fun j => b2i (¬ σ 3 (j + 1) 0 = 0))
set_option maxHeartbeats 4000000 in
set_option maxRecDepth 100000 in
theorem c_Sy_processesAlive {S0 : State} {A0 : Array Value} {D : va_G} {ar : Nat → ClassId} {base : Nat} {σ : Mem} {l : Launch} (hlt : l.stackTraces = false)  :
    MX l y_Sy_processesAlive [Cond.code y_Sy_processesAlive b_Sy_processesAlive 3 (some .int)] (rmL 1) (PS S0 A0 D ar base σ [.ref (base + ad 0 0)]) (QP (fun k r => k = 0 ∧ r = some (sAlive σ 4))) (fun _ => False) := by
  refine cx_head hlt (by decide +kernel) (Nat.le_of_ble_eq_true rfl) ?_
  intro p ev s m below meth c ls C0 hP hl
  have C0 : Cx S0 A0 D ar base p l s m _ meth c R_Sy b_Sy_processesAlive 3 (some .int) := C0
  obtain ⟨hx, hb, -⟩ := id C0
  have hl : lv_has ls 3 [(0, .ref (base + ad 0 0))] := hl
  refine lv_iconst (v := 0) hx hb d_Sy_processesAlive_0 (by decide) ?_
  refine lv_istore_n (lv' := [(1, .int 0), (0, .ref (base + ad 0 0))]) hx hb d_Sy_processesAlive_1 rfl hl (by decide) rfl (fun ls hl => ?_)
  refine lv_iconst (v := 0) hx hb d_Sy_processesAlive_2 (by decide) ?_
  refine lv_istore_n (lv' := [(2, .int 0), (1, .int 0), (0, .ref (base + ad 0 0))]) hx hb d_Sy_processesAlive_3 rfl hl (by decide) rfl (fun ls hl => ?_)
  have loop : ∀ (n k : Nat), k ≤ 4 → 4 + 1 ≤ k + n → ∀ ls : Array Slot, lv_has ls 3 [(1, .int (sAlive σ k)), (2, .int (nI k)), (0, .ref (base + ad 0 0))] → W p l ev (rmL 1) s m ([.ref (base + ad 0 0)] : List Value).toArray below meth c s.heap [] 0 0 (MQX below (QP (fun k r => k = 0 ∧ r = some (sAlive σ 4))) ([.ref (base + ad 0 0)] : List Value).toArray s (rmL 1).cells (rmL 1).slots (fun _ => False)) (F0 m 4 ls []) := by
    intro n
    induction n with
    | zero => intro k h1 h2; omega
    | succ n ih =>
      intro k hk1 hk2 ls hl
      refine lv_iload_n hx hb d_Sy_processesAlive_4 rfl (lv_at hl 1 rfl) ?_
      refine lv_iconst (v := 4) hx hb d_Sy_processesAlive_5 (by decide) ?_
      refine lv_icmp_ge (tgt := 32) hx hb d_Sy_processesAlive_6 (by decide) (fun c_6 => ?_) (fun c_6 => ?_)
      · skip
        have hkN : k = 4 := by have := ge_nI (N := 4) c_6; omega
        subst hkN
        refine lv_iload_n hx hb d_Sy_processesAlive_32 rfl (lv_at hl 0 rfl) ?_
        exact rP_i C0 (⟨by decide, by decide⟩) (⟨rfl, rfl⟩) d_Sy_processesAlive_33
      · skip
        have hkN : k < 4 := lt_nI (N := 4) c_6
        refine lv_iload_n hx hb d_Sy_processesAlive_9 rfl (lv_at hl 0 rfl) ?_
        refine lv_aload_n hx hb d_Sy_processesAlive_10 rfl (lv_at hl 2 rfl) ?_
        refine q_get C0 hP (kd := 0) (i := 0) (ci := 0) (by decide) (by decide) rfl rfl 4 (by decide) rfl k_fl_Sy_24 rfl d_Sy_processesAlive_11 ?_
        refine lv_iload_n hx hb d_Sy_processesAlive_14 rfl (lv_at hl 1 rfl) ?_
        refine q_zald C0 hP (kd := 3) (i := 0) (by decide) (by decide) rfl (vin_nI hkN) d_Sy_processesAlive_15 ?_
        rw [show (nI k).toNatClampNeg = k from nI_clamp (by omega)]
        refine lv_if_eq (tgt := 23) hx hb d_Sy_processesAlive_16 (by decide) (fun c_16 => ?_) (fun c_16 => ?_)
        · skip
          refine lv_iconst (v := 0) hx hb d_Sy_processesAlive_23 (by decide) ?_
          refine lv_iadd hx hb d_Sy_processesAlive_24 ?_
          refine lv_istore_n (lv' := [(1, .int ((sAlive σ k) + 0)), (2, .int (nI k)), (0, .ref (base + ad 0 0))]) hx hb d_Sy_processesAlive_25 rfl hl (by decide) rfl (fun ls hl => ?_)
          refine lv_iinc (v := nI (k + 1)) (lv' := [(2, .int (nI (k + 1))), (1, .int ((sAlive σ k) + 0)), (0, .ref (base + ad 0 0))]) hx hb d_Sy_processesAlive_26 hl (k := 1) rfl (by exact nI_1 k) (by decide) rfl (fun ls hl => ?_)
          refine lv_goto (tgt := 4) hx hb d_Sy_processesAlive_29 (by decide) ?_
          rw [show ((sAlive σ k) + 0 : Int32) = sAlive σ (k + 1) from congrArg (fun z => sAlive σ k + z) (by simp [b2i, c_16])] at hl
          exact ih (k + 1) (by omega) (by omega) ls (lv_sub hl [1, 0, 2] rfl)
        · skip
          refine lv_iconst (v := 1) hx hb d_Sy_processesAlive_19 (by decide) ?_
          refine lv_goto (tgt := 24) hx hb d_Sy_processesAlive_20 (by decide) ?_
          refine lv_iadd hx hb d_Sy_processesAlive_24 ?_
          refine lv_istore_n (lv' := [(1, .int ((sAlive σ k) + 1)), (2, .int (nI k)), (0, .ref (base + ad 0 0))]) hx hb d_Sy_processesAlive_25 rfl hl (by decide) rfl (fun ls hl => ?_)
          refine lv_iinc (v := nI (k + 1)) (lv' := [(2, .int (nI (k + 1))), (1, .int ((sAlive σ k) + 1)), (0, .ref (base + ad 0 0))]) hx hb d_Sy_processesAlive_26 hl (k := 1) rfl (by exact nI_1 k) (by decide) rfl (fun ls hl => ?_)
          refine lv_goto (tgt := 4) hx hb d_Sy_processesAlive_29 (by decide) ?_
          rw [show ((sAlive σ k) + 1 : Int32) = sAlive σ (k + 1) from congrArg (fun z => sAlive σ k + z) (by simp [b2i, c_16])] at hl
          exact ih (k + 1) (by omega) (by omega) ls (lv_sub hl [1, 0, 2] rfl)
  exact loop (4 + 1) 0 (by omega) (by omega) ls (lv_sub hl [1, 0, 2] rfl)
set_option maxHeartbeats 4000000 in
set_option maxRecDepth 100000 in
theorem c_Sy_cellsInUse {S0 : State} {A0 : Array Value} {D : va_G} {ar : Nat → ClassId} {base : Nat} {σ : Mem} {l : Launch} (hlt : l.stackTraces = false)  :
    MX l y_Sy_cellsInUse [Cond.code y_Sy_cellsInUse b_Sy_cellsInUse 3 (some .int)] (rmL 1) (PS S0 A0 D ar base σ [.ref (base + ad 0 0)]) (QP (fun k r => k = 0 ∧ r = some (sCells σ 12))) (fun _ => False) := by
  refine cx_head hlt (by decide +kernel) (Nat.le_of_ble_eq_true rfl) ?_
  intro p ev s m below meth c ls C0 hP hl
  have C0 : Cx S0 A0 D ar base p l s m _ meth c R_Sy b_Sy_cellsInUse 3 (some .int) := C0
  obtain ⟨hx, hb, -⟩ := id C0
  have hl : lv_has ls 3 [(0, .ref (base + ad 0 0))] := hl
  refine lv_iconst (v := 0) hx hb d_Sy_cellsInUse_0 (by decide) ?_
  refine lv_istore_n (lv' := [(1, .int 0), (0, .ref (base + ad 0 0))]) hx hb d_Sy_cellsInUse_1 rfl hl (by decide) rfl (fun ls hl => ?_)
  refine lv_iconst (v := 0) hx hb d_Sy_cellsInUse_2 (by decide) ?_
  refine lv_istore_n (lv' := [(2, .int 0), (1, .int 0), (0, .ref (base + ad 0 0))]) hx hb d_Sy_cellsInUse_3 rfl hl (by decide) rfl (fun ls hl => ?_)
  have loop : ∀ (n k : Nat), k ≤ 12 → 12 + 1 ≤ k + n → ∀ ls : Array Slot, lv_has ls 3 [(1, .int (sCells σ k)), (2, .int (nI k)), (0, .ref (base + ad 0 0))] → W p l ev (rmL 1) s m ([.ref (base + ad 0 0)] : List Value).toArray below meth c s.heap [] 0 0 (MQX below (QP (fun k r => k = 0 ∧ r = some (sCells σ 12))) ([.ref (base + ad 0 0)] : List Value).toArray s (rmL 1).cells (rmL 1).slots (fun _ => False)) (F0 m 4 ls []) := by
    intro n
    induction n with
    | zero => intro k h1 h2; omega
    | succ n ih =>
      intro k hk1 hk2 ls hl
      refine lv_iload_n hx hb d_Sy_cellsInUse_4 rfl (lv_at hl 1 rfl) ?_
      refine lv_bipush (v := 12) hx hb d_Sy_cellsInUse_5 (by decide) ?_
      refine lv_icmp_ge (tgt := 28) hx hb d_Sy_cellsInUse_7 (by decide) (fun c_7 => ?_) (fun c_7 => ?_)
      · skip
        have hkN : k = 12 := by have := ge_nI (N := 12) c_7; omega
        subst hkN
        refine lv_iload_n hx hb d_Sy_cellsInUse_28 rfl (lv_at hl 0 rfl) ?_
        exact rP_i C0 (⟨by decide, by decide⟩) (⟨rfl, rfl⟩) d_Sy_cellsInUse_29
      · skip
        have hkN : k < 12 := lt_nI (N := 12) c_7
        refine lv_iload_n hx hb d_Sy_cellsInUse_10 rfl (lv_at hl 0 rfl) ?_
        refine lv_aload_n hx hb d_Sy_cellsInUse_11 rfl (lv_at hl 2 rfl) ?_
        refine q_get C0 hP (kd := 0) (i := 0) (ci := 0) (by decide) (by decide) rfl rfl 5 (by decide) rfl k_fl_Sy_30 rfl d_Sy_cellsInUse_12 ?_
        refine lv_iload_n hx hb d_Sy_cellsInUse_15 rfl (lv_at hl 1 rfl) ?_
        refine q_aald C0 hP (kd := 4) (i := 0) (t0 := 4) (v := base + ad 12 k) (by decide) (by decide) rfl rfl (by rw [nI_clamp (by omega)]) (vin_nI hkN) d_Sy_cellsInUse_16 ?_
        refine q_getN C0 hP (kd := 12) (i := k) (ci := 2) (by decide) (hkN) rfl rfl 2 (by decide) rfl k_fn_Sy_211 rfl d_Sy_cellsInUse_17 ?_
        refine lv_iadd hx hb d_Sy_cellsInUse_20 ?_
        refine lv_istore_n (lv' := [(1, .int ((sCells σ k) + (σ 9 k 0))), (2, .int (nI k)), (0, .ref (base + ad 0 0))]) hx hb d_Sy_cellsInUse_21 rfl hl (by decide) rfl (fun ls hl => ?_)
        refine lv_iinc (v := nI (k + 1)) (lv' := [(2, .int (nI (k + 1))), (1, .int ((sCells σ k) + (σ 9 k 0))), (0, .ref (base + ad 0 0))]) hx hb d_Sy_cellsInUse_22 hl (k := 1) rfl (by exact nI_1 k) (by decide) rfl (fun ls hl => ?_)
        refine lv_goto (tgt := 4) hx hb d_Sy_cellsInUse_25 (by decide) ?_
        rw [show ((sCells σ k) + (σ 9 k 0) : Int32) = sCells σ (k + 1) from congrArg (fun z => sCells σ k + z) (by simp [b2i])] at hl
        exact ih (k + 1) (by omega) (by omega) ls (lv_sub hl [1, 0, 2] rfl)
  exact loop (12 + 1) 0 (by omega) (by omega) ls (lv_sub hl [1, 0, 2] rfl)
set_option maxHeartbeats 4000000 in
set_option maxRecDepth 100000 in
theorem c_Sy_messagesWaiting {S0 : State} {A0 : Array Value} {D : va_G} {ar : Nat → ClassId} {base : Nat} {σ : Mem} {l : Launch} (hlt : l.stackTraces = false)  :
    MX l y_Sy_messagesWaiting [Cond.code y_Sy_messagesWaiting b_Sy_messagesWaiting 3 (some .int)] (rmL 1) (PS S0 A0 D ar base σ [.ref (base + ad 0 0)]) (QP (fun k r => k = 0 ∧ r = some (sWait σ 12))) (fun _ => False) := by
  refine cx_head hlt (by decide +kernel) (Nat.le_of_ble_eq_true rfl) ?_
  intro p ev s m below meth c ls C0 hP hl
  have C0 : Cx S0 A0 D ar base p l s m _ meth c R_Sy b_Sy_messagesWaiting 3 (some .int) := C0
  obtain ⟨hx, hb, -⟩ := id C0
  have hl : lv_has ls 3 [(0, .ref (base + ad 0 0))] := hl
  refine lv_iconst (v := 0) hx hb d_Sy_messagesWaiting_0 (by decide) ?_
  refine lv_istore_n (lv' := [(1, .int 0), (0, .ref (base + ad 0 0))]) hx hb d_Sy_messagesWaiting_1 rfl hl (by decide) rfl (fun ls hl => ?_)
  refine lv_iconst (v := 0) hx hb d_Sy_messagesWaiting_2 (by decide) ?_
  refine lv_istore_n (lv' := [(2, .int 0), (1, .int 0), (0, .ref (base + ad 0 0))]) hx hb d_Sy_messagesWaiting_3 rfl hl (by decide) rfl (fun ls hl => ?_)
  have loop : ∀ (n k : Nat), k ≤ 12 → 12 + 1 ≤ k + n → ∀ ls : Array Slot, lv_has ls 3 [(1, .int (sWait σ k)), (2, .int (nI k)), (0, .ref (base + ad 0 0))] → W p l ev (rmL 1) s m ([.ref (base + ad 0 0)] : List Value).toArray below meth c s.heap [] 0 0 (MQX below (QP (fun k r => k = 0 ∧ r = some (sWait σ 12))) ([.ref (base + ad 0 0)] : List Value).toArray s (rmL 1).cells (rmL 1).slots (fun _ => False)) (F0 m 4 ls []) := by
    intro n
    induction n with
    | zero => intro k h1 h2; omega
    | succ n ih =>
      intro k hk1 hk2 ls hl
      refine lv_iload_n hx hb d_Sy_messagesWaiting_4 rfl (lv_at hl 1 rfl) ?_
      refine lv_bipush (v := 12) hx hb d_Sy_messagesWaiting_5 (by decide) ?_
      refine lv_icmp_ge (tgt := 28) hx hb d_Sy_messagesWaiting_7 (by decide) (fun c_7 => ?_) (fun c_7 => ?_)
      · skip
        have hkN : k = 12 := by have := ge_nI (N := 12) c_7; omega
        subst hkN
        refine lv_iload_n hx hb d_Sy_messagesWaiting_28 rfl (lv_at hl 0 rfl) ?_
        exact rP_i C0 (⟨by decide, by decide⟩) (⟨rfl, rfl⟩) d_Sy_messagesWaiting_29
      · skip
        have hkN : k < 12 := lt_nI (N := 12) c_7
        refine lv_iload_n hx hb d_Sy_messagesWaiting_10 rfl (lv_at hl 0 rfl) ?_
        refine lv_aload_n hx hb d_Sy_messagesWaiting_11 rfl (lv_at hl 2 rfl) ?_
        refine q_get C0 hP (kd := 0) (i := 0) (ci := 0) (by decide) (by decide) rfl rfl 7 (by decide) rfl k_fl_Sy_40 rfl d_Sy_messagesWaiting_12 ?_
        refine lv_iload_n hx hb d_Sy_messagesWaiting_15 rfl (lv_at hl 1 rfl) ?_
        refine q_aald C0 hP (kd := 6) (i := 0) (t0 := 5) (v := base + ad 14 k) (by decide) (by decide) rfl rfl (by rw [nI_clamp (by omega)]) (vin_nI hkN) d_Sy_messagesWaiting_16 ?_
        refine q_getN C0 hP (kd := 14) (i := k) (ci := 3) (by decide) (hkN) rfl rfl 4 (by decide) rfl k_fn_Sy_178 rfl d_Sy_messagesWaiting_17 ?_
        refine lv_iadd hx hb d_Sy_messagesWaiting_20 ?_
        refine lv_istore_n (lv' := [(1, .int ((sWait σ k) + (σ 13 k 0))), (2, .int (nI k)), (0, .ref (base + ad 0 0))]) hx hb d_Sy_messagesWaiting_21 rfl hl (by decide) rfl (fun ls hl => ?_)
        refine lv_iinc (v := nI (k + 1)) (lv' := [(2, .int (nI (k + 1))), (1, .int ((sWait σ k) + (σ 13 k 0))), (0, .ref (base + ad 0 0))]) hx hb d_Sy_messagesWaiting_22 hl (k := 1) rfl (by exact nI_1 k) (by decide) rfl (fun ls hl => ?_)
        refine lv_goto (tgt := 4) hx hb d_Sy_messagesWaiting_25 (by decide) ?_
        rw [show ((sWait σ k) + (σ 13 k 0) : Int32) = sWait σ (k + 1) from congrArg (fun z => sWait σ k + z) (by simp [b2i])] at hl
        exact ih (k + 1) (by omega) (by omega) ls (lv_sub hl [1, 0, 2] rfl)
  exact loop (12 + 1) 0 (by omega) (by omega) ls (lv_sub hl [1, 0, 2] rfl)
set_option maxHeartbeats 4000000 in
set_option maxRecDepth 100000 in
theorem c_Sy_blocksInUse {S0 : State} {A0 : Array Value} {D : va_G} {ar : Nat → ClassId} {base : Nat} {σ : Mem} {l : Launch} (hlt : l.stackTraces = false)  :
    MX l y_Sy_blocksInUse [Cond.code y_Sy_blocksInUse b_Sy_blocksInUse 3 (some .int)] (rmL 1) (PS S0 A0 D ar base σ [.ref (base + ad 0 0)]) (QP (fun k r => k = 0 ∧ r = some (sBlocks σ 12))) (fun _ => False) := by
  refine cx_head hlt (by decide +kernel) (Nat.le_of_ble_eq_true rfl) ?_
  intro p ev s m below meth c ls C0 hP hl
  have C0 : Cx S0 A0 D ar base p l s m _ meth c R_Sy b_Sy_blocksInUse 3 (some .int) := C0
  obtain ⟨hx, hb, -⟩ := id C0
  have hl : lv_has ls 3 [(0, .ref (base + ad 0 0))] := hl
  refine lv_iconst (v := 0) hx hb d_Sy_blocksInUse_0 (by decide) ?_
  refine lv_istore_n (lv' := [(1, .int 0), (0, .ref (base + ad 0 0))]) hx hb d_Sy_blocksInUse_1 rfl hl (by decide) rfl (fun ls hl => ?_)
  refine lv_iconst (v := 0) hx hb d_Sy_blocksInUse_2 (by decide) ?_
  refine lv_istore_n (lv' := [(2, .int 0), (1, .int 0), (0, .ref (base + ad 0 0))]) hx hb d_Sy_blocksInUse_3 rfl hl (by decide) rfl (fun ls hl => ?_)
  have loop : ∀ (n k : Nat), k ≤ 12 → 12 + 1 ≤ k + n → ∀ ls : Array Slot, lv_has ls 3 [(1, .int (sBlocks σ k)), (2, .int (nI k)), (0, .ref (base + ad 0 0))] → W p l ev (rmL 1) s m ([.ref (base + ad 0 0)] : List Value).toArray below meth c s.heap [] 0 0 (MQX below (QP (fun k r => k = 0 ∧ r = some (sBlocks σ 12))) ([.ref (base + ad 0 0)] : List Value).toArray s (rmL 1).cells (rmL 1).slots (fun _ => False)) (F0 m 4 ls []) := by
    intro n
    induction n with
    | zero => intro k h1 h2; omega
    | succ n ih =>
      intro k hk1 hk2 ls hl
      refine lv_iload_n hx hb d_Sy_blocksInUse_4 rfl (lv_at hl 1 rfl) ?_
      refine lv_bipush (v := 12) hx hb d_Sy_blocksInUse_5 (by decide) ?_
      refine lv_icmp_ge (tgt := 36) hx hb d_Sy_blocksInUse_7 (by decide) (fun c_7 => ?_) (fun c_7 => ?_)
      · skip
        have hkN : k = 12 := by have := ge_nI (N := 12) c_7; omega
        subst hkN
        refine lv_iload_n hx hb d_Sy_blocksInUse_36 rfl (lv_at hl 0 rfl) ?_
        exact rP_i C0 (⟨by decide, by decide⟩) (⟨rfl, rfl⟩) d_Sy_blocksInUse_37
      · skip
        have hkN : k < 12 := lt_nI (N := 12) c_7
        refine lv_iload_n hx hb d_Sy_blocksInUse_10 rfl (lv_at hl 0 rfl) ?_
        refine lv_aload_n hx hb d_Sy_blocksInUse_11 rfl (lv_at hl 2 rfl) ?_
        refine q_get C0 hP (kd := 0) (i := 0) (ci := 0) (by decide) (by decide) rfl rfl 5 (by decide) rfl k_fl_Sy_30 rfl d_Sy_blocksInUse_12 ?_
        refine lv_iload_n hx hb d_Sy_blocksInUse_15 rfl (lv_at hl 1 rfl) ?_
        refine q_aald C0 hP (kd := 4) (i := 0) (t0 := 4) (v := base + ad 12 k) (by decide) (by decide) rfl rfl (by rw [nI_clamp (by omega)]) (vin_nI hkN) d_Sy_blocksInUse_16 ?_
        refine cs_PP C0 hP (cs_V C0 hP (kd := 12) (i := k) (ci := 2) (As := []) (by decide) (hkN) rfl rfl k_ml_Sy_279 k_im_Bl_isFree k_sl_Bl_Bl_isFree k_cd_Bl_isFree k_in_Bl z_Bl_isFree rfl d_Sy_blocksInUse_17) (c_Bl_isFree hlt hkN) hl.1 d_Sy_blocksInUse_17 (Nat.le_of_ble_eq_true rfl) ⟨by decide, by decide⟩ (⟨by decide, by decide⟩) (fun k r hk hp => absurd hp.1 hk) (fun r_2 h_1 => ?_)
        obtain rfl := h_1.2
        refine lv_if_eq (tgt := 27) hx hb d_Sy_blocksInUse_20 (by decide) (fun c_20 => ?_) (fun c_20 => ?_)
        · skip
          have c_20 := b2i_z.mp c_20
          refine lv_iconst (v := 1) hx hb d_Sy_blocksInUse_27 (by decide) ?_
          refine lv_iadd hx hb d_Sy_blocksInUse_28 ?_
          refine lv_istore_n (lv' := [(1, .int ((sBlocks σ k) + 1)), (2, .int (nI k)), (0, .ref (base + ad 0 0))]) hx hb d_Sy_blocksInUse_29 rfl hl (by decide) rfl (fun ls hl => ?_)
          refine lv_iinc (v := nI (k + 1)) (lv' := [(2, .int (nI (k + 1))), (1, .int ((sBlocks σ k) + 1)), (0, .ref (base + ad 0 0))]) hx hb d_Sy_blocksInUse_30 hl (k := 1) rfl (by exact nI_1 k) (by decide) rfl (fun ls hl => ?_)
          refine lv_goto (tgt := 4) hx hb d_Sy_blocksInUse_33 (by decide) ?_
          rw [show ((sBlocks σ k) + 1 : Int32) = sBlocks σ (k + 1) from congrArg (fun z => sBlocks σ k + z) (by simp [b2i, c_20])] at hl
          exact ih (k + 1) (by omega) (by omega) ls (lv_sub hl [1, 0, 2] rfl)
        · skip
          have c_20 := b2i_ne.mp c_20
          refine lv_iconst (v := 0) hx hb d_Sy_blocksInUse_23 (by decide) ?_
          refine lv_goto (tgt := 28) hx hb d_Sy_blocksInUse_24 (by decide) ?_
          refine lv_iadd hx hb d_Sy_blocksInUse_28 ?_
          refine lv_istore_n (lv' := [(1, .int ((sBlocks σ k) + 0)), (2, .int (nI k)), (0, .ref (base + ad 0 0))]) hx hb d_Sy_blocksInUse_29 rfl hl (by decide) rfl (fun ls hl => ?_)
          refine lv_iinc (v := nI (k + 1)) (lv' := [(2, .int (nI (k + 1))), (1, .int ((sBlocks σ k) + 0)), (0, .ref (base + ad 0 0))]) hx hb d_Sy_blocksInUse_30 hl (k := 1) rfl (by exact nI_1 k) (by decide) rfl (fun ls hl => ?_)
          refine lv_goto (tgt := 4) hx hb d_Sy_blocksInUse_33 (by decide) ?_
          rw [show ((sBlocks σ k) + 0 : Int32) = sBlocks σ (k + 1) from congrArg (fun z => sBlocks σ k + z) (by simp [b2i, c_20])] at hl
          exact ih (k + 1) (by omega) (by omega) ls (lv_sub hl [1, 0, 2] rfl)
  exact loop (12 + 1) 0 (by omega) (by omega) ls (lv_sub hl [1, 0, 2] rfl)
set_option maxHeartbeats 4000000 in
set_option maxRecDepth 100000 in
theorem c_Sy_endsOpen {S0 : State} {A0 : Array Value} {D : va_G} {ar : Nat → ClassId} {base : Nat} {σ : Mem} {l : Launch} (hlt : l.stackTraces = false)  :
    MX l y_Sy_endsOpen [Cond.code y_Sy_endsOpen b_Sy_endsOpen 3 (some .int)] (rmL 1) (PS S0 A0 D ar base σ [.ref (base + ad 0 0)]) (QP (fun k r => k = 0 ∧ r = some (sOpen σ 12))) (fun _ => False) := by
  refine cx_head hlt (by decide +kernel) (Nat.le_of_ble_eq_true rfl) ?_
  intro p ev s m below meth c ls C0 hP hl
  have C0 : Cx S0 A0 D ar base p l s m _ meth c R_Sy b_Sy_endsOpen 3 (some .int) := C0
  obtain ⟨hx, hb, -⟩ := id C0
  have hl : lv_has ls 3 [(0, .ref (base + ad 0 0))] := hl
  refine lv_iconst (v := 0) hx hb d_Sy_endsOpen_0 (by decide) ?_
  refine lv_istore_n (lv' := [(1, .int 0), (0, .ref (base + ad 0 0))]) hx hb d_Sy_endsOpen_1 rfl hl (by decide) rfl (fun ls hl => ?_)
  refine lv_iconst (v := 0) hx hb d_Sy_endsOpen_2 (by decide) ?_
  refine lv_istore_n (lv' := [(2, .int 0), (1, .int 0), (0, .ref (base + ad 0 0))]) hx hb d_Sy_endsOpen_3 rfl hl (by decide) rfl (fun ls hl => ?_)
  have loop : ∀ (n k : Nat), k ≤ 12 → 12 + 1 ≤ k + n → ∀ ls : Array Slot, lv_has ls 3 [(1, .int (sOpen σ k)), (2, .int (nI k)), (0, .ref (base + ad 0 0))] → W p l ev (rmL 1) s m ([.ref (base + ad 0 0)] : List Value).toArray below meth c s.heap [] 0 0 (MQX below (QP (fun k r => k = 0 ∧ r = some (sOpen σ 12))) ([.ref (base + ad 0 0)] : List Value).toArray s (rmL 1).cells (rmL 1).slots (fun _ => False)) (F0 m 4 ls []) := by
    intro n
    induction n with
    | zero => intro k h1 h2; omega
    | succ n ih =>
      intro k hk1 hk2 ls hl
      refine lv_iload_n hx hb d_Sy_endsOpen_4 rfl (lv_at hl 1 rfl) ?_
      refine lv_bipush (v := 12) hx hb d_Sy_endsOpen_5 (by decide) ?_
      refine lv_icmp_ge (tgt := 36) hx hb d_Sy_endsOpen_7 (by decide) (fun c_7 => ?_) (fun c_7 => ?_)
      · skip
        have hkN : k = 12 := by have := ge_nI (N := 12) c_7; omega
        subst hkN
        refine lv_iload_n hx hb d_Sy_endsOpen_36 rfl (lv_at hl 0 rfl) ?_
        exact rP_i C0 (⟨by decide, by decide⟩) (⟨rfl, rfl⟩) d_Sy_endsOpen_37
      · skip
        have hkN : k < 12 := lt_nI (N := 12) c_7
        refine lv_iload_n hx hb d_Sy_endsOpen_10 rfl (lv_at hl 0 rfl) ?_
        refine lv_aload_n hx hb d_Sy_endsOpen_11 rfl (lv_at hl 2 rfl) ?_
        refine q_get C0 hP (kd := 0) (i := 0) (ci := 0) (by decide) (by decide) rfl rfl 7 (by decide) rfl k_fl_Sy_40 rfl d_Sy_endsOpen_12 ?_
        refine lv_iload_n hx hb d_Sy_endsOpen_15 rfl (lv_at hl 1 rfl) ?_
        refine q_aald C0 hP (kd := 6) (i := 0) (t0 := 5) (v := base + ad 14 k) (by decide) (by decide) rfl rfl (by rw [nI_clamp (by omega)]) (vin_nI hkN) d_Sy_endsOpen_16 ?_
        refine cs_PP C0 hP (cs_V C0 hP (kd := 14) (i := k) (ci := 3) (As := []) (by decide) (hkN) rfl rfl k_ml_Sy_173 k_im_En_isOpen k_sl_En_En_isOpen k_cd_En_isOpen k_in_En z_En_isOpen rfl d_Sy_endsOpen_17) (c_En_isOpen hlt hkN) hl.1 d_Sy_endsOpen_17 (Nat.le_of_ble_eq_true rfl) ⟨by decide, by decide⟩ (⟨by decide, by decide⟩) (fun k r hk hp => absurd hp.1 hk) (fun r_2 h_1 => ?_)
        obtain rfl := h_1.2
        refine lv_if_eq (tgt := 27) hx hb d_Sy_endsOpen_20 (by decide) (fun c_20 => ?_) (fun c_20 => ?_)
        · skip
          have c_20 := b2i_z.mp c_20
          refine lv_iconst (v := 0) hx hb d_Sy_endsOpen_27 (by decide) ?_
          refine lv_iadd hx hb d_Sy_endsOpen_28 ?_
          refine lv_istore_n (lv' := [(1, .int ((sOpen σ k) + 0)), (2, .int (nI k)), (0, .ref (base + ad 0 0))]) hx hb d_Sy_endsOpen_29 rfl hl (by decide) rfl (fun ls hl => ?_)
          refine lv_iinc (v := nI (k + 1)) (lv' := [(2, .int (nI (k + 1))), (1, .int ((sOpen σ k) + 0)), (0, .ref (base + ad 0 0))]) hx hb d_Sy_endsOpen_30 hl (k := 1) rfl (by exact nI_1 k) (by decide) rfl (fun ls hl => ?_)
          refine lv_goto (tgt := 4) hx hb d_Sy_endsOpen_33 (by decide) ?_
          rw [show ((sOpen σ k) + 0 : Int32) = sOpen σ (k + 1) from congrArg (fun z => sOpen σ k + z) (by simp [b2i, c_20])] at hl
          exact ih (k + 1) (by omega) (by omega) ls (lv_sub hl [1, 0, 2] rfl)
        · skip
          have c_20 := b2i_ne.mp c_20
          refine lv_iconst (v := 1) hx hb d_Sy_endsOpen_23 (by decide) ?_
          refine lv_goto (tgt := 28) hx hb d_Sy_endsOpen_24 (by decide) ?_
          refine lv_iadd hx hb d_Sy_endsOpen_28 ?_
          refine lv_istore_n (lv' := [(1, .int ((sOpen σ k) + 1)), (2, .int (nI k)), (0, .ref (base + ad 0 0))]) hx hb d_Sy_endsOpen_29 rfl hl (by decide) rfl (fun ls hl => ?_)
          refine lv_iinc (v := nI (k + 1)) (lv' := [(2, .int (nI (k + 1))), (1, .int ((sOpen σ k) + 1)), (0, .ref (base + ad 0 0))]) hx hb d_Sy_endsOpen_30 hl (k := 1) rfl (by exact nI_1 k) (by decide) rfl (fun ls hl => ?_)
          refine lv_goto (tgt := 4) hx hb d_Sy_endsOpen_33 (by decide) ?_
          rw [show ((sOpen σ k) + 1 : Int32) = sOpen σ (k + 1) from congrArg (fun z => sOpen σ k + z) (by simp [b2i, c_20])] at hl
          exact ih (k + 1) (by omega) (by omega) ls (lv_sub hl [1, 0, 2] rfl)
  exact loop (12 + 1) 0 (by omega) (by omega) ls (lv_sub hl [1, 0, 2] rfl)
set_option maxHeartbeats 4000000 in
set_option maxRecDepth 100000 in
theorem c_Sy_contractsMade {S0 : State} {A0 : Array Value} {D : va_G} {ar : Nat → ClassId} {base : Nat} {σ : Mem} {l : Launch} (hlt : l.stackTraces = false)  :
    MX l y_Sy_contractsMade [Cond.code y_Sy_contractsMade b_Sy_contractsMade 3 (some .int)] (rmL 1) (PS S0 A0 D ar base σ [.ref (base + ad 0 0)]) (QP (fun k r => k = 0 ∧ r = some (sMade σ 4))) (fun _ => False) := by
  refine cx_head hlt (by decide +kernel) (Nat.le_of_ble_eq_true rfl) ?_
  intro p ev s m below meth c ls C0 hP hl
  have C0 : Cx S0 A0 D ar base p l s m _ meth c R_Sy b_Sy_contractsMade 3 (some .int) := C0
  obtain ⟨hx, hb, -⟩ := id C0
  have hl : lv_has ls 3 [(0, .ref (base + ad 0 0))] := hl
  refine lv_iconst (v := 0) hx hb d_Sy_contractsMade_0 (by decide) ?_
  refine lv_istore_n (lv' := [(1, .int 0), (0, .ref (base + ad 0 0))]) hx hb d_Sy_contractsMade_1 rfl hl (by decide) rfl (fun ls hl => ?_)
  refine lv_iconst (v := 0) hx hb d_Sy_contractsMade_2 (by decide) ?_
  refine lv_istore_n (lv' := [(2, .int 0), (1, .int 0), (0, .ref (base + ad 0 0))]) hx hb d_Sy_contractsMade_3 rfl hl (by decide) rfl (fun ls hl => ?_)
  have loop : ∀ (n k : Nat), k ≤ 4 → 4 + 1 ≤ k + n → ∀ ls : Array Slot, lv_has ls 3 [(1, .int (sMade σ k)), (2, .int (nI k)), (0, .ref (base + ad 0 0))] → W p l ev (rmL 1) s m ([.ref (base + ad 0 0)] : List Value).toArray below meth c s.heap [] 0 0 (MQX below (QP (fun k r => k = 0 ∧ r = some (sMade σ 4))) ([.ref (base + ad 0 0)] : List Value).toArray s (rmL 1).cells (rmL 1).slots (fun _ => False)) (F0 m 4 ls []) := by
    intro n
    induction n with
    | zero => intro k h1 h2; omega
    | succ n ih =>
      intro k hk1 hk2 ls hl
      refine lv_iload_n hx hb d_Sy_contractsMade_4 rfl (lv_at hl 1 rfl) ?_
      refine lv_iconst (v := 4) hx hb d_Sy_contractsMade_5 (by decide) ?_
      refine lv_icmp_ge (tgt := 35) hx hb d_Sy_contractsMade_6 (by decide) (fun c_6 => ?_) (fun c_6 => ?_)
      · skip
        have hkN : k = 4 := by have := ge_nI (N := 4) c_6; omega
        subst hkN
        refine lv_iload_n hx hb d_Sy_contractsMade_35 rfl (lv_at hl 0 rfl) ?_
        exact rP_i C0 (⟨by decide, by decide⟩) (⟨rfl, rfl⟩) d_Sy_contractsMade_36
      · skip
        have hkN : k < 4 := lt_nI (N := 4) c_6
        refine lv_iload_n hx hb d_Sy_contractsMade_9 rfl (lv_at hl 0 rfl) ?_
        refine lv_aload_n hx hb d_Sy_contractsMade_10 rfl (lv_at hl 2 rfl) ?_
        refine q_get C0 hP (kd := 0) (i := 0) (ci := 0) (by decide) (by decide) rfl rfl 3 (by decide) rfl k_fl_Sy_20 rfl d_Sy_contractsMade_11 ?_
        refine lv_iload_n hx hb d_Sy_contractsMade_14 rfl (lv_at hl 1 rfl) ?_
        refine q_aald C0 hP (kd := 2) (i := 0) (t0 := 3) (v := base + ad 7 (k + 1)) (by decide) (by decide) rfl rfl (by rw [nI_clamp (by omega)]) (vin_nI hkN) d_Sy_contractsMade_15 ?_
        refine cs_PP C0 hP (cs_V C0 hP (kd := 7) (i := k + 1) (ci := 1) (As := []) (by decide) (show k + 1 < 11 by omega) rfl rfl k_ml_Sy_126 k_im_Co_isNone k_sl_Co_Co_isNone k_cd_Co_isNone k_in_Co z_Co_isNone rfl d_Sy_contractsMade_16) (c_Co_isNone hlt (by omega)) hl.1 d_Sy_contractsMade_16 (Nat.le_of_ble_eq_true rfl) ⟨by decide, by decide⟩ (⟨by decide, by decide⟩) (fun k r hk hp => absurd hp.1 hk) (fun r_2 h_1 => ?_)
        obtain rfl := h_1.2
        refine lv_if_eq (tgt := 26) hx hb d_Sy_contractsMade_19 (by decide) (fun c_19 => ?_) (fun c_19 => ?_)
        · skip
          have c_19 := b2i_z.mp c_19
          refine lv_iconst (v := 1) hx hb d_Sy_contractsMade_26 (by decide) ?_
          refine lv_iadd hx hb d_Sy_contractsMade_27 ?_
          refine lv_istore_n (lv' := [(1, .int ((sMade σ k) + 1)), (2, .int (nI k)), (0, .ref (base + ad 0 0))]) hx hb d_Sy_contractsMade_28 rfl hl (by decide) rfl (fun ls hl => ?_)
          refine lv_iinc (v := nI (k + 1)) (lv' := [(2, .int (nI (k + 1))), (1, .int ((sMade σ k) + 1)), (0, .ref (base + ad 0 0))]) hx hb d_Sy_contractsMade_29 hl (k := 1) rfl (by exact nI_1 k) (by decide) rfl (fun ls hl => ?_)
          refine lv_goto (tgt := 4) hx hb d_Sy_contractsMade_32 (by decide) ?_
          rw [show ((sMade σ k) + 1 : Int32) = sMade σ (k + 1) from congrArg (fun z => sMade σ k + z) (by simp [b2i, c_19])] at hl
          exact ih (k + 1) (by omega) (by omega) ls (lv_sub hl [1, 0, 2] rfl)
        · skip
          have c_19 := b2i_ne.mp c_19
          refine lv_iconst (v := 0) hx hb d_Sy_contractsMade_22 (by decide) ?_
          refine lv_goto (tgt := 27) hx hb d_Sy_contractsMade_23 (by decide) ?_
          refine lv_iadd hx hb d_Sy_contractsMade_27 ?_
          refine lv_istore_n (lv' := [(1, .int ((sMade σ k) + 0)), (2, .int (nI k)), (0, .ref (base + ad 0 0))]) hx hb d_Sy_contractsMade_28 rfl hl (by decide) rfl (fun ls hl => ?_)
          refine lv_iinc (v := nI (k + 1)) (lv' := [(2, .int (nI (k + 1))), (1, .int ((sMade σ k) + 0)), (0, .ref (base + ad 0 0))]) hx hb d_Sy_contractsMade_29 hl (k := 1) rfl (by exact nI_1 k) (by decide) rfl (fun ls hl => ?_)
          refine lv_goto (tgt := 4) hx hb d_Sy_contractsMade_32 (by decide) ?_
          rw [show ((sMade σ k) + 0 : Int32) = sMade σ (k + 1) from congrArg (fun z => sMade σ k + z) (by simp [b2i, c_19])] at hl
          exact ih (k + 1) (by omega) (by omega) ls (lv_sub hl [1, 0, 2] rfl)
  exact loop (4 + 1) 0 (by omega) (by omega) ls (lv_sub hl [1, 0, 2] rfl)
end
section
/-! The class's searches and rows of rules: laid by gen/m23.py. -/
theorem two_nI (k : Nat) : (2 : Int32) * nI k = nI (2 * k) := by
  have h : (2 : Int32) = nI 2 := by decide
  rw [h, pk_mul]
/-- the memory of a contract c0 into which the first k rules of d0, and its size, were copied -/
def bec (σ : Mem) (c0 d0 k : Nat) : Mem := fun a b c => if b = c0 ∧ a = 3 ∧ c = 0 then σ 3 d0 0 else if b = c0 ∧ (a = 4 ∨ a = 5 ∨ a = 6 ∨ a = 7) ∧ c < k then σ a d0 c else σ a b c
theorem bec_0 {σ : Mem} {c0 d0 : Nat} : up σ 3 c0 0 (σ 3 d0 0) = bec σ c0 d0 0 := by
  funext a b c
  simp only [up, bec]
  by_cases h1 : b = c0 <;> by_cases h2 : a = 3 <;> by_cases h3 : c = 0 <;> simp [h1, h2, h3]
theorem bec_s {σ : Mem} {c0 d0 k : Nat} (h : d0 ≠ c0) : up (up (up (up (bec σ c0 d0 k) 4 c0 k (bec σ c0 d0 k 4 d0 k)) 5 c0 k (bec σ c0 d0 k 5 d0 k)) 6 c0 k (bec σ c0 d0 k 6 d0 k)) 7 c0 k (bec σ c0 d0 k 7 d0 k) = bec σ c0 d0 (k + 1) := by
  funext a b c
  simp only [up, bec, h, false_and, if_false]
  by_cases h1 : b = c0
  · by_cases h2 : c = k
    · subst h1; subst h2
      by_cases h3 : a = 4
      · subst h3; simp
      · by_cases h4 : a = 5
        · subst h4; simp
        · by_cases h5 : a = 6
          · subst h5; simp
          · by_cases h6 : a = 7
            · subst h6; simp
            · simp [h3, h4, h5, h6]
    · have h7 : c < k + 1 ↔ c < k := by omega
      simp [h1, h2, h7]
  · simp [h1]
def addR (σ : Mem) (c0 sz : Nat) (st lt sd nx : Int32) : Mem := up (up (up (up (up σ 4 c0 sz st) 5 c0 sz lt) 6 c0 sz sd) 7 c0 sz nx) 3 c0 0 (nI (sz + 1))
def ADD (σ : Mem) (c0 sz : Nat) (st lt sd nx : Int32) (r : Int32) (σ' : Mem) : Prop :=
  (9 ≤ sz ∧ r = 0 ∧ σ' = σ) ∨ (sz < 9 ∧ ∃ q, RUL σ c0 st lt sz q ∧ ((q < sz ∧ r = 0 ∧ σ' = σ) ∨ (q = sz ∧ r = 1 ∧ σ' = addR σ c0 sz st lt sd nx)))
def NXT (σ : Mem) (c0 sz : Nat) (st lt sd r : Int32) : Prop := ∃ q, RUL σ c0 st lt sz q ∧ ((q < sz ∧ σ 6 c0 q = sd ∧ r = σ 7 c0 q) ∨ (¬ (q < sz ∧ σ 6 c0 q = sd) ∧ r = -1))
def pushM (σ : Mem) (e n : Nat) (lt v : Int32) : Mem := up (up (up σ 14 e n lt) 15 e n v) 13 e 0 (nI (n + 1))
/-- a queue's first message is taken: the others move up -/
def popM (σ : Mem) (e k : Nat) : Mem := fun a b c => if b = e ∧ (a = 14 ∨ a = 15) ∧ c + 1 < k then σ a e (c + 1) else σ a b c
theorem pop_1 {σ : Mem} {e : Nat} : σ = popM σ e 1 := by
  funext a b c
  simp [popM]
theorem pop_s {σ : Mem} {e k : Nat} : up (up (popM σ e (k + 1)) 14 e k (popM σ e (k + 1) 14 e (k + 1))) 15 e k (popM σ e (k + 1) 15 e (k + 1)) = popM σ e (k + 1 + 1) := by
  funext a b c
  simp only [up, popM]
  by_cases h1 : b = e
  · by_cases h2 : c = k
    · subst h1; subst h2
      by_cases h3 : a = 14
      · subst h3; simp; intro h; omega
      · by_cases h4 : a = 15
        · subst h4; simp; intro h; omega
        · simp [h3, h4]
    · have h7 : c + 1 < k + 1 + 1 ↔ c + 1 < k + 1 := by omega
      simp [h1, h2, h7]
  · simp [h1]
set_option maxHeartbeats 4000000 in
set_option maxRecDepth 100000 in
theorem c_Sy_leastFreeBlock {S0 : State} {A0 : Array Value} {D : va_G} {ar : Nat → ClassId} {base : Nat} {σ : Mem} {l : Launch} (hlt : l.stackTraces = false)  :
    MX l y_Sy_leastFreeBlock [Cond.code y_Sy_leastFreeBlock b_Sy_leastFreeBlock 2 (some .int)] (rmL 1) (PS S0 A0 D ar base σ [.ref (base + ad 0 0)]) (QP (fun k r => k = 0 ∧ ∃ b, r = some (nI b) ∧ LFB σ b)) (fun _ => False) := by
  refine cx_head hlt (by decide +kernel) (Nat.le_of_ble_eq_true rfl) ?_
  intro p ev s m below meth c ls C0 hP hl
  have C0 : Cx S0 A0 D ar base p l s m _ meth c R_Sy b_Sy_leastFreeBlock 2 (some .int) := C0
  obtain ⟨hx, hb, -⟩ := id C0
  have hl : lv_has ls 2 [(0, .ref (base + ad 0 0))] := hl
  refine lv_iconst (v := 0) hx hb d_Sy_leastFreeBlock_0 (by decide) ?_
  refine lv_istore_n (lv' := [(1, .int 0), (0, .ref (base + ad 0 0))]) hx hb d_Sy_leastFreeBlock_1 rfl hl (by decide) rfl (fun ls hl => ?_)
  have loop : ∀ (n k : Nat), k ≤ 12 → 12 + 1 ≤ k + n → (∀ j, j < k → ¬ σ 8 j 0 = -1) → ∀ ls : Array Slot, lv_has ls 2 [(1, .int (nI k)), (0, .ref (base + ad 0 0))] → W p l ev (rmL 1) s m ([.ref (base + ad 0 0)] : List Value).toArray below meth c s.heap [] 0 0 (MQX below (QP (fun k r => k = 0 ∧ ∃ b, r = some (nI b) ∧ LFB σ b)) ([.ref (base + ad 0 0)] : List Value).toArray s (rmL 1).cells (rmL 1).slots (fun _ => False)) (F0 m 2 ls []) := by
    intro n
    induction n with
    | zero => intro k h1 h2; omega
    | succ n ih =>
      intro k hk1 hk2 hinv ls hl
      refine lv_iload_n hx hb d_Sy_leastFreeBlock_2 rfl (lv_at hl 0 rfl) ?_
      refine lv_bipush (v := 12) hx hb d_Sy_leastFreeBlock_3 (by decide) ?_
      refine lv_icmp_ge (tgt := 26) hx hb d_Sy_leastFreeBlock_5 (by decide) (fun c_5 => ?_) (fun c_5 => ?_)
      · skip
        have hkN : k = 12 := by have := ge_nI (N := 12) c_5; omega
        subst hkN
        refine lv_iload_n hx hb d_Sy_leastFreeBlock_26 rfl (lv_at hl 0 rfl) ?_
        exact rP_i C0 (⟨by decide, by decide⟩) (⟨rfl, 12, rfl, Nat.le_refl _, hinv, fun h => absurd h (by decide)⟩) d_Sy_leastFreeBlock_27
      · skip
        have hkN : k < 12 := lt_nI (N := 12) c_5
        refine lv_aload_n hx hb d_Sy_leastFreeBlock_8 rfl (lv_at hl 1 rfl) ?_
        refine q_get C0 hP (kd := 0) (i := 0) (ci := 0) (by decide) (by decide) rfl rfl 5 (by decide) rfl k_fl_Sy_30 rfl d_Sy_leastFreeBlock_9 ?_
        refine lv_iload_n hx hb d_Sy_leastFreeBlock_12 rfl (lv_at hl 0 rfl) ?_
        refine q_aald C0 hP (kd := 4) (i := 0) (t0 := 4) (v := base + ad 12 k) (by decide) (by decide) rfl rfl (by rw [nI_clamp (by omega)]) (vin_nI hkN) d_Sy_leastFreeBlock_13 ?_
        refine cs_PP C0 hP (cs_V C0 hP (kd := 12) (i := k) (ci := 2) (As := []) (by decide) (hkN) rfl rfl k_ml_Sy_279 k_im_Bl_isFree k_sl_Bl_Bl_isFree k_cd_Bl_isFree k_in_Bl z_Bl_isFree rfl d_Sy_leastFreeBlock_14) (c_Bl_isFree hlt hkN) hl.1 d_Sy_leastFreeBlock_14 (Nat.le_of_ble_eq_true rfl) ⟨by decide, by decide⟩ (⟨by decide, by decide⟩) (fun k r hk hp => absurd hp.1 hk) (fun r_2 h_1 => ?_)
        obtain rfl := h_1.2
        refine lv_if_ne (tgt := 26) hx hb d_Sy_leastFreeBlock_17 (by decide) (fun c_17 => ?_) (fun c_17 => ?_)
        · skip
          have c_17 := b2i_ne.mp c_17
          refine lv_iload_n hx hb d_Sy_leastFreeBlock_26 rfl (lv_at hl 0 rfl) ?_
          exact rP_i C0 (⟨by decide, by decide⟩) (⟨rfl, k, rfl, by omega, hinv, fun _ => c_17⟩) d_Sy_leastFreeBlock_27
        · skip
          have c_17 := b2i_z.mp c_17
          refine lv_iinc (v := nI (k + 1)) (lv' := [(1, .int (nI (k + 1))), (0, .ref (base + ad 0 0))]) hx hb d_Sy_leastFreeBlock_20 hl (k := 0) rfl (by exact nI_1 k) (by decide) rfl (fun ls hl => ?_)
          refine lv_goto (tgt := 2) hx hb d_Sy_leastFreeBlock_23 (by decide) ?_
          exact ih (k + 1) (by omega) (by omega) (lt_s hinv c_17) ls (lv_sub hl [0, 1] rfl)
  exact loop (12 + 1) 0 (by omega) (by omega) (fun j hj => absurd hj (Nat.not_lt_zero j)) ls (lv_sub hl [0, 1] rfl)
set_option maxHeartbeats 4000000 in
set_option maxRecDepth 100000 in
theorem c_Sy_leastFreeChannel {S0 : State} {A0 : Array Value} {D : va_G} {ar : Nat → ClassId} {base : Nat} {σ : Mem} {l : Launch} (hlt : l.stackTraces = false)  :
    MX l y_Sy_leastFreeChannel [Cond.code y_Sy_leastFreeChannel b_Sy_leastFreeChannel 2 (some .int)] (rmL 1) (PS S0 A0 D ar base σ [.ref (base + ad 0 0)]) (QP (fun k r => k = 0 ∧ ∃ b, r = some (nI b) ∧ LFC σ b)) (fun _ => False) := by
  refine cx_head hlt (by decide +kernel) (Nat.le_of_ble_eq_true rfl) ?_
  intro p ev s m below meth c ls C0 hP hl
  have C0 : Cx S0 A0 D ar base p l s m _ meth c R_Sy b_Sy_leastFreeChannel 2 (some .int) := C0
  obtain ⟨hx, hb, -⟩ := id C0
  have hl : lv_has ls 2 [(0, .ref (base + ad 0 0))] := hl
  refine lv_iconst (v := 0) hx hb d_Sy_leastFreeChannel_0 (by decide) ?_
  refine lv_istore_n (lv' := [(1, .int 0), (0, .ref (base + ad 0 0))]) hx hb d_Sy_leastFreeChannel_1 rfl hl (by decide) rfl (fun ls hl => ?_)
  have loop : ∀ (n k : Nat), k ≤ 6 → 6 + 1 ≤ k + n → (∀ j, j < k → ¬ (σ 11 (2 * j) 0 = -1 ∧ σ 11 (2 * j + 1) 0 = -1)) → ∀ ls : Array Slot, lv_has ls 2 [(1, .int (nI k)), (0, .ref (base + ad 0 0))] → W p l ev (rmL 1) s m ([.ref (base + ad 0 0)] : List Value).toArray below meth c s.heap [] 0 0 (MQX below (QP (fun k r => k = 0 ∧ ∃ b, r = some (nI b) ∧ LFC σ b)) ([.ref (base + ad 0 0)] : List Value).toArray s (rmL 1).cells (rmL 1).slots (fun _ => False)) (F0 m 2 ls []) := by
    intro n
    induction n with
    | zero => intro k h1 h2; omega
    | succ n ih =>
      intro k hk1 hk2 hinv ls hl
      refine lv_iload_n hx hb d_Sy_leastFreeChannel_2 rfl (lv_at hl 0 rfl) ?_
      refine lv_bipush (v := 6) hx hb d_Sy_leastFreeChannel_3 (by decide) ?_
      refine lv_icmp_ge (tgt := 44) hx hb d_Sy_leastFreeChannel_5 (by decide) (fun c_5 => ?_) (fun c_5 => ?_)
      · skip
        have hkN : k = 6 := by have := ge_nI (N := 6) c_5; omega
        subst hkN
        refine lv_iload_n hx hb d_Sy_leastFreeChannel_44 rfl (lv_at hl 0 rfl) ?_
        exact rP_i C0 (⟨by decide, by decide⟩) (⟨rfl, 6, rfl, Nat.le_refl _, hinv, fun h => absurd h (by decide)⟩) d_Sy_leastFreeChannel_45
      · skip
        have hkN : k < 6 := lt_nI (N := 6) c_5
        refine lv_aload_n hx hb d_Sy_leastFreeChannel_8 rfl (lv_at hl 1 rfl) ?_
        refine q_get C0 hP (kd := 0) (i := 0) (ci := 0) (by decide) (by decide) rfl rfl 7 (by decide) rfl k_fl_Sy_40 rfl d_Sy_leastFreeChannel_9 ?_
        refine lv_iconst (v := 2) hx hb d_Sy_leastFreeChannel_12 (by decide) ?_
        refine lv_iload_n hx hb d_Sy_leastFreeChannel_13 rfl (lv_at hl 0 rfl) ?_
        refine lv_imul hx hb d_Sy_leastFreeChannel_14 ?_
        rw [show (2 * (nI k) : Int32) = nI (2 * k) from two_nI k]
        refine q_aald C0 hP (kd := 6) (i := 0) (t0 := 5) (v := base + ad 14 (2 * k)) (by decide) (by decide) rfl rfl (by rw [nI_clamp (by omega)]) (vin_nI (by omega)) d_Sy_leastFreeChannel_15 ?_
        refine cs_PP C0 hP (cs_V C0 hP (kd := 14) (i := (2 * k)) (ci := 3) (As := []) (by decide) (show 2 * k < 12 by omega) rfl rfl k_ml_Sy_173 k_im_En_isOpen k_sl_En_En_isOpen k_cd_En_isOpen k_in_En z_En_isOpen rfl d_Sy_leastFreeChannel_16) (c_En_isOpen hlt (e0 := (2 * k)) (by omega)) hl.1 d_Sy_leastFreeChannel_16 (Nat.le_of_ble_eq_true rfl) ⟨by decide, by decide⟩ (⟨by decide, by decide⟩) (fun k r hk hp => absurd hp.1 hk) (fun r_2 h_1 => ?_)
        obtain rfl := h_1.2
        refine lv_if_ne (tgt := 38) hx hb d_Sy_leastFreeChannel_19 (by decide) (fun c_19 => ?_) (fun c_19 => ?_)
        · skip
          have c_19 := b2i_ne.mp c_19
          refine lv_iinc (v := nI (k + 1)) (lv' := [(1, .int (nI (k + 1))), (0, .ref (base + ad 0 0))]) hx hb d_Sy_leastFreeChannel_38 hl (k := 0) rfl (by exact nI_1 k) (by decide) rfl (fun ls hl => ?_)
          refine lv_goto (tgt := 2) hx hb d_Sy_leastFreeChannel_41 (by decide) ?_
          exact ih (k + 1) (by omega) (by omega) (lt_s hinv (fun h => c_19 h.1)) ls (lv_sub hl [0, 1] rfl)
        · skip
          have c_19 := b2i_z.mp c_19
          refine lv_aload_n hx hb d_Sy_leastFreeChannel_22 rfl (lv_at hl 1 rfl) ?_
          refine q_get C0 hP (kd := 0) (i := 0) (ci := 0) (by decide) (by decide) rfl rfl 7 (by decide) rfl k_fl_Sy_40 rfl d_Sy_leastFreeChannel_23 ?_
          refine lv_iconst (v := 2) hx hb d_Sy_leastFreeChannel_26 (by decide) ?_
          refine lv_iload_n hx hb d_Sy_leastFreeChannel_27 rfl (lv_at hl 0 rfl) ?_
          refine lv_imul hx hb d_Sy_leastFreeChannel_28 ?_
          rw [show (2 * (nI k) : Int32) = nI (2 * k) from two_nI k]
          refine lv_iconst (v := 1) hx hb d_Sy_leastFreeChannel_29 (by decide) ?_
          refine lv_iadd hx hb d_Sy_leastFreeChannel_30 ?_
          rw [show ((nI (2 * k)) + 1 : Int32) = nI (2 * k + 1) from nI_1 (2 * k)]
          refine q_aald C0 hP (kd := 6) (i := 0) (t0 := 5) (v := base + ad 14 (2 * k + 1)) (by decide) (by decide) rfl rfl (by rw [nI_clamp (by omega)]) (vin_nI (by omega)) d_Sy_leastFreeChannel_31 ?_
          refine cs_PP C0 hP (cs_V C0 hP (kd := 14) (i := (2 * k + 1)) (ci := 3) (As := []) (by decide) (show 2 * k + 1 < 12 by omega) rfl rfl k_ml_Sy_173 k_im_En_isOpen k_sl_En_En_isOpen k_cd_En_isOpen k_in_En z_En_isOpen rfl d_Sy_leastFreeChannel_32) (c_En_isOpen hlt (e0 := (2 * k + 1)) (by omega)) hl.1 d_Sy_leastFreeChannel_32 (Nat.le_of_ble_eq_true rfl) ⟨by decide, by decide⟩ (⟨by decide, by decide⟩) (fun k r hk hp => absurd hp.1 hk) (fun r_4 h_3 => ?_)
          obtain rfl := h_3.2
          refine lv_if_eq (tgt := 44) hx hb d_Sy_leastFreeChannel_35 (by decide) (fun c_35 => ?_) (fun c_35 => ?_)
          · skip
            have c_35 := b2i_z.mp c_35
            refine lv_iload_n hx hb d_Sy_leastFreeChannel_44 rfl (lv_at hl 0 rfl) ?_
            exact rP_i C0 (⟨by decide, by decide⟩) (⟨rfl, k, rfl, by omega, hinv, fun _ => ⟨Classical.not_not.mp c_19, Classical.not_not.mp c_35⟩⟩) d_Sy_leastFreeChannel_45
          · skip
            have c_35 := b2i_ne.mp c_35
            refine lv_iinc (v := nI (k + 1)) (lv' := [(1, .int (nI (k + 1))), (0, .ref (base + ad 0 0))]) hx hb d_Sy_leastFreeChannel_38 hl (k := 0) rfl (by exact nI_1 k) (by decide) rfl (fun ls hl => ?_)
            refine lv_goto (tgt := 2) hx hb d_Sy_leastFreeChannel_41 (by decide) ?_
            exact ih (k + 1) (by omega) (by omega) (lt_s hinv (fun h => c_35 h.2)) ls (lv_sub hl [0, 1] rfl)
  exact loop (6 + 1) 0 (by omega) (by omega) (fun j hj => absurd hj (Nat.not_lt_zero j)) ls (lv_sub hl [0, 1] rfl)
set_option maxHeartbeats 4000000 in
set_option maxRecDepth 100000 in
theorem c_Co_ruleFor {S0 : State} {A0 : Array Value} {D : va_G} {ar : Nat → ClassId} {base : Nat} {σ : Mem} {l : Launch} (hlt : l.stackTraces = false) {c0 : Nat} (hc0 : c0 < 11) {sz : Nat} (hsz : σ 3 c0 0 = nI sz) (hz9 : sz ≤ 9) {st lt : Int32} :
    MX l y_Co_ruleFor [Cond.code y_Co_ruleFor b_Co_ruleFor 4 (some .int)] (rmL 0) (PS S0 A0 D ar base σ [.ref (base + ad 7 c0), .int st, .int lt]) (QP (fun k r => k = 0 ∧ ∃ q, r = some (nI q) ∧ RUL σ c0 st lt sz q)) (fun _ => False) := by
  refine cx_head hlt (by decide +kernel) (Nat.le_of_ble_eq_true rfl) ?_
  intro p ev s m below meth c ls C0 hP hl
  have C0 : Cx S0 A0 D ar base p l s m _ meth c R_Co b_Co_ruleFor 4 (some .int) := C0
  obtain ⟨hx, hb, -⟩ := id C0
  have hl : lv_has ls 4 [(0, .ref (base + ad 7 c0)), (1, .int st), (2, .int lt)] := hl
  refine lv_iconst (v := 0) hx hb d_Co_ruleFor_0 (by decide) ?_
  refine lv_istore_n (lv' := [(3, .int 0), (0, .ref (base + ad 7 c0)), (1, .int st), (2, .int lt)]) hx hb d_Co_ruleFor_1 rfl hl (by decide) rfl (fun ls hl => ?_)
  have loop : ∀ (n k : Nat), k ≤ sz → sz + 1 ≤ k + n → (∀ j, j < k → ¬ (σ 4 c0 j = st ∧ σ 5 c0 j = lt)) → ∀ ls : Array Slot, lv_has ls 4 [(3, .int (nI k)), (0, .ref (base + ad 7 c0)), (1, .int st), (2, .int lt)] → W p l ev (rmL 0) s m ([.ref (base + ad 7 c0), .int st, .int lt] : List Value).toArray below meth c s.heap [] 0 0 (MQX below (QP (fun k r => k = 0 ∧ ∃ q, r = some (nI q) ∧ RUL σ c0 st lt sz q)) ([.ref (base + ad 7 c0), .int st, .int lt] : List Value).toArray s (rmL 0).cells (rmL 0).slots (fun _ => False)) (F0 m 2 ls []) := by
    intro n
    induction n with
    | zero => intro k h1 h2; omega
    | succ n ih =>
      intro k hk1 hk2 hinv ls hl
      refine lv_iload_n hx hb d_Co_ruleFor_2 rfl (lv_at hl 0 rfl) ?_
      refine lv_aload_n hx hb d_Co_ruleFor_3 rfl (lv_at hl 1 rfl) ?_
      refine q_get C0 hP (kd := 7) (i := c0) (ci := 1) (by decide) (hc0) rfl rfl 4 (by decide) rfl k_fl_Co_24 rfl d_Co_ruleFor_4 ?_
      refine lv_icmp_ge (tgt := 36) hx hb d_Co_ruleFor_7 (by decide) (fun c_7 => ?_) (fun c_7 => ?_)
      · skip
        have hkN : k = sz := by have := ge_nI (N := sz) c_7 hsz (by omega) (by omega); omega
        subst hkN
        refine lv_iload_n hx hb d_Co_ruleFor_36 rfl (lv_at hl 0 rfl) ?_
        exact rP_i C0 (⟨by decide, by decide⟩) (⟨rfl, k, rfl, Nat.le_refl _, hinv, fun h => absurd h (Nat.lt_irrefl _)⟩) d_Co_ruleFor_37
      · skip
        have hkN : k < sz := lt_nI (N := sz) c_7 hsz (by omega) (by omega)
        refine lv_aload_n hx hb d_Co_ruleFor_10 rfl (lv_at hl 1 rfl) ?_
        refine q_get C0 hP (kd := 7) (i := c0) (ci := 1) (by decide) (hc0) rfl rfl 0 (by decide) rfl k_fl_Co_9 rfl d_Co_ruleFor_11 ?_
        refine lv_iload_n hx hb d_Co_ruleFor_14 rfl (lv_at hl 0 rfl) ?_
        refine q_iald C0 hP (kd := 8) (i := c0) (by decide) (hc0) rfl (vin_nI (by omega)) d_Co_ruleFor_15 ?_
        rw [show (nI k).toNatClampNeg = k from nI_clamp (by omega)]
        refine lv_iload_n hx hb d_Co_ruleFor_16 rfl (lv_at hl 2 rfl) ?_
        refine lv_icmp_ne (tgt := 30) hx hb d_Co_ruleFor_17 (by decide) (fun c_17 => ?_) (fun c_17 => ?_)
        · skip
          refine lv_iinc (v := nI (k + 1)) (lv' := [(3, .int (nI (k + 1))), (0, .ref (base + ad 7 c0)), (1, .int st), (2, .int lt)]) hx hb d_Co_ruleFor_30 hl (k := 0) rfl (by exact nI_1 k) (by decide) rfl (fun ls hl => ?_)
          refine lv_goto (tgt := 2) hx hb d_Co_ruleFor_33 (by decide) ?_
          exact ih (k + 1) (by omega) (by omega) (lt_s hinv (fun h => c_17 h.1)) ls (lv_sub hl [0, 1, 2, 3] rfl)
        · skip
          refine lv_aload_n hx hb d_Co_ruleFor_20 rfl (lv_at hl 1 rfl) ?_
          refine q_get C0 hP (kd := 7) (i := c0) (ci := 1) (by decide) (hc0) rfl rfl 1 (by decide) rfl k_fl_Co_15 rfl d_Co_ruleFor_21 ?_
          refine lv_iload_n hx hb d_Co_ruleFor_24 rfl (lv_at hl 0 rfl) ?_
          refine q_iald C0 hP (kd := 9) (i := c0) (by decide) (hc0) rfl (vin_nI (by omega)) d_Co_ruleFor_25 ?_
          rw [show (nI k).toNatClampNeg = k from nI_clamp (by omega)]
          refine lv_iload_n hx hb d_Co_ruleFor_26 rfl (lv_at hl 3 rfl) ?_
          refine lv_icmp_eq (tgt := 36) hx hb d_Co_ruleFor_27 (by decide) (fun c_27 => ?_) (fun c_27 => ?_)
          · skip
            refine lv_iload_n hx hb d_Co_ruleFor_36 rfl (lv_at hl 0 rfl) ?_
            exact rP_i C0 (⟨by decide, by decide⟩) (⟨rfl, k, rfl, by omega, hinv, fun _ => ⟨c_17, c_27⟩⟩) d_Co_ruleFor_37
          · skip
            refine lv_iinc (v := nI (k + 1)) (lv' := [(3, .int (nI (k + 1))), (0, .ref (base + ad 7 c0)), (1, .int st), (2, .int lt)]) hx hb d_Co_ruleFor_30 hl (k := 0) rfl (by exact nI_1 k) (by decide) rfl (fun ls hl => ?_)
            refine lv_goto (tgt := 2) hx hb d_Co_ruleFor_33 (by decide) ?_
            exact ih (k + 1) (by omega) (by omega) (lt_s hinv (fun h => c_27 h.2)) ls (lv_sub hl [0, 1, 2, 3] rfl)
  exact loop (sz + 1) 0 (by omega) (by omega) (fun j hj => absurd hj (Nat.not_lt_zero j)) ls (lv_sub hl [0, 1, 2, 3] rfl)
set_option maxHeartbeats 4000000 in
set_option maxRecDepth 100000 in
theorem c_Co_stateBehind {S0 : State} {A0 : Array Value} {D : va_G} {ar : Nat → ClassId} {base : Nat} {σ : Mem} {l : Launch} (hlt : l.stackTraces = false) {c0 : Nat} (hc0 : c0 < 11) {sz : Nat} (hsz : σ 3 c0 0 = nI sz) (hz9 : sz ≤ 9) {st lt sd : Int32} :
    MX l y_Co_stateBehind [Cond.code y_Co_stateBehind b_Co_stateBehind 5 (some .int)] (rmL 1) (PS S0 A0 D ar base σ [.ref (base + ad 7 c0), .int st, .int lt, .int sd]) (QP (fun k r => k = 0 ∧ ∃ x, r = some x ∧ NXT σ c0 sz st lt sd x)) (fun _ => False) := by
  refine cx_head hlt (by decide +kernel) (Nat.le_of_ble_eq_true rfl) ?_
  intro p ev s m below meth c ls C0 hP hl
  have C0 : Cx S0 A0 D ar base p l s m _ meth c R_Co b_Co_stateBehind 5 (some .int) := C0
  obtain ⟨hx, hb, -⟩ := id C0
  have hl : lv_has ls 5 [(0, .ref (base + ad 7 c0)), (1, .int st), (2, .int lt), (3, .int sd)] := hl
  refine lv_aload_n hx hb d_Co_stateBehind_0 rfl (lv_at hl 0 rfl) ?_
  refine lv_iload_n hx hb d_Co_stateBehind_1 rfl (lv_at hl 1 rfl) ?_
  refine lv_iload_n hx hb d_Co_stateBehind_2 rfl (lv_at hl 2 rfl) ?_
  refine cs_PP C0 hP (cs_V C0 hP (kd := 7) (i := c0) (ci := 1) (As := [.int st, .int lt]) (by decide) (hc0) rfl rfl k_ml_Co_28 k_im_Co_ruleFor k_sl_Co_Co_ruleFor k_cd_Co_ruleFor k_in_Co z_Co_ruleFor rfl d_Co_stateBehind_3) (c_Co_ruleFor hlt hc0 hsz hz9) hl.1 d_Co_stateBehind_3 (Nat.le_of_ble_eq_true rfl) ⟨by decide, by decide⟩ (⟨by decide, by decide⟩) (fun k r hk hp => absurd hp.1 hk) (fun r_2 h_1 => ?_)
  obtain ⟨q, rfl, hq⟩ := h_1.2
  refine lv_istore (lv' := [(4, .int (nI q)), (0, .ref (base + ad 7 c0)), (1, .int st), (2, .int lt), (3, .int sd)]) hx hb d_Co_stateBehind_6 hl (by decide) rfl (fun ls hl => ?_)
  refine lv_iload hx hb d_Co_stateBehind_8 (lv_at hl 0 rfl) ?_
  refine lv_aload_n hx hb d_Co_stateBehind_10 rfl (lv_at hl 1 rfl) ?_
  refine q_get C0 hP (kd := 7) (i := c0) (ci := 1) (by decide) (hc0) rfl rfl 4 (by decide) rfl k_fl_Co_24 rfl d_Co_stateBehind_11 ?_
  refine lv_icmp_ge (tgt := 38) hx hb d_Co_stateBehind_14 (by decide) (fun c_14 => ?_) (fun c_14 => ?_)
  · skip
    have hq2 : ¬ q < sz := by have := ge_nI (N := sz) c_14 hsz (by have := hq.1; omega) (by omega); omega
    refine lv_iconst (v := (-1)) hx hb d_Co_stateBehind_38 (by decide) ?_
    exact rP_i C0 (⟨by decide, by decide⟩) (⟨rfl, _, rfl, q, hq, Or.inr ⟨fun h => hq2 h.1, rfl⟩⟩) d_Co_stateBehind_39
  · skip
    have hq2 : q < sz := lt_nI (N := sz) c_14 hsz (by have := hq.1; omega) (by omega)
    refine lv_aload_n hx hb d_Co_stateBehind_17 rfl (lv_at hl 1 rfl) ?_
    refine q_get C0 hP (kd := 7) (i := c0) (ci := 1) (by decide) (hc0) rfl rfl 2 (by decide) rfl k_fl_Co_18 rfl d_Co_stateBehind_18 ?_
    refine lv_iload hx hb d_Co_stateBehind_21 (lv_at hl 0 rfl) ?_
    refine q_iald C0 hP (kd := 10) (i := c0) (by decide) (hc0) rfl (vin_nI (by omega)) d_Co_stateBehind_23 ?_
    rw [show (nI q).toNatClampNeg = q from nI_clamp (by omega)]
    refine lv_iload_n hx hb d_Co_stateBehind_24 rfl (lv_at hl 4 rfl) ?_
    refine lv_icmp_ne (tgt := 38) hx hb d_Co_stateBehind_25 (by decide) (fun c_25 => ?_) (fun c_25 => ?_)
    · skip
      refine lv_iconst (v := (-1)) hx hb d_Co_stateBehind_38 (by decide) ?_
      exact rP_i C0 (⟨by decide, by decide⟩) (⟨rfl, _, rfl, q, hq, Or.inr ⟨fun h => c_25 h.2, rfl⟩⟩) d_Co_stateBehind_39
    · skip
      refine lv_aload_n hx hb d_Co_stateBehind_28 rfl (lv_at hl 1 rfl) ?_
      refine q_get C0 hP (kd := 7) (i := c0) (ci := 1) (by decide) (hc0) rfl rfl 3 (by decide) rfl k_fl_Co_21 rfl d_Co_stateBehind_29 ?_
      refine lv_iload hx hb d_Co_stateBehind_32 (lv_at hl 0 rfl) ?_
      refine q_iald C0 hP (kd := 11) (i := c0) (by decide) (hc0) rfl (vin_nI (by omega)) d_Co_stateBehind_34 ?_
      rw [show (nI q).toNatClampNeg = q from nI_clamp (by omega)]
      refine lv_goto (tgt := 39) hx hb d_Co_stateBehind_35 (by decide) ?_
      exact rP_i C0 (⟨by decide, by decide⟩) (⟨rfl, _, rfl, q, hq, Or.inl ⟨hq2, c_25, rfl⟩⟩) d_Co_stateBehind_39
set_option maxHeartbeats 4000000 in
set_option maxRecDepth 100000 in
theorem c_Co_addRule {S0 : State} {A0 : Array Value} {D : va_G} {ar : Nat → ClassId} {base : Nat} {σ : Mem} {l : Launch} (hlt : l.stackTraces = false) {c0 : Nat} (hc0 : c0 < 11) {sz : Nat} (hsz : σ 3 c0 0 = nI sz) (hz9 : sz ≤ 9) {st lt sd nx : Int32} :
    MX l y_Co_addRule [Cond.code y_Co_addRule b_Co_addRule 5 (some .boolean)] (rmL 1) (PS S0 A0 D ar base σ [.ref (base + ad 7 c0), .int st, .int lt, .int sd, .int nx]) (QI D ar base (fun k r σ' => k = 0 ∧ ∃ x, r = some x ∧ ADD σ c0 sz st lt sd nx x σ')) (inB base 122) := by
  refine cx_head hlt (by decide +kernel) (Nat.le_of_ble_eq_true rfl) ?_
  intro p ev s m below meth c ls C0 hP hl
  have C0 : Cx S0 A0 D ar base p l s m _ meth c R_Co b_Co_addRule 5 (some .boolean) := C0
  obtain ⟨hx, hb, -⟩ := id C0
  have hl : lv_has ls 5 [(0, .ref (base + ad 7 c0)), (1, .int st), (2, .int lt), (3, .int sd), (4, .int nx)] := hl
  have hS : va_S (inB base 122) s.heap s.heap [] := va_S.rf
  refine lv_aload_n hx hb d_Co_addRule_0 rfl (lv_at hl 0 rfl) ?_
  refine q_get C0 hP (kd := 7) (i := c0) (ci := 1) (by decide) (hc0) rfl rfl 4 (by decide) rfl k_fl_Co_24 rfl d_Co_addRule_1 ?_
  rw [show (σ 3 c0 0 : Int32) = nI sz from hsz]
  refine lv_bipush (v := 9) hx hb d_Co_addRule_4 (by decide) ?_
  refine lv_icmp_ge (tgt := 22) hx hb d_Co_addRule_6 (by decide) (fun c_6 => ?_) (fun c_6 => ?_)
  · skip
    have hz8 : 9 ≤ sz := (nI_leI (by decide) (by omega)).mp (show nI 9 ≤ nI sz from c_6)
    refine lv_iconst (v := 0) hx hb d_Co_addRule_22 (by decide) ?_
    exact rI_z C0 hP hS (⟨by decide, by decide⟩) (Or.inl rfl) (⟨rfl, _, rfl, Or.inl ⟨hz8, rfl, rfl⟩⟩) d_Co_addRule_23
  · skip
    have hz8 : sz < 9 := Nat.lt_of_not_le fun z => c_6 (show nI 9 ≤ nI sz from (nI_leI (by decide) (by omega)).mpr z)
    refine lv_aload_n hx hb d_Co_addRule_9 rfl (lv_at hl 0 rfl) ?_
    refine lv_iload_n hx hb d_Co_addRule_10 rfl (lv_at hl 1 rfl) ?_
    refine lv_iload_n hx hb d_Co_addRule_11 rfl (lv_at hl 2 rfl) ?_
    refine cs_PI C0 hP hS (cs_V C0 hP (kd := 7) (i := c0) (ci := 1) (As := [.int st, .int lt]) (by decide) (hc0) rfl rfl k_ml_Co_28 k_im_Co_ruleFor k_sl_Co_Co_ruleFor k_cd_Co_ruleFor k_in_Co z_Co_ruleFor rfl d_Co_addRule_12) (c_Co_ruleFor hlt hc0 hsz hz9) hl.1 d_Co_addRule_12 (Nat.le_of_ble_eq_true rfl) ⟨by decide, by decide⟩ (⟨by decide, by decide⟩) (fun k r hk hp => absurd hp.1 hk) (fun r_2 h_1 => ?_)
    obtain ⟨q, rfl, hq⟩ := h_1.2
    refine lv_aload_n hx hb d_Co_addRule_15 rfl (lv_at hl 0 rfl) ?_
    refine q_get C0 hP (kd := 7) (i := c0) (ci := 1) (by decide) (hc0) rfl rfl 4 (by decide) rfl k_fl_Co_24 rfl d_Co_addRule_16 ?_
    rw [show (σ 3 c0 0 : Int32) = nI sz from hsz]
    refine lv_icmp_ge (tgt := 24) hx hb d_Co_addRule_19 (by decide) (fun c_19 => ?_) (fun c_19 => ?_)
    · skip
      have hq2 : q = sz := by have := (nI_leI (by omega) (by have := hq.1; omega)).mp c_19; have := hq.1; omega
      refine lv_aload_n hx hb d_Co_addRule_24 rfl (lv_at hl 0 rfl) ?_
      refine q_get C0 hP (kd := 7) (i := c0) (ci := 1) (by decide) (hc0) rfl rfl 0 (by decide) rfl k_fl_Co_9 rfl d_Co_addRule_25 ?_
      refine lv_aload_n hx hb d_Co_addRule_28 rfl (lv_at hl 0 rfl) ?_
      refine q_get C0 hP (kd := 7) (i := c0) (ci := 1) (by decide) (hc0) rfl rfl 4 (by decide) rfl k_fl_Co_24 rfl d_Co_addRule_29 ?_
      rw [show (σ 3 c0 0 : Int32) = nI sz from by simp [up, hsz]]
      refine lv_iload_n hx hb d_Co_addRule_32 rfl (lv_at hl 1 rfl) ?_
      refine q_iast C0 hP hS (kd := 8) (i := c0) 4 (by decide) rfl (hc0) rfl (vin_nI hz8) (by rw [ast_fn]; rfl) d_Co_addRule_33 (fun H locs hP hS => ?_)
      rw [show (nI sz).toNatClampNeg = sz from nI_clamp (by omega)] at hP
      refine lv_aload_n hx hb d_Co_addRule_34 rfl (lv_at hl 0 rfl) ?_
      refine q_get C0 hP (kd := 7) (i := c0) (ci := 1) (by decide) (hc0) rfl rfl 1 (by decide) rfl k_fl_Co_15 rfl d_Co_addRule_35 ?_
      refine lv_aload_n hx hb d_Co_addRule_38 rfl (lv_at hl 0 rfl) ?_
      refine q_get C0 hP (kd := 7) (i := c0) (ci := 1) (by decide) (hc0) rfl rfl 4 (by decide) rfl k_fl_Co_24 rfl d_Co_addRule_39 ?_
      rw [show ((up σ 4 c0 sz st) 3 c0 0 : Int32) = nI sz from by simp [up, hsz]]
      refine lv_iload_n hx hb d_Co_addRule_42 rfl (lv_at hl 2 rfl) ?_
      refine q_iast C0 hP hS (kd := 9) (i := c0) 5 (by decide) rfl (hc0) rfl (vin_nI hz8) (by rw [ast_fn]; rfl) d_Co_addRule_43 (fun H locs hP hS => ?_)
      rw [show (nI sz).toNatClampNeg = sz from nI_clamp (by omega)] at hP
      refine lv_aload_n hx hb d_Co_addRule_44 rfl (lv_at hl 0 rfl) ?_
      refine q_get C0 hP (kd := 7) (i := c0) (ci := 1) (by decide) (hc0) rfl rfl 2 (by decide) rfl k_fl_Co_18 rfl d_Co_addRule_45 ?_
      refine lv_aload_n hx hb d_Co_addRule_48 rfl (lv_at hl 0 rfl) ?_
      refine q_get C0 hP (kd := 7) (i := c0) (ci := 1) (by decide) (hc0) rfl rfl 4 (by decide) rfl k_fl_Co_24 rfl d_Co_addRule_49 ?_
      rw [show ((up (up σ 4 c0 sz st) 5 c0 sz lt) 3 c0 0 : Int32) = nI sz from by simp [up, hsz]]
      refine lv_iload_n hx hb d_Co_addRule_52 rfl (lv_at hl 3 rfl) ?_
      refine q_iast C0 hP hS (kd := 10) (i := c0) 6 (by decide) rfl (hc0) rfl (vin_nI hz8) (by rw [ast_fn]; rfl) d_Co_addRule_53 (fun H locs hP hS => ?_)
      rw [show (nI sz).toNatClampNeg = sz from nI_clamp (by omega)] at hP
      refine lv_aload_n hx hb d_Co_addRule_54 rfl (lv_at hl 0 rfl) ?_
      refine q_get C0 hP (kd := 7) (i := c0) (ci := 1) (by decide) (hc0) rfl rfl 3 (by decide) rfl k_fl_Co_21 rfl d_Co_addRule_55 ?_
      refine lv_aload_n hx hb d_Co_addRule_58 rfl (lv_at hl 0 rfl) ?_
      refine q_get C0 hP (kd := 7) (i := c0) (ci := 1) (by decide) (hc0) rfl rfl 4 (by decide) rfl k_fl_Co_24 rfl d_Co_addRule_59 ?_
      rw [show ((up (up (up σ 4 c0 sz st) 5 c0 sz lt) 6 c0 sz sd) 3 c0 0 : Int32) = nI sz from by simp [up, hsz]]
      refine lv_iload hx hb d_Co_addRule_62 (lv_at hl 4 rfl) ?_
      refine q_iast C0 hP hS (kd := 11) (i := c0) 7 (by decide) rfl (hc0) rfl (vin_nI hz8) (by rw [ast_fn]; rfl) d_Co_addRule_64 (fun H locs hP hS => ?_)
      rw [show (nI sz).toNatClampNeg = sz from nI_clamp (by omega)] at hP
      refine lv_aload_n hx hb d_Co_addRule_65 rfl (lv_at hl 0 rfl) ?_
      refine lv_dup hx hb d_Co_addRule_66 rfl ?_
      refine q_get C0 hP (kd := 7) (i := c0) (ci := 1) (by decide) (hc0) rfl rfl 4 (by decide) rfl k_fl_Co_24 rfl d_Co_addRule_67 ?_
      rw [show ((up (up (up (up σ 4 c0 sz st) 5 c0 sz lt) 6 c0 sz sd) 7 c0 sz nx) 3 c0 0 : Int32) = nI sz from by simp [up, hsz]]
      refine lv_iconst (v := 1) hx hb d_Co_addRule_70 (by decide) ?_
      refine lv_iadd hx hb d_Co_addRule_71 ?_
      rw [show ((nI sz) + 1 : Int32) = nI (sz + 1) from nI_1 sz]
      refine q_put C0 hP hS (kd := 7) (i := c0) (ci := 1) 3 0 (by decide) rfl (hc0) rfl rfl t_Co t_Co_ok n_Co 4 (by decide) rfl k_fl_Co_24 rfl (by decide +kernel) (Nat.le_of_ble_eq_true rfl) (by simp [cont, up]) d_Co_addRule_72 (fun H locs hP hS => ?_)
      refine lv_iconst (v := 1) hx hb d_Co_addRule_75 (by decide) ?_
      exact rI_z C0 hP hS (⟨by decide, by decide⟩) (Or.inr rfl) (⟨rfl, _, rfl, Or.inr ⟨hz8, q, hq, Or.inr ⟨hq2, rfl, rfl⟩⟩⟩) d_Co_addRule_76
    · skip
      have hq2 : q < sz := Nat.lt_of_not_le fun z => c_19 ((nI_leI (by omega) (by have := hq.1; omega)).mpr z)
      refine lv_iconst (v := 0) hx hb d_Co_addRule_22 (by decide) ?_
      exact rI_z C0 hP hS (⟨by decide, by decide⟩) (Or.inl rfl) (⟨rfl, _, rfl, Or.inr ⟨hz8, q, hq, Or.inl ⟨hq2, rfl, rfl⟩⟩⟩) d_Co_addRule_23
set_option maxHeartbeats 4000000 in
set_option maxRecDepth 100000 in
theorem c_Co_become {S0 : State} {A0 : Array Value} {D : va_G} {ar : Nat → ClassId} {base : Nat} {σ : Mem} {l : Launch} (hlt : l.stackTraces = false) {c0 d0 : Nat} (hc0 : c0 < 11) (hd0 : d0 < 11) (hne : d0 ≠ c0) {sz : Nat} (hsz : σ 3 d0 0 = nI sz) (hz9 : sz ≤ 9) :
    MX l y_Co_become [Cond.code y_Co_become b_Co_become 3 none] (rmL 0) (PS S0 A0 D ar base σ [.ref (base + ad 7 c0), .ref (base + ad 7 d0)]) (QI D ar base (fun k r σ' => k = 0 ∧ r = none ∧ σ' = bec σ c0 d0 sz)) (inB base 122) := by
  refine cx_head hlt (by decide +kernel) (Nat.le_of_ble_eq_true rfl) ?_
  intro p ev s m below meth c ls C0 hP hl
  have C0 : Cx S0 A0 D ar base p l s m _ meth c R_Co b_Co_become 3 none := C0
  obtain ⟨hx, hb, -⟩ := id C0
  have hl : lv_has ls 3 [(0, .ref (base + ad 7 c0)), (1, .ref (base + ad 7 d0))] := hl
  have hS : va_S (inB base 122) s.heap s.heap [] := va_S.rf
  refine lv_aload_n hx hb d_Co_become_0 rfl (lv_at hl 0 rfl) ?_
  refine lv_aload_n hx hb d_Co_become_1 rfl (lv_at hl 1 rfl) ?_
  refine q_get C0 hP (kd := 7) (i := d0) (ci := 1) (by decide) (hd0) rfl rfl 4 (by decide) rfl k_fl_Co_24 rfl d_Co_become_2 ?_
  refine q_put C0 hP hS (kd := 7) (i := c0) (ci := 1) 3 0 (by decide) rfl (hc0) rfl rfl t_Co t_Co_ok n_Co 4 (by decide) rfl k_fl_Co_24 rfl (by decide +kernel) (Nat.le_of_ble_eq_true rfl) (by simp [cont, up]) d_Co_become_5 (fun H locs hP hS => ?_)
  refine lv_iconst (v := 0) hx hb d_Co_become_8 (by decide) ?_
  refine lv_istore_n (lv' := [(2, .int 0), (0, .ref (base + ad 7 c0)), (1, .ref (base + ad 7 d0))]) hx hb d_Co_become_9 rfl hl (by decide) rfl (fun ls hl => ?_)
  have loop : ∀ (n k : Nat), k ≤ sz → sz + 1 ≤ k + n → ∀ (H : Heap) (locs : List Loc), va_P D classes (wl base 122 (mem ar base (bec σ c0 d0 k))) H → va_S (inB base 122) s.heap H locs → ∀ ls : Array Slot, lv_has ls 3 [(2, .int (nI k)), (0, .ref (base + ad 7 c0)), (1, .ref (base + ad 7 d0))] → W p l ev (rmL 0) s m ([.ref (base + ad 7 c0), .ref (base + ad 7 d0)] : List Value).toArray below meth c H locs 0 0 (MQX below (QI D ar base (fun k r σ' => k = 0 ∧ r = none ∧ σ' = bec σ c0 d0 sz)) ([.ref (base + ad 7 c0), .ref (base + ad 7 d0)] : List Value).toArray s (rmL 0).cells (rmL 0).slots (inB base 122)) (F0 m 10 ls []) := by
    intro n
    induction n with
    | zero => intro k h1 h2; omega
    | succ n ih =>
      intro k hk1 hk2 H locs hP hS ls hl
      refine lv_iload_n hx hb d_Co_become_10 rfl (lv_at hl 0 rfl) ?_
      refine lv_aload_n hx hb d_Co_become_11 rfl (lv_at hl 1 rfl) ?_
      refine q_get C0 hP (kd := 7) (i := c0) (ci := 1) (by decide) (hc0) rfl rfl 4 (by decide) rfl k_fl_Co_24 rfl d_Co_become_12 ?_
      rw [show ((bec σ c0 d0 k) 3 c0 0 : Int32) = nI sz from by simp [bec, hsz]]
      refine lv_icmp_ge (tgt := 72) hx hb d_Co_become_15 (by decide) (fun c_15 => ?_) (fun c_15 => ?_)
      · skip
        have hkN : k = sz := by have := (nI_leI (by omega) (by omega)).mp c_15; omega
        subst hkN
        exact rI_v C0 hP hS (⟨by decide, by decide⟩) (⟨rfl, rfl, rfl⟩) d_Co_become_72
      · skip
        have hkN : k < sz := Nat.lt_of_not_le fun z => c_15 ((nI_leI (by omega) (by omega)).mpr z)
        refine lv_aload_n hx hb d_Co_become_18 rfl (lv_at hl 1 rfl) ?_
        refine q_get C0 hP (kd := 7) (i := c0) (ci := 1) (by decide) (hc0) rfl rfl 0 (by decide) rfl k_fl_Co_9 rfl d_Co_become_19 ?_
        refine lv_iload_n hx hb d_Co_become_22 rfl (lv_at hl 0 rfl) ?_
        refine lv_aload_n hx hb d_Co_become_23 rfl (lv_at hl 2 rfl) ?_
        refine q_get C0 hP (kd := 7) (i := d0) (ci := 1) (by decide) (hd0) rfl rfl 0 (by decide) rfl k_fl_Co_9 rfl d_Co_become_24 ?_
        refine lv_iload_n hx hb d_Co_become_27 rfl (lv_at hl 0 rfl) ?_
        refine q_iald C0 hP (kd := 8) (i := d0) (by decide) (hd0) rfl (vin_nI (by omega)) d_Co_become_28 ?_
        rw [show (nI k).toNatClampNeg = k from nI_clamp (by omega)]
        refine q_iast C0 hP hS (kd := 8) (i := c0) 4 (by decide) rfl (hc0) rfl (vin_nI (by omega)) (by rw [ast_fn]; rfl) d_Co_become_29 (fun H locs hP hS => ?_)
        rw [show (nI k).toNatClampNeg = k from nI_clamp (by omega)] at hP
        refine lv_aload_n hx hb d_Co_become_30 rfl (lv_at hl 1 rfl) ?_
        refine q_get C0 hP (kd := 7) (i := c0) (ci := 1) (by decide) (hc0) rfl rfl 1 (by decide) rfl k_fl_Co_15 rfl d_Co_become_31 ?_
        refine lv_iload_n hx hb d_Co_become_34 rfl (lv_at hl 0 rfl) ?_
        refine lv_aload_n hx hb d_Co_become_35 rfl (lv_at hl 2 rfl) ?_
        refine q_get C0 hP (kd := 7) (i := d0) (ci := 1) (by decide) (hd0) rfl rfl 1 (by decide) rfl k_fl_Co_15 rfl d_Co_become_36 ?_
        refine lv_iload_n hx hb d_Co_become_39 rfl (lv_at hl 0 rfl) ?_
        refine q_iald C0 hP (kd := 9) (i := d0) (by decide) (hd0) rfl (vin_nI (by omega)) d_Co_become_40 ?_
        rw [show (nI k).toNatClampNeg = k from nI_clamp (by omega)]
        refine q_iast C0 hP hS (kd := 9) (i := c0) 5 (by decide) rfl (hc0) rfl (vin_nI (by omega)) (by rw [ast_fn]; rfl) d_Co_become_41 (fun H locs hP hS => ?_)
        rw [show (nI k).toNatClampNeg = k from nI_clamp (by omega)] at hP
        refine lv_aload_n hx hb d_Co_become_42 rfl (lv_at hl 1 rfl) ?_
        refine q_get C0 hP (kd := 7) (i := c0) (ci := 1) (by decide) (hc0) rfl rfl 2 (by decide) rfl k_fl_Co_18 rfl d_Co_become_43 ?_
        refine lv_iload_n hx hb d_Co_become_46 rfl (lv_at hl 0 rfl) ?_
        refine lv_aload_n hx hb d_Co_become_47 rfl (lv_at hl 2 rfl) ?_
        refine q_get C0 hP (kd := 7) (i := d0) (ci := 1) (by decide) (hd0) rfl rfl 2 (by decide) rfl k_fl_Co_18 rfl d_Co_become_48 ?_
        refine lv_iload_n hx hb d_Co_become_51 rfl (lv_at hl 0 rfl) ?_
        refine q_iald C0 hP (kd := 10) (i := d0) (by decide) (hd0) rfl (vin_nI (by omega)) d_Co_become_52 ?_
        rw [show (nI k).toNatClampNeg = k from nI_clamp (by omega)]
        refine q_iast C0 hP hS (kd := 10) (i := c0) 6 (by decide) rfl (hc0) rfl (vin_nI (by omega)) (by rw [ast_fn]; rfl) d_Co_become_53 (fun H locs hP hS => ?_)
        rw [show (nI k).toNatClampNeg = k from nI_clamp (by omega)] at hP
        refine lv_aload_n hx hb d_Co_become_54 rfl (lv_at hl 1 rfl) ?_
        refine q_get C0 hP (kd := 7) (i := c0) (ci := 1) (by decide) (hc0) rfl rfl 3 (by decide) rfl k_fl_Co_21 rfl d_Co_become_55 ?_
        refine lv_iload_n hx hb d_Co_become_58 rfl (lv_at hl 0 rfl) ?_
        refine lv_aload_n hx hb d_Co_become_59 rfl (lv_at hl 2 rfl) ?_
        refine q_get C0 hP (kd := 7) (i := d0) (ci := 1) (by decide) (hd0) rfl rfl 3 (by decide) rfl k_fl_Co_21 rfl d_Co_become_60 ?_
        refine lv_iload_n hx hb d_Co_become_63 rfl (lv_at hl 0 rfl) ?_
        refine q_iald C0 hP (kd := 11) (i := d0) (by decide) (hd0) rfl (vin_nI (by omega)) d_Co_become_64 ?_
        rw [show (nI k).toNatClampNeg = k from nI_clamp (by omega)]
        refine q_iast C0 hP hS (kd := 11) (i := c0) 7 (by decide) rfl (hc0) rfl (vin_nI (by omega)) (by rw [ast_fn]; rfl) d_Co_become_65 (fun H locs hP hS => ?_)
        rw [show (nI k).toNatClampNeg = k from nI_clamp (by omega)] at hP
        refine lv_iinc (v := nI (k + 1)) (lv' := [(2, .int (nI (k + 1))), (0, .ref (base + ad 7 c0)), (1, .ref (base + ad 7 d0))]) hx hb d_Co_become_66 hl (k := 0) rfl (by exact nI_1 k) (by decide) rfl (fun ls hl => ?_)
        refine lv_goto (tgt := 10) hx hb d_Co_become_69 (by decide) ?_
        rw [show ((up (up (up (up (bec σ c0 d0 k) 4 c0 k ((bec σ c0 d0 k) 4 d0 k)) 5 c0 k ((up (bec σ c0 d0 k) 4 c0 k ((bec σ c0 d0 k) 4 d0 k)) 5 d0 k)) 6 c0 k ((up (up (bec σ c0 d0 k) 4 c0 k ((bec σ c0 d0 k) 4 d0 k)) 5 c0 k ((up (bec σ c0 d0 k) 4 c0 k ((bec σ c0 d0 k) 4 d0 k)) 5 d0 k)) 6 d0 k)) 7 c0 k ((up (up (up (bec σ c0 d0 k) 4 c0 k ((bec σ c0 d0 k) 4 d0 k)) 5 c0 k ((up (bec σ c0 d0 k) 4 c0 k ((bec σ c0 d0 k) 4 d0 k)) 5 d0 k)) 6 c0 k ((up (up (bec σ c0 d0 k) 4 c0 k ((bec σ c0 d0 k) 4 d0 k)) 5 c0 k ((up (bec σ c0 d0 k) 4 c0 k ((bec σ c0 d0 k) 4 d0 k)) 5 d0 k)) 6 d0 k)) 7 d0 k)) : Mem) = bec σ c0 d0 (k + 1) from by rw [← bec_s hne]; simp [up, hne]] at hP
        exact ih (k + 1) (by omega) (by omega) _ _ hP hS ls (lv_sub hl [0, 1, 2] rfl)
  rw [show ((up σ 3 c0 0 (σ 3 d0 0)) : Mem) = bec σ c0 d0 0 from bec_0] at hP
  exact loop (sz + 1) 0 (by omega) (by omega) _ _ hP hS ls (lv_sub hl [0, 1, 2] rfl)
end
section
/-! Queues, loads: laid by gen/m24.py. -/
set_option maxHeartbeats 4000000 in
set_option maxRecDepth 100000 in
theorem c_En_addLast {S0 : State} {A0 : Array Value} {D : va_G} {ar : Nat → ClassId} {base : Nat} {σ : Mem} {l : Launch} (hlt : l.stackTraces = false) {e0 : Nat} (he : e0 < 12) {wt : Nat} (hwt : σ 13 e0 0 = nI wt) (hw3 : wt ≤ 3) {lt v : Int32} :
    MX l y_En_addLast [Cond.code y_En_addLast b_En_addLast 3 none] (rmL 0) (PS S0 A0 D ar base σ [.ref (base + ad 14 e0), .int lt, .int v]) (QI D ar base (fun k r σ' => k = 0 ∧ r = none ∧ (wt < 3 → σ' = pushM σ e0 wt lt v))) (inB base 122) := by
  refine cx_head hlt (by decide +kernel) (Nat.le_of_ble_eq_true rfl) ?_
  intro p ev s m below meth c ls C0 hP hl
  have C0 : Cx S0 A0 D ar base p l s m _ meth c R_En b_En_addLast 3 none := C0
  obtain ⟨hx, hb, -⟩ := id C0
  have hl : lv_has ls 3 [(0, .ref (base + ad 14 e0)), (1, .int lt), (2, .int v)] := hl
  have hS : va_S (inB base 122) s.heap s.heap [] := va_S.rf
  refine lv_aload_n hx hb d_En_addLast_0 rfl (lv_at hl 0 rfl) ?_
  refine q_get C0 hP (kd := 14) (i := e0) (ci := 3) (by decide) (he) rfl rfl 4 (by decide) rfl k_fl_En_25 rfl d_En_addLast_1 ?_
  rw [show (σ 13 e0 0 : Int32) = nI wt from hwt]
  refine lv_iconst (v := 3) hx hb d_En_addLast_4 (by decide) ?_
  refine lv_icmp_ge (tgt := 38) hx hb d_En_addLast_5 (by decide) (fun c_5 => ?_) (fun c_5 => ?_)
  · skip
    have hw : ¬ wt < 3 := by have := (nI_leI (by decide) (by omega)).mp (show nI 3 ≤ nI wt from c_5); omega
    exact rI_v C0 hP hS (⟨by decide, by decide⟩) (⟨rfl, rfl, fun h => absurd h hw⟩) d_En_addLast_38
  · skip
    have hw : wt < 3 := Nat.lt_of_not_le fun z => c_5 (show nI 3 ≤ nI wt from (nI_leI (by decide) (by omega)).mpr z)
    refine lv_aload_n hx hb d_En_addLast_8 rfl (lv_at hl 0 rfl) ?_
    refine q_get C0 hP (kd := 14) (i := e0) (ci := 3) (by decide) (he) rfl rfl 0 (by decide) rfl k_fl_En_9 rfl d_En_addLast_9 ?_
    refine lv_aload_n hx hb d_En_addLast_12 rfl (lv_at hl 0 rfl) ?_
    refine q_get C0 hP (kd := 14) (i := e0) (ci := 3) (by decide) (he) rfl rfl 4 (by decide) rfl k_fl_En_25 rfl d_En_addLast_13 ?_
    rw [show (σ 13 e0 0 : Int32) = nI wt from hwt]
    refine lv_iload_n hx hb d_En_addLast_16 rfl (lv_at hl 1 rfl) ?_
    refine q_iast C0 hP hS (kd := 15) (i := e0) 14 (by decide) rfl (he) rfl (vin_nI hw) (by rw [ast_fn]; rfl) d_En_addLast_17 (fun H locs hP hS => ?_)
    rw [show (nI wt).toNatClampNeg = wt from nI_clamp (by omega)] at hP
    refine lv_aload_n hx hb d_En_addLast_18 rfl (lv_at hl 0 rfl) ?_
    refine q_get C0 hP (kd := 14) (i := e0) (ci := 3) (by decide) (he) rfl rfl 1 (by decide) rfl k_fl_En_15 rfl d_En_addLast_19 ?_
    refine lv_aload_n hx hb d_En_addLast_22 rfl (lv_at hl 0 rfl) ?_
    refine q_get C0 hP (kd := 14) (i := e0) (ci := 3) (by decide) (he) rfl rfl 4 (by decide) rfl k_fl_En_25 rfl d_En_addLast_23 ?_
    rw [show ((up σ 14 e0 wt lt) 13 e0 0 : Int32) = nI wt from by simp [up, hwt]]
    refine lv_iload_n hx hb d_En_addLast_26 rfl (lv_at hl 2 rfl) ?_
    refine q_iast C0 hP hS (kd := 16) (i := e0) 15 (by decide) rfl (he) rfl (vin_nI hw) (by rw [ast_fn]; rfl) d_En_addLast_27 (fun H locs hP hS => ?_)
    rw [show (nI wt).toNatClampNeg = wt from nI_clamp (by omega)] at hP
    refine lv_aload_n hx hb d_En_addLast_28 rfl (lv_at hl 0 rfl) ?_
    refine lv_dup hx hb d_En_addLast_29 rfl ?_
    refine q_get C0 hP (kd := 14) (i := e0) (ci := 3) (by decide) (he) rfl rfl 4 (by decide) rfl k_fl_En_25 rfl d_En_addLast_30 ?_
    rw [show ((up (up σ 14 e0 wt lt) 15 e0 wt v) 13 e0 0 : Int32) = nI wt from by simp [up, hwt]]
    refine lv_iconst (v := 1) hx hb d_En_addLast_33 (by decide) ?_
    refine lv_iadd hx hb d_En_addLast_34 ?_
    rw [show ((nI wt) + 1 : Int32) = nI (wt + 1) from nI_1 wt]
    refine q_put C0 hP hS (kd := 14) (i := e0) (ci := 3) 13 0 (by decide) rfl (he) rfl rfl t_En t_En_ok n_En 4 (by decide) rfl k_fl_En_25 rfl (by decide +kernel) (Nat.le_of_ble_eq_true rfl) (by simp [cont, up]) d_En_addLast_35 (fun H locs hP hS => ?_)
    exact rI_v C0 hP hS (⟨by decide, by decide⟩) (⟨rfl, rfl, fun _ => rfl⟩) d_En_addLast_38
set_option maxHeartbeats 4000000 in
set_option maxRecDepth 100000 in
theorem c_En_removeFirst {S0 : State} {A0 : Array Value} {D : va_G} {ar : Nat → ClassId} {base : Nat} {σ : Mem} {l : Launch} (hlt : l.stackTraces = false) {e0 : Nat} (he : e0 < 12) {wt : Nat} (hwt : σ 13 e0 0 = nI wt) (hw3 : wt ≤ 3) (hw1 : 0 < wt) :
    MX l y_En_removeFirst [Cond.code y_En_removeFirst b_En_removeFirst 2 none] (rmL 0) (PS S0 A0 D ar base σ [.ref (base + ad 14 e0)]) (QI D ar base (fun k r σ' => k = 0 ∧ r = none ∧ σ' = up (popM σ e0 wt) 13 e0 0 (nI (wt - 1)))) (inB base 122) := by
  refine cx_head hlt (by decide +kernel) (Nat.le_of_ble_eq_true rfl) ?_
  intro p ev s m below meth c ls C0 hP hl
  have C0 : Cx S0 A0 D ar base p l s m _ meth c R_En b_En_removeFirst 2 none := C0
  obtain ⟨hx, hb, -⟩ := id C0
  have hl : lv_has ls 2 [(0, .ref (base + ad 14 e0))] := hl
  have hS : va_S (inB base 122) s.heap s.heap [] := va_S.rf
  refine lv_iconst (v := 1) hx hb d_En_removeFirst_0 (by decide) ?_
  refine lv_istore_n (lv' := [(1, .int 1), (0, .ref (base + ad 14 e0))]) hx hb d_En_removeFirst_1 rfl hl (by decide) rfl (fun ls hl => ?_)
  have loop : ∀ (n k : Nat), k ≤ 2 → 2 + 1 ≤ k + n → k + 1 ≤ wt → ∀ (H : Heap) (locs : List Loc), va_P D classes (wl base 122 (mem ar base (popM σ e0 (k + 1)))) H → va_S (inB base 122) s.heap H locs → ∀ ls : Array Slot, lv_has ls 2 [(1, .int (nI (k + 1))), (0, .ref (base + ad 14 e0))] → W p l ev (rmL 0) s m ([.ref (base + ad 14 e0)] : List Value).toArray below meth c H locs 0 0 (MQX below (QI D ar base (fun k r σ' => k = 0 ∧ r = none ∧ σ' = up (popM σ e0 wt) 13 e0 0 (nI (wt - 1)))) ([.ref (base + ad 14 e0)] : List Value).toArray s (rmL 0).cells (rmL 0).slots (inB base 122)) (F0 m 2 ls []) := by
    intro n
    induction n with
    | zero => intro k h1 h2; omega
    | succ n ih =>
      intro k hk1 hk2 hinv H locs hP hS ls hl
      refine lv_iload_n hx hb d_En_removeFirst_2 rfl (lv_at hl 0 rfl) ?_
      refine lv_aload_n hx hb d_En_removeFirst_3 rfl (lv_at hl 1 rfl) ?_
      refine q_get C0 hP (kd := 14) (i := e0) (ci := 3) (by decide) (he) rfl rfl 4 (by decide) rfl k_fl_En_25 rfl d_En_removeFirst_4 ?_
      rw [show ((popM σ e0 (k + 1)) 13 e0 0 : Int32) = nI wt from by simp [popM, hwt]]
      refine lv_icmp_ge (tgt := 44) hx hb d_En_removeFirst_7 (by decide) (fun c_7 => ?_) (fun c_7 => ?_)
      · skip
        have hkN : k + 1 = wt ∨ wt = 0 := by have := (nI_leI (by omega) (by omega)).mp c_7; omega
        refine lv_aload_n hx hb d_En_removeFirst_44 rfl (lv_at hl 1 rfl) ?_
        refine q_get C0 hP (kd := 14) (i := e0) (ci := 3) (by decide) (he) rfl rfl 4 (by decide) rfl k_fl_En_25 rfl d_En_removeFirst_45 ?_
        have hkw : k + 1 = wt := by omega
        rw [show ((popM σ e0 (k + 1)) 13 e0 0 : Int32) = nI wt from by simp [popM, hwt]]
        refine lv_if_le (tgt := 61) hx hb d_En_removeFirst_48 (by decide) (fun c_48 => ?_) (fun c_48 => ?_)
        · skip
          exact absurd c_48 (nI_nle (by omega) (by omega))
        · skip
          have hw0 : 0 < wt := Nat.lt_of_not_le fun z => c_48 (show nI wt ≤ nI 0 from (nI_leI (by omega) (by decide)).mpr z)
          refine lv_aload_n hx hb d_En_removeFirst_51 rfl (lv_at hl 1 rfl) ?_
          refine lv_dup hx hb d_En_removeFirst_52 rfl ?_
          refine q_get C0 hP (kd := 14) (i := e0) (ci := 3) (by decide) (he) rfl rfl 4 (by decide) rfl k_fl_En_25 rfl d_En_removeFirst_53 ?_
          rw [show ((popM σ e0 (k + 1)) 13 e0 0 : Int32) = nI wt from by simp [popM, hwt]]
          refine lv_iconst (v := 1) hx hb d_En_removeFirst_56 (by decide) ?_
          refine lv_isub hx hb d_En_removeFirst_57 ?_
          rw [show ((nI wt) - 1 : Int32) = nI (wt - 1) from by rw [show wt = (wt - 1) + 1 from by omega]; exact nI_pred _]
          refine q_put C0 hP hS (kd := 14) (i := e0) (ci := 3) 13 0 (by decide) rfl (he) rfl rfl t_En t_En_ok n_En 4 (by decide) rfl k_fl_En_25 rfl (by decide +kernel) (Nat.le_of_ble_eq_true rfl) (by simp [cont, up]) d_En_removeFirst_58 (fun H locs hP hS => ?_)
          exact rI_v C0 hP hS (⟨by decide, by decide⟩) (⟨rfl, rfl, by rw [hkw]⟩) d_En_removeFirst_61
      · skip
        have hkN : k + 1 < wt := Nat.lt_of_not_le fun z => c_7 ((nI_leI (by omega) (by omega)).mpr z)
        refine lv_aload_n hx hb d_En_removeFirst_10 rfl (lv_at hl 1 rfl) ?_
        refine q_get C0 hP (kd := 14) (i := e0) (ci := 3) (by decide) (he) rfl rfl 0 (by decide) rfl k_fl_En_9 rfl d_En_removeFirst_11 ?_
        refine lv_iload_n hx hb d_En_removeFirst_14 rfl (lv_at hl 0 rfl) ?_
        refine lv_iconst (v := 1) hx hb d_En_removeFirst_15 (by decide) ?_
        refine lv_isub hx hb d_En_removeFirst_16 ?_
        rw [show ((nI (k + 1)) - 1 : Int32) = nI k from nI_pred k]
        refine lv_aload_n hx hb d_En_removeFirst_17 rfl (lv_at hl 1 rfl) ?_
        refine q_get C0 hP (kd := 14) (i := e0) (ci := 3) (by decide) (he) rfl rfl 0 (by decide) rfl k_fl_En_9 rfl d_En_removeFirst_18 ?_
        refine lv_iload_n hx hb d_En_removeFirst_21 rfl (lv_at hl 0 rfl) ?_
        refine q_iald C0 hP (kd := 15) (i := e0) (by decide) (he) rfl (vin_nI (by omega)) d_En_removeFirst_22 ?_
        rw [show (nI (k + 1)).toNatClampNeg = (k + 1) from nI_clamp (by omega)]
        refine q_iast C0 hP hS (kd := 15) (i := e0) 14 (by decide) rfl (he) rfl (vin_nI (by omega)) (by rw [ast_fn]; rfl) d_En_removeFirst_23 (fun H locs hP hS => ?_)
        rw [show (nI k).toNatClampNeg = k from nI_clamp (by omega)] at hP
        refine lv_aload_n hx hb d_En_removeFirst_24 rfl (lv_at hl 1 rfl) ?_
        refine q_get C0 hP (kd := 14) (i := e0) (ci := 3) (by decide) (he) rfl rfl 1 (by decide) rfl k_fl_En_15 rfl d_En_removeFirst_25 ?_
        refine lv_iload_n hx hb d_En_removeFirst_28 rfl (lv_at hl 0 rfl) ?_
        refine lv_iconst (v := 1) hx hb d_En_removeFirst_29 (by decide) ?_
        refine lv_isub hx hb d_En_removeFirst_30 ?_
        rw [show ((nI (k + 1)) - 1 : Int32) = nI k from nI_pred k]
        refine lv_aload_n hx hb d_En_removeFirst_31 rfl (lv_at hl 1 rfl) ?_
        refine q_get C0 hP (kd := 14) (i := e0) (ci := 3) (by decide) (he) rfl rfl 1 (by decide) rfl k_fl_En_15 rfl d_En_removeFirst_32 ?_
        refine lv_iload_n hx hb d_En_removeFirst_35 rfl (lv_at hl 0 rfl) ?_
        refine q_iald C0 hP (kd := 16) (i := e0) (by decide) (he) rfl (vin_nI (by omega)) d_En_removeFirst_36 ?_
        rw [show (nI (k + 1)).toNatClampNeg = (k + 1) from nI_clamp (by omega)]
        refine q_iast C0 hP hS (kd := 16) (i := e0) 15 (by decide) rfl (he) rfl (vin_nI (by omega)) (by rw [ast_fn]; rfl) d_En_removeFirst_37 (fun H locs hP hS => ?_)
        rw [show (nI k).toNatClampNeg = k from nI_clamp (by omega)] at hP
        refine lv_iinc (v := nI (k + 1 + 1)) (lv' := [(1, .int (nI (k + 1 + 1))), (0, .ref (base + ad 14 e0))]) hx hb d_En_removeFirst_38 hl (k := 0) rfl (by exact nI_1 (k + 1)) (by decide) rfl (fun ls hl => ?_)
        refine lv_goto (tgt := 2) hx hb d_En_removeFirst_41 (by decide) ?_
        rw [show ((up (up (popM σ e0 (k + 1)) 14 e0 k ((popM σ e0 (k + 1)) 14 e0 (k + 1))) 15 e0 k ((up (popM σ e0 (k + 1)) 14 e0 k ((popM σ e0 (k + 1)) 14 e0 (k + 1))) 15 e0 (k + 1))) : Mem) = popM σ e0 (k + 1 + 1) from by rw [← pop_s]; simp [up]] at hP
        exact ih (k + 1) (by omega) (by omega) (by omega) _ _ hP hS ls (lv_sub hl [0, 1] rfl)
  rw [show (σ : Mem) = popM σ e0 (0 + 1) from pop_1] at hP
  exact loop (2 + 1) 0 (by omega) (by omega) (by omega) _ _ hP hS ls (lv_sub hl [0, 1] rfl)
set_option maxHeartbeats 4000000 in
set_option maxRecDepth 100000 in
theorem c_Sy_ownsBlock {S0 : State} {A0 : Array Value} {D : va_G} {ar : Nat → ClassId} {base : Nat} {σ : Mem} {l : Launch} (hlt : l.stackTraces = false) {q v : Int32} :
    MX l y_Sy_ownsBlock [Cond.code y_Sy_ownsBlock b_Sy_ownsBlock 3 (some .boolean)] (rmL 0) (PS S0 A0 D ar base σ [.ref (base + ad 0 0), .int q, .int v]) (QP (fun k r => k = 0 ∧ r = some (b2i (¬ v < 0 ∧ ¬ 12 ≤ v ∧ σ 8 v.toNatClampNeg 0 = q)))) (fun _ => False) := by
  refine cx_head hlt (by decide +kernel) (Nat.le_of_ble_eq_true rfl) ?_
  intro p ev s m below meth c ls C0 hP hl
  have C0 : Cx S0 A0 D ar base p l s m _ meth c R_Sy b_Sy_ownsBlock 3 (some .boolean) := C0
  obtain ⟨hx, hb, -⟩ := id C0
  have hl : lv_has ls 3 [(0, .ref (base + ad 0 0)), (1, .int q), (2, .int v)] := hl
  refine lv_iload_n hx hb d_Sy_ownsBlock_0 rfl (lv_at hl 2 rfl) ?_
  refine lv_if_lt (tgt := 27) hx hb d_Sy_ownsBlock_1 (by decide) (fun c_1 => ?_) (fun c_1 => ?_)
  · skip
    refine lv_iconst (v := 0) hx hb d_Sy_ownsBlock_27 (by decide) ?_
    exact rP_z C0 (⟨by decide, by decide⟩) (Or.inl rfl) (⟨rfl, by simp [b2i, c_1]⟩) d_Sy_ownsBlock_28
  · skip
    refine lv_iload_n hx hb d_Sy_ownsBlock_4 rfl (lv_at hl 2 rfl) ?_
    refine lv_bipush (v := 12) hx hb d_Sy_ownsBlock_5 (by decide) ?_
    refine lv_icmp_ge (tgt := 27) hx hb d_Sy_ownsBlock_7 (by decide) (fun c_7 => ?_) (fun c_7 => ?_)
    · skip
      refine lv_iconst (v := 0) hx hb d_Sy_ownsBlock_27 (by decide) ?_
      exact rP_z C0 (⟨by decide, by decide⟩) (Or.inl rfl) (⟨rfl, by simp [b2i, c_1, c_7]⟩) d_Sy_ownsBlock_28
    · skip
      have hv12 : vp_in v 12 := vin_rg c_1 (by rw [Int32.le_iff_toInt_le] at c_7; have h12 : (12 : Int32).toInt = 12 := (by decide); omega)
      refine lv_aload_n hx hb d_Sy_ownsBlock_10 rfl (lv_at hl 0 rfl) ?_
      refine q_get C0 hP (kd := 0) (i := 0) (ci := 0) (by decide) (by decide) rfl rfl 5 (by decide) rfl k_fl_Sy_30 rfl d_Sy_ownsBlock_11 ?_
      refine lv_iload_n hx hb d_Sy_ownsBlock_14 rfl (lv_at hl 2 rfl) ?_
      refine q_aald C0 hP (kd := 4) (i := 0) (t0 := 4) (v := base + ad 12 v.toNatClampNeg) (by decide) (by decide) rfl rfl (rfl) (hv12) d_Sy_ownsBlock_15 ?_
      refine q_getN C0 hP (kd := 12) (i := v.toNatClampNeg) (ci := 2) (by decide) (vin_lt (hv12)) rfl rfl 1 (by decide) rfl k_fn_Sy_93 rfl d_Sy_ownsBlock_16 ?_
      refine lv_iload_n hx hb d_Sy_ownsBlock_19 rfl (lv_at hl 1 rfl) ?_
      refine lv_icmp_ne (tgt := 27) hx hb d_Sy_ownsBlock_20 (by decide) (fun c_20 => ?_) (fun c_20 => ?_)
      · skip
        refine lv_iconst (v := 0) hx hb d_Sy_ownsBlock_27 (by decide) ?_
        exact rP_z C0 (⟨by decide, by decide⟩) (Or.inl rfl) (⟨rfl, by simp [b2i, c_1, c_7, c_20]⟩) d_Sy_ownsBlock_28
      · skip
        refine lv_iconst (v := 1) hx hb d_Sy_ownsBlock_23 (by decide) ?_
        refine lv_goto (tgt := 28) hx hb d_Sy_ownsBlock_24 (by decide) ?_
        exact rP_z C0 (⟨by decide, by decide⟩) (Or.inr rfl) (⟨rfl, by simp [b2i, c_1, c_7, c_20]⟩) d_Sy_ownsBlock_28
set_option maxHeartbeats 4000000 in
set_option maxRecDepth 100000 in
theorem c_Sy_ownsEndOfOtherChannel {S0 : State} {A0 : Array Value} {D : va_G} {ar : Nat → ClassId} {base : Nat} {σ : Mem} {l : Launch} (hlt : l.stackTraces = false) {q v x : Int32} :
    MX l y_Sy_ownsEndOfOtherChannel [Cond.code y_Sy_ownsEndOfOtherChannel b_Sy_ownsEndOfOtherChannel 4 (some .boolean)] (rmL 0) (PS S0 A0 D ar base σ [.ref (base + ad 0 0), .int q, .int v, .int x]) (QP (fun k r => k = 0 ∧ r = some (b2i (¬ v < 0 ∧ ¬ 12 ≤ v ∧ ¬ v / 2 = x / 2 ∧ σ 11 v.toNatClampNeg 0 = q)))) (fun _ => False) := by
  refine cx_head hlt (by decide +kernel) (Nat.le_of_ble_eq_true rfl) ?_
  intro p ev s m below meth c ls C0 hP hl
  have C0 : Cx S0 A0 D ar base p l s m _ meth c R_Sy b_Sy_ownsEndOfOtherChannel 4 (some .boolean) := C0
  obtain ⟨hx, hb, -⟩ := id C0
  have hl : lv_has ls 4 [(0, .ref (base + ad 0 0)), (1, .int q), (2, .int v), (3, .int x)] := hl
  refine lv_iload_n hx hb d_Sy_ownsEndOfOtherChannel_0 rfl (lv_at hl 2 rfl) ?_
  refine lv_if_lt (tgt := 36) hx hb d_Sy_ownsEndOfOtherChannel_1 (by decide) (fun c_1 => ?_) (fun c_1 => ?_)
  · skip
    refine lv_iconst (v := 0) hx hb d_Sy_ownsEndOfOtherChannel_36 (by decide) ?_
    exact rP_z C0 (⟨by decide, by decide⟩) (Or.inl rfl) (⟨rfl, by simp [b2i, c_1]⟩) d_Sy_ownsEndOfOtherChannel_37
  · skip
    refine lv_iload_n hx hb d_Sy_ownsEndOfOtherChannel_4 rfl (lv_at hl 2 rfl) ?_
    refine lv_bipush (v := 12) hx hb d_Sy_ownsEndOfOtherChannel_5 (by decide) ?_
    refine lv_icmp_ge (tgt := 36) hx hb d_Sy_ownsEndOfOtherChannel_7 (by decide) (fun c_7 => ?_) (fun c_7 => ?_)
    · skip
      refine lv_iconst (v := 0) hx hb d_Sy_ownsEndOfOtherChannel_36 (by decide) ?_
      exact rP_z C0 (⟨by decide, by decide⟩) (Or.inl rfl) (⟨rfl, by simp [b2i, c_1, c_7]⟩) d_Sy_ownsEndOfOtherChannel_37
    · skip
      have hv12 : vp_in v 12 := vin_rg c_1 (by rw [Int32.le_iff_toInt_le] at c_7; have h12 : (12 : Int32).toInt = 12 := (by decide); omega)
      refine lv_iload_n hx hb d_Sy_ownsEndOfOtherChannel_10 rfl (lv_at hl 2 rfl) ?_
      refine lv_iconst (v := 2) hx hb d_Sy_ownsEndOfOtherChannel_11 (by decide) ?_
      refine lv_idiv hx hb d_Sy_ownsEndOfOtherChannel_12 (by decide) ?_
      refine lv_iload_n hx hb d_Sy_ownsEndOfOtherChannel_13 rfl (lv_at hl 3 rfl) ?_
      refine lv_iconst (v := 2) hx hb d_Sy_ownsEndOfOtherChannel_14 (by decide) ?_
      refine lv_idiv hx hb d_Sy_ownsEndOfOtherChannel_15 (by decide) ?_
      refine lv_icmp_eq (tgt := 36) hx hb d_Sy_ownsEndOfOtherChannel_16 (by decide) (fun c_16 => ?_) (fun c_16 => ?_)
      · skip
        refine lv_iconst (v := 0) hx hb d_Sy_ownsEndOfOtherChannel_36 (by decide) ?_
        exact rP_z C0 (⟨by decide, by decide⟩) (Or.inl rfl) (⟨rfl, by simp [b2i, c_1, c_7, c_16]⟩) d_Sy_ownsEndOfOtherChannel_37
      · skip
        refine lv_aload_n hx hb d_Sy_ownsEndOfOtherChannel_19 rfl (lv_at hl 0 rfl) ?_
        refine q_get C0 hP (kd := 0) (i := 0) (ci := 0) (by decide) (by decide) rfl rfl 7 (by decide) rfl k_fl_Sy_40 rfl d_Sy_ownsEndOfOtherChannel_20 ?_
        refine lv_iload_n hx hb d_Sy_ownsEndOfOtherChannel_23 rfl (lv_at hl 2 rfl) ?_
        refine q_aald C0 hP (kd := 6) (i := 0) (t0 := 5) (v := base + ad 14 v.toNatClampNeg) (by decide) (by decide) rfl rfl (rfl) (hv12) d_Sy_ownsEndOfOtherChannel_24 ?_
        refine q_getN C0 hP (kd := 14) (i := v.toNatClampNeg) (ci := 3) (by decide) (vin_lt (hv12)) rfl rfl 2 (by decide) rfl k_fn_Sy_99 rfl d_Sy_ownsEndOfOtherChannel_25 ?_
        refine lv_iload_n hx hb d_Sy_ownsEndOfOtherChannel_28 rfl (lv_at hl 1 rfl) ?_
        refine lv_icmp_ne (tgt := 36) hx hb d_Sy_ownsEndOfOtherChannel_29 (by decide) (fun c_29 => ?_) (fun c_29 => ?_)
        · skip
          refine lv_iconst (v := 0) hx hb d_Sy_ownsEndOfOtherChannel_36 (by decide) ?_
          exact rP_z C0 (⟨by decide, by decide⟩) (Or.inl rfl) (⟨rfl, by simp [b2i, c_1, c_7, c_16, c_29]⟩) d_Sy_ownsEndOfOtherChannel_37
        · skip
          refine lv_iconst (v := 1) hx hb d_Sy_ownsEndOfOtherChannel_32 (by decide) ?_
          refine lv_goto (tgt := 37) hx hb d_Sy_ownsEndOfOtherChannel_33 (by decide) ?_
          exact rP_z C0 (⟨by decide, by decide⟩) (Or.inr rfl) (⟨rfl, by simp [b2i, c_1, c_7, c_16, c_29]⟩) d_Sy_ownsEndOfOtherChannel_37
end
section
/-! throw new IllegalStateException with a text of a wide index -/
section CSW
variable {S0 : State} {A0 : Array Value} {D : va_G} {ar : Nat → ClassId} {base : Nat} {σ : Mem}
variable {p : Program} {l : Launch} {e : Env} {R : Room} {s : State} {m : MethodId} {args : Array Value} {below : List Frame} {meth : Method} {c : Code} {H : Heap} {locs : List Loc} {cells slots : Nat} {Q : State → Prop}
variable {own : String} {cc : ByteArray} {nL : Nat} {ret : Option FieldType} {pc index : Nat} {ls : Array Slot} {rest As st0 av : List Value} {y : MethodName} {bytes : ByteArray} {maxL : Nat} {rt : Option FieldType} {rm : Room}
/-- throw new E("text"); the block may have been changed -/
theorem tn_anyW {Qc : Array Value → State → Outcome → State → Prop} {free : Addr → Prop} {E text : String} {ik is ic : Nat} (C0 : Cx S0 A0 D ar base p l s m args meth c own cc nL ret) (hS : va_S (inB base 122) s.heap H locs) (hE : Bundle.fit E = true)
    (hk : Cond.classLink own ik E ∈ lw_tbl) (hini : Cond.initialized E ∈ lw_tbl) (hsr : Cond.stringRef own is text ∈ lw_tbl) (hex : ∀ A S, (Jvm.Cond.and given_1 narrow_1).before A S = true → (Cond.exactly (.string own is) "java/lang/String").before A S = true)
    (hat : ∀ w ∈ vx_atS own ic E ["java/lang/RuntimeException", "java/lang/Exception"], w ∈ lw_tbl) (hag : (vx_atS own ic E ["java/lang/RuntimeException", "java/lang/Exception"]).all (fun w => goodWord w || (match w with | .castable _ _ => true | .declares _ => true | _ => false)) = true)
    (hag2 : (vx_atS own ic E ["java/lang/RuntimeException", "java/lang/Exception"]).all vx_ot = true)
    (hu : ∀ A S, (Jvm.Cond.and given_1 narrow_1).before A S = true → (Cond.isRef (.static Bundle.tN "UNASSIGNED_STACK" Bundle.steD)).before A S = true ∧ (Cond.isRef (.static Bundle.tN "SUPPRESSED_SENTINEL" Bundle.listD)).before A S = true)
    (hz : Cond.laysStatic Bundle.tN "UNASSIGNED_STACK" Bundle.steD ∈ lw_tbl ∧ Cond.laysStatic Bundle.tN "SUPPRESSED_SENTINEL" Bundle.listD ∈ lw_tbl ∧ Cond.initialized Bundle.tN ∈ lw_tbl) (hsize : ls.size = nL)
    (d0 : decode cc pc = .ok (.new ik, 3)) (d3 : decode cc (pc + 3) = .ok (.dup, 1)) (d4 : decode cc (pc + 4) = .ok (.ldc_w is, 3)) (d6 : decode cc (pc + 7) = .ok (.invokespecial ic, 3)) (d9 : decode cc (pc + 10) = .ok (.athrow, 1))
    (hRf : 5 < R.frames) (hRl : (rest.map fun v => v.category).sum + 82 ≤ R.locals) (hc : cells + 1 ≤ R.cells ∧ slots + 6 ≤ R.slots) (hf : ∀ z ∈ locs, free z.base)
    (hq : ∀ (t : State) (x : Addr), s.WarmedH t.vm → x_Keep (fun _ => False) H t.heap → x_is E x t → Qc args s (.threw x) t) :
    W p l e R s m args below meth c H locs cells slots (MQX below Qc args s R.cells R.slots free) (F0 m pc ls rest) := by
  obtain ⟨hx, hb, -, hml, hown, hlk, hno, hl, h0, hbase⟩ := C0
  obtain ⟨sa, hsa⟩ := h0.str hsr (hex _ _ h0.1.2.2)
  have h1 := vx_throwSW (p := p) (l := l) (e := e) (R := R) (s := s) (m := m) (args := args) (below := below) (meth := meth) (c := c) (H := H) (locs := locs) (cells := cells) (slots := slots) (free := free) (ls := ls) (rest := rest) (Qc := fun _ _ _ _ => False) (XC := fun E' _ t => E' = E ∧ x_Keep (fun _ => False) H t.heap) (A := inB base 122) (mc := R.cells) (ms := R.slots) (names := ["java/lang/RuntimeException", "java/lang/Exception"]) hx hb hl hown hE (by decide +kernel) (h0.word hk rfl) (h0.word hini rfl) hsa (h0.thr hat hag)
    (fun w hw => by
      rcases List.mem_cons.mp hw with rfl | hw
      · rfl
      · rcases List.mem_cons.mp hw with rfl | hw
        · rfl
        · exact List.all_eq_true.mp hag2 w hw)
    (h0.zq hz.1 hz.2.2 (hu _ _ h0.1.2.2).1 (inB_old hbase)) (h0.zq hz.2.1 hz.2.2 (hu _ _ h0.1.2.2).2 (inB_old hbase)) hS (hsize.trans hml.symm) d0 d3 d4 d6 d9 (x_empty hno _) hRf hRl hc.1 hc.2 hlk
    (fun t _ h3 h4 => ⟨rfl, h3, fun q hq _ => h4 q hq⟩) hf hc.1 hc.2
  refine W.mono ?_ h1
  rintro t ⟨o, h2, h3, h4⟩
  rcases h4 with ⟨h5, -⟩ | ⟨q, rfl, E', ce, L, ⟨rfl, h6⟩, h7, h8, h9, h10, h11, h12⟩
  · exact h5.elim
  · exact ⟨.threw q, h2, h3, hq t q h10 h6 ⟨ce, h7, h8, by rw [h10.alike.findClass]; exact h9⟩, L, ⟨h10, h11⟩, h12⟩
end CSW
theorem tP_2W {S0 : State} {A0 : Array Value} {D : va_G} {ar : Nat → ClassId} {base : Nat} {p : Program} {l : Launch} {e : Env} {R : Room} {s : State} {m : MethodId} {args : Array Value} {below : List Frame} {meth : Method} {c : Code} {cells slots : Nat} {cc : ByteArray} {nL : Nat} {ret : Option FieldType} {pc is : Nat} {ls : Array Slot} {rest : List Value} {text : String} {P : Nat → Option Int32 → Prop} (C0 : Cx S0 A0 D ar base p l s m args meth c R_Sy cc nL ret) (hsr : Cond.stringRef R_Sy is text ∈ lw_tbl) (hex : ∀ A S, (Jvm.Cond.and given_1 narrow_1).before A S = true → (Cond.exactly (.string R_Sy is) "java/lang/String").before A S = true) (hsize : ls.size = nL)
    (d0 : decode cc pc = .ok (.new 181, 3)) (d3 : decode cc (pc + 3) = .ok (.dup, 1)) (d4 : decode cc (pc + 4) = .ok (.ldc_w is, 3)) (d6 : decode cc (pc + 7) = .ok (.invokespecial 185, 3)) (d9 : decode cc (pc + 10) = .ok (.athrow, 1)) (hRf : 5 < R.frames) (hRl : (rest.map fun v => v.category).sum + 82 ≤ R.locals) (hc : cells + 1 ≤ R.cells ∧ slots + 6 ≤ R.slots) (hp : P 2 none) :
    W p l e R s m args below meth c s.heap [] cells slots (MQX below (QP P) args s R.cells R.slots (fun _ => False)) (F0 m pc ls rest) :=
  tn_anyW C0 va_S.rf (by decide +kernel) k_cl_Sy_181 k_in_IllegalStateException hsr hex xa_2 xb_2 xc_2 xu_0 xz hsize d0 d3 d4 d6 d9 hRf hRl hc (fun z hz => by cases hz) (fun t x _ _ hx => ⟨2, none, hp, ⟨x, rfl, hx⟩, fun h => absurd h (by decide)⟩)
theorem tI_2W {S0 : State} {A0 : Array Value} {D : va_G} {ar : Nat → ClassId} {base : Nat} {σ : Mem} {p : Program} {l : Launch} {e : Env} {R : Room} {s : State} {m : MethodId} {args : Array Value} {below : List Frame} {meth : Method} {c : Code} {H : Heap} {locs : List Loc} {cells slots : Nat} {cc : ByteArray} {nL : Nat} {ret : Option FieldType} {pc is : Nat} {ls : Array Slot} {rest : List Value} {text : String} {P : Nat → Option Int32 → Mem → Prop} (C0 : Cx S0 A0 D ar base p l s m args meth c R_Sy cc nL ret) (hP : va_P D classes (wl base 122 (mem ar base σ)) H) (hS : va_S (inB base 122) s.heap H locs) (hsr : Cond.stringRef R_Sy is text ∈ lw_tbl) (hex : ∀ A S, (Jvm.Cond.and given_1 narrow_1).before A S = true → (Cond.exactly (.string R_Sy is) "java/lang/String").before A S = true) (hsize : ls.size = nL)
    (d0 : decode cc pc = .ok (.new 181, 3)) (d3 : decode cc (pc + 3) = .ok (.dup, 1)) (d4 : decode cc (pc + 4) = .ok (.ldc_w is, 3)) (d6 : decode cc (pc + 7) = .ok (.invokespecial 185, 3)) (d9 : decode cc (pc + 10) = .ok (.athrow, 1)) (hRf : 5 < R.frames) (hRl : (rest.map fun v => v.category).sum + 82 ≤ R.locals) (hc : cells + 1 ≤ R.cells ∧ slots + 6 ≤ R.slots) (hp : P 2 none σ) :
    W p l e R s m args below meth c H locs cells slots (MQX below (QI D ar base P) args s R.cells R.slots (inB base 122)) (F0 m pc ls rest) :=
  tn_anyW C0 hS (by decide +kernel) k_cl_Sy_181 k_in_IllegalStateException hsr hex xa_2 xb_2 xc_2 xu_0 xz hsize d0 d3 d4 d6 d9 hRf hRl hc hS.2.2 (fun t x _ hkp hx => ⟨2, none, σ, hp, ⟨x, rfl, hx⟩, wl_kept hP (fun q _ h4 => hkp.2 q (by have := wl_lt hP (k := q - base) (by omega); omega) id)⟩)
end
section
/-! What a message carries: laid by gen/m26.py. -/
abbrev isB (x : Int32) : Prop := ¬ x < 3 ∧ ¬ 6 ≤ x
abbrev ownB (σ : Mem) (q v : Int32) : Prop := ¬ v < 0 ∧ ¬ 12 ≤ v ∧ σ 8 v.toNatClampNeg 0 = q
abbrev ownE (σ : Mem) (q v x : Int32) : Prop := ¬ v < 0 ∧ ¬ 12 ≤ v ∧ ¬ v / 2 = x / 2 ∧ σ 11 v.toNatClampNeg 0 = q
def kLoad (σ : Mem) (q x lt v : Int32) : Nat := if isB lt ∧ ¬ ownB σ q v then 2 else if lt = 6 ∧ ¬ ownE σ q v x then 2 else 0
def giveM (σ : Mem) (lt v q : Int32) : Mem := if isB lt then up σ 8 v.toNatClampNeg 0 q else if lt = 6 then up σ 11 v.toNatClampNeg 0 q else σ
set_option maxHeartbeats 4000000 in
set_option maxRecDepth 100000 in
theorem c_Sy_needOwnLoad {S0 : State} {A0 : Array Value} {D : va_G} {ar : Nat → ClassId} {base : Nat} {σ : Mem} {l : Launch} (hlt : l.stackTraces = false) {q x lt v : Int32} :
    MX l y_Sy_needOwnLoad [Cond.code y_Sy_needOwnLoad b_Sy_needOwnLoad 5 none] (rmT 1) (PS S0 A0 D ar base σ [.ref (base + ad 0 0), .int q, .int x, .int lt, .int v]) (QP (fun k r => r = none ∧ k = kLoad σ q x lt v)) (fun _ => False) := by
  refine cx_head hlt (by decide +kernel) (Nat.le_of_ble_eq_true rfl) ?_
  intro p ev s m below meth c ls C0 hP hl
  have C0 : Cx S0 A0 D ar base p l s m _ meth c R_Sy b_Sy_needOwnLoad 5 none := C0
  obtain ⟨hx, hb, -⟩ := id C0
  have hl : lv_has ls 5 [(0, .ref (base + ad 0 0)), (1, .int q), (2, .int x), (3, .int lt), (4, .int v)] := hl
  refine lv_iload_n hx hb d_Sy_needOwnLoad_0 rfl (lv_at hl 3 rfl) ?_
  refine cs_PP C0 hP (cs_S C0 (As := [.int lt]) k_ml_Sy_242 k_st_Sy_carriesBlock k_cd_Sy_carriesBlock k_in_Sy z_Sy_carriesBlock rfl d_Sy_needOwnLoad_1) (c_Sy_carriesBlock hlt) hl.1 d_Sy_needOwnLoad_1 (Nat.le_of_ble_eq_true rfl) ⟨by decide, by decide⟩ (⟨by decide, by decide⟩) (fun k r hk hp => absurd hp.1 hk) (fun r_2 h_1 => ?_)
  obtain rfl := h_1.2
  refine lv_if_eq (tgt := 27) hx hb d_Sy_needOwnLoad_4 (by decide) (fun c_4 => ?_) (fun c_4 => ?_)
  · skip
    have c_4 := b2i_z.mp c_4
    refine lv_iload_n hx hb d_Sy_needOwnLoad_27 rfl (lv_at hl 3 rfl) ?_
    refine cs_PP C0 hP (cs_S C0 (As := [.int lt]) k_ml_Sy_252 k_st_Sy_carriesEnd k_cd_Sy_carriesEnd k_in_Sy z_Sy_carriesEnd rfl d_Sy_needOwnLoad_28) (c_Sy_carriesEnd hlt) hl.1 d_Sy_needOwnLoad_28 (Nat.le_of_ble_eq_true rfl) ⟨by decide, by decide⟩ (⟨by decide, by decide⟩) (fun k r hk hp => absurd hp.1 hk) (fun r_4 h_3 => ?_)
    obtain rfl := h_3.2
    refine lv_if_eq (tgt := 56) hx hb d_Sy_needOwnLoad_31 (by decide) (fun c_31 => ?_) (fun c_31 => ?_)
    · skip
      have c_31 := b2i_z.mp c_31
      exact rP_v C0 (⟨by decide, by decide⟩) (⟨rfl, by unfold kLoad; rw [if_neg (fun h => c_4 h.1), if_neg (fun h => c_31 h.1)]⟩) d_Sy_needOwnLoad_56
    · skip
      have c_31 := b2i_ne.mp c_31
      refine lv_aload_n hx hb d_Sy_needOwnLoad_34 rfl (lv_at hl 0 rfl) ?_
      refine lv_iload_n hx hb d_Sy_needOwnLoad_35 rfl (lv_at hl 1 rfl) ?_
      refine lv_iload hx hb d_Sy_needOwnLoad_36 (lv_at hl 4 rfl) ?_
      refine lv_iload_n hx hb d_Sy_needOwnLoad_38 rfl (lv_at hl 2 rfl) ?_
      refine cs_PP C0 hP (cs_V C0 hP (kd := 0) (i := 0) (ci := 0) (As := [.int q, .int v, .int x]) (by decide) (by decide) rfl rfl k_ml_Sy_255 k_im_Sy_ownsEndOfOtherChannel k_sl_Sy_Sy_ownsEndOfOtherChannel k_cd_Sy_ownsEndOfOtherChannel k_in_Sy z_Sy_ownsEndOfOtherChannel rfl d_Sy_needOwnLoad_39) (c_Sy_ownsEndOfOtherChannel hlt) hl.1 d_Sy_needOwnLoad_39 (Nat.le_of_ble_eq_true rfl) ⟨by decide, by decide⟩ (⟨by decide, by decide⟩) (fun k r hk hp => absurd hp.1 hk) (fun r_6 h_5 => ?_)
      obtain rfl := h_5.2
      refine lv_if_ne (tgt := 56) hx hb d_Sy_needOwnLoad_42 (by decide) (fun c_42 => ?_) (fun c_42 => ?_)
      · skip
        have c_42 := b2i_ne.mp c_42
        exact rP_v C0 (⟨by decide, by decide⟩) (⟨rfl, by unfold kLoad; rw [if_neg (fun h => c_4 h.1), if_neg (fun h => h.2 c_42)]⟩) d_Sy_needOwnLoad_56
      · skip
        have c_42 := b2i_z.mp c_42
        exact tP_2W C0 k_sr_Sy_259 xs_259 hl.1 d_Sy_needOwnLoad_45 d_Sy_needOwnLoad_48 d_Sy_needOwnLoad_49 d_Sy_needOwnLoad_52 d_Sy_needOwnLoad_55 (by decide) (by decide) (⟨by decide, by decide⟩) (⟨rfl, by unfold kLoad; rw [if_neg (fun h => c_4 h.1), if_pos ⟨c_31, c_42⟩]⟩)
  · skip
    have c_4 := b2i_ne.mp c_4
    refine lv_aload_n hx hb d_Sy_needOwnLoad_7 rfl (lv_at hl 0 rfl) ?_
    refine lv_iload_n hx hb d_Sy_needOwnLoad_8 rfl (lv_at hl 1 rfl) ?_
    refine lv_iload hx hb d_Sy_needOwnLoad_9 (lv_at hl 4 rfl) ?_
    refine cs_PP C0 hP (cs_V C0 hP (kd := 0) (i := 0) (ci := 0) (As := [.int q, .int v]) (by decide) (by decide) rfl rfl k_ml_Sy_246 k_im_Sy_ownsBlock k_sl_Sy_Sy_ownsBlock k_cd_Sy_ownsBlock k_in_Sy z_Sy_ownsBlock rfl d_Sy_needOwnLoad_11) (c_Sy_ownsBlock hlt) hl.1 d_Sy_needOwnLoad_11 (Nat.le_of_ble_eq_true rfl) ⟨by decide, by decide⟩ (⟨by decide, by decide⟩) (fun k r hk hp => absurd hp.1 hk) (fun r_8 h_7 => ?_)
    obtain rfl := h_7.2
    refine lv_if_ne (tgt := 27) hx hb d_Sy_needOwnLoad_14 (by decide) (fun c_14 => ?_) (fun c_14 => ?_)
    · skip
      have c_14 := b2i_ne.mp c_14
      refine lv_iload_n hx hb d_Sy_needOwnLoad_27 rfl (lv_at hl 3 rfl) ?_
      refine cs_PP C0 hP (cs_S C0 (As := [.int lt]) k_ml_Sy_252 k_st_Sy_carriesEnd k_cd_Sy_carriesEnd k_in_Sy z_Sy_carriesEnd rfl d_Sy_needOwnLoad_28) (c_Sy_carriesEnd hlt) hl.1 d_Sy_needOwnLoad_28 (Nat.le_of_ble_eq_true rfl) ⟨by decide, by decide⟩ (⟨by decide, by decide⟩) (fun k r hk hp => absurd hp.1 hk) (fun r_10 h_9 => ?_)
      obtain rfl := h_9.2
      refine lv_if_eq (tgt := 56) hx hb d_Sy_needOwnLoad_31 (by decide) (fun c_31 => ?_) (fun c_31 => ?_)
      · skip
        have c_31 := b2i_z.mp c_31
        exact rP_v C0 (⟨by decide, by decide⟩) (⟨rfl, by unfold kLoad; rw [if_neg (fun h => h.2 c_14), if_neg (fun h => c_31 h.1)]⟩) d_Sy_needOwnLoad_56
      · skip
        have c_31 := b2i_ne.mp c_31
        refine lv_aload_n hx hb d_Sy_needOwnLoad_34 rfl (lv_at hl 0 rfl) ?_
        refine lv_iload_n hx hb d_Sy_needOwnLoad_35 rfl (lv_at hl 1 rfl) ?_
        refine lv_iload hx hb d_Sy_needOwnLoad_36 (lv_at hl 4 rfl) ?_
        refine lv_iload_n hx hb d_Sy_needOwnLoad_38 rfl (lv_at hl 2 rfl) ?_
        refine cs_PP C0 hP (cs_V C0 hP (kd := 0) (i := 0) (ci := 0) (As := [.int q, .int v, .int x]) (by decide) (by decide) rfl rfl k_ml_Sy_255 k_im_Sy_ownsEndOfOtherChannel k_sl_Sy_Sy_ownsEndOfOtherChannel k_cd_Sy_ownsEndOfOtherChannel k_in_Sy z_Sy_ownsEndOfOtherChannel rfl d_Sy_needOwnLoad_39) (c_Sy_ownsEndOfOtherChannel hlt) hl.1 d_Sy_needOwnLoad_39 (Nat.le_of_ble_eq_true rfl) ⟨by decide, by decide⟩ (⟨by decide, by decide⟩) (fun k r hk hp => absurd hp.1 hk) (fun r_12 h_11 => ?_)
        obtain rfl := h_11.2
        refine lv_if_ne (tgt := 56) hx hb d_Sy_needOwnLoad_42 (by decide) (fun c_42 => ?_) (fun c_42 => ?_)
        · skip
          have c_42 := b2i_ne.mp c_42
          exact rP_v C0 (⟨by decide, by decide⟩) (⟨rfl, by unfold kLoad; rw [if_neg (fun h => h.2 c_14), if_neg (fun h => h.2 c_42)]⟩) d_Sy_needOwnLoad_56
        · skip
          have c_42 := b2i_z.mp c_42
          exact tP_2W C0 k_sr_Sy_259 xs_259 hl.1 d_Sy_needOwnLoad_45 d_Sy_needOwnLoad_48 d_Sy_needOwnLoad_49 d_Sy_needOwnLoad_52 d_Sy_needOwnLoad_55 (by decide) (by decide) (⟨by decide, by decide⟩) (⟨rfl, by unfold kLoad; rw [if_neg (fun h => h.2 c_14), if_pos ⟨c_31, c_42⟩]⟩)
    · skip
      have c_14 := b2i_z.mp c_14
      exact tP_2 C0 k_sr_Sy_250 xs_250 hl.1 d_Sy_needOwnLoad_17 d_Sy_needOwnLoad_20 d_Sy_needOwnLoad_21 d_Sy_needOwnLoad_23 d_Sy_needOwnLoad_26 (by decide) (by decide) (⟨by decide, by decide⟩) (⟨rfl, by unfold kLoad; rw [if_pos ⟨c_4, c_14⟩]⟩)
set_option maxHeartbeats 4000000 in
set_option maxRecDepth 100000 in
theorem c_Sy_giveLoad {S0 : State} {A0 : Array Value} {D : va_G} {ar : Nat → ClassId} {base : Nat} {σ : Mem} {l : Launch} (hlt : l.stackTraces = false) {lt v q : Int32} (hv : isB lt ∨ lt = 6 → vp_in v 12) :
    MX l y_Sy_giveLoad [Cond.code y_Sy_giveLoad b_Sy_giveLoad 4 none] (rmL 1) (PS S0 A0 D ar base σ [.ref (base + ad 0 0), .int lt, .int v, .int q]) (QI D ar base (fun k r σ' => k = 0 ∧ r = none ∧ σ' = giveM σ lt v q)) (inB base 122) := by
  refine cx_head hlt (by decide +kernel) (Nat.le_of_ble_eq_true rfl) ?_
  intro p ev s m below meth c ls C0 hP hl
  have C0 : Cx S0 A0 D ar base p l s m _ meth c R_Sy b_Sy_giveLoad 4 none := C0
  obtain ⟨hx, hb, -⟩ := id C0
  have hl : lv_has ls 4 [(0, .ref (base + ad 0 0)), (1, .int lt), (2, .int v), (3, .int q)] := hl
  have hS : va_S (inB base 122) s.heap s.heap [] := va_S.rf
  refine lv_iload_n hx hb d_Sy_giveLoad_0 rfl (lv_at hl 1 rfl) ?_
  refine cs_PI C0 hP hS (cs_S C0 (As := [.int lt]) k_ml_Sy_242 k_st_Sy_carriesBlock k_cd_Sy_carriesBlock k_in_Sy z_Sy_carriesBlock rfl d_Sy_giveLoad_1) (c_Sy_carriesBlock hlt) hl.1 d_Sy_giveLoad_1 (Nat.le_of_ble_eq_true rfl) ⟨by decide, by decide⟩ (⟨by decide, by decide⟩) (fun k r hk hp => absurd hp.1 hk) (fun r_2 h_1 => ?_)
  obtain rfl := h_1.2
  refine lv_if_eq (tgt := 20) hx hb d_Sy_giveLoad_4 (by decide) (fun c_4 => ?_) (fun c_4 => ?_)
  · skip
    have c_4 := b2i_z.mp c_4
    refine lv_iload_n hx hb d_Sy_giveLoad_20 rfl (lv_at hl 1 rfl) ?_
    refine cs_PI C0 hP hS (cs_S C0 (As := [.int lt]) k_ml_Sy_252 k_st_Sy_carriesEnd k_cd_Sy_carriesEnd k_in_Sy z_Sy_carriesEnd rfl d_Sy_giveLoad_21) (c_Sy_carriesEnd hlt) hl.1 d_Sy_giveLoad_21 (Nat.le_of_ble_eq_true rfl) ⟨by decide, by decide⟩ (⟨by decide, by decide⟩) (fun k r hk hp => absurd hp.1 hk) (fun r_4 h_3 => ?_)
    obtain rfl := h_3.2
    refine lv_if_eq (tgt := 37) hx hb d_Sy_giveLoad_24 (by decide) (fun c_24 => ?_) (fun c_24 => ?_)
    · skip
      have c_24 := b2i_z.mp c_24
      exact rI_v C0 hP hS (⟨by decide, by decide⟩) (⟨rfl, rfl, by unfold giveM; rw [if_neg c_4, if_neg c_24]⟩) d_Sy_giveLoad_37
    · skip
      have c_24 := b2i_ne.mp c_24
      refine lv_aload_n hx hb d_Sy_giveLoad_27 rfl (lv_at hl 0 rfl) ?_
      refine q_get C0 hP (kd := 0) (i := 0) (ci := 0) (by decide) (by decide) rfl rfl 7 (by decide) rfl k_fl_Sy_40 rfl d_Sy_giveLoad_28 ?_
      refine lv_iload_n hx hb d_Sy_giveLoad_31 rfl (lv_at hl 2 rfl) ?_
      refine q_aald C0 hP (kd := 6) (i := 0) (t0 := 5) (v := base + ad 14 v.toNatClampNeg) (by decide) (by decide) rfl rfl (rfl) (hv (Or.inr c_24)) d_Sy_giveLoad_32 ?_
      refine lv_iload_n hx hb d_Sy_giveLoad_33 rfl (lv_at hl 3 rfl) ?_
      refine q_putN C0 hP hS (kd := 14) (i := v.toNatClampNeg) (ci := 3) 11 0 (by decide) rfl (vin_lt (hv (Or.inr c_24))) rfl rfl t_En t_En_ok n_En 2 (by decide) rfl k_fn_Sy_99 rfl (by decide +kernel) (Nat.le_of_ble_eq_true rfl) (by simp [cont, up]) d_Sy_giveLoad_34 (fun H locs hP hS => ?_)
      exact rI_v C0 hP hS (⟨by decide, by decide⟩) (⟨rfl, rfl, by unfold giveM; rw [if_neg c_4, if_pos c_24]⟩) d_Sy_giveLoad_37
  · skip
    have c_4 := b2i_ne.mp c_4
    refine lv_aload_n hx hb d_Sy_giveLoad_7 rfl (lv_at hl 0 rfl) ?_
    refine q_get C0 hP (kd := 0) (i := 0) (ci := 0) (by decide) (by decide) rfl rfl 5 (by decide) rfl k_fl_Sy_30 rfl d_Sy_giveLoad_8 ?_
    refine lv_iload_n hx hb d_Sy_giveLoad_11 rfl (lv_at hl 2 rfl) ?_
    refine q_aald C0 hP (kd := 4) (i := 0) (t0 := 4) (v := base + ad 12 v.toNatClampNeg) (by decide) (by decide) rfl rfl (rfl) (hv (Or.inl c_4)) d_Sy_giveLoad_12 ?_
    refine lv_iload_n hx hb d_Sy_giveLoad_13 rfl (lv_at hl 3 rfl) ?_
    refine q_putN C0 hP hS (kd := 12) (i := v.toNatClampNeg) (ci := 2) 8 0 (by decide) rfl (vin_lt (hv (Or.inl c_4))) rfl rfl t_Bl t_Bl_ok n_Bl 1 (by decide) rfl k_fn_Sy_93 rfl (by decide +kernel) (Nat.le_of_ble_eq_true rfl) (by simp [cont, up]) d_Sy_giveLoad_14 (fun H locs hP hS => ?_)
    refine lv_goto (tgt := 37) hx hb d_Sy_giveLoad_17 (by decide) ?_
    exact rI_v C0 hP hS (⟨by decide, by decide⟩) (⟨rfl, rfl, by unfold giveM; rw [if_pos c_4]⟩) d_Sy_giveLoad_37
end
section
/-! Closing an end, dropping a message: laid by gen/m27.py. -/
def dpM (σ : Mem) : Mem := up σ 0 0 3 (σ 0 0 3 + 1)
def gbM (σ : Mem) (b : Nat) : Mem := up (up σ 8 b 0 (-1)) 9 b 0 0
def drF (cl : Mem → Nat → Int32 × Mem) (σ : Mem) (lt v : Int32) : Int32 × Mem :=
  if isB lt then (1, gbM (dpM σ) v.toNatClampNeg) else if lt = 6 then cl (dpM σ) v.toNatClampNeg else (0, dpM σ)
def clL (cl : Mem → Nat → Int32 × Mem) (e : Nat) : Nat → Nat → Int32 → Mem → Int32 × Mem
  | 0, _, g, σ => (g, σ)
  | n + 1, k, g, σ => if σ 13 e 0 ≤ nI k then (g, σ) else clL cl e n (k + 1) (g + (drF cl σ (σ 14 e k) (σ 15 e k)).1) (drF cl σ (σ 14 e k) (σ 15 e k)).2
def clF : Nat → Mem → Nat → Int32 × Mem
  | 0, σ, _ => (0, σ)
  | d + 1, σ, e => if σ 11 e 0 = -1 then (0, σ) else ((clL (clF d) e 3 0 1 (up σ 11 e 0 (-1))).1, up (up (clL (clF d) e 3 0 1 (up σ 11 e 0 (-1))).2 13 e 0 0) 12 e 0 0)
/-- the queues are in order: at most three messages, what carries a thing names one -/
def QW (σ : Mem) : Prop := ∀ e, e < 12 → ∃ wt : Nat, wt ≤ 3 ∧ σ 13 e 0 = nI wt ∧ ∀ k, k < wt → isB (σ 14 e k) ∨ σ 14 e k = 6 → vp_in (σ 15 e k) 12
theorem upK {σ : Mem} {k i j K a b : Nat} {v : Int32} (h : ¬ (K = k ∧ a = i ∧ b = j)) : up σ k i j v K a b = σ K a b := by
  unfold up
  rw [if_neg h]
theorem QWup {σ : Mem} (h : QW σ) {k i j : Nat} {v : Int32} (hk : k ≠ 13 ∧ k ≠ 14 ∧ k ≠ 15) : QW (up σ k i j v) := by
  intro e he
  obtain ⟨wt, h1, h2, h3⟩ := h e he
  refine ⟨wt, h1, by rw [upK (by omega)]; exact h2, fun m hm => ?_⟩
  rw [upK (by omega), upK (by omega)]
  exact h3 m hm
theorem QWz {σ : Mem} (h : QW σ) {i : Nat} : QW (up σ 13 i 0 0) := by
  intro e he
  obtain ⟨wt, h1, h2, h3⟩ := h e he
  by_cases hi : e = i
  · subst hi
    exact ⟨0, by omega, by rw [up_self]; rfl, fun m hm => absurd hm (Nat.not_lt_zero m)⟩
  · refine ⟨wt, h1, by rw [upK (by omega)]; exact h2, fun m hm => ?_⟩
    rw [upK (by omega), upK (by omega)]
    exact h3 m hm
theorem QWdp {σ : Mem} (h : QW σ) : QW (dpM σ) := QWup h (by decide)
theorem QWgb {σ : Mem} (h : QW σ) {b : Nat} : QW (gbM σ b) := QWup (QWup h (by decide)) (by decide)
theorem QWdr {cl : Mem → Nat → Int32 × Mem} (hc : ∀ σ e, QW σ → e < 12 → QW (cl σ e).2) {σ : Mem} (h : QW σ) {lt v : Int32} (hv : isB lt ∨ lt = 6 → vp_in v 12) : QW (drF cl σ lt v).2 := by
  unfold drF
  by_cases h1 : isB lt
  · rw [if_pos h1]; exact QWgb (QWdp h)
  · rw [if_neg h1]
    by_cases h2 : lt = 6
    · rw [if_pos h2]; exact hc _ _ (QWdp h) (vin_lt (hv (Or.inr h2)))
    · rw [if_neg h2]; exact QWdp h
theorem QWat {σ : Mem} (h : QW σ) {e k : Nat} (he : e < 12) (hk : ¬ σ 13 e 0 ≤ nI k) (hk3 : k ≤ 3) : k < 3 ∧ (isB (σ 14 e k) ∨ σ 14 e k = 6 → vp_in (σ 15 e k) 12) := by
  obtain ⟨wt, h1, h2, h3⟩ := h e he
  rw [h2] at hk
  have h4 : k < wt := Nat.lt_of_not_le fun z => hk ((nI_leI (by omega) (by omega)).mpr z)
  exact ⟨by omega, h3 k h4⟩
theorem QWclL {cl : Mem → Nat → Int32 × Mem} (hc : ∀ σ e, QW σ → e < 12 → QW (cl σ e).2) {e : Nat} (he : e < 12) : ∀ (n k : Nat) (g : Int32) (σ : Mem), k ≤ 3 → QW σ → QW (clL cl e n k g σ).2 := by
  intro n
  induction n with
  | zero => intro k g σ _ h; exact h
  | succ n ih =>
    intro k g σ hk h
    unfold clL
    by_cases h1 : σ 13 e 0 ≤ nI k
    · rw [if_pos h1]; exact h
    · rw [if_neg h1]
      have h2 := QWat h he h1 hk
      exact ih _ _ _ (by omega) (QWdr hc h h2.2)
theorem QWcl : ∀ (d : Nat) (σ : Mem) (e : Nat), QW σ → e < 12 → QW (clF d σ e).2 := by
  intro d
  induction d with
  | zero => intro σ e h _; exact h
  | succ d ih =>
    intro σ e h he
    unfold clF
    by_cases h1 : σ 11 e 0 = -1
    · rw [if_pos h1]; exact h
    · rw [if_neg h1]
      exact QWup (QWz (QWclL ih he _ _ _ _ (by omega) (QWup h (by decide)))) (by decide)
theorem clL_out {cl : Mem → Nat → Int32 × Mem} {e n k : Nat} {g : Int32} {σ : Mem} (h : σ 13 e 0 ≤ nI k) : clL cl e n k g σ = (g, σ) := by
  cases n with
  | zero => rfl
  | succ n => unfold clL; rw [if_pos h]
theorem clL_in {cl : Mem → Nat → Int32 × Mem} {e k : Nat} {g : Int32} {σ : Mem} (h : ¬ σ 13 e 0 ≤ nI k) (hk : k < 3) : clL cl e (3 - k) k g σ = clL cl e (3 - (k + 1)) (k + 1) (g + (drF cl σ (σ 14 e k) (σ 15 e k)).1) (drF cl σ (σ 14 e k) (σ 15 e k)).2 := by
  obtain ⟨n, hn⟩ : ∃ n, 3 - k = n + 1 := ⟨2 - k, by omega⟩
  have hn2 : 3 - (k + 1) = n := by omega
  rw [hn, hn2]
  show (if σ 13 e 0 ≤ nI k then _ else _) = _
  rw [if_neg h]
def rmC (d : Nat) : Room := { frames := 2 * d + 1, cells := 0, slots := 0, locals := 64 * d + 32 }
def rmD (d : Nat) : Room := { frames := 2 * d + 2, cells := 0, slots := 0, locals := 64 * d + 64 }
set_option maxHeartbeats 4000000 in
set_option maxRecDepth 100000 in
theorem c_drop {S0 : State} {A0 : Array Value} {D : va_G} {ar : Nat → ClassId} {base : Nat} {σ : Mem} {l : Launch} (hlt : l.stackTraces = false) {d : Nat} (hd : d < 12) (CE : ∀ (σ : Mem) (e0 : Nat), e0 < 12 → QW σ → MX l y_Sy_closeEnd [Cond.code y_Sy_closeEnd b_Sy_closeEnd 6 (some .int)] (rmC d) (PS S0 A0 D ar base σ [.ref (base + ad 0 0), .int (nI e0), .int (nI (12 - d))]) (QI D ar base (fun k r σ' => k = 0 ∧ r = some (clF d σ e0).1 ∧ σ' = (clF d σ e0).2)) (inB base 122)) {lt v : Int32} (hv : isB lt ∨ lt = 6 → vp_in v 12) (hqw : QW σ) :
    MX l y_Sy_dropMessage [Cond.code y_Sy_dropMessage b_Sy_dropMessage 4 (some .int)] (rmD d) (PS S0 A0 D ar base σ [.ref (base + ad 0 0), .int lt, .int v, .int (nI (11 - d))]) (QI D ar base (fun k r σ' => k = 0 ∧ r = some (drF (clF d) σ lt v).1 ∧ σ' = (drF (clF d) σ lt v).2)) (inB base 122) := by
  refine cx_head hlt (by decide +kernel) (Nat.le_of_ble_eq_true rfl) ?_
  intro p ev s m below meth c ls C0 hP hl
  have C0 : Cx S0 A0 D ar base p l s m _ meth c R_Sy b_Sy_dropMessage 4 (some .int) := C0
  obtain ⟨hx, hb, -⟩ := id C0
  have hl : lv_has ls 4 [(0, .ref (base + ad 0 0)), (1, .int lt), (2, .int v), (3, .int (nI (11 - d)))] := hl
  have hS : va_S (inB base 122) s.heap s.heap [] := va_S.rf
  have hvn : isB lt ∨ lt = 6 → nI v.toNatClampNeg = v := fun h => by obtain ⟨j, hj, rfl⟩ := vp_in_of (hv h) (by decide); rw [nI_clamp (by omega)]
  refine lv_aload_n hx hb d_Sy_dropMessage_0 rfl (lv_at hl 0 rfl) ?_
  refine lv_dup hx hb d_Sy_dropMessage_1 rfl ?_
  refine q_get C0 hP (kd := 0) (i := 0) (ci := 0) (by decide) (by decide) rfl rfl 10 (by decide) rfl k_fl_Sy_224 rfl d_Sy_dropMessage_2 ?_
  refine lv_iconst (v := 1) hx hb d_Sy_dropMessage_5 (by decide) ?_
  refine lv_iadd hx hb d_Sy_dropMessage_6 ?_
  refine q_put C0 hP hS (kd := 0) (i := 0) (ci := 0) 0 3 (by decide) rfl (by decide) rfl rfl t_Sy t_Sy_ok n_Sy 10 (by decide) rfl k_fl_Sy_224 rfl (by decide +kernel) (Nat.le_of_ble_eq_true rfl) (by simp [cont, up]) d_Sy_dropMessage_7 (fun H locs hP hS => ?_)
  rw [show ((up σ 0 0 3 ((σ 0 0 3) + 1)) : Mem) = dpM σ from rfl] at hP
  refine lv_iload_n hx hb d_Sy_dropMessage_10 rfl (lv_at hl 1 rfl) ?_
  refine cs_P C0 hP hS (cs_S C0 (As := [.int lt]) k_ml_Sy_242 k_st_Sy_carriesBlock k_cd_Sy_carriesBlock k_in_Sy z_Sy_carriesBlock rfl d_Sy_dropMessage_11) (c_Sy_carriesBlock hlt) hl.1 d_Sy_dropMessage_11 (Nat.le_of_ble_eq_true rfl) (⟨by simp [rmC, rmD, rmL]; try omega, by simp [rmC, rmD, rmL]; try omega⟩) (⟨Nat.le_refl _, Nat.le_refl _⟩) (fun k r x t hk hp => absurd hp.1 hk) (fun r_2 h_1 => ?_)
  obtain rfl := h_1.2
  refine lv_if_eq (tgt := 28) hx hb d_Sy_dropMessage_14 (by decide) (fun c_14 => ?_) (fun c_14 => ?_)
  · skip
    have c_14 := b2i_z.mp c_14
    refine lv_iload_n hx hb d_Sy_dropMessage_28 rfl (lv_at hl 1 rfl) ?_
    refine cs_P C0 hP hS (cs_S C0 (As := [.int lt]) k_ml_Sy_252 k_st_Sy_carriesEnd k_cd_Sy_carriesEnd k_in_Sy z_Sy_carriesEnd rfl d_Sy_dropMessage_29) (c_Sy_carriesEnd hlt) hl.1 d_Sy_dropMessage_29 (Nat.le_of_ble_eq_true rfl) (⟨by simp [rmC, rmD, rmL]; try omega, by simp [rmC, rmD, rmL]; try omega⟩) (⟨Nat.le_refl _, Nat.le_refl _⟩) (fun k r x t hk hp => absurd hp.1 hk) (fun r_4 h_3 => ?_)
    obtain rfl := h_3.2
    refine lv_if_eq (tgt := 46) hx hb d_Sy_dropMessage_32 (by decide) (fun c_32 => ?_) (fun c_32 => ?_)
    · skip
      have c_32 := b2i_z.mp c_32
      refine lv_iconst (v := 0) hx hb d_Sy_dropMessage_46 (by decide) ?_
      exact rI_i C0 hP hS (⟨Nat.le_refl _, Nat.le_refl _⟩) (⟨rfl, by unfold drF; rw [if_neg c_14, if_neg c_32]; first | done | rfl, by unfold drF; rw [if_neg c_14, if_neg c_32]; first | done | rfl⟩) d_Sy_dropMessage_47
    · skip
      have c_32 := b2i_ne.mp c_32
      refine lv_aload_n hx hb d_Sy_dropMessage_35 rfl (lv_at hl 0 rfl) ?_
      refine lv_iload_n hx hb d_Sy_dropMessage_36 rfl (lv_at hl 2 rfl) ?_
      refine lv_iload_n hx hb d_Sy_dropMessage_37 rfl (lv_at hl 3 rfl) ?_
      refine lv_iconst (v := 1) hx hb d_Sy_dropMessage_38 (by decide) ?_
      refine lv_iadd hx hb d_Sy_dropMessage_39 ?_
      rw [show (nI (11 - d) + 1 : Int32) = nI (12 - d) from by rw [nI_1]; congr 1; omega]
      refine W.eq (g2 := F0 m 40 ls [.int (nI (12 - d)), .int (nI v.toNatClampNeg), .ref (base + ad 0 0)]) (by rw [hvn (Or.inr c_32)]; rfl) ?_
      refine cs_I C0 hP hS (cs_V C0 hP (kd := 0) (i := 0) (ci := 0) (As := [.int (nI v.toNatClampNeg), .int (nI (12 - d))]) (by decide) (by decide) rfl rfl k_ml_Sy_100 k_im_Sy_closeEnd k_sl_Sy_Sy_closeEnd k_cd_Sy_closeEnd k_in_Sy z_Sy_closeEnd rfl d_Sy_dropMessage_40) (CE (dpM σ) v.toNatClampNeg (vin_lt (hv (Or.inr c_32))) (QWdp hqw)) (fun k r σ h => h.1) ⟨rfl, rfl⟩ hl.1 d_Sy_dropMessage_40 (Nat.le_of_ble_eq_true rfl) (⟨by simp [rmC, rmD, rmL]; try omega, by simp [rmC, rmD, rmL]; try omega⟩) (⟨Nat.le_refl _, Nat.le_refl _⟩) (fun r_6 σ_7 H locs h_5 hP hS => ?_)
      obtain ⟨-, rfl, rfl⟩ := h_5
      refine lv_goto (tgt := 47) hx hb d_Sy_dropMessage_43 (by decide) ?_
      exact rI_i C0 hP hS (⟨Nat.le_refl _, Nat.le_refl _⟩) (⟨rfl, by unfold drF; rw [if_neg c_14, if_pos c_32]; first | done | rfl, by unfold drF; rw [if_neg c_14, if_pos c_32]; first | done | rfl⟩) d_Sy_dropMessage_47
  · skip
    have c_14 := b2i_ne.mp c_14
    refine lv_aload_n hx hb d_Sy_dropMessage_17 rfl (lv_at hl 0 rfl) ?_
    refine q_get C0 hP (kd := 0) (i := 0) (ci := 0) (by decide) (by decide) rfl rfl 5 (by decide) rfl k_fl_Sy_30 rfl d_Sy_dropMessage_18 ?_
    refine lv_iload_n hx hb d_Sy_dropMessage_21 rfl (lv_at hl 2 rfl) ?_
    refine q_aald C0 hP (kd := 4) (i := 0) (t0 := 4) (v := base + ad 12 v.toNatClampNeg) (by decide) (by decide) rfl rfl (rfl) (hv (Or.inl c_14)) d_Sy_dropMessage_22 ?_
    refine cs_I C0 hP hS (cs_V C0 hP (kd := 12) (i := v.toNatClampNeg) (ci := 2) (As := []) (by decide) (vin_lt (hv (Or.inl c_14))) rfl rfl k_ml_Sy_96 k_im_Bl_giveBack k_sl_Bl_Bl_giveBack k_cd_Bl_giveBack k_in_Bl z_Bl_giveBack rfl d_Sy_dropMessage_23) (c_Bl_giveBack hlt (vin_lt (hv (Or.inl c_14)))) (fun k r σ h => h.1) ⟨rfl, rfl⟩ hl.1 d_Sy_dropMessage_23 (Nat.le_of_ble_eq_true rfl) (⟨by simp [rmC, rmD, rmL]; try omega, by simp [rmC, rmD, rmL]; try omega⟩) (⟨Nat.le_refl _, Nat.le_refl _⟩) (fun r_9 σ_10 H locs h_8 hP hS => ?_)
    obtain ⟨-, rfl, rfl⟩ := h_8
    refine lv_iconst (v := 1) hx hb d_Sy_dropMessage_26 (by decide) ?_
    exact rI_i C0 hP hS (⟨Nat.le_refl _, Nat.le_refl _⟩) (⟨rfl, by unfold drF; rw [if_pos c_14]; first | done | rfl, by unfold drF; rw [if_pos c_14]; first | done | rfl⟩) d_Sy_dropMessage_27
set_option maxHeartbeats 4000000 in
set_option maxRecDepth 100000 in
theorem c_close_0 {S0 : State} {A0 : Array Value} {D : va_G} {ar : Nat → ClassId} {base : Nat} {σ : Mem} {l : Launch} (hlt : l.stackTraces = false) {e0 : Nat} (he : e0 < 12) :
    MX l y_Sy_closeEnd [Cond.code y_Sy_closeEnd b_Sy_closeEnd 6 (some .int)] (rmC 0) (PS S0 A0 D ar base σ [.ref (base + ad 0 0), .int (nI e0), .int (nI (12 - 0))]) (QI D ar base (fun k r σ' => k = 0 ∧ r = some (clF 0 σ e0).1 ∧ σ' = (clF 0 σ e0).2)) (inB base 122) := by
  refine cx_head hlt (by decide +kernel) (Nat.le_of_ble_eq_true rfl) ?_
  intro p ev s m below meth c ls C0 hP hl
  have C0 : Cx S0 A0 D ar base p l s m _ meth c R_Sy b_Sy_closeEnd 6 (some .int) := C0
  obtain ⟨hx, hb, -⟩ := id C0
  have hl : lv_has ls 6 [(0, .ref (base + ad 0 0)), (1, .int (nI e0)), (2, .int (nI (12 - 0)))] := hl
  have hS : va_S (inB base 122) s.heap s.heap [] := va_S.rf
  refine lv_aload_n hx hb d_Sy_closeEnd_0 rfl (lv_at hl 0 rfl) ?_
  refine q_get C0 hP (kd := 0) (i := 0) (ci := 0) (by decide) (by decide) rfl rfl 7 (by decide) rfl k_fl_Sy_40 rfl d_Sy_closeEnd_1 ?_
  refine lv_iload_n hx hb d_Sy_closeEnd_4 rfl (lv_at hl 1 rfl) ?_
  refine q_aald C0 hP (kd := 6) (i := 0) (t0 := 5) (v := base + ad 14 e0) (by decide) (by decide) rfl rfl (by rw [nI_clamp (by omega)]) (vin_nI he) d_Sy_closeEnd_5 ?_
  refine lv_astore_n (lv' := [(3, .ref (base + ad 14 e0)), (0, .ref (base + ad 0 0)), (1, .int (nI e0)), (2, .int (nI (12 - 0)))]) hx hb d_Sy_closeEnd_6 rfl hl (by decide) rfl (fun ls hl => ?_)
  refine lv_aload_n hx hb d_Sy_closeEnd_7 rfl (lv_at hl 0 rfl) ?_
  refine cs_P C0 hP hS (cs_V C0 hP (kd := 14) (i := e0) (ci := 3) (As := []) (by decide) (he) rfl rfl k_ml_Sy_173 k_im_En_isOpen k_sl_En_En_isOpen k_cd_En_isOpen k_in_En z_En_isOpen rfl d_Sy_closeEnd_8) (c_En_isOpen hlt he) hl.1 d_Sy_closeEnd_8 (Nat.le_of_ble_eq_true rfl) (⟨by simp [rmC, rmD, rmL]; try omega, by simp [rmC, rmD, rmL]; try omega⟩) (⟨by decide, by decide⟩) (fun k r x t hk hp => absurd hp.1 hk) (fun r_2 h_1 => ?_)
  obtain rfl := h_1.2
  refine lv_if_eq (tgt := 20) hx hb d_Sy_closeEnd_11 (by decide) (fun c_11 => ?_) (fun c_11 => ?_)
  · skip
    have c_11 := b2i_z.mp c_11
    refine lv_iconst (v := 0) hx hb d_Sy_closeEnd_20 (by decide) ?_
    exact rI_i C0 hP hS (⟨by decide, by decide⟩) (⟨rfl, rfl, rfl⟩) d_Sy_closeEnd_21
  · skip
    have c_11 := b2i_ne.mp c_11
    refine lv_iload_n hx hb d_Sy_closeEnd_14 rfl (lv_at hl 3 rfl) ?_
    refine lv_bipush (v := 12) hx hb d_Sy_closeEnd_15 (by decide) ?_
    refine lv_icmp_lt (tgt := 22) hx hb d_Sy_closeEnd_17 (by decide) (fun c_17 => ?_) (fun c_17 => ?_)
    · skip
      exact absurd c_17 (by decide)
    · skip
      refine lv_iconst (v := 0) hx hb d_Sy_closeEnd_20 (by decide) ?_
      exact rI_i C0 hP hS (⟨by decide, by decide⟩) (⟨rfl, rfl, rfl⟩) d_Sy_closeEnd_21
set_option maxHeartbeats 4000000 in
set_option maxRecDepth 100000 in
theorem c_close_s {S0 : State} {A0 : Array Value} {D : va_G} {ar : Nat → ClassId} {base : Nat} {σ : Mem} {l : Launch} (hlt : l.stackTraces = false) {d : Nat} (hd : d < 12) (DM : ∀ (σ : Mem) (lt v : Int32), (isB lt ∨ lt = 6 → vp_in v 12) → QW σ → MX l y_Sy_dropMessage [Cond.code y_Sy_dropMessage b_Sy_dropMessage 4 (some .int)] (rmD d) (PS S0 A0 D ar base σ [.ref (base + ad 0 0), .int lt, .int v, .int (nI (11 - d))]) (QI D ar base (fun k r σ' => k = 0 ∧ r = some (drF (clF d) σ lt v).1 ∧ σ' = (drF (clF d) σ lt v).2)) (inB base 122)) {e0 : Nat} (he : e0 < 12) (hqw : QW σ) :
    MX l y_Sy_closeEnd [Cond.code y_Sy_closeEnd b_Sy_closeEnd 6 (some .int)] (rmC (d + 1)) (PS S0 A0 D ar base σ [.ref (base + ad 0 0), .int (nI e0), .int (nI (11 - d))]) (QI D ar base (fun k r σ' => k = 0 ∧ r = some (clF (d + 1) σ e0).1 ∧ σ' = (clF (d + 1) σ e0).2)) (inB base 122) := by
  refine cx_head hlt (by decide +kernel) (Nat.le_of_ble_eq_true rfl) ?_
  intro p ev s m below meth c ls C0 hP hl
  have C0 : Cx S0 A0 D ar base p l s m _ meth c R_Sy b_Sy_closeEnd 6 (some .int) := C0
  obtain ⟨hx, hb, -⟩ := id C0
  have hl : lv_has ls 6 [(0, .ref (base + ad 0 0)), (1, .int (nI e0)), (2, .int (nI (11 - d)))] := hl
  have hS : va_S (inB base 122) s.heap s.heap [] := va_S.rf
  refine lv_aload_n hx hb d_Sy_closeEnd_0 rfl (lv_at hl 0 rfl) ?_
  refine q_get C0 hP (kd := 0) (i := 0) (ci := 0) (by decide) (by decide) rfl rfl 7 (by decide) rfl k_fl_Sy_40 rfl d_Sy_closeEnd_1 ?_
  refine lv_iload_n hx hb d_Sy_closeEnd_4 rfl (lv_at hl 1 rfl) ?_
  refine q_aald C0 hP (kd := 6) (i := 0) (t0 := 5) (v := base + ad 14 e0) (by decide) (by decide) rfl rfl (by rw [nI_clamp (by omega)]) (vin_nI he) d_Sy_closeEnd_5 ?_
  refine lv_astore_n (lv' := [(3, .ref (base + ad 14 e0)), (0, .ref (base + ad 0 0)), (1, .int (nI e0)), (2, .int (nI (11 - d)))]) hx hb d_Sy_closeEnd_6 rfl hl (by decide) rfl (fun ls hl => ?_)
  refine lv_aload_n hx hb d_Sy_closeEnd_7 rfl (lv_at hl 0 rfl) ?_
  refine cs_P C0 hP hS (cs_V C0 hP (kd := 14) (i := e0) (ci := 3) (As := []) (by decide) (he) rfl rfl k_ml_Sy_173 k_im_En_isOpen k_sl_En_En_isOpen k_cd_En_isOpen k_in_En z_En_isOpen rfl d_Sy_closeEnd_8) (c_En_isOpen hlt he) hl.1 d_Sy_closeEnd_8 (Nat.le_of_ble_eq_true rfl) (⟨by simp [rmC, rmD, rmL]; try omega, by simp [rmC, rmD, rmL]; try omega⟩) (⟨Nat.le_refl _, Nat.le_refl _⟩) (fun k r x t hk hp => absurd hp.1 hk) (fun r_2 h_1 => ?_)
  obtain rfl := h_1.2
  refine lv_if_eq (tgt := 20) hx hb d_Sy_closeEnd_11 (by decide) (fun c_11 => ?_) (fun c_11 => ?_)
  · skip
    have c_11 := b2i_z.mp c_11
    refine lv_iconst (v := 0) hx hb d_Sy_closeEnd_20 (by decide) ?_
    exact rI_i C0 hP hS (⟨Nat.le_refl _, Nat.le_refl _⟩) (⟨rfl, by unfold clF; rw [if_pos (Classical.not_not.mp c_11)], by unfold clF; rw [if_pos (Classical.not_not.mp c_11)]⟩) d_Sy_closeEnd_21
  · skip
    have c_11 := b2i_ne.mp c_11
    refine lv_iload_n hx hb d_Sy_closeEnd_14 rfl (lv_at hl 3 rfl) ?_
    refine lv_bipush (v := 12) hx hb d_Sy_closeEnd_15 (by decide) ?_
    refine lv_icmp_lt (tgt := 22) hx hb d_Sy_closeEnd_17 (by decide) (fun c_17 => ?_) (fun c_17 => ?_)
    · skip
      refine lv_aload_n hx hb d_Sy_closeEnd_22 rfl (lv_at hl 0 rfl) ?_
      refine lv_iconst (v := (-1)) hx hb d_Sy_closeEnd_23 (by decide) ?_
      refine q_putN C0 hP hS (kd := 14) (i := e0) (ci := 3) 11 0 (by decide) rfl (he) rfl rfl t_En t_En_ok n_En 2 (by decide) rfl k_fn_Sy_99 rfl (by decide +kernel) (Nat.le_of_ble_eq_true rfl) (by simp [cont, up]) d_Sy_closeEnd_24 (fun H locs hP hS => ?_)
      refine lv_iconst (v := 1) hx hb d_Sy_closeEnd_27 (by decide) ?_
      refine lv_istore (lv' := [(4, .int 1), (3, .ref (base + ad 14 e0)), (0, .ref (base + ad 0 0)), (1, .int (nI e0)), (2, .int (nI (11 - d)))]) hx hb d_Sy_closeEnd_28 hl (by decide) rfl (fun ls hl => ?_)
      refine lv_iconst (v := 0) hx hb d_Sy_closeEnd_30 (by decide) ?_
      refine lv_istore (lv' := [(5, .int 0), (4, .int 1), (3, .ref (base + ad 14 e0)), (0, .ref (base + ad 0 0)), (1, .int (nI e0)), (2, .int (nI (11 - d)))]) hx hb d_Sy_closeEnd_31 hl (by decide) rfl (fun ls hl => ?_)
      have loop : ∀ (n k : Nat), k ≤ 3 → 3 + 1 ≤ k + n → ∀ (g : Int32) (σ' : Mem), QW σ' ∧ clL (clF d) e0 (3 - k) k g σ' = clL (clF d) e0 3 0 1 (up σ 11 e0 0 (-1)) → ∀ (H : Heap) (locs : List Loc), va_P D classes (wl base 122 (mem ar base σ')) H → va_S (inB base 122) s.heap H locs → ∀ ls : Array Slot, lv_has ls 6 [(5, .int (nI k)), (4, .int g), (3, .ref (base + ad 14 e0)), (0, .ref (base + ad 0 0)), (2, .int (nI (11 - d)))] → W p l ev (rmC (d + 1)) s m ([.ref (base + ad 0 0), .int (nI e0), .int (nI (11 - d))] : List Value).toArray below meth c H locs 0 0 (MQX below (QI D ar base (fun k r σ' => k = 0 ∧ r = some (clF (d + 1) σ e0).1 ∧ σ' = (clF (d + 1) σ e0).2)) ([.ref (base + ad 0 0), .int (nI e0), .int (nI (11 - d))] : List Value).toArray s (rmC (d + 1)).cells (rmC (d + 1)).slots (inB base 122)) (F0 m 33 ls []) := by
        intro n
        induction n with
        | zero => intro k h1 h2; omega
        | succ n ih =>
          intro k hk1 hk2 g σ' hinv H locs hP hS ls hl
          refine lv_iload hx hb d_Sy_closeEnd_33 (lv_at hl 0 rfl) ?_
          refine lv_aload_n hx hb d_Sy_closeEnd_35 rfl (lv_at hl 2 rfl) ?_
          refine q_getN C0 hP (kd := 14) (i := e0) (ci := 3) (by decide) (he) rfl rfl 4 (by decide) rfl k_fn_Sy_178 rfl d_Sy_closeEnd_36 ?_
          refine lv_icmp_ge (tgt := 72) hx hb d_Sy_closeEnd_39 (by decide) (fun c_39 => ?_) (fun c_39 => ?_)
          · skip
            have hout := clL_out (cl := clF d) (n := 3 - k) (g := g) c_39
            refine lv_aload_n hx hb d_Sy_closeEnd_72 rfl (lv_at hl 2 rfl) ?_
            refine lv_iconst (v := 0) hx hb d_Sy_closeEnd_73 (by decide) ?_
            refine q_putN C0 hP hS (kd := 14) (i := e0) (ci := 3) 13 0 (by decide) rfl (he) rfl rfl t_En t_En_ok n_En 4 (by decide) rfl k_fn_Sy_178 rfl (by decide +kernel) (Nat.le_of_ble_eq_true rfl) (by simp [cont, up]) d_Sy_closeEnd_74 (fun H locs hP hS => ?_)
            refine lv_aload_n hx hb d_Sy_closeEnd_77 rfl (lv_at hl 2 rfl) ?_
            refine lv_iconst (v := 0) hx hb d_Sy_closeEnd_78 (by decide) ?_
            refine q_putN C0 hP hS (kd := 14) (i := e0) (ci := 3) 12 0 (by decide) rfl (he) rfl rfl t_En t_En_ok n_En 3 (by decide) rfl k_fn_Sy_152 rfl (by decide +kernel) (Nat.le_of_ble_eq_true rfl) (by simp [cont, up]) d_Sy_closeEnd_79 (fun H locs hP hS => ?_)
            refine lv_iload hx hb d_Sy_closeEnd_82 (lv_at hl 1 rfl) ?_
            exact rI_i C0 hP hS (⟨Nat.le_refl _, Nat.le_refl _⟩) (⟨rfl, by unfold clF; rw [if_neg c_11, ← hinv.2, hout], by unfold clF; rw [if_neg c_11, ← hinv.2, hout]⟩) d_Sy_closeEnd_84
          · skip
            have hat := QWat hinv.1 he c_39 hk1
            refine lv_iload hx hb d_Sy_closeEnd_42 (lv_at hl 1 rfl) ?_
            refine lv_aload_n hx hb d_Sy_closeEnd_44 rfl (lv_at hl 3 rfl) ?_
            refine lv_aload_n hx hb d_Sy_closeEnd_45 rfl (lv_at hl 2 rfl) ?_
            refine q_getN C0 hP (kd := 14) (i := e0) (ci := 3) (by decide) (he) rfl rfl 0 (by decide) rfl k_fn_Sy_197 rfl d_Sy_closeEnd_46 ?_
            refine lv_iload hx hb d_Sy_closeEnd_49 (lv_at hl 0 rfl) ?_
            refine q_iald C0 hP (kd := 15) (i := e0) (by decide) (he) rfl (vin_nI hat.1) d_Sy_closeEnd_51 ?_
            rw [show (nI k).toNatClampNeg = k from nI_clamp (by omega)]
            refine lv_aload_n hx hb d_Sy_closeEnd_52 rfl (lv_at hl 2 rfl) ?_
            refine q_getN C0 hP (kd := 14) (i := e0) (ci := 3) (by decide) (he) rfl rfl 1 (by decide) rfl k_fn_Sy_200 rfl d_Sy_closeEnd_53 ?_
            refine lv_iload hx hb d_Sy_closeEnd_56 (lv_at hl 0 rfl) ?_
            refine q_iald C0 hP (kd := 16) (i := e0) (by decide) (he) rfl (vin_nI hat.1) d_Sy_closeEnd_58 ?_
            rw [show (nI k).toNatClampNeg = k from nI_clamp (by omega)]
            refine lv_iload_n hx hb d_Sy_closeEnd_59 rfl (lv_at hl 4 rfl) ?_
            refine cs_I C0 hP hS (cs_V C0 hP (kd := 0) (i := 0) (ci := 0) (As := [.int (σ' 14 e0 k), .int (σ' 15 e0 k), .int (nI (11 - d))]) (by decide) (by decide) rfl rfl k_ml_Sy_261 k_im_Sy_dropMessage k_sl_Sy_Sy_dropMessage k_cd_Sy_dropMessage k_in_Sy z_Sy_dropMessage rfl d_Sy_closeEnd_60) (DM σ' _ _ hat.2 hinv.1) (fun k r σ h => h.1) ⟨rfl, rfl⟩ hl.1 d_Sy_closeEnd_60 (Nat.le_of_ble_eq_true rfl) (⟨by simp [rmC, rmD, rmL]; try omega, by simp [rmC, rmD, rmL]; try omega⟩) (⟨Nat.le_refl _, Nat.le_refl _⟩) (fun r_4 σ_5 H locs h_3 hP hS => ?_)
            obtain ⟨-, rfl, rfl⟩ := h_3
            refine lv_iadd hx hb d_Sy_closeEnd_63 ?_
            refine lv_istore (lv' := [(4, .int (g + ((drF (clF d) σ' (σ' 14 e0 k) (σ' 15 e0 k)).1))), (5, .int (nI k)), (3, .ref (base + ad 14 e0)), (0, .ref (base + ad 0 0)), (2, .int (nI (11 - d)))]) hx hb d_Sy_closeEnd_64 hl (by decide) rfl (fun ls hl => ?_)
            refine lv_iinc (v := nI (k + 1)) (lv' := [(5, .int (nI (k + 1))), (4, .int (g + ((drF (clF d) σ' (σ' 14 e0 k) (σ' 15 e0 k)).1))), (3, .ref (base + ad 14 e0)), (0, .ref (base + ad 0 0)), (2, .int (nI (11 - d)))]) hx hb d_Sy_closeEnd_66 hl (k := 1) rfl (by exact nI_1 k) (by decide) rfl (fun ls hl => ?_)
            refine lv_goto (tgt := 33) hx hb d_Sy_closeEnd_69 (by decide) ?_
            exact ih (k + 1) (by omega) (by omega) _ _ (⟨QWdr (QWcl d) hinv.1 hat.2, (clL_in c_39 hat.1).symm.trans hinv.2⟩) _ _ hP hS ls (lv_sub hl [0, 1, 2, 3, 4] rfl)
      exact loop (3 + 1) 0 (by omega) (by omega) _ _ (⟨QWup hqw (by decide), rfl⟩) _ _ hP hS ls (lv_sub hl [0, 1, 2, 3, 5] rfl)
    · skip
      exact absurd (show nI (11 - d) < nI 12 from (nI_ltI (by omega) (by decide)).mpr (by omega)) c_17
/-- closeEnd, at every depth -/
theorem c_Sy_closeEnd {S0 : State} {A0 : Array Value} {D : va_G} {ar : Nat → ClassId} {base : Nat} {l : Launch} (hlt : l.stackTraces = false) : ∀ (d : Nat), d ≤ 12 → ∀ (σ : Mem) (e0 : Nat), e0 < 12 → QW σ → MX l y_Sy_closeEnd [Cond.code y_Sy_closeEnd b_Sy_closeEnd 6 (some .int)] (rmC d) (PS S0 A0 D ar base σ [.ref (base + ad 0 0), .int (nI e0), .int (nI (12 - d))]) (QI D ar base (fun k r σ' => k = 0 ∧ r = some (clF d σ e0).1 ∧ σ' = (clF d σ e0).2)) (inB base 122) := by
  intro d
  induction d with
  | zero => intro _ σ e0 he _; exact c_close_0 hlt he
  | succ d ih =>
    intro hd σ e0 he hqw
    have h := c_close_s hlt (S0 := S0) (A0 := A0) (D := D) (ar := ar) (base := base) (d := d) (by omega) (fun σ lt v hv hq => c_drop hlt (by omega) (ih (by omega)) hv hq) he hqw
    rw [show 11 - d = 12 - (d + 1) from by omega] at h
    exact h
end
section
/-! The class's public methods, the plain ones: laid by gen/m28.py. -/
abbrev R3 : Type := Nat × Option Int32 × Mem
def rmK : Room := { frames := 40, cells := 1, slots := 6, locals := 1200 }
theorem kOwnB_0 {σ : Mem} {q b : Int32} (h : kOwnB σ q b = 0) : vp_in q 4 ∧ vp_in b 12 ∧ ¬ σ 2 0 q.toNatClampNeg = 0 ∧ σ 8 b.toNatClampNeg 0 = q := by
  unfold kOwnB at h
  by_cases h1 : bad q 4
  · rw [if_pos h1] at h; cases h
  · rw [if_neg h1] at h
    by_cases h2 : bad b 12
    · rw [if_pos h2] at h; cases h
    · rw [if_neg h2] at h
      by_cases h3 : σ 2 0 q.toNatClampNeg = 0
      · rw [if_pos h3] at h; cases h
      · rw [if_neg h3] at h
        by_cases h4 : σ 8 b.toNatClampNeg 0 = q
        · exact ⟨vin_b h1, vin_b h2, h3, h4⟩
        · rw [if_neg h4] at h; cases h
theorem kOwnE_0 {σ : Mem} {q b : Int32} (h : kOwnE σ q b = 0) : vp_in q 4 ∧ vp_in b 12 ∧ ¬ σ 2 0 q.toNatClampNeg = 0 ∧ σ 11 b.toNatClampNeg 0 = q := by
  unfold kOwnE at h
  by_cases h1 : bad q 4
  · rw [if_pos h1] at h; cases h
  · rw [if_neg h1] at h
    by_cases h2 : bad b 12
    · rw [if_pos h2] at h; cases h
    · rw [if_neg h2] at h
      by_cases h3 : σ 2 0 q.toNatClampNeg = 0
      · rw [if_pos h3] at h; cases h
      · rw [if_neg h3] at h
        by_cases h4 : σ 11 b.toNatClampNeg 0 = q
        · exact ⟨vin_b h1, vin_b h2, h3, h4⟩
        · rw [if_neg h4] at h; cases h
/-- every block has at most eight cells -/
def BW (σ : Mem) : Prop := ∀ b, b < 12 → ∃ n : Nat, n ≤ 8 ∧ σ 9 b 0 = nI n
theorem kCell_0 {σ : Mem} {b : Nat} {i : Int32} (hw : BW σ) (hb : b < 12) (h : kCell σ b i = 0) : vp_in i 8 := by
  obtain ⟨n, hn, h2⟩ := hw b hb
  unfold kCell at h
  by_cases h1 : i < 0
  · rw [if_pos h1] at h; cases h
  · rw [if_neg h1] at h
    by_cases h3 : ¬ i < σ 9 b 0
    · rw [if_pos h3] at h; cases h
    · have h4 := Classical.not_not.mp h3
      rw [h2, Int32.lt_iff_toInt_lt, nI_toInt (by omega)] at h4
      exact vin_rg h1 (by omega)
def sFree (σ : Mem) (q b : Int32) : R3 := if kOwnB σ q b = 0 then (0, none, gbM σ b.toNatClampNeg) else (kOwnB σ q b, none, σ)
def sRead (σ : Mem) (q b i : Int32) : R3 := if kOwnB σ q b = 0 then (if kCell σ b.toNatClampNeg i = 0 then (0, some (σ 10 b.toNatClampNeg i.toNatClampNeg), σ) else (kCell σ b.toNatClampNeg i, none, σ)) else (kOwnB σ q b, none, σ)
def sWrite (σ : Mem) (q b i v : Int32) : R3 := if kOwnB σ q b = 0 then (if kCell σ b.toNatClampNeg i = 0 then (0, none, up σ 10 b.toNatClampNeg i.toNatClampNeg v) else (kCell σ b.toNatClampNeg i, none, σ)) else (kOwnB σ q b, none, σ)
def sOfBlock (σ : Mem) (b x : Int32) : R3 := if bad b 12 then (1, none, σ) else if bad x 2 then (1, none, σ) else if x = 0 then (0, some (σ 8 b.toNatClampNeg 0), σ) else (0, some (σ 9 b.toNatClampNeg 0), σ)
def sOfEnd (σ : Mem) (b x : Int32) : R3 := if bad b 12 then (1, none, σ) else if bad x 3 then (1, none, σ) else if x = 0 then (0, some (σ 11 b.toNatClampNeg 0), σ) else if x = 1 then (0, some (σ 12 b.toNatClampNeg 0), σ) else (0, some (σ 13 b.toNatClampNeg 0), σ)
def sClose (σ : Mem) (q x : Int32) : R3 := if kOwnE σ q x = 0 then (0, some (clF 12 σ x.toNatClampNeg).1, (clF 12 σ x.toNatClampNeg).2) else (kOwnE σ q x, none, σ)
def kbL (q : Int32) : Nat → Nat → Int32 → Mem → Int32 × Mem
  | 0, _, g, σ => (g, σ)
  | n + 1, k, g, σ => if σ 8 k 0 = q then kbL q n (k + 1) (g + 1) (gbM σ k) else kbL q n (k + 1) g σ
def keL (q : Int32) : Nat → Nat → Int32 → Mem → Int32 × Mem
  | 0, _, g, σ => (g, σ)
  | n + 1, k, g, σ => if σ 11 k 0 = q then keL q n (k + 1) (g + (clF 12 σ k).1) (clF 12 σ k).2 else keL q n (k + 1) g σ
theorem kbL_s {q g : Int32} {σ : Mem} {k : Nat} (hk : k < 12) : kbL q (12 - k) k g σ = if σ 8 k 0 = q then kbL q (12 - (k + 1)) (k + 1) (g + 1) (gbM σ k) else kbL q (12 - (k + 1)) (k + 1) g σ := by
  obtain ⟨n, hn⟩ : ∃ n, 12 - k = n + 1 := ⟨11 - k, by omega⟩
  have hn2 : 12 - (k + 1) = n := by omega
  rw [hn, hn2]
  rfl
theorem keL_s {q g : Int32} {σ : Mem} {k : Nat} (hk : k < 12) : keL q (12 - k) k g σ = if σ 11 k 0 = q then keL q (12 - (k + 1)) (k + 1) (g + (clF 12 σ k).1) (clF 12 σ k).2 else keL q (12 - (k + 1)) (k + 1) g σ := by
  obtain ⟨n, hn⟩ : ∃ n, 12 - k = n + 1 := ⟨11 - k, by omega⟩
  have hn2 : 12 - (k + 1) = n := by omega
  rw [hn, hn2]
  rfl
def killM (σ : Mem) (q : Int32) : Mem := up (up σ 2 0 q.toNatClampNeg 0) 0 0 4 (σ 0 0 4 + 1)
def sKill (σ : Mem) (q : Int32) : R3 := if bad q 4 then (1, none, σ) else if σ 2 0 q.toNatClampNeg = 0 then (2, none, σ) else
  (0, some (keL q 12 0 (kbL q 12 0 0 (killM σ q)).1 (kbL q 12 0 0 (killM σ q)).2).1, (keL q 12 0 (kbL q 12 0 0 (killM σ q)).1 (kbL q 12 0 0 (killM σ q)).2).2)
/-- the least process that isn't alive -/
def stL (σ : Mem) : Nat → Nat → R3
  | 0, _ => (4, none, σ)
  | n + 1, k => if σ 2 0 k = 0 then (0, some (nI k), up σ 2 0 k 1) else stL σ n (k + 1)
def sStart (σ : Mem) : R3 := stL σ 4 0
theorem stL_s {σ : Mem} {k : Nat} (hk : k < 4) : stL σ (4 - k) k = if σ 2 0 k = 0 then (0, some (nI k), up σ 2 0 k 1) else stL σ (4 - (k + 1)) (k + 1) := by
  obtain ⟨n, hn⟩ : ∃ n, 4 - k = n + 1 := ⟨3 - k, by omega⟩
  have hn2 : 4 - (k + 1) = n := by omega
  rw [hn, hn2]
  rfl
/-- the least end of the mask that q owns and that has a message -/
abbrev chP (σ : Mem) (q mask : Int32) (k : Nat) : Prop := (mask >>> (nI k &&& 31)) &&& 1 = 1 ∧ σ 11 k 0 = q ∧ ¬ σ 13 k 0 ≤ 0
def chL (σ : Mem) (q mask : Int32) : Nat → Nat → R3
  | 0, _ => (3, none, σ)
  | n + 1, k => if chP σ q mask k then (0, some (nI k), σ) else chL σ q mask n (k + 1)
theorem chL_s {σ : Mem} {q mask : Int32} {k : Nat} (hk : k < 12) : chL σ q mask (12 - k) k = if chP σ q mask k then (0, some (nI k), σ) else chL σ q mask (12 - (k + 1)) (k + 1) := by
  obtain ⟨n, hn⟩ : ∃ n, 12 - k = n + 1 := ⟨11 - k, by omega⟩
  have hn2 : 12 - (k + 1) = n := by omega
  rw [hn, hn2]
  rfl
def sChoose (σ : Mem) (q mask : Int32) : R3 := if bad q 4 then (1, none, σ) else if bad mask 4096 then (1, none, σ) else if σ 2 0 q.toNatClampNeg = 0 then (2, none, σ) else chL σ q mask 12 0
set_option maxHeartbeats 4000000 in
set_option maxRecDepth 100000 in
theorem c_Sy_free {S0 : State} {A0 : Array Value} {D : va_G} {ar : Nat → ClassId} {base : Nat} {σ : Mem} {l : Launch} (hlt : l.stackTraces = false) {q b : Int32} :
    MX l y_Sy_free [Cond.code y_Sy_free b_Sy_free 3 none] (rmK) (PS S0 A0 D ar base σ [.ref (base + ad 0 0), .int q, .int b]) (QI D ar base (fun k r σ' => (k, r, σ') = sFree σ q b)) (inB base 122) := by
  refine cx_head hlt (by decide +kernel) (Nat.le_of_ble_eq_true rfl) ?_
  intro p ev s m below meth c ls C0 hP hl
  have C0 : Cx S0 A0 D ar base p l s m _ meth c R_Sy b_Sy_free 3 none := C0
  obtain ⟨hx, hb, -⟩ := id C0
  have hl : lv_has ls 3 [(0, .ref (base + ad 0 0)), (1, .int q), (2, .int b)] := hl
  have hS : va_S (inB base 122) s.heap s.heap [] := va_S.rf
  refine lv_aload_n hx hb d_Sy_free_0 rfl (lv_at hl 0 rfl) ?_
  refine lv_iload_n hx hb d_Sy_free_1 rfl (lv_at hl 1 rfl) ?_
  refine lv_iload_n hx hb d_Sy_free_2 rfl (lv_at hl 2 rfl) ?_
  refine cs_PI C0 hP hS (cs_V C0 hP (kd := 0) (i := 0) (ci := 0) (As := [.int q, .int b]) (by decide) (by decide) rfl rfl k_ml_Sy_116 k_im_Sy_needOwnBlock k_sl_Sy_Sy_needOwnBlock k_cd_Sy_needOwnBlock k_in_Sy z_Sy_needOwnBlock rfl d_Sy_free_3) (c_Sy_needOwnBlock hlt) hl.1 d_Sy_free_3 (Nat.le_of_ble_eq_true rfl) (⟨by decide, by decide⟩) (⟨by decide, by decide⟩) (fun k r hk hp => by obtain ⟨h1, h2⟩ := hp; rw [h2] at hk; rw [h2]; unfold sFree; rw [if_neg hk]) (fun r_2 h_1 => ?_)
  have g_3 := h_1.2.symm
  obtain rfl := h_1.1
  refine lv_aload_n hx hb d_Sy_free_6 rfl (lv_at hl 0 rfl) ?_
  refine q_get C0 hP (kd := 0) (i := 0) (ci := 0) (by decide) (by decide) rfl rfl 5 (by decide) rfl k_fl_Sy_30 rfl d_Sy_free_7 ?_
  refine lv_iload_n hx hb d_Sy_free_10 rfl (lv_at hl 2 rfl) ?_
  refine q_aald C0 hP (kd := 4) (i := 0) (t0 := 4) (v := base + ad 12 b.toNatClampNeg) (by decide) (by decide) rfl rfl (rfl) ((kOwnB_0 g_3).2.1) d_Sy_free_11 ?_
  refine cs_I C0 hP hS (cs_V C0 hP (kd := 12) (i := b.toNatClampNeg) (ci := 2) (As := []) (by decide) (vin_lt ((kOwnB_0 g_3).2.1)) rfl rfl k_ml_Sy_96 k_im_Bl_giveBack k_sl_Bl_Bl_giveBack k_cd_Bl_giveBack k_in_Bl z_Bl_giveBack rfl d_Sy_free_12) (c_Bl_giveBack hlt (vin_lt ((kOwnB_0 g_3).2.1))) (fun k r σ h => h.1) ⟨rfl, rfl⟩ hl.1 d_Sy_free_12 (Nat.le_of_ble_eq_true rfl) (⟨by decide, by decide⟩) (⟨by decide, by decide⟩) (fun r_5 σ_6 H locs h_4 hP hS => ?_)
  obtain ⟨-, rfl, rfl⟩ := h_4
  exact rI_v C0 hP hS (⟨by decide, by decide⟩) (by unfold sFree; rw [if_pos g_3]; first | done | rfl) d_Sy_free_15
set_option maxHeartbeats 4000000 in
set_option maxRecDepth 100000 in
theorem c_Sy_read {S0 : State} {A0 : Array Value} {D : va_G} {ar : Nat → ClassId} {base : Nat} {σ : Mem} {l : Launch} (hlt : l.stackTraces = false) {q b i : Int32} (hbw : BW σ) :
    MX l y_Sy_read [Cond.code y_Sy_read b_Sy_read 4 (some .int)] (rmK) (PS S0 A0 D ar base σ [.ref (base + ad 0 0), .int q, .int b, .int i]) (QI D ar base (fun k r σ' => (k, r, σ') = sRead σ q b i)) (inB base 122) := by
  refine cx_head hlt (by decide +kernel) (Nat.le_of_ble_eq_true rfl) ?_
  intro p ev s m below meth c ls C0 hP hl
  have C0 : Cx S0 A0 D ar base p l s m _ meth c R_Sy b_Sy_read 4 (some .int) := C0
  obtain ⟨hx, hb, -⟩ := id C0
  have hl : lv_has ls 4 [(0, .ref (base + ad 0 0)), (1, .int q), (2, .int b), (3, .int i)] := hl
  have hS : va_S (inB base 122) s.heap s.heap [] := va_S.rf
  refine lv_aload_n hx hb d_Sy_read_0 rfl (lv_at hl 0 rfl) ?_
  refine lv_iload_n hx hb d_Sy_read_1 rfl (lv_at hl 1 rfl) ?_
  refine lv_iload_n hx hb d_Sy_read_2 rfl (lv_at hl 2 rfl) ?_
  refine cs_PI C0 hP hS (cs_V C0 hP (kd := 0) (i := 0) (ci := 0) (As := [.int q, .int b]) (by decide) (by decide) rfl rfl k_ml_Sy_116 k_im_Sy_needOwnBlock k_sl_Sy_Sy_needOwnBlock k_cd_Sy_needOwnBlock k_in_Sy z_Sy_needOwnBlock rfl d_Sy_read_3) (c_Sy_needOwnBlock hlt) hl.1 d_Sy_read_3 (Nat.le_of_ble_eq_true rfl) (⟨by decide, by decide⟩) (⟨by decide, by decide⟩) (fun k r hk hp => by obtain ⟨h1, h2⟩ := hp; rw [h2] at hk; rw [h2]; unfold sRead; rw [if_neg hk]) (fun r_2 h_1 => ?_)
  have g_3 := h_1.2.symm
  obtain rfl := h_1.1
  refine lv_aload_n hx hb d_Sy_read_6 rfl (lv_at hl 0 rfl) ?_
  refine lv_iload_n hx hb d_Sy_read_7 rfl (lv_at hl 2 rfl) ?_
  refine lv_iload_n hx hb d_Sy_read_8 rfl (lv_at hl 3 rfl) ?_
  refine cs_PI C0 hP hS (cs_V C0 hP (kd := 0) (i := 0) (ci := 0) (As := [.int b, .int i]) (by decide) (by decide) rfl rfl k_ml_Sy_119 k_im_Sy_needCell k_sl_Sy_Sy_needCell k_cd_Sy_needCell k_in_Sy z_Sy_needCell rfl d_Sy_read_9) (c_Sy_needCell hlt ((kOwnB_0 g_3).2.1)) hl.1 d_Sy_read_9 (Nat.le_of_ble_eq_true rfl) (⟨by decide, by decide⟩) (⟨by decide, by decide⟩) (fun k r hk hp => by obtain ⟨h1, h2⟩ := hp; rw [h2] at hk; rw [h2]; unfold sRead; rw [if_pos g_3, if_neg hk]) (fun r_5 h_4 => ?_)
  have g_6 := h_4.2.symm
  obtain rfl := h_4.1
  refine lv_aload_n hx hb d_Sy_read_12 rfl (lv_at hl 0 rfl) ?_
  refine q_get C0 hP (kd := 0) (i := 0) (ci := 0) (by decide) (by decide) rfl rfl 5 (by decide) rfl k_fl_Sy_30 rfl d_Sy_read_13 ?_
  refine lv_iload_n hx hb d_Sy_read_16 rfl (lv_at hl 2 rfl) ?_
  refine q_aald C0 hP (kd := 4) (i := 0) (t0 := 4) (v := base + ad 12 b.toNatClampNeg) (by decide) (by decide) rfl rfl (rfl) ((kOwnB_0 g_3).2.1) d_Sy_read_17 ?_
  refine q_getN C0 hP (kd := 12) (i := b.toNatClampNeg) (ci := 2) (by decide) (vin_lt ((kOwnB_0 g_3).2.1)) rfl rfl 0 (by decide) rfl k_fn_Sy_122 rfl d_Sy_read_18 ?_
  refine lv_iload_n hx hb d_Sy_read_21 rfl (lv_at hl 3 rfl) ?_
  refine q_iald C0 hP (kd := 13) (i := b.toNatClampNeg) (by decide) (vin_lt ((kOwnB_0 g_3).2.1)) rfl (kCell_0 hbw (vin_lt ((kOwnB_0 g_3).2.1)) g_6) d_Sy_read_22 ?_
  exact rI_i C0 hP hS (⟨by decide, by decide⟩) (by unfold sRead; rw [if_pos g_3, if_pos g_6]; first | done | rfl) d_Sy_read_23
set_option maxHeartbeats 4000000 in
set_option maxRecDepth 100000 in
theorem c_Sy_write {S0 : State} {A0 : Array Value} {D : va_G} {ar : Nat → ClassId} {base : Nat} {σ : Mem} {l : Launch} (hlt : l.stackTraces = false) {q b i v : Int32} (hbw : BW σ) :
    MX l y_Sy_write [Cond.code y_Sy_write b_Sy_write 5 none] (rmK) (PS S0 A0 D ar base σ [.ref (base + ad 0 0), .int q, .int b, .int i, .int v]) (QI D ar base (fun k r σ' => (k, r, σ') = sWrite σ q b i v)) (inB base 122) := by
  refine cx_head hlt (by decide +kernel) (Nat.le_of_ble_eq_true rfl) ?_
  intro p ev s m below meth c ls C0 hP hl
  have C0 : Cx S0 A0 D ar base p l s m _ meth c R_Sy b_Sy_write 5 none := C0
  obtain ⟨hx, hb, -⟩ := id C0
  have hl : lv_has ls 5 [(0, .ref (base + ad 0 0)), (1, .int q), (2, .int b), (3, .int i), (4, .int v)] := hl
  have hS : va_S (inB base 122) s.heap s.heap [] := va_S.rf
  refine lv_aload_n hx hb d_Sy_write_0 rfl (lv_at hl 0 rfl) ?_
  refine lv_iload_n hx hb d_Sy_write_1 rfl (lv_at hl 1 rfl) ?_
  refine lv_iload_n hx hb d_Sy_write_2 rfl (lv_at hl 2 rfl) ?_
  refine cs_PI C0 hP hS (cs_V C0 hP (kd := 0) (i := 0) (ci := 0) (As := [.int q, .int b]) (by decide) (by decide) rfl rfl k_ml_Sy_116 k_im_Sy_needOwnBlock k_sl_Sy_Sy_needOwnBlock k_cd_Sy_needOwnBlock k_in_Sy z_Sy_needOwnBlock rfl d_Sy_write_3) (c_Sy_needOwnBlock hlt) hl.1 d_Sy_write_3 (Nat.le_of_ble_eq_true rfl) (⟨by decide, by decide⟩) (⟨by decide, by decide⟩) (fun k r hk hp => by obtain ⟨h1, h2⟩ := hp; rw [h2] at hk; rw [h2]; unfold sWrite; rw [if_neg hk]) (fun r_2 h_1 => ?_)
  have g_3 := h_1.2.symm
  obtain rfl := h_1.1
  refine lv_aload_n hx hb d_Sy_write_6 rfl (lv_at hl 0 rfl) ?_
  refine lv_iload_n hx hb d_Sy_write_7 rfl (lv_at hl 2 rfl) ?_
  refine lv_iload_n hx hb d_Sy_write_8 rfl (lv_at hl 3 rfl) ?_
  refine cs_PI C0 hP hS (cs_V C0 hP (kd := 0) (i := 0) (ci := 0) (As := [.int b, .int i]) (by decide) (by decide) rfl rfl k_ml_Sy_119 k_im_Sy_needCell k_sl_Sy_Sy_needCell k_cd_Sy_needCell k_in_Sy z_Sy_needCell rfl d_Sy_write_9) (c_Sy_needCell hlt ((kOwnB_0 g_3).2.1)) hl.1 d_Sy_write_9 (Nat.le_of_ble_eq_true rfl) (⟨by decide, by decide⟩) (⟨by decide, by decide⟩) (fun k r hk hp => by obtain ⟨h1, h2⟩ := hp; rw [h2] at hk; rw [h2]; unfold sWrite; rw [if_pos g_3, if_neg hk]) (fun r_5 h_4 => ?_)
  have g_6 := h_4.2.symm
  obtain rfl := h_4.1
  refine lv_aload_n hx hb d_Sy_write_12 rfl (lv_at hl 0 rfl) ?_
  refine q_get C0 hP (kd := 0) (i := 0) (ci := 0) (by decide) (by decide) rfl rfl 5 (by decide) rfl k_fl_Sy_30 rfl d_Sy_write_13 ?_
  refine lv_iload_n hx hb d_Sy_write_16 rfl (lv_at hl 2 rfl) ?_
  refine q_aald C0 hP (kd := 4) (i := 0) (t0 := 4) (v := base + ad 12 b.toNatClampNeg) (by decide) (by decide) rfl rfl (rfl) ((kOwnB_0 g_3).2.1) d_Sy_write_17 ?_
  refine q_getN C0 hP (kd := 12) (i := b.toNatClampNeg) (ci := 2) (by decide) (vin_lt ((kOwnB_0 g_3).2.1)) rfl rfl 0 (by decide) rfl k_fn_Sy_122 rfl d_Sy_write_18 ?_
  refine lv_iload_n hx hb d_Sy_write_21 rfl (lv_at hl 3 rfl) ?_
  refine lv_iload hx hb d_Sy_write_22 (lv_at hl 4 rfl) ?_
  refine q_iast C0 hP hS (kd := 13) (i := b.toNatClampNeg) 10 (by decide) rfl (vin_lt ((kOwnB_0 g_3).2.1)) rfl (kCell_0 hbw (vin_lt ((kOwnB_0 g_3).2.1)) g_6) (by rw [ast_fn]; rfl) d_Sy_write_24 (fun H locs hP hS => ?_)
  exact rI_v C0 hP hS (⟨by decide, by decide⟩) (by unfold sWrite; rw [if_pos g_3, if_pos g_6]; first | done | rfl) d_Sy_write_25
set_option maxHeartbeats 4000000 in
set_option maxRecDepth 100000 in
theorem c_Sy_ofBlock {S0 : State} {A0 : Array Value} {D : va_G} {ar : Nat → ClassId} {base : Nat} {σ : Mem} {l : Launch} (hlt : l.stackTraces = false) {b x : Int32} :
    MX l y_Sy_ofBlock [Cond.code y_Sy_ofBlock b_Sy_ofBlock 3 (some .int)] (rmK) (PS S0 A0 D ar base σ [.ref (base + ad 0 0), .int b, .int x]) (QI D ar base (fun k r σ' => (k, r, σ') = sOfBlock σ b x)) (inB base 122) := by
  refine cx_head hlt (by decide +kernel) (Nat.le_of_ble_eq_true rfl) ?_
  intro p ev s m below meth c ls C0 hP hl
  have C0 : Cx S0 A0 D ar base p l s m _ meth c R_Sy b_Sy_ofBlock 3 (some .int) := C0
  obtain ⟨hx, hb, -⟩ := id C0
  have hl : lv_has ls 3 [(0, .ref (base + ad 0 0)), (1, .int b), (2, .int x)] := hl
  have hS : va_S (inB base 122) s.heap s.heap [] := va_S.rf
  refine lv_iload_n hx hb d_Sy_ofBlock_0 rfl (lv_at hl 1 rfl) ?_
  refine lv_bipush (v := 12) hx hb d_Sy_ofBlock_1 (by decide) ?_
  refine cs_PI C0 hP hS (cs_S C0 (As := [.int b, .int 12]) k_ml_Sy_64 k_st_Sy_needBelow k_cd_Sy_needBelow k_in_Sy z_Sy_needBelow rfl d_Sy_ofBlock_3) (c_Sy_needBelow hlt) hl.1 d_Sy_ofBlock_3 (Nat.le_of_ble_eq_true rfl) (⟨by decide, by decide⟩) (⟨by decide, by decide⟩) (fun k r hk hp => by obtain ⟨h1, h2⟩ := hp; obtain ⟨hc, h3⟩ := nz_k h2 hk; rw [h3]; unfold sOfBlock; rw [if_pos hc]) (fun r_2 h_1 => ?_)
  have g_3 := nz_ok h_1.2
  obtain rfl := h_1.1
  refine lv_iload_n hx hb d_Sy_ofBlock_6 rfl (lv_at hl 2 rfl) ?_
  refine lv_iconst (v := 2) hx hb d_Sy_ofBlock_7 (by decide) ?_
  refine cs_PI C0 hP hS (cs_S C0 (As := [.int x, .int 2]) k_ml_Sy_64 k_st_Sy_needBelow k_cd_Sy_needBelow k_in_Sy z_Sy_needBelow rfl d_Sy_ofBlock_8) (c_Sy_needBelow hlt) hl.1 d_Sy_ofBlock_8 (Nat.le_of_ble_eq_true rfl) (⟨by decide, by decide⟩) (⟨by decide, by decide⟩) (fun k r hk hp => by obtain ⟨h1, h2⟩ := hp; obtain ⟨hc, h3⟩ := nz_k h2 hk; rw [h3]; unfold sOfBlock; rw [if_neg g_3, if_pos hc]) (fun r_5 h_4 => ?_)
  have g_6 := nz_ok h_4.2
  obtain rfl := h_4.1
  refine lv_iload_n hx hb d_Sy_ofBlock_11 rfl (lv_at hl 2 rfl) ?_
  refine lv_if_ne (tgt := 27) hx hb d_Sy_ofBlock_12 (by decide) (fun c_12 => ?_) (fun c_12 => ?_)
  · skip
    refine lv_aload_n hx hb d_Sy_ofBlock_27 rfl (lv_at hl 0 rfl) ?_
    refine q_get C0 hP (kd := 0) (i := 0) (ci := 0) (by decide) (by decide) rfl rfl 5 (by decide) rfl k_fl_Sy_30 rfl d_Sy_ofBlock_28 ?_
    refine lv_iload_n hx hb d_Sy_ofBlock_31 rfl (lv_at hl 1 rfl) ?_
    refine q_aald C0 hP (kd := 4) (i := 0) (t0 := 4) (v := base + ad 12 b.toNatClampNeg) (by decide) (by decide) rfl rfl (rfl) (vin_b g_3) d_Sy_ofBlock_32 ?_
    refine q_getN C0 hP (kd := 12) (i := b.toNatClampNeg) (ci := 2) (by decide) (vin_lt (vin_b g_3)) rfl rfl 2 (by decide) rfl k_fn_Sy_211 rfl d_Sy_ofBlock_33 ?_
    exact rI_i C0 hP hS (⟨by decide, by decide⟩) (by unfold sOfBlock; rw [if_neg g_3, if_neg g_6, if_neg c_12]; first | done | rfl) d_Sy_ofBlock_36
  · skip
    refine lv_aload_n hx hb d_Sy_ofBlock_15 rfl (lv_at hl 0 rfl) ?_
    refine q_get C0 hP (kd := 0) (i := 0) (ci := 0) (by decide) (by decide) rfl rfl 5 (by decide) rfl k_fl_Sy_30 rfl d_Sy_ofBlock_16 ?_
    refine lv_iload_n hx hb d_Sy_ofBlock_19 rfl (lv_at hl 1 rfl) ?_
    refine q_aald C0 hP (kd := 4) (i := 0) (t0 := 4) (v := base + ad 12 b.toNatClampNeg) (by decide) (by decide) rfl rfl (rfl) (vin_b g_3) d_Sy_ofBlock_20 ?_
    refine q_getN C0 hP (kd := 12) (i := b.toNatClampNeg) (ci := 2) (by decide) (vin_lt (vin_b g_3)) rfl rfl 1 (by decide) rfl k_fn_Sy_93 rfl d_Sy_ofBlock_21 ?_
    refine lv_goto (tgt := 36) hx hb d_Sy_ofBlock_24 (by decide) ?_
    exact rI_i C0 hP hS (⟨by decide, by decide⟩) (by unfold sOfBlock; rw [if_neg g_3, if_neg g_6, if_pos c_12]; first | done | rfl) d_Sy_ofBlock_36
set_option maxHeartbeats 4000000 in
set_option maxRecDepth 100000 in
theorem c_Sy_ofEnd {S0 : State} {A0 : Array Value} {D : va_G} {ar : Nat → ClassId} {base : Nat} {σ : Mem} {l : Launch} (hlt : l.stackTraces = false) {b x : Int32} :
    MX l y_Sy_ofEnd [Cond.code y_Sy_ofEnd b_Sy_ofEnd 3 (some .int)] (rmK) (PS S0 A0 D ar base σ [.ref (base + ad 0 0), .int b, .int x]) (QI D ar base (fun k r σ' => (k, r, σ') = sOfEnd σ b x)) (inB base 122) := by
  refine cx_head hlt (by decide +kernel) (Nat.le_of_ble_eq_true rfl) ?_
  intro p ev s m below meth c ls C0 hP hl
  have C0 : Cx S0 A0 D ar base p l s m _ meth c R_Sy b_Sy_ofEnd 3 (some .int) := C0
  obtain ⟨hx, hb, -⟩ := id C0
  have hl : lv_has ls 3 [(0, .ref (base + ad 0 0)), (1, .int b), (2, .int x)] := hl
  have hS : va_S (inB base 122) s.heap s.heap [] := va_S.rf
  refine lv_iload_n hx hb d_Sy_ofEnd_0 rfl (lv_at hl 1 rfl) ?_
  refine lv_bipush (v := 12) hx hb d_Sy_ofEnd_1 (by decide) ?_
  refine cs_PI C0 hP hS (cs_S C0 (As := [.int b, .int 12]) k_ml_Sy_64 k_st_Sy_needBelow k_cd_Sy_needBelow k_in_Sy z_Sy_needBelow rfl d_Sy_ofEnd_3) (c_Sy_needBelow hlt) hl.1 d_Sy_ofEnd_3 (Nat.le_of_ble_eq_true rfl) (⟨by decide, by decide⟩) (⟨by decide, by decide⟩) (fun k r hk hp => by obtain ⟨h1, h2⟩ := hp; obtain ⟨hc, h3⟩ := nz_k h2 hk; rw [h3]; unfold sOfEnd; rw [if_pos hc]) (fun r_2 h_1 => ?_)
  have g_3 := nz_ok h_1.2
  obtain rfl := h_1.1
  refine lv_iload_n hx hb d_Sy_ofEnd_6 rfl (lv_at hl 2 rfl) ?_
  refine lv_iconst (v := 3) hx hb d_Sy_ofEnd_7 (by decide) ?_
  refine cs_PI C0 hP hS (cs_S C0 (As := [.int x, .int 3]) k_ml_Sy_64 k_st_Sy_needBelow k_cd_Sy_needBelow k_in_Sy z_Sy_needBelow rfl d_Sy_ofEnd_8) (c_Sy_needBelow hlt) hl.1 d_Sy_ofEnd_8 (Nat.le_of_ble_eq_true rfl) (⟨by decide, by decide⟩) (⟨by decide, by decide⟩) (fun k r hk hp => by obtain ⟨h1, h2⟩ := hp; obtain ⟨hc, h3⟩ := nz_k h2 hk; rw [h3]; unfold sOfEnd; rw [if_neg g_3, if_pos hc]) (fun r_5 h_4 => ?_)
  have g_6 := nz_ok h_4.2
  obtain rfl := h_4.1
  refine lv_iload_n hx hb d_Sy_ofEnd_11 rfl (lv_at hl 2 rfl) ?_
  refine lv_if_ne (tgt := 25) hx hb d_Sy_ofEnd_12 (by decide) (fun c_12 => ?_) (fun c_12 => ?_)
  · skip
    refine lv_iload_n hx hb d_Sy_ofEnd_25 rfl (lv_at hl 2 rfl) ?_
    refine lv_iconst (v := 1) hx hb d_Sy_ofEnd_26 (by decide) ?_
    refine lv_icmp_ne (tgt := 42) hx hb d_Sy_ofEnd_27 (by decide) (fun c_27 => ?_) (fun c_27 => ?_)
    · skip
      refine lv_aload_n hx hb d_Sy_ofEnd_42 rfl (lv_at hl 0 rfl) ?_
      refine q_get C0 hP (kd := 0) (i := 0) (ci := 0) (by decide) (by decide) rfl rfl 7 (by decide) rfl k_fl_Sy_40 rfl d_Sy_ofEnd_43 ?_
      refine lv_iload_n hx hb d_Sy_ofEnd_46 rfl (lv_at hl 1 rfl) ?_
      refine q_aald C0 hP (kd := 6) (i := 0) (t0 := 5) (v := base + ad 14 b.toNatClampNeg) (by decide) (by decide) rfl rfl (rfl) (vin_b g_3) d_Sy_ofEnd_47 ?_
      refine q_getN C0 hP (kd := 14) (i := b.toNatClampNeg) (ci := 3) (by decide) (vin_lt (vin_b g_3)) rfl rfl 4 (by decide) rfl k_fn_Sy_178 rfl d_Sy_ofEnd_48 ?_
      exact rI_i C0 hP hS (⟨by decide, by decide⟩) (by unfold sOfEnd; rw [if_neg g_3, if_neg g_6, if_neg c_12, if_neg c_27]; first | done | rfl) d_Sy_ofEnd_51
    · skip
      refine lv_aload_n hx hb d_Sy_ofEnd_30 rfl (lv_at hl 0 rfl) ?_
      refine q_get C0 hP (kd := 0) (i := 0) (ci := 0) (by decide) (by decide) rfl rfl 7 (by decide) rfl k_fl_Sy_40 rfl d_Sy_ofEnd_31 ?_
      refine lv_iload_n hx hb d_Sy_ofEnd_34 rfl (lv_at hl 1 rfl) ?_
      refine q_aald C0 hP (kd := 6) (i := 0) (t0 := 5) (v := base + ad 14 b.toNatClampNeg) (by decide) (by decide) rfl rfl (rfl) (vin_b g_3) d_Sy_ofEnd_35 ?_
      refine q_getN C0 hP (kd := 14) (i := b.toNatClampNeg) (ci := 3) (by decide) (vin_lt (vin_b g_3)) rfl rfl 3 (by decide) rfl k_fn_Sy_152 rfl d_Sy_ofEnd_36 ?_
      refine lv_goto (tgt := 51) hx hb d_Sy_ofEnd_39 (by decide) ?_
      exact rI_i C0 hP hS (⟨by decide, by decide⟩) (by unfold sOfEnd; rw [if_neg g_3, if_neg g_6, if_neg c_12, if_pos c_27]; first | done | rfl) d_Sy_ofEnd_51
  · skip
    refine lv_aload_n hx hb d_Sy_ofEnd_15 rfl (lv_at hl 0 rfl) ?_
    refine q_get C0 hP (kd := 0) (i := 0) (ci := 0) (by decide) (by decide) rfl rfl 7 (by decide) rfl k_fl_Sy_40 rfl d_Sy_ofEnd_16 ?_
    refine lv_iload_n hx hb d_Sy_ofEnd_19 rfl (lv_at hl 1 rfl) ?_
    refine q_aald C0 hP (kd := 6) (i := 0) (t0 := 5) (v := base + ad 14 b.toNatClampNeg) (by decide) (by decide) rfl rfl (rfl) (vin_b g_3) d_Sy_ofEnd_20 ?_
    refine q_getN C0 hP (kd := 14) (i := b.toNatClampNeg) (ci := 3) (by decide) (vin_lt (vin_b g_3)) rfl rfl 2 (by decide) rfl k_fn_Sy_99 rfl d_Sy_ofEnd_21 ?_
    exact rI_i C0 hP hS (⟨by decide, by decide⟩) (by unfold sOfEnd; rw [if_neg g_3, if_neg g_6, if_pos c_12]; first | done | rfl) d_Sy_ofEnd_24
set_option maxHeartbeats 4000000 in
set_option maxRecDepth 100000 in
theorem c_Sy_close {S0 : State} {A0 : Array Value} {D : va_G} {ar : Nat → ClassId} {base : Nat} {σ : Mem} {l : Launch} (hlt : l.stackTraces = false) {q x : Int32} (hqw : QW σ) :
    MX l y_Sy_close [Cond.code y_Sy_close b_Sy_close 3 (some .int)] (rmK) (PS S0 A0 D ar base σ [.ref (base + ad 0 0), .int q, .int x]) (QI D ar base (fun k r σ' => (k, r, σ') = sClose σ q x)) (inB base 122) := by
  refine cx_head hlt (by decide +kernel) (Nat.le_of_ble_eq_true rfl) ?_
  intro p ev s m below meth c ls C0 hP hl
  have C0 : Cx S0 A0 D ar base p l s m _ meth c R_Sy b_Sy_close 3 (some .int) := C0
  obtain ⟨hx, hb, -⟩ := id C0
  have hl : lv_has ls 3 [(0, .ref (base + ad 0 0)), (1, .int q), (2, .int x)] := hl
  have hS : va_S (inB base 122) s.heap s.heap [] := va_S.rf
  refine lv_aload_n hx hb d_Sy_close_0 rfl (lv_at hl 0 rfl) ?_
  refine lv_iload_n hx hb d_Sy_close_1 rfl (lv_at hl 1 rfl) ?_
  refine lv_iload_n hx hb d_Sy_close_2 rfl (lv_at hl 2 rfl) ?_
  refine cs_PI C0 hP hS (cs_V C0 hP (kd := 0) (i := 0) (ci := 0) (As := [.int q, .int x]) (by decide) (by decide) rfl rfl k_ml_Sy_149 k_im_Sy_needOwnEnd k_sl_Sy_Sy_needOwnEnd k_cd_Sy_needOwnEnd k_in_Sy z_Sy_needOwnEnd rfl d_Sy_close_3) (c_Sy_needOwnEnd hlt) hl.1 d_Sy_close_3 (Nat.le_of_ble_eq_true rfl) (⟨by decide, by decide⟩) (⟨by decide, by decide⟩) (fun k r hk hp => by obtain ⟨h1, h2⟩ := hp; rw [h2] at hk; rw [h2]; unfold sClose; rw [if_neg hk]) (fun r_2 h_1 => ?_)
  have g_3 := h_1.2.symm
  obtain rfl := h_1.1
  refine lv_aload_n hx hb d_Sy_close_6 rfl (lv_at hl 0 rfl) ?_
  refine lv_iload_n hx hb d_Sy_close_7 rfl (lv_at hl 2 rfl) ?_
  refine lv_iconst (v := 0) hx hb d_Sy_close_8 (by decide) ?_
  refine W.eq (g2 := F0 m 9 ls [.int (nI (12 - 12)), .int (nI x.toNatClampNeg), .ref (base + ad 0 0)]) (by rw [show nI x.toNatClampNeg = x from by obtain ⟨j, hj, hje⟩ := vp_in_of ((kOwnE_0 g_3).2.1) (by decide); rw [hje, nI_clamp (by omega)]]; rfl) ?_
  refine cs_I C0 hP hS (cs_V C0 hP (kd := 0) (i := 0) (ci := 0) (As := [.int (nI x.toNatClampNeg), .int (nI (12 - 12))]) (by decide) (by decide) rfl rfl k_ml_Sy_100 k_im_Sy_closeEnd k_sl_Sy_Sy_closeEnd k_cd_Sy_closeEnd k_in_Sy z_Sy_closeEnd rfl d_Sy_close_9) (c_Sy_closeEnd hlt 12 (Nat.le_refl _) σ x.toNatClampNeg (vin_lt ((kOwnE_0 g_3).2.1)) hqw) (fun k r σ h => h.1) ⟨rfl, rfl⟩ hl.1 d_Sy_close_9 (Nat.le_of_ble_eq_true rfl) (⟨by decide, by decide⟩) (⟨by decide, by decide⟩) (fun r_5 σ_6 H locs h_4 hP hS => ?_)
  obtain ⟨-, rfl, rfl⟩ := h_4
  exact rI_i C0 hP hS (⟨by decide, by decide⟩) (by unfold sClose; rw [if_pos g_3]; first | done | rfl) d_Sy_close_12
set_option maxHeartbeats 4000000 in
set_option maxRecDepth 100000 in
theorem c_Sy_start {S0 : State} {A0 : Array Value} {D : va_G} {ar : Nat → ClassId} {base : Nat} {σ : Mem} {l : Launch} (hlt : l.stackTraces = false)  :
    MX l y_Sy_start [Cond.code y_Sy_start b_Sy_start 2 (some .int)] (rmK) (PS S0 A0 D ar base σ [.ref (base + ad 0 0)]) (QI D ar base (fun k r σ' => (k, r, σ') = sStart σ)) (inB base 122) := by
  refine cx_head hlt (by decide +kernel) (Nat.le_of_ble_eq_true rfl) ?_
  intro p ev s m below meth c ls C0 hP hl
  have C0 : Cx S0 A0 D ar base p l s m _ meth c R_Sy b_Sy_start 2 (some .int) := C0
  obtain ⟨hx, hb, -⟩ := id C0
  have hl : lv_has ls 2 [(0, .ref (base + ad 0 0))] := hl
  have hS : va_S (inB base 122) s.heap s.heap [] := va_S.rf
  refine lv_iconst (v := 0) hx hb d_Sy_start_0 (by decide) ?_
  refine lv_istore_n (lv' := [(1, .int 0), (0, .ref (base + ad 0 0))]) hx hb d_Sy_start_1 rfl hl (by decide) rfl (fun ls hl => ?_)
  have loop : ∀ (n k : Nat), k ≤ 4 → 4 + 1 ≤ k + n → stL σ (4 - k) k = sStart σ → ∀ (H : Heap) (locs : List Loc), va_P D classes (wl base 122 (mem ar base (σ))) H → va_S (inB base 122) s.heap H locs → ∀ ls : Array Slot, lv_has ls 2 [(1, .int (nI k)), (0, .ref (base + ad 0 0))] → W p l ev (rmK) s m ([.ref (base + ad 0 0)] : List Value).toArray below meth c H locs 0 0 (MQX below (QI D ar base (fun k r σ' => (k, r, σ') = sStart σ)) ([.ref (base + ad 0 0)] : List Value).toArray s (rmK).cells (rmK).slots (inB base 122)) (F0 m 2 ls []) := by
    intro n
    induction n with
    | zero => intro k h1 h2; omega
    | succ n ih =>
      intro k hk1 hk2 hinv H locs hP hS ls hl
      refine lv_iload_n hx hb d_Sy_start_2 rfl (lv_at hl 0 rfl) ?_
      refine lv_iconst (v := 4) hx hb d_Sy_start_3 (by decide) ?_
      refine lv_icmp_ge (tgt := 31) hx hb d_Sy_start_4 (by decide) (fun c_4 => ?_) (fun c_4 => ?_)
      · skip
        have hkN : k = 4 := by have := ge_nI (N := 4) c_4; omega
        subst hkN
        exact tI_4 C0 hP hS k_sr_Sy_84 xs_84 hl.1 d_Sy_start_31 d_Sy_start_34 d_Sy_start_35 d_Sy_start_37 d_Sy_start_40 (by decide) (by decide) (⟨by decide, by decide⟩) (by rw [← hinv]; rfl)
      · skip
        have hkN : k < 4 := lt_nI (N := 4) c_4
        refine lv_aload_n hx hb d_Sy_start_7 rfl (lv_at hl 1 rfl) ?_
        refine q_get C0 hP (kd := 0) (i := 0) (ci := 0) (by decide) (by decide) rfl rfl 4 (by decide) rfl k_fl_Sy_24 rfl d_Sy_start_8 ?_
        refine lv_iload_n hx hb d_Sy_start_11 rfl (lv_at hl 0 rfl) ?_
        refine q_zald C0 hP (kd := 3) (i := 0) (by decide) (by decide) rfl (vin_nI hkN) d_Sy_start_12 ?_
        rw [show (nI k).toNatClampNeg = k from nI_clamp (by omega)]
        refine lv_if_ne (tgt := 25) hx hb d_Sy_start_13 (by decide) (fun c_13 => ?_) (fun c_13 => ?_)
        · skip
          refine lv_iinc (v := nI (k + 1)) (lv' := [(1, .int (nI (k + 1))), (0, .ref (base + ad 0 0))]) hx hb d_Sy_start_25 hl (k := 0) rfl (by exact nI_1 k) (by decide) rfl (fun ls hl => ?_)
          refine lv_goto (tgt := 2) hx hb d_Sy_start_28 (by decide) ?_
          rw [show ((σ) : Mem) = σ from rfl] at hP
          exact ih (k + 1) (by omega) (by omega) (by rw [← hinv, stL_s hkN, if_neg c_13]) _ _ hP hS ls (lv_sub hl [0, 1] rfl)
        · skip
          refine lv_aload_n hx hb d_Sy_start_16 rfl (lv_at hl 1 rfl) ?_
          refine q_get C0 hP (kd := 0) (i := 0) (ci := 0) (by decide) (by decide) rfl rfl 4 (by decide) rfl k_fl_Sy_24 rfl d_Sy_start_17 ?_
          refine lv_iload_n hx hb d_Sy_start_20 rfl (lv_at hl 0 rfl) ?_
          refine lv_iconst (v := 1) hx hb d_Sy_start_21 (by decide) ?_
          refine q_zast C0 hP hS (kd := 3) (i := 0) 2 (by decide) rfl (by decide) rfl (vin_nI hkN) (by rw [ast_fn]; rfl) d_Sy_start_22 (fun H locs hP hS => ?_)
          rw [show (nI k).toNatClampNeg = k from nI_clamp (by omega)] at hP
          refine lv_iload_n hx hb d_Sy_start_23 rfl (lv_at hl 0 rfl) ?_
          exact rI_i C0 hP hS (⟨by decide, by decide⟩) (by rw [← hinv, stL_s hkN, if_pos c_13]; rfl) d_Sy_start_24
  rw [show (σ : Mem) = σ from rfl] at hP
  exact loop (4 + 1) 0 (by omega) (by omega) (rfl) _ _ hP hS ls (lv_sub hl [0, 1] rfl)
set_option maxHeartbeats 4000000 in
set_option maxRecDepth 100000 in
theorem c_Sy_kill {S0 : State} {A0 : Array Value} {D : va_G} {ar : Nat → ClassId} {base : Nat} {σ : Mem} {l : Launch} (hlt : l.stackTraces = false) {q : Int32} (hqw : QW σ) :
    MX l y_Sy_kill [Cond.code y_Sy_kill b_Sy_kill 4 (some .int)] (rmK) (PS S0 A0 D ar base σ [.ref (base + ad 0 0), .int q]) (QI D ar base (fun k r σ' => (k, r, σ') = sKill σ q)) (inB base 122) := by
  refine cx_head hlt (by decide +kernel) (Nat.le_of_ble_eq_true rfl) ?_
  intro p ev s m below meth c ls C0 hP hl
  have C0 : Cx S0 A0 D ar base p l s m _ meth c R_Sy b_Sy_kill 4 (some .int) := C0
  obtain ⟨hx, hb, -⟩ := id C0
  have hl : lv_has ls 4 [(0, .ref (base + ad 0 0)), (1, .int q)] := hl
  have hS : va_S (inB base 122) s.heap s.heap [] := va_S.rf
  refine lv_iload_n hx hb d_Sy_kill_0 rfl (lv_at hl 1 rfl) ?_
  refine lv_iconst (v := 4) hx hb d_Sy_kill_1 (by decide) ?_
  refine cs_PI C0 hP hS (cs_S C0 (As := [.int q, .int 4]) k_ml_Sy_64 k_st_Sy_needBelow k_cd_Sy_needBelow k_in_Sy z_Sy_needBelow rfl d_Sy_kill_2) (c_Sy_needBelow hlt) hl.1 d_Sy_kill_2 (Nat.le_of_ble_eq_true rfl) (⟨by decide, by decide⟩) (⟨by decide, by decide⟩) (fun k r hk hp => by obtain ⟨h1, h2⟩ := hp; obtain ⟨hc, h3⟩ := nz_k h2 hk; rw [h3]; unfold sKill; rw [if_pos hc]) (fun r_2 h_1 => ?_)
  have g_3 := nz_ok h_1.2
  obtain rfl := h_1.1
  refine lv_aload_n hx hb d_Sy_kill_5 rfl (lv_at hl 0 rfl) ?_
  refine lv_iload_n hx hb d_Sy_kill_6 rfl (lv_at hl 1 rfl) ?_
  refine cs_PI C0 hP hS (cs_V C0 hP (kd := 0) (i := 0) (ci := 0) (As := [.int q]) (by decide) (by decide) rfl rfl k_ml_Sy_86 k_im_Sy_needAlive k_sl_Sy_Sy_needAlive k_cd_Sy_needAlive k_in_Sy z_Sy_needAlive rfl d_Sy_kill_7) (c_Sy_needAlive hlt (vin_b g_3)) hl.1 d_Sy_kill_7 (Nat.le_of_ble_eq_true rfl) (⟨by decide, by decide⟩) (⟨by decide, by decide⟩) (fun k r hk hp => by obtain ⟨h1, h2⟩ := hp; obtain ⟨hc, h3⟩ := nz_k h2 hk; rw [h3]; unfold sKill; rw [if_neg g_3, if_pos hc]) (fun r_5 h_4 => ?_)
  have g_6 := nz_ok h_4.2
  obtain rfl := h_4.1
  refine lv_aload_n hx hb d_Sy_kill_10 rfl (lv_at hl 0 rfl) ?_
  refine q_get C0 hP (kd := 0) (i := 0) (ci := 0) (by decide) (by decide) rfl rfl 4 (by decide) rfl k_fl_Sy_24 rfl d_Sy_kill_11 ?_
  refine lv_iload_n hx hb d_Sy_kill_14 rfl (lv_at hl 1 rfl) ?_
  refine lv_iconst (v := 0) hx hb d_Sy_kill_15 (by decide) ?_
  refine q_zast C0 hP hS (kd := 3) (i := 0) 2 (by decide) rfl (by decide) rfl (vin_b g_3) (by rw [ast_fn]; rfl) d_Sy_kill_16 (fun H locs hP hS => ?_)
  refine lv_aload_n hx hb d_Sy_kill_17 rfl (lv_at hl 0 rfl) ?_
  refine lv_dup hx hb d_Sy_kill_18 rfl ?_
  refine q_get C0 hP (kd := 0) (i := 0) (ci := 0) (by decide) (by decide) rfl rfl 11 (by decide) rfl k_fl_Sy_90 rfl d_Sy_kill_19 ?_
  refine lv_iconst (v := 1) hx hb d_Sy_kill_22 (by decide) ?_
  refine lv_iadd hx hb d_Sy_kill_23 ?_
  refine q_put C0 hP hS (kd := 0) (i := 0) (ci := 0) 0 4 (by decide) rfl (by decide) rfl rfl t_Sy t_Sy_ok n_Sy 11 (by decide) rfl k_fl_Sy_90 rfl (by decide +kernel) (Nat.le_of_ble_eq_true rfl) (by simp [cont, up]) d_Sy_kill_24 (fun H locs hP hS => ?_)
  refine lv_iconst (v := 0) hx hb d_Sy_kill_27 (by decide) ?_
  refine lv_istore_n (lv' := [(2, .int 0), (0, .ref (base + ad 0 0)), (1, .int q)]) hx hb d_Sy_kill_28 rfl hl (by decide) rfl (fun ls hl => ?_)
  refine lv_iconst (v := 0) hx hb d_Sy_kill_29 (by decide) ?_
  refine lv_istore_n (lv' := [(3, .int 0), (2, .int 0), (0, .ref (base + ad 0 0)), (1, .int q)]) hx hb d_Sy_kill_30 rfl hl (by decide) rfl (fun ls hl => ?_)
  have loop : ∀ (n k : Nat), k ≤ 12 → 12 + 1 ≤ k + n → ∀ (g : Int32) (σ' : Mem), QW σ' ∧ kbL q (12 - k) k g σ' = kbL q 12 0 0 (killM σ q) → ∀ (H : Heap) (locs : List Loc), va_P D classes (wl base 122 (mem ar base σ')) H → va_S (inB base 122) s.heap H locs → ∀ ls : Array Slot, lv_has ls 4 [(2, .int g), (3, .int (nI k)), (0, .ref (base + ad 0 0)), (1, .int q)] → W p l ev (rmK) s m ([.ref (base + ad 0 0), .int q] : List Value).toArray below meth c H locs 0 0 (MQX below (QI D ar base (fun k r σ' => (k, r, σ') = sKill σ q)) ([.ref (base + ad 0 0), .int q] : List Value).toArray s (rmK).cells (rmK).slots (inB base 122)) (F0 m 31 ls []) := by
    intro n
    induction n with
    | zero => intro k h1 h2; omega
    | succ n ih =>
      intro k hk1 hk2 g σ' hinv H locs hP hS ls hl
      refine lv_iload_n hx hb d_Sy_kill_31 rfl (lv_at hl 1 rfl) ?_
      refine lv_bipush (v := 12) hx hb d_Sy_kill_32 (by decide) ?_
      refine lv_icmp_ge (tgt := 68) hx hb d_Sy_kill_34 (by decide) (fun c_34 => ?_) (fun c_34 => ?_)
      · skip
        have hkN : k = 12 := by have := ge_nI (N := 12) c_34; omega
        subst hkN
        refine lv_iconst (v := 0) hx hb d_Sy_kill_68 (by decide) ?_
        refine lv_istore_n (lv' := [(3, .int 0), (2, .int g), (0, .ref (base + ad 0 0)), (1, .int q)]) hx hb d_Sy_kill_69 rfl hl (by decide) rfl (fun ls hl => ?_)
        have loop2 : ∀ (n k : Nat), k ≤ 12 → 12 + 1 ≤ k + n → ∀ (g : Int32) (σ'' : Mem), QW σ'' ∧ keL q (12 - k) k g σ'' = keL q 12 0 (kbL q 12 0 0 (killM σ q)).1 (kbL q 12 0 0 (killM σ q)).2 → ∀ (H : Heap) (locs : List Loc), va_P D classes (wl base 122 (mem ar base σ'')) H → va_S (inB base 122) s.heap H locs → ∀ ls : Array Slot, lv_has ls 4 [(2, .int g), (3, .int (nI k)), (0, .ref (base + ad 0 0)), (1, .int q)] → W p l ev (rmK) s m ([.ref (base + ad 0 0), .int q] : List Value).toArray below meth c H locs 0 0 (MQX below (QI D ar base (fun k r σ' => (k, r, σ') = sKill σ q)) ([.ref (base + ad 0 0), .int q] : List Value).toArray s (rmK).cells (rmK).slots (inB base 122)) (F0 m 70 ls []) := by
          intro n
          induction n with
          | zero => intro k h1 h2; omega
          | succ n ih =>
            intro k hk1 hk2 g σ'' hinv H locs hP hS ls hl
            refine lv_iload_n hx hb d_Sy_kill_70 rfl (lv_at hl 1 rfl) ?_
            refine lv_bipush (v := 12) hx hb d_Sy_kill_71 (by decide) ?_
            refine lv_icmp_ge (tgt := 104) hx hb d_Sy_kill_73 (by decide) (fun c_73 => ?_) (fun c_73 => ?_)
            · skip
              have hkN : k = 12 := by have := ge_nI (N := 12) c_73; omega
              subst hkN
              refine lv_iload_n hx hb d_Sy_kill_104 rfl (lv_at hl 0 rfl) ?_
              exact rI_i C0 hP hS (⟨by decide, by decide⟩) (by unfold sKill; rw [if_neg g_3, if_neg g_6, ← hinv.2]; rfl) d_Sy_kill_105
            · skip
              have hkN : k < 12 := lt_nI (N := 12) c_73
              refine lv_aload_n hx hb d_Sy_kill_76 rfl (lv_at hl 2 rfl) ?_
              refine q_get C0 hP (kd := 0) (i := 0) (ci := 0) (by decide) (by decide) rfl rfl 7 (by decide) rfl k_fl_Sy_40 rfl d_Sy_kill_77 ?_
              refine lv_iload_n hx hb d_Sy_kill_80 rfl (lv_at hl 1 rfl) ?_
              refine q_aald C0 hP (kd := 6) (i := 0) (t0 := 5) (v := base + ad 14 k) (by decide) (by decide) rfl rfl (by rw [nI_clamp (by omega)]) (vin_nI hkN) d_Sy_kill_81 ?_
              refine q_getN C0 hP (kd := 14) (i := k) (ci := 3) (by decide) (hkN) rfl rfl 2 (by decide) rfl k_fn_Sy_99 rfl d_Sy_kill_82 ?_
              refine lv_iload_n hx hb d_Sy_kill_85 rfl (lv_at hl 3 rfl) ?_
              refine lv_icmp_ne (tgt := 98) hx hb d_Sy_kill_86 (by decide) (fun c_86 => ?_) (fun c_86 => ?_)
              · skip
                refine lv_iinc (v := nI (k + 1)) (lv' := [(3, .int (nI (k + 1))), (2, .int g), (0, .ref (base + ad 0 0)), (1, .int q)]) hx hb d_Sy_kill_98 hl (k := 1) rfl (by exact nI_1 k) (by decide) rfl (fun ls hl => ?_)
                refine lv_goto (tgt := 70) hx hb d_Sy_kill_101 (by decide) ?_
                exact ih (k + 1) (by omega) (by omega) _ _ (⟨hinv.1, by rw [← hinv.2, keL_s hkN, if_neg c_86]⟩) _ _ hP hS ls (lv_sub hl [1, 0, 2, 3] rfl)
              · skip
                refine lv_iload_n hx hb d_Sy_kill_89 rfl (lv_at hl 0 rfl) ?_
                refine lv_aload_n hx hb d_Sy_kill_90 rfl (lv_at hl 2 rfl) ?_
                refine lv_iload_n hx hb d_Sy_kill_91 rfl (lv_at hl 1 rfl) ?_
                refine lv_iconst (v := 0) hx hb d_Sy_kill_92 (by decide) ?_
                refine W.eq (g2 := F0 m 93 ls [.int (nI (12 - 12)), .int (nI k), .ref (base + ad 0 0), .int g]) rfl ?_
                refine cs_I C0 hP hS (cs_V C0 hP (kd := 0) (i := 0) (ci := 0) (As := [.int (nI k), .int (nI (12 - 12))]) (by decide) (by decide) rfl rfl k_ml_Sy_100 k_im_Sy_closeEnd k_sl_Sy_Sy_closeEnd k_cd_Sy_closeEnd k_in_Sy z_Sy_closeEnd rfl d_Sy_kill_93) (c_Sy_closeEnd hlt 12 (Nat.le_refl _) σ'' k hkN hinv.1) (fun k r σ h => h.1) ⟨rfl, rfl⟩ hl.1 d_Sy_kill_93 (Nat.le_of_ble_eq_true rfl) (⟨by decide, by decide⟩) (⟨by decide, by decide⟩) (fun r_8 σ_9 H locs h_7 hP hS => ?_)
                obtain ⟨-, rfl, rfl⟩ := h_7
                refine lv_iadd hx hb d_Sy_kill_96 ?_
                refine lv_istore_n (lv' := [(2, .int (g + ((clF 12 σ'' k).1))), (3, .int (nI k)), (0, .ref (base + ad 0 0)), (1, .int q)]) hx hb d_Sy_kill_97 rfl hl (by decide) rfl (fun ls hl => ?_)
                refine lv_iinc (v := nI (k + 1)) (lv' := [(3, .int (nI (k + 1))), (2, .int (g + ((clF 12 σ'' k).1))), (0, .ref (base + ad 0 0)), (1, .int q)]) hx hb d_Sy_kill_98 hl (k := 1) rfl (by exact nI_1 k) (by decide) rfl (fun ls hl => ?_)
                refine lv_goto (tgt := 70) hx hb d_Sy_kill_101 (by decide) ?_
                exact ih (k + 1) (by omega) (by omega) _ _ (⟨QWcl _ _ _ hinv.1 hkN, by rw [← hinv.2, keL_s hkN, if_pos c_86]⟩) _ _ hP hS ls (lv_sub hl [1, 0, 2, 3] rfl)
        exact loop2 (12 + 1) 0 (by omega) (by omega) _ _ (⟨hinv.1, by have h9 := hinv.2; rw [show kbL q (12 - 12) 12 g σ' = (g, σ') from rfl] at h9; rw [← h9]⟩) _ _ hP hS ls (lv_sub hl [1, 0, 2, 3] rfl)
      · skip
        have hkN : k < 12 := lt_nI (N := 12) c_34
        refine lv_aload_n hx hb d_Sy_kill_37 rfl (lv_at hl 2 rfl) ?_
        refine q_get C0 hP (kd := 0) (i := 0) (ci := 0) (by decide) (by decide) rfl rfl 5 (by decide) rfl k_fl_Sy_30 rfl d_Sy_kill_38 ?_
        refine lv_iload_n hx hb d_Sy_kill_41 rfl (lv_at hl 1 rfl) ?_
        refine q_aald C0 hP (kd := 4) (i := 0) (t0 := 4) (v := base + ad 12 k) (by decide) (by decide) rfl rfl (by rw [nI_clamp (by omega)]) (vin_nI hkN) d_Sy_kill_42 ?_
        refine q_getN C0 hP (kd := 12) (i := k) (ci := 2) (by decide) (hkN) rfl rfl 1 (by decide) rfl k_fn_Sy_93 rfl d_Sy_kill_43 ?_
        refine lv_iload_n hx hb d_Sy_kill_46 rfl (lv_at hl 3 rfl) ?_
        refine lv_icmp_ne (tgt := 62) hx hb d_Sy_kill_47 (by decide) (fun c_47 => ?_) (fun c_47 => ?_)
        · skip
          refine lv_iinc (v := nI (k + 1)) (lv' := [(3, .int (nI (k + 1))), (2, .int g), (0, .ref (base + ad 0 0)), (1, .int q)]) hx hb d_Sy_kill_62 hl (k := 1) rfl (by exact nI_1 k) (by decide) rfl (fun ls hl => ?_)
          refine lv_goto (tgt := 31) hx hb d_Sy_kill_65 (by decide) ?_
          exact ih (k + 1) (by omega) (by omega) _ _ (⟨hinv.1, by rw [← hinv.2, kbL_s hkN, if_neg c_47]⟩) _ _ hP hS ls (lv_sub hl [1, 0, 2, 3] rfl)
        · skip
          refine lv_aload_n hx hb d_Sy_kill_50 rfl (lv_at hl 2 rfl) ?_
          refine q_get C0 hP (kd := 0) (i := 0) (ci := 0) (by decide) (by decide) rfl rfl 5 (by decide) rfl k_fl_Sy_30 rfl d_Sy_kill_51 ?_
          refine lv_iload_n hx hb d_Sy_kill_54 rfl (lv_at hl 1 rfl) ?_
          refine q_aald C0 hP (kd := 4) (i := 0) (t0 := 4) (v := base + ad 12 k) (by decide) (by decide) rfl rfl (by rw [nI_clamp (by omega)]) (vin_nI hkN) d_Sy_kill_55 ?_
          refine cs_I C0 hP hS (cs_V C0 hP (kd := 12) (i := k) (ci := 2) (As := []) (by decide) (hkN) rfl rfl k_ml_Sy_96 k_im_Bl_giveBack k_sl_Bl_Bl_giveBack k_cd_Bl_giveBack k_in_Bl z_Bl_giveBack rfl d_Sy_kill_56) (c_Bl_giveBack hlt hkN) (fun k r σ h => h.1) ⟨rfl, rfl⟩ hl.1 d_Sy_kill_56 (Nat.le_of_ble_eq_true rfl) (⟨by decide, by decide⟩) (⟨by decide, by decide⟩) (fun r_11 σ_12 H locs h_10 hP hS => ?_)
          obtain ⟨-, rfl, rfl⟩ := h_10
          refine lv_iinc (v := g + 1) (lv' := [(2, .int (g + 1)), (3, .int (nI k)), (0, .ref (base + ad 0 0)), (1, .int q)]) hx hb d_Sy_kill_59 hl (k := 0) rfl (by exact rfl) (by decide) rfl (fun ls hl => ?_)
          refine lv_iinc (v := nI (k + 1)) (lv' := [(3, .int (nI (k + 1))), (2, .int (g + 1)), (0, .ref (base + ad 0 0)), (1, .int q)]) hx hb d_Sy_kill_62 hl (k := 1) rfl (by exact nI_1 k) (by decide) rfl (fun ls hl => ?_)
          refine lv_goto (tgt := 31) hx hb d_Sy_kill_65 (by decide) ?_
          exact ih (k + 1) (by omega) (by omega) _ _ (⟨QWgb hinv.1, by rw [← hinv.2, kbL_s hkN, if_pos c_47]⟩) _ _ hP hS ls (lv_sub hl [1, 0, 2, 3] rfl)
  exact loop (12 + 1) 0 (by omega) (by omega) _ _ (⟨QWup (QWup hqw (by decide)) (by decide), rfl⟩) _ _ hP hS ls (lv_sub hl [1, 0, 2, 3] rfl)
set_option maxHeartbeats 4000000 in
set_option maxRecDepth 100000 in
theorem c_Sy_choose {S0 : State} {A0 : Array Value} {D : va_G} {ar : Nat → ClassId} {base : Nat} {σ : Mem} {l : Launch} (hlt : l.stackTraces = false) {q mask : Int32} :
    MX l y_Sy_choose [Cond.code y_Sy_choose b_Sy_choose 5 (some .int)] (rmK) (PS S0 A0 D ar base σ [.ref (base + ad 0 0), .int q, .int mask]) (QI D ar base (fun k r σ' => (k, r, σ') = sChoose σ q mask)) (inB base 122) := by
  refine cx_head hlt (by decide +kernel) (Nat.le_of_ble_eq_true rfl) ?_
  intro p ev s m below meth c ls C0 hP hl
  have C0 : Cx S0 A0 D ar base p l s m _ meth c R_Sy b_Sy_choose 5 (some .int) := C0
  obtain ⟨hx, hb, -⟩ := id C0
  have hl : lv_has ls 5 [(0, .ref (base + ad 0 0)), (1, .int q), (2, .int mask)] := hl
  have hS : va_S (inB base 122) s.heap s.heap [] := va_S.rf
  refine lv_iload_n hx hb d_Sy_choose_0 rfl (lv_at hl 1 rfl) ?_
  refine lv_iconst (v := 4) hx hb d_Sy_choose_1 (by decide) ?_
  refine cs_PI C0 hP hS (cs_S C0 (As := [.int q, .int 4]) k_ml_Sy_64 k_st_Sy_needBelow k_cd_Sy_needBelow k_in_Sy z_Sy_needBelow rfl d_Sy_choose_2) (c_Sy_needBelow hlt) hl.1 d_Sy_choose_2 (Nat.le_of_ble_eq_true rfl) (⟨by decide, by decide⟩) (⟨by decide, by decide⟩) (fun k r hk hp => by obtain ⟨h1, h2⟩ := hp; obtain ⟨hc, h3⟩ := nz_k h2 hk; rw [h3]; unfold sChoose; rw [if_pos hc]) (fun r_2 h_1 => ?_)
  have g_3 := nz_ok h_1.2
  obtain rfl := h_1.1
  refine lv_iload_n hx hb d_Sy_choose_5 rfl (lv_at hl 2 rfl) ?_
  refine lv_sipush (v := 4096) hx hb d_Sy_choose_6 (by decide) ?_
  refine cs_PI C0 hP hS (cs_S C0 (As := [.int mask, .int 4096]) k_ml_Sy_64 k_st_Sy_needBelow k_cd_Sy_needBelow k_in_Sy z_Sy_needBelow rfl d_Sy_choose_9) (c_Sy_needBelow hlt) hl.1 d_Sy_choose_9 (Nat.le_of_ble_eq_true rfl) (⟨by decide, by decide⟩) (⟨by decide, by decide⟩) (fun k r hk hp => by obtain ⟨h1, h2⟩ := hp; obtain ⟨hc, h3⟩ := nz_k h2 hk; rw [h3]; unfold sChoose; rw [if_neg g_3, if_pos hc]) (fun r_5 h_4 => ?_)
  have g_6 := nz_ok h_4.2
  obtain rfl := h_4.1
  refine lv_aload_n hx hb d_Sy_choose_12 rfl (lv_at hl 0 rfl) ?_
  refine lv_iload_n hx hb d_Sy_choose_13 rfl (lv_at hl 1 rfl) ?_
  refine cs_PI C0 hP hS (cs_V C0 hP (kd := 0) (i := 0) (ci := 0) (As := [.int q]) (by decide) (by decide) rfl rfl k_ml_Sy_86 k_im_Sy_needAlive k_sl_Sy_Sy_needAlive k_cd_Sy_needAlive k_in_Sy z_Sy_needAlive rfl d_Sy_choose_14) (c_Sy_needAlive hlt (vin_b g_3)) hl.1 d_Sy_choose_14 (Nat.le_of_ble_eq_true rfl) (⟨by decide, by decide⟩) (⟨by decide, by decide⟩) (fun k r hk hp => by obtain ⟨h1, h2⟩ := hp; obtain ⟨hc, h3⟩ := nz_k h2 hk; rw [h3]; unfold sChoose; rw [if_neg g_3, if_neg g_6, if_pos hc]) (fun r_8 h_7 => ?_)
  have g_9 := nz_ok h_7.2
  obtain rfl := h_7.1
  refine lv_iconst (v := 0) hx hb d_Sy_choose_17 (by decide) ?_
  refine lv_istore_n (lv' := [(3, .int 0), (0, .ref (base + ad 0 0)), (1, .int q), (2, .int mask)]) hx hb d_Sy_choose_18 rfl hl (by decide) rfl (fun ls hl => ?_)
  have loop : ∀ (n k : Nat), k ≤ 12 → 12 + 1 ≤ k + n → chL σ q mask (12 - k) k = chL σ q mask 12 0 → ∀ (H : Heap) (locs : List Loc), va_P D classes (wl base 122 (mem ar base (σ))) H → va_S (inB base 122) s.heap H locs → ∀ ls : Array Slot, lv_has ls 5 [(3, .int (nI k)), (0, .ref (base + ad 0 0)), (1, .int q), (2, .int mask)] → W p l ev (rmK) s m ([.ref (base + ad 0 0), .int q, .int mask] : List Value).toArray below meth c H locs 0 0 (MQX below (QI D ar base (fun k r σ' => (k, r, σ') = sChoose σ q mask)) ([.ref (base + ad 0 0), .int q, .int mask] : List Value).toArray s (rmK).cells (rmK).slots (inB base 122)) (F0 m 19 ls []) := by
    intro n
    induction n with
    | zero => intro k h1 h2; omega
    | succ n ih =>
      intro k hk1 hk2 hinv H locs hP hS ls hl
      refine lv_iload_n hx hb d_Sy_choose_19 rfl (lv_at hl 0 rfl) ?_
      refine lv_bipush (v := 12) hx hb d_Sy_choose_20 (by decide) ?_
      refine lv_icmp_ge (tgt := 79) hx hb d_Sy_choose_22 (by decide) (fun c_22 => ?_) (fun c_22 => ?_)
      · skip
        have hkN : k = 12 := by have := ge_nI (N := 12) c_22; omega
        subst hkN
        exact tI_3 C0 hP hS k_sr_Sy_209 xs_209 hl.1 d_Sy_choose_79 d_Sy_choose_82 d_Sy_choose_83 d_Sy_choose_85 d_Sy_choose_88 (by decide) (by decide) (⟨by decide, by decide⟩) (by unfold sChoose; rw [if_neg g_3, if_neg g_6, if_neg g_9, ← hinv]; rfl)
      · skip
        have hkN : k < 12 := lt_nI (N := 12) c_22
        refine lv_iload_n hx hb d_Sy_choose_25 rfl (lv_at hl 3 rfl) ?_
        refine lv_iload_n hx hb d_Sy_choose_26 rfl (lv_at hl 0 rfl) ?_
        refine lv_ishr hx hb d_Sy_choose_27 ?_
        refine lv_iconst (v := 1) hx hb d_Sy_choose_28 (by decide) ?_
        refine lv_iand hx hb d_Sy_choose_29 ?_
        refine lv_iconst (v := 1) hx hb d_Sy_choose_30 (by decide) ?_
        refine lv_icmp_ne (tgt := 38) hx hb d_Sy_choose_31 (by decide) (fun c_31 => ?_) (fun c_31 => ?_)
        · skip
          refine lv_iconst (v := 0) hx hb d_Sy_choose_38 (by decide) ?_
          refine lv_istore (lv' := [(4, .int 0), (3, .int (nI k)), (0, .ref (base + ad 0 0)), (1, .int q), (2, .int mask)]) hx hb d_Sy_choose_39 hl (by decide) rfl (fun ls hl => ?_)
          refine lv_iload hx hb d_Sy_choose_41 (lv_at hl 0 rfl) ?_
          refine lv_if_eq (tgt := 73) hx hb d_Sy_choose_43 (by decide) (fun c_43 => ?_) (fun c_43 => ?_)
          · skip
            refine lv_iinc (v := nI (k + 1)) (lv' := [(3, .int (nI (k + 1))), (4, .int 0), (0, .ref (base + ad 0 0)), (1, .int q), (2, .int mask)]) hx hb d_Sy_choose_73 hl (k := 1) rfl (by exact nI_1 k) (by decide) rfl (fun ls hl => ?_)
            refine lv_goto (tgt := 19) hx hb d_Sy_choose_76 (by decide) ?_
            rw [show ((σ) : Mem) = σ from rfl] at hP
            exact ih (k + 1) (by omega) (by omega) (by rw [← hinv, chL_s hkN, if_neg (fun h => c_31 h.1)]) _ _ hP hS ls (lv_sub hl [0, 2, 3, 4] rfl)
          · skip
            exact absurd rfl c_43
        · skip
          refine lv_iconst (v := 1) hx hb d_Sy_choose_34 (by decide) ?_
          refine lv_goto (tgt := 39) hx hb d_Sy_choose_35 (by decide) ?_
          refine lv_istore (lv' := [(4, .int 1), (3, .int (nI k)), (0, .ref (base + ad 0 0)), (1, .int q), (2, .int mask)]) hx hb d_Sy_choose_39 hl (by decide) rfl (fun ls hl => ?_)
          refine lv_iload hx hb d_Sy_choose_41 (lv_at hl 0 rfl) ?_
          refine lv_if_eq (tgt := 73) hx hb d_Sy_choose_43 (by decide) (fun c_43 => ?_) (fun c_43 => ?_)
          · skip
            exact absurd c_43 (by decide)
          · skip
            refine lv_aload_n hx hb d_Sy_choose_46 rfl (lv_at hl 2 rfl) ?_
            refine q_get C0 hP (kd := 0) (i := 0) (ci := 0) (by decide) (by decide) rfl rfl 7 (by decide) rfl k_fl_Sy_40 rfl d_Sy_choose_47 ?_
            refine lv_iload_n hx hb d_Sy_choose_50 rfl (lv_at hl 1 rfl) ?_
            refine q_aald C0 hP (kd := 6) (i := 0) (t0 := 5) (v := base + ad 14 k) (by decide) (by decide) rfl rfl (by rw [nI_clamp (by omega)]) (vin_nI hkN) d_Sy_choose_51 ?_
            refine q_getN C0 hP (kd := 14) (i := k) (ci := 3) (by decide) (hkN) rfl rfl 2 (by decide) rfl k_fn_Sy_99 rfl d_Sy_choose_52 ?_
            refine lv_iload_n hx hb d_Sy_choose_55 rfl (lv_at hl 3 rfl) ?_
            refine lv_icmp_ne (tgt := 73) hx hb d_Sy_choose_56 (by decide) (fun c_56 => ?_) (fun c_56 => ?_)
            · skip
              refine lv_iinc (v := nI (k + 1)) (lv' := [(3, .int (nI (k + 1))), (4, .int 1), (0, .ref (base + ad 0 0)), (1, .int q), (2, .int mask)]) hx hb d_Sy_choose_73 hl (k := 1) rfl (by exact nI_1 k) (by decide) rfl (fun ls hl => ?_)
              refine lv_goto (tgt := 19) hx hb d_Sy_choose_76 (by decide) ?_
              rw [show ((σ) : Mem) = σ from rfl] at hP
              exact ih (k + 1) (by omega) (by omega) (by rw [← hinv, chL_s hkN, if_neg (fun h => c_56 h.2.1)]) _ _ hP hS ls (lv_sub hl [0, 2, 3, 4] rfl)
            · skip
              refine lv_aload_n hx hb d_Sy_choose_59 rfl (lv_at hl 2 rfl) ?_
              refine q_get C0 hP (kd := 0) (i := 0) (ci := 0) (by decide) (by decide) rfl rfl 7 (by decide) rfl k_fl_Sy_40 rfl d_Sy_choose_60 ?_
              refine lv_iload_n hx hb d_Sy_choose_63 rfl (lv_at hl 1 rfl) ?_
              refine q_aald C0 hP (kd := 6) (i := 0) (t0 := 5) (v := base + ad 14 k) (by decide) (by decide) rfl rfl (by rw [nI_clamp (by omega)]) (vin_nI hkN) d_Sy_choose_64 ?_
              refine q_getN C0 hP (kd := 14) (i := k) (ci := 3) (by decide) (hkN) rfl rfl 4 (by decide) rfl k_fn_Sy_178 rfl d_Sy_choose_65 ?_
              refine lv_if_le (tgt := 73) hx hb d_Sy_choose_68 (by decide) (fun c_68 => ?_) (fun c_68 => ?_)
              · skip
                refine lv_iinc (v := nI (k + 1)) (lv' := [(3, .int (nI (k + 1))), (4, .int 1), (0, .ref (base + ad 0 0)), (1, .int q), (2, .int mask)]) hx hb d_Sy_choose_73 hl (k := 1) rfl (by exact nI_1 k) (by decide) rfl (fun ls hl => ?_)
                refine lv_goto (tgt := 19) hx hb d_Sy_choose_76 (by decide) ?_
                rw [show ((σ) : Mem) = σ from rfl] at hP
                exact ih (k + 1) (by omega) (by omega) (by rw [← hinv, chL_s hkN, if_neg (fun h => h.2.2 c_68)]) _ _ hP hS ls (lv_sub hl [0, 2, 3, 4] rfl)
              · skip
                refine lv_iload_n hx hb d_Sy_choose_71 rfl (lv_at hl 1 rfl) ?_
                exact rI_i C0 hP hS (⟨by decide, by decide⟩) (by unfold sChoose; rw [if_neg g_3, if_neg g_6, if_neg g_9, ← hinv, chL_s hkN, if_pos ⟨c_31, c_56, c_68⟩]) d_Sy_choose_72
  rw [show (σ : Mem) = σ from rfl] at hP
  exact loop (12 + 1) 0 (by omega) (by omega) (rfl) _ _ hP hS ls (lv_sub hl [0, 1, 2, 3] rfl)
end
