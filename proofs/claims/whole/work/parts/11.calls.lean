/-! Calls of methods that may throw: the way in (x_In), the callee's words (x_Ok), the call (x_call). -/
def x_good (w : Cond) : Prop := (w.onTables && w.keeps) = true ∨ ∃ ty, w = .arrayClass ty
def x_Ok (s : State) (y : MethodName) (ws : List Cond) (maxL : Nat) : Prop :=
  (∀ w ∈ ws, ∀ (a' : Array Value) (U : State), s.WarmedH U.vm → w.before a' U = true) ∧
  (∀ (U : State), s.WarmedH U.vm → ∀ mk, U.methodNamed? y = some mk → ∃ methY cY, U.vm.method? mk = some methY ∧ methY.code = some cY ∧ cY.maxLocals = maxL) ∧
  ∀ (a' : Array Value) (U : State), s.WarmedH U.vm → (Cond.initialized y.cls).before a' U = true
theorem x_ok {s : State} {args : Array Value} {WL : List Cond} {y : MethodName} {bytes : ByteArray} {maxL : Nat} {ret : Option FieldType} (hW : ∀ w ∈ WL, w.before args s = true) (hg : ∀ w ∈ WL, x_good w) (hc : Cond.code y bytes maxL ret ∈ WL) (hi : Cond.initialized y.cls ∈ WL) :
    x_Ok s y (Cond.code y bytes maxL ret :: WL) maxL := by
  refine ⟨fun w hw a' U hU => ?_, fun U hU mk hn => ?_, fun a' U hU => word_at hU (hg _ hi) (hW _ hi)⟩
  · rcases List.mem_cons.mp hw with rfl | h
    · exact word_at hU (hg _ hc) (hW _ hc)
    · exact word_at hU (hg _ h) (hW _ h)
  · obtain ⟨meth, cc, h1, h2, -, h4, -⟩ := Cond.code_spec hn (word_at (a' := #[]) hU (hg _ hc) (hW _ hc))
    exact ⟨meth, cc, h1, h2, h4⟩
theorem x_okh {s : State} {args : Array Value} {WL : List Cond} {y : MethodName} {bytes : ByteArray} {maxL : Nat} {ret : Option FieldType} {hh : List (Nat × Nat × Nat × Nat)} (hW : ∀ w ∈ WL, w.before args s = true) (hg : ∀ w ∈ WL, x_good w) (hc : Cond.codeWith y bytes maxL ret hh ∈ WL) (hi : Cond.initialized y.cls ∈ WL) :
    x_Ok s y (Cond.codeWith y bytes maxL ret hh :: WL) maxL := by
  refine ⟨fun w hw a' U hU => ?_, fun U hU mk hn => ?_, fun a' U hU => word_at hU (hg _ hi) (hW _ hi)⟩
  · rcases List.mem_cons.mp hw with rfl | h
    · exact word_at hU (hg _ hc) (hW _ hc)
    · exact word_at hU (hg _ h) (hW _ h)
  · obtain ⟨m9, meth, cc, hn9, h1, h2, -, h4, -⟩ := Cond.codeWith_spec (word_at (a' := #[]) hU (hg _ hc) (hW _ hc))
    cases hn.symm.trans hn9
    exact ⟨meth, cc, h1, h2, h4⟩
section XC
variable {p : Program} {l : Launch} {e : Env} {R : Room} {s : State} {m : MethodId} {args : Array Value} {below : List Frame} {meth : Method} {c : Code} {H : Heap} {locs : List Loc} {cells slots : Nat} {Q : State → Prop}
/-- the instruction at g calls the method named y with the arguments a -/
def x_In (p : Program) (l : Launch) (e : Env) (R : Room) (s : State) (m : MethodId) (args : Array Value) (below : List Frame) (meth : Method) (c : Code) (H : Heap) (locs : List Loc) (cells slots : Nat) (g : JFrame) (rest : List Value) (y : MethodName) (a : Array Value) : Prop :=
  ∀ T : State, T.heap = H → Stand p l e R s m args below meth c T locs cells slots → ∃ (vm₁ : Vm) (mk : MethodId), Stand p l e R s m args below meth c (T.setVm vm₁) locs cells slots ∧ (T.setVm vm₁).methodNamed? y = some mk ∧
    ∀ target, Steps p.tables e below (doInvoke e ((T.setVm vm₁).setTop { g with stack := rest }) [] mk a).1 target → Steps p.tables e below (T.setTop g) target
variable {cc : ByteArray} {pc index : Nat} {ls : Array Slot} {As rest st0 : List Value} {y : MethodName} {own C host : String} {b : Addr}
theorem x_inS (hexec : p.tables.exec = Jvm.exec) (hb : c.code = cc) (hown : s.vm.findClass own = some m.cls) (hlink : (Cond.methodLink own index y).before args s = true) (hstat : (Cond.static y).before args s = true) (hinit : (Cond.initialized y.cls).before args s = true)
    (hd : y.cls ≠ "java/lang/invoke/MethodHandle" ∧ y.cls ≠ "java/lang/invoke/VarHandle" ∧ (parseMethodDescriptor y.desc).map (fun d => d.parameters.length) = some As.length) {bytes : ByteArray} {maxL : Nat} {ret : Option FieldType}
    (hcode : (Cond.code y bytes maxL ret).before args s = true ∨ ∃ hh, (Cond.codeWith y bytes maxL ret hh).before args s = true) (hst : st0 = As.reverse ++ rest) (hdg : decode cc pc = .ok (.invokestatic index, 3)) :
    x_In p l e R s m args below meth c H locs cells slots (F0 m pc ls st0) rest y As.toArray := by
  intro T hT X
  subst hb
  obtain ⟨mk, methM, hnamed, hmethM, hsigM⟩ : ∃ mk methM, s.methodNamed? y = some mk ∧ s.vm.method? mk = some methM ∧ parseMethodDescriptor y.desc = some methM.sig := by
    rcases hcode with h | ⟨hh, h⟩
    · obtain ⟨mk, hn⟩ := Cond.code_named h
      obtain ⟨methM, cM, h1, -, -, -, -, -, -, h2⟩ := Cond.code_spec hn h
      exact ⟨mk, methM, hn, h1, h2⟩
    · obtain ⟨mk, methM, cM, hn, h1, -, -, -, -, -, -, h2⟩ := Cond.codeWith_spec h
      exact ⟨mk, methM, hn, h1, h2⟩
  have hstatic : methM.isStatic = true := Cond.static_spec hnamed hmethM hstat
  obtain ⟨kP, hkP, -⟩ := className_of_methodNamed hnamed
  have hinitP : kP.init = .initialized := Cond.initialized_spec (findClass_of_methodNamed hnamed) hkP hinit
  have hlen : As.length = methM.sig.parameters.length := by
    have h2 := hd.2.2
    rw [hsigM] at h2
    exact (Option.some.inj h2).symm
  obtain ⟨vm₁, X₁, hstep⟩ := X.invokestatic hexec hown hlink hnamed hmethM hstatic hkP hinitP ⟨hd.1, hd.2.1⟩ (g := F0 m pc ls st0) rfl (argsL := As) (rest := rest) hlen hst hdg
  exact ⟨vm₁, mk, X₁, X₁.named hnamed, fun target h => hstep _ fun acts => by rw [doInvoke_state]; exact h⟩
theorem x_inV (hexec : p.tables.exec = Jvm.exec) (hb : c.code = cc) (hown : s.vm.findClass own = some m.cls) (hlink : (Cond.methodLink own index y).before args s = true) (hinst : (Cond.instanceMethod y).before args s = true) (hsel : (Cond.selects C y y).before args s = true)
    (hd : y.cls ≠ "java/lang/invoke/MethodHandle" ∧ y.cls ≠ "java/lang/invoke/VarHandle" ∧ (parseMethodDescriptor y.desc).map (fun d => d.parameters.length) = some As.length) {bytes : ByteArray} {maxL : Nat} {ret : Option FieldType}
    (hcode : (Cond.code y bytes maxL ret).before args s = true) (hrecv : ∃ cellB : Cell, H[b]? = some cellB ∧ cellB.vm.isStatics = false ∧ s.vm.findClass C = some cellB.cls) (hst : st0 = As.reverse ++ .ref b :: rest) (hdg : decode cc pc = .ok (.invokevirtual index, 3)) :
    x_In p l e R s m args below meth c H locs cells slots (F0 m pc ls st0) rest y (Value.ref b :: As).toArray := by
  intro T hT X
  subst hb
  obtain ⟨cellB, hcell, hobj, hcls⟩ := hrecv
  obtain ⟨mk, methM, hnamed, hmethM, hstM, habM⟩ := Cond.instanceMethod_spec hinst
  obtain ⟨methM', cM, hmethM', -, -, -, -, -, -, hsigM⟩ := Cond.code_spec hnamed hcode
  cases hmethM.symm.trans hmethM'
  obtain ⟨c2, r2, m2, q1, q2, q3, q4, kP, hkP, hkPi⟩ := Cond.selects_spec hsel
  cases hcls.symm.trans q1
  cases (State.methodFound?_of_named hnamed ⟨hd.1, hd.2.1⟩).symm.trans q2
  cases hnamed.symm.trans q3
  have hselP : selectMethod e.platform s.vm cellB.cls mk = .method mk := by rw [Launch.admits_selectMethod X.admits]; exact q4
  have hlen : As.length = methM.sig.parameters.length := by
    have h2 := hd.2.2
    rw [hsigM] at h2
    exact (Option.some.inj h2).symm
  obtain ⟨vm₁, X₁, hstep⟩ := X.invokevirtual hexec hown hlink hnamed hmethM hstM hkP hkPi ⟨hd.1, hd.2.1⟩ (a := b) (cell := cellB) (by rw [hT]; exact hcell)
    (fun z h => by rw [h] at hobj; cases hobj) hselP hmethM habM hkP hkPi (g := F0 m pc ls st0) rfl (argsL := As) (rest := rest) hlen hst hdg
  exact ⟨vm₁, mk, X₁, X₁.named hnamed, fun target h => hstep _ fun acts => by rw [doInvoke_state]; exact h⟩
theorem x_inVN (hexec : p.tables.exec = Jvm.exec) (hb : c.code = cc) (hown : s.vm.findClass own = some m.cls) (hlink : (Cond.methodLinkNest own index y host).before args s = true) (hinst : (Cond.instanceMethod y).before args s = true) (hsel : (Cond.selects C y y).before args s = true)
    (hd : y.cls ≠ "java/lang/invoke/MethodHandle" ∧ y.cls ≠ "java/lang/invoke/VarHandle" ∧ (parseMethodDescriptor y.desc).map (fun d => d.parameters.length) = some As.length) {bytes : ByteArray} {maxL : Nat} {ret : Option FieldType}
    (hcode : (Cond.code y bytes maxL ret).before args s = true) (hrecv : ∃ cellB : Cell, H[b]? = some cellB ∧ cellB.vm.isStatics = false ∧ s.vm.findClass C = some cellB.cls) (hst : st0 = As.reverse ++ .ref b :: rest) (hdg : decode cc pc = .ok (.invokevirtual index, 3)) :
    x_In p l e R s m args below meth c H locs cells slots (F0 m pc ls st0) rest y (Value.ref b :: As).toArray := by
  intro T hT X
  subst hb
  obtain ⟨cellB, hcell, hobj, hcls⟩ := hrecv
  obtain ⟨mk, methM, hnamed, hmethM, hstM, habM⟩ := Cond.instanceMethod_spec hinst
  obtain ⟨methM', cM, hmethM', -, -, -, -, -, -, hsigM⟩ := Cond.code_spec hnamed hcode
  cases hmethM.symm.trans hmethM'
  obtain ⟨c2, r2, m2, q1, q2, q3, q4, kP, hkP, hkPi⟩ := Cond.selects_spec hsel
  cases hcls.symm.trans q1
  cases (State.methodFound?_of_named hnamed ⟨hd.1, hd.2.1⟩).symm.trans q2
  cases hnamed.symm.trans q3
  have hselP : selectMethod e.platform s.vm cellB.cls mk = .method mk := by rw [Launch.admits_selectMethod X.admits]; exact q4
  have hlen : As.length = methM.sig.parameters.length := by
    have h2 := hd.2.2
    rw [hsigM] at h2
    exact (Option.some.inj h2).symm
  obtain ⟨vm₁, X₁, hstep⟩ := X.invokevirtualNest hexec hown hlink hnamed hmethM hstM hkP hkPi ⟨hd.1, hd.2.1⟩ (a := b) (cell := cellB) (by rw [hT]; exact hcell)
    (fun z h => by rw [h] at hobj; cases hobj) hselP hmethM habM hkP hkPi (g := F0 m pc ls st0) rfl (argsL := As) (rest := rest) hlen hst hdg
  exact ⟨vm₁, mk, X₁, X₁.named hnamed, fun target h => hstep _ fun acts => by rw [doInvoke_state]; exact h⟩
variable {ws : List Cond} {rm : Room} {Pc : Array Value → State → Prop} {Qc : Array Value → State → Outcome → State → Prop} {free : Addr → Prop} {maxL nL : Nat} {a : Array Value}
/-- a callee that left the heap as it was: nothing was made -/
theorem x_tight {T T' : State} {L : List Loc} {k n : Nat} (X : Stand p l e R s m args below meth c T locs cells slots) (X' : Stand p l e R s m args below meth c T' (locs ++ L) (cells + k) (slots + n)) (h : T'.heap = T.heap) : Stand p l e R s m args below meth c T' locs cells slots := by
  refine { X' with same := ?_ }
  obtain ⟨a1, a2, a3, a4, a5, a6⟩ := X'.same
  obtain ⟨-, b2, b3, -, b5, b6⟩ := X.same
  have h' : (T'.setVm s.vm).heap = (T.setVm s.vm).heap := h
  exact ⟨a1, by rw [h']; exact b2, by rw [h']; exact b3, a4, by rw [h']; exact b5, by rw [h']; exact b6⟩
/-- THE CALL: two roads go on, behind it and with an exception -/
theorem x_call {ig : Instr} (hIn : x_In p l e R s m args below meth c H locs cells slots (F0 m pc ls st0) rest y a) (hok : x_Ok s y ws maxL) (hM : MX l y ws rm Pc Qc free) (hblind : FrameBlind Pc) (hml : c.maxLocals = nL) (hsize : ls.size = nL)
    (hb : c.code = cc) (hdg : decode cc pc = .ok (ig, 3)) (hW : (rest.map fun v => v.category).sum ≤ 8) (hR : rm.frames + 1 ≤ R.frames ∧ 8 + (maxL + 11) + rm.locals ≤ R.locals) (hf : cells + rm.cells ≤ R.cells ∧ slots + rm.slots ≤ R.slots)
    (hP : ∀ U : State, U.heap = H → s.WarmedH U.vm → Pc a U)
    (kr : ∀ (v : Option Value) (st₀ t : State) (L : List Loc), st₀.heap = H → s.vm.Alike t.vm → Qc a st₀ (.returned v) t → x_Keep free H t.heap → (∀ q ∈ L, free q.base) → W p l e R s m args below meth c t.heap (locs ++ L) (cells + rm.cells) (slots + rm.slots) Q (F0 m (pc + 3) ls (v.toList ++ rest)))
    (kt : ∀ (x : Addr) (st₀ t : State) (L : List Loc), st₀.heap = H → s.vm.Alike t.vm → Qc a st₀ (.threw x) t → x_Keep free H t.heap → (∀ q ∈ L, free q.base) → WT p l e R s m args below meth c t.heap (locs ++ L) (cells + rm.cells) (slots + rm.slots) Q (F0 m pc ls rest) x) :
    W p l e R s m args below meth c H locs cells slots Q (F0 m pc ls st0) := by
  intro T hT X
  obtain ⟨vm₁, mk, X₁, hn, hin⟩ := hIn T hT X
  obtain ⟨methY, cY, hmY, hcY, hlY⟩ := hok.2.1 _ X₁.warmed mk hn
  obtain ⟨kY, hkY, -⟩ := className_of_methodNamed hn
  have hinitY : kY.init = .initialized := Cond.initialized_spec (args := a) (findClass_of_methodNamed hn) hkY (hok.2.2 a _ X₁.warmed)
  obtain ⟨o, st₀, t, T', L, X', hL, e1, e2, e3, hq, hkp, hout⟩ := x_run hM hblind hR.1 hR.2 X₁ (g := F0 m pc ls rest) rfl (hsize.trans hml.symm) (by rw [hb]; exact hdg) (by show 2 * 0 + (rest.map fun v => v.category).sum ≤ 8; omega) hn hmY hcY hlY hkY hinitY (a := a) (fun w hw => hok.1 w hw _ _ X₁.warmed) hf.1 hf.2 (hP _ hT X₁.warmed)
  cases o with
  | returned v =>
    obtain ⟨t2, a1, b1⟩ := kr v st₀ t L (e3.trans hT) (by rw [← e2]; exact X'.warmed.alike) hq (by rw [← hT]; exact hkp) hL T' e1 X'
    exact ⟨t2, hin _ (Steps.trans hout a1), b1⟩
  | threw x =>
    obtain ⟨t2, a1, b1⟩ := kt x st₀ t L (e3.trans hT) (by rw [← e2]; exact X'.warmed.alike) hq (by rw [← hT]; exact hkp) hL T' e1 X'
    exact ⟨t2, hin _ (Steps.trans hout a1), b1⟩
/-- .. of a callee that leaves the heap as it was where it returns -/
theorem x_callR {ig : Instr} (hIn : x_In p l e R s m args below meth c H locs cells slots (F0 m pc ls st0) rest y a) (hok : x_Ok s y ws maxL) (hM : MX l y ws rm Pc Qc free) (hblind : FrameBlind Pc) (hml : c.maxLocals = nL) (hsize : ls.size = nL)
    (hb : c.code = cc) (hdg : decode cc pc = .ok (ig, 3)) (hW : (rest.map fun v => v.category).sum ≤ 8) (hR : rm.frames + 1 ≤ R.frames ∧ 8 + (maxL + 11) + rm.locals ≤ R.locals) (hf : cells + rm.cells ≤ R.cells ∧ slots + rm.slots ≤ R.slots)
    (hP : ∀ U : State, U.heap = H → s.WarmedH U.vm → Pc a U) (hsm : ∀ v st₀ t, st₀.heap = H → Qc a st₀ (.returned v) t → t.heap = st₀.heap)
    (kr : ∀ (v : Option Value) (st₀ t : State), st₀.heap = H → t.heap = H → Qc a st₀ (.returned v) t → W p l e R s m args below meth c H locs cells slots Q (F0 m (pc + 3) ls (v.toList ++ rest)))
    (kt : ∀ (x : Addr) (st₀ t : State) (L : List Loc), st₀.heap = H → s.vm.Alike t.vm → Qc a st₀ (.threw x) t → x_Keep free H t.heap → (∀ q ∈ L, free q.base) → WT p l e R s m args below meth c t.heap (locs ++ L) (cells + rm.cells) (slots + rm.slots) Q (F0 m pc ls rest) x) :
    W p l e R s m args below meth c H locs cells slots Q (F0 m pc ls st0) := by
  intro T hT X
  obtain ⟨vm₁, mk, X₁, hn, hin⟩ := hIn T hT X
  obtain ⟨methY, cY, hmY, hcY, hlY⟩ := hok.2.1 _ X₁.warmed mk hn
  obtain ⟨kY, hkY, -⟩ := className_of_methodNamed hn
  have hinitY : kY.init = .initialized := Cond.initialized_spec (args := a) (findClass_of_methodNamed hn) hkY (hok.2.2 a _ X₁.warmed)
  obtain ⟨o, st₀, t, T', L, X', hL, e1, e2, e3, hq, hkp, hout⟩ := x_run hM hblind hR.1 hR.2 X₁ (g := F0 m pc ls rest) rfl (hsize.trans hml.symm) (by rw [hb]; exact hdg) (by show 2 * 0 + (rest.map fun v => v.category).sum ≤ 8; omega) hn hmY hcY hlY hkY hinitY (a := a) (fun w hw => hok.1 w hw _ _ X₁.warmed) hf.1 hf.2 (hP _ hT X₁.warmed)
  cases o with
  | returned v =>
    have e4 : t.heap = st₀.heap := hsm v st₀ t (e3.trans hT) hq
    obtain ⟨t2, a1, b1⟩ := kr v st₀ t (e3.trans hT) (e4.trans (e3.trans hT)) hq T' (e1.trans (e4.trans (e3.trans hT))) (x_tight X₁ X' (e1.trans (e4.trans e3)))
    exact ⟨t2, hin _ (Steps.trans hout a1), b1⟩
  | threw x =>
    obtain ⟨t2, a1, b1⟩ := kt x st₀ t L (e3.trans hT) (by rw [← e2]; exact X'.warmed.alike) hq (by rw [← hT]; exact hkp) hL T' e1 X'
    exact ⟨t2, hin _ (Steps.trans hout a1), b1⟩
theorem x_Keep.S {A : Nat → Prop} {H0 H1 : Heap} {L : List Loc} (hS : va_S A H0 H locs) (hk : x_Keep free H H1) (hf : ∀ q, free q → A q) (hL : ∀ q ∈ L, free q.base) : va_S A H0 H1 (locs ++ L) := by
  have h1 := hS.1
  refine ⟨Nat.le_trans h1 hk.1, fun q h2 h3 => ?_, fun q hq => ?_⟩
  · rw [hk.2 q (by omega) (fun z => h3 (hf q z))]
    exact hS.2.1 q h2 h3
  · rcases List.mem_append.mp hq with h | h
    · exact hS.2.2 q h
    · exact hf _ (hL q h)
end XC
