/-! Objects are made: the rows of constructors, and the three nested ones: laid by gen/m34.py. -/
section NI
variable {p : Program} {l : Launch} {e : Env} {R : Room} {s : State} {m : MethodId} {args : Array Value} {below : List Frame} {meth : Method} {c : Code} {H : Heap} {locs : List Loc} {cells slots : Nat}
variable {cc : ByteArray} {pc index : Nat} {ls : Array Slot} {As rest st0 : List Value} {y : MethodName} {own C host : String} {b : Addr}
theorem x_inIN (hexec : p.tables.exec = Jvm.exec) (hb : c.code = cc) (hown : s.vm.findClass own = some m.cls) (hy1 : y.name = "<init>") (hlink : (Cond.methodLinkNest own index y host).before args s = true) (hinst : (Cond.instanceMethod y).before args s = true)
    (hd : y.cls ≠ "java/lang/invoke/MethodHandle" ∧ y.cls ≠ "java/lang/invoke/VarHandle" ∧ (parseMethodDescriptor y.desc).map (fun d => d.parameters.length) = some As.length) {bytes : ByteArray} {maxL : Nat}
    (hcode : (Cond.code y bytes maxL none).before args s = true) (hst : st0 = As.reverse ++ .ref b :: rest) (hdg : decode cc pc = .ok (.invokespecial index, 3)) :
    x_In p l e R s m args below meth c H locs cells slots (F0 m pc ls st0) rest y (Value.ref b :: As).toArray := by
  intro T hT X
  subst hb
  have hpl : e.platform.magicAccessors = ({} : Platform).magicAccessors := by rw [X.admits.platform]
  have hlen : ∀ sig, parseMethodDescriptor y.desc = some sig → As.length = sig.parameters.length := by
    intro sig hsig
    have h2 := hd.2.2
    rw [hsig] at h2
    exact (Option.some.inj h2).symm
  obtain ⟨mk, methM, cM, kP, vm₁, hnamed, hmethM, hcodeM, -, hlocalsM, -, hkP, -, hW₁, hstep₁⟩ := Steps.initColdArgsNest (e := e) X.here hexec X.warmed hpl hown hy1 ⟨hd.1, hd.2.1⟩ hlink hinst hcode (f := F0 m pc ls st0) rfl hlen hst hdg
  have X₁ := X.noted hW₁
  exact ⟨vm₁, mk, X₁, X₁.named hnamed, fun target h => hstep₁ _ fun acts => by rw [doInvoke_state]; exact h⟩
theorem x_inI (hexec : p.tables.exec = Jvm.exec) (hb : c.code = cc) (hown : s.vm.findClass own = some m.cls) (hy1 : y.name = "<init>") (hlink : (Cond.methodLink own index y).before args s = true) (hinst : (Cond.instanceMethod y).before args s = true)
    (hd : y.cls ≠ "java/lang/invoke/MethodHandle" ∧ y.cls ≠ "java/lang/invoke/VarHandle" ∧ (parseMethodDescriptor y.desc).map (fun d => d.parameters.length) = some As.length) {bytes : ByteArray} {maxL : Nat}
    (hcode : (Cond.code y bytes maxL none).before args s = true) (hst : st0 = As.reverse ++ .ref b :: rest) (hdg : decode cc pc = .ok (.invokespecial index, 3)) :
    x_In p l e R s m args below meth c H locs cells slots (F0 m pc ls st0) rest y (Value.ref b :: As).toArray := by
  intro T hT X
  subst hb
  have hlen : ∀ sig, parseMethodDescriptor y.desc = some sig → As.length = sig.parameters.length := by
    intro sig hsig
    have h2 := hd.2.2
    rw [hsig] at h2
    exact (Option.some.inj h2).symm
  have hpl : e.platform.magicAccessors = ({} : Platform).magicAccessors := by rw [X.admits.platform]
  obtain ⟨mk, methM, cM, kP, vm₁, hnamed, hmethM, hcodeM, -, hlocalsM, -, hkP, -, hW₁, hstep₁⟩ := Steps.initColdArgs (e := e) X.here hexec X.warmed hpl hown hy1 ⟨hd.1, hd.2.1⟩ hlink hinst hcode (f := F0 m pc ls st0) rfl hlen hst hdg
  have X₁ := X.noted hW₁
  exact ⟨vm₁, mk, X₁, X₁.named hnamed, fun target h => hstep₁ _ fun acts => by rw [doInvoke_state]; exact h⟩
end NI
def PN (S0 : State) (A0 : Array Value) (D : va_G) (ar : Nat → ClassId) (base n : Nat) (M : Nat → va_E) (av : List Value) : Array Value → State → Prop :=
  va_Pc av (fun U => At0 S0 A0 D ar U ∧ S0.heap.size ≤ base ∧ U.heap.size = base + n ∧ va_P D classes (wl base n M) U.heap)
theorem PN_blind {S0 : State} {A0 : Array Value} {D : va_G} {ar : Nat → ClassId} {base n : Nat} {M : Nat → va_E} {av : List Value} : FrameBlind (PN S0 A0 D ar base n M av) := by
  intro a U g mk h
  obtain ⟨h0, ⟨h1, h2, h3, h6⟩, h4, h5⟩ := h
  exact ⟨h0, ⟨h1, h2, h3, h6⟩, h4, h5⟩
def QN (D : va_G) (base n : Nat) (M : Nat → va_E) : Array Value → State → Outcome → State → Prop := fun _ _ o t => o = .returned none ∧ t.heap.size = base + n ∧ va_P D classes (wl base n M) t.heap
def nB (base : Nat) : Nat → Prop := fun q => base ≤ q
theorem nB_at {base n : Nat} : ∀ k, k < n → nB base (base + k) := fun k _ => Nat.le_add_right _ _
section NR
variable {S0 : State} {A0 : Array Value} {D : va_G} {ar : Nat → ClassId} {base n : Nat} {M : Nat → va_E}
variable {p : Program} {l : Launch} {e : Env} {R : Room} {s : State} {m : MethodId} {args : Array Value} {below : List Frame} {meth : Method} {c : Code} {H : Heap} {locs : List Loc} {cells slots : Nat} {Q : State → Prop}
variable {own : String} {cc : ByteArray} {nL : Nat} {ret : Option FieldType} {pc index : Nat} {ls : Array Slot} {rest : List Value} {y : MethodName} {bytes : ByteArray} {maxL : Nat} {rm : Room}
theorem n_head {av : List Value} {Qc : Array Value → State → Outcome → State → Prop} {free : Addr → Prop} (hl : l.stackTraces = false) (hy : plainName y.cls = true) (hlen : (lg_sl av).length ≤ nL)
    (body : ∀ p e s m below meth c (ls : Array Slot), Cx S0 A0 D ar base p l s m av.toArray meth c y.cls cc nL ret → meth.name = y.name → s.heap.size = base + n → va_P D classes (wl base n M) s.heap → lv_has ls nL (lv_args 0 av) →
      W p l e rm s m av.toArray below meth c s.heap [] 0 0 (MQX below Qc av.toArray s rm.cells rm.slots free) (F0 m 0 ls [])) : MX l y [Cond.code y cc nL ret] rm (PN S0 A0 D ar base n M av) Qc free := by
  refine MX.ofW hy rfl ?_
  intro p e s m args below meth c s₁ B hml hno hv
  obtain ⟨rfl, h0, h1, hz, h2⟩ := hv
  have hl9 := lv_entry av hlen
  rw [lg_entry_eq]
  exact body p e s m below meth c _ ⟨B.exec, B.bytes, B.returns, hml, findClass_of_methodNamed B.named, B.notSynchronized, hno, hl, h0, h1⟩ (name_of_methodNamed B.named B.method).1 hz h2 hl9
theorem n_obj (C0 : Cx S0 A0 D ar base p l s m args meth c own cc nL ret) {a : Nat} (hlink : Cond.methodLink own index y_Object_init_ ∈ lw_tbl) (hsize : ls.size = nL) (hframes : 1 ≤ R.frames) (hlocals : (rest.map fun v => v.category).sum + 12 ≤ R.locals) (hdg : decode cc pc = .ok (.invokespecial index, 3))
    (kk : W p l e R s m args below meth c H locs cells slots Q (F0 m (pc + 3) ls rest)) : W p l e R s m args below meth c H locs cells slots Q (F0 m pc ls (.ref a :: rest)) := by
  obtain ⟨hx, hb, -, hml, hown, -, -, -, h0, -⟩ := C0
  exact W.objInit hx hb hown (h0.word hlink rfl) (h0.word k_im_Object_init_ rfl) (h0.word k_cd_Object_init_ rfl) rfl (hsize.trans hml.symm) rfl hdg hframes (by show 2 * 0 + _ + 12 ≤ _; omega) kk
theorem n_newa (C0 : Cx S0 A0 D ar base p l s m args meth c own cc nL ret) (hP : va_P D classes (wl base n M) H) (hz : H.size = base + n) (hS : va_S (nB base) s.heap H locs) {atype : ArrayType} {ty : FieldType} (t0 : Nat) {cA : ClassId} (harr : Cond.arrayClass ty ∈ lw_tbl) (hty : newarray.typeOf atype = ty) (hd : defaultValue ty = .int 0) (ht : (tysOf ar)[t0]? = some (cA, ty)) (hra : va_RA s cA ty = (s.vm.findClass ("[" ++ ty.toString) = some cA)) {i : Int32} {N : Nat} (hn : ¬ i < 0) (hN : i.toNatClampNeg = N) (hbytes : N * componentBytes ty ≤ 536870912) (hc : cells + 1 ≤ R.cells ∧ slots + N ≤ R.slots) (hdg : decode cc pc = .ok (.newarray atype, 2))
    (kk : ∀ (H1 : Heap), H1.size = base + (n + 1) → va_P D classes (wl base (n + 1) (va_up M n (.inl (cA, N, .inl (fun _ => 0))))) H1 → va_S (nB base) s.heap H1 locs →
      W p l e R s m args below meth c H1 locs (cells + 1) (slots + N) Q (F0 m (pc + 2) ls (.ref (base + n) :: rest))) : W p l e R s m args below meth c H locs cells slots Q (F0 m pc ls (.int i :: rest)) := by
  obtain ⟨hx, hb, -, hml, hown, -, -, -, h0, -⟩ := C0
  have h9 := (h0.K.2 t0 _ ht).2
  rw [hra] at h9
  exact b_newa hx hb (by rw [hty]; exact h0.word harr rfl) hty h9 hP hz hS (a0 := (N, .inl (fun _ => 0))) (fun cA => by rw [hd]; rfl) hn hN hbytes hc.1 hc.2 hdg kk
theorem n_newq (C0 : Cx S0 A0 D ar base p l s m args meth c own cc nL ret) (hP : va_P D classes (wl base n M) H) (hz : H.size = base + n) (hS : va_S (nB base) s.heap H locs) {C : String} (t0 : Nat) {cA : ClassId} (hcl : Cond.classLink own index C ∈ lw_tbl) (hao : Cond.arrayOver (.object C) ∈ lw_tbl) (ht : (tysOf ar)[t0]? = some (cA, .object C)) {i : Int32} {N : Nat} (hn : ¬ i < 0) (hN : i.toNatClampNeg = N) (hbytes : N * 4 ≤ 536870912) (hc : cells + 1 ≤ R.cells ∧ slots + N ≤ R.slots) (hdg : decode cc pc = .ok (.anewarray index, 3))
    (kk : ∀ (H1 : Heap), H1.size = base + (n + 1) → va_P D classes (wl base (n + 1) (va_up M n (.inl (cA, N, refs (fun _ => none))))) H1 → va_S (nB base) s.heap H1 locs →
      W p l e R s m args below meth c H1 locs (cells + 1) (slots + N) Q (F0 m (pc + 3) ls (.ref (base + n) :: rest))) : W p l e R s m args below meth c H locs cells slots Q (F0 m pc ls (.int i :: rest)) := by
  obtain ⟨hx, hb, -, hml, hown, -, -, -, h0, -⟩ := C0
  obtain ⟨kA, comp, -, -, -, h9⟩ := (h0.K.2 t0 _ ht).2
  exact b_newq hx hb hown (h0.word hcl rfl) (va_AO.moved h0.2.1.alike (va_AO.of (h0.1.1 _ hao))) h9 hP hz hS hn hN hbytes hc.1 hc.2 hdg kk
theorem n_new (C0 : Cx S0 A0 D ar base p l s m args meth c own cc nL ret) (hP : va_P D classes (wl base n M) H) (hz : H.size = base + n) (hS : va_S (nB base) s.heap H locs) {C : String} {T : u_T} {N ci : Nat} (ty : Nat → FieldType) (hty : ∀ k, k < N → parseFieldDescriptor (T k).2.2.1 = some (ty k)) (hcl : Cond.classLink own index C ∈ lw_tbl) (hia : Cond.instantiable C N ∈ lw_tbl) (hini : Cond.initialized C ∈ lw_tbl) (hc : classes[ci]? = some (C, T, N)) {fs : List Value} (hfs : ∀ j, j < N → defaultValue (ty j) = vp_V fs j) (hcs : cells + 1 ≤ R.cells ∧ slots + N ≤ R.slots) (hdg : decode cc pc = .ok (.new index, 3))
    (kk : ∀ (H1 : Heap), H1.size = base + (n + 1) → va_P D classes (wl base (n + 1) (va_up M n (.inr (ci, fs)))) H1 → va_S (nB base) s.heap H1 locs →
      W p l e R s m args below meth c H1 locs (cells + 1) (slots + N) Q (F0 m (pc + 3) ls (.ref (base + n) :: rest))) : W p l e R s m args below meth c H locs cells slots Q (F0 m pc ls rest) := by
  obtain ⟨hx, hb, -, hml, hown, -, -, -, h0, -⟩ := C0
  exact b_new hx hb (Ts := u_ws C T N) (fun w hw => h0.word (cls_in ci C T N hc w hw) (uws_good w hw)) (fun w hw => hw) ty hty hown (h0.word hcl rfl) (h0.word hia rfl) (h0.word hini rfl) h0.K hP hz hS hc hfs hcs.1 hcs.2 hdg kk
theorem W.ub {g : JFrame} (k : H.size ≤ s.heap.size + cells → W p l e R s m args below meth c H locs cells slots Q g) : W p l e R s m args below meth c H locs cells slots Q g := by
  intro T hT X
  have h : T.heap.size ≤ s.heap.size + cells := X.same.2.2.1
  exact k (by rw [← hT]; exact h) T hT X
/-- the heap's size, by what was booked -/
theorem W.sz {g : JFrame} (hP : va_P D classes (wl base n M) H) (h0 : 0 < n) (hn : s.heap.size + cells = base + n) (k : H.size = base + n → W p l e R s m args below meth c H locs cells slots Q g) : W p l e R s m args below meth c H locs cells slots Q g :=
  W.ub (fun h => k (by have h1 := wl_lt hP (k := n - 1) (by omega); omega))
/-- a final field of the object that is made -/
theorem n_putF (C0 : Cx S0 A0 D ar base p l s m args meth c own cc nL ret) (hnm0 : meth.name = "<init>") (hP : va_P D classes (wl base n M) H) (hS : va_S (nB base) s.heap H locs) {C : String} {T : u_T} {N ci : Nat} (ty0 : Nat → FieldType) (hty : ∀ k, k < N → parseFieldDescriptor (T k).2.2.1 = some (ty0 k)) (hnm : ∀ a, a < N → ∀ b, b < N → a ≠ b → (T a).2.1 ≠ (T b).2.1) (q0 : Nat) (hq : q0 < n) {fs : List Value} (he : M q0 = .inr (ci, fs)) (hc : classes[ci]? = some (C, T, N)) (k : Nat) (hk : k < N) (hT : (T k).1 = C) (hCo : C = own) (hlink : Cond.fieldLink own index C (T k).2.1 (T k).2.2.1 ∈ lw_tbl) (hfin : (T k).2.2.2 = true) {ty : FieldType} {v : Value} (hd : parseFieldDescriptor (T k).2.2.1 = some ty) (hn : narrow ty v = v) (hfit : fits ty v = true) (hl : k < fs.length) (hdg : decode cc pc = .ok (.putfield index, 3)) (hz : s.heap.size + cells = base + n)
    (kk : ∀ (H1 : Heap) (locs1 : List Loc), H1.size = base + n → va_P D classes (wl base n (va_up M q0 (.inr (ci, fs.set k v)))) H1 → va_S (nB base) s.heap H1 locs1 → W p l e R s m args below meth c H1 locs1 cells slots Q (F0 m (pc + 3) ls rest)) : W p l e R s m args below meth c H locs cells slots Q (F0 m pc ls (v :: .ref (base + q0) :: rest)) := by
  obtain ⟨hx, hb, -, hml, hown, -, -, -, h0, -⟩ := C0
  exact b_putF hx hb (Ts := u_ws C T N) (fun w hw => h0.word (cls_in ci C T N hc w hw) (uws_good w hw)) (fun w hw => hw) ty0 hty hnm hown h0.K hP nB_at hS q0 hq he hc k hk (h0.word hlink rfl) (fun x hx => by rw [hT] at hx; exact hx) hfin hnm0 (hT.trans hCo) hd hn hfit hl hdg (fun H1 locs1 h1 h2 => W.sz h1 (by omega) hz (fun h3 => kk H1 locs1 h3 h1 h2))
theorem n_put (C0 : Cx S0 A0 D ar base p l s m args meth c own cc nL ret) (hP : va_P D classes (wl base n M) H) (hS : va_S (nB base) s.heap H locs) {C : String} {T : u_T} {N ci : Nat} (ty0 : Nat → FieldType) (hty : ∀ k, k < N → parseFieldDescriptor (T k).2.2.1 = some (ty0 k)) (hnm : ∀ a, a < N → ∀ b, b < N → a ≠ b → (T a).2.1 ≠ (T b).2.1) (q0 : Nat) (hq : q0 < n) {fs : List Value} (he : M q0 = .inr (ci, fs)) (hc : classes[ci]? = some (C, T, N)) (k : Nat) (hk : k < N) (hT : (T k).1 = C) (hlink : Cond.fieldLink own index C (T k).2.1 (T k).2.2.1 ∈ lw_tbl) (hfin : (T k).2.2.2 = false) {ty : FieldType} {v : Value} (hd : parseFieldDescriptor (T k).2.2.1 = some ty) (hn : narrow ty v = v) (hfit : fits ty v = true) (hl : k < fs.length) (hdg : decode cc pc = .ok (.putfield index, 3)) (hz : s.heap.size + cells = base + n)
    (kk : ∀ (H1 : Heap) (locs1 : List Loc), H1.size = base + n → va_P D classes (wl base n (va_up M q0 (.inr (ci, fs.set k v)))) H1 → va_S (nB base) s.heap H1 locs1 → W p l e R s m args below meth c H1 locs1 cells slots Q (F0 m (pc + 3) ls rest)) : W p l e R s m args below meth c H locs cells slots Q (F0 m pc ls (v :: .ref (base + q0) :: rest)) := by
  obtain ⟨hx, hb, -, hml, hown, -, -, -, h0, -⟩ := C0
  exact b_put hx hb (Ts := u_ws C T N) (fun w hw => h0.word (cls_in ci C T N hc w hw) (uws_good w hw)) (fun w hw => hw) ty0 hty hnm hown h0.K hP nB_at hS q0 hq he hc k hk (h0.word hlink rfl) (fun x hx => by rw [hT] at hx; exact hx) hfin hd hn hfit hl hdg (fun H1 locs1 h1 h2 => W.sz h1 (by omega) hz (fun h3 => kk H1 locs1 h3 h1 h2))
theorem n_get (C0 : Cx S0 A0 D ar base p l s m args meth c own cc nL ret) (hP : va_P D classes (wl base n M) H) {C : String} {T : u_T} {N ci : Nat} (q0 : Nat) (hq : q0 < n) {fs : List Value} (he : M q0 = .inr (ci, fs)) (hc : classes[ci]? = some (C, T, N)) (k : Nat) (hk : k < N) (hT : (T k).1 = C) (hlink : Cond.fieldLink own index C (T k).2.1 (T k).2.2.1 ∈ lw_tbl) {v : Value} (hv : fs[k]? = some v) (hdg : decode cc pc = .ok (.getfield index, 3))
    (kk : W p l e R s m args below meth c H locs cells slots Q (F0 m (pc + 3) ls (v :: rest))) : W p l e R s m args below meth c H locs cells slots Q (F0 m pc ls (.ref (base + q0) :: rest)) := by
  obtain ⟨hx, hb, -, hml, hown, -, -, -, h0, -⟩ := C0
  exact b_get hx hb (Ts := u_ws C T N) (fun w hw => h0.word (cls_in ci C T N hc w hw) (uws_good w hw)) (fun w hw => hw) hown h0.K hP q0 hq he hc k hk (h0.word hlink rfl) (fun x hx => by rw [hT] at hx; exact hx) hv hdg kk
theorem n_zast (C0 : Cx S0 A0 D ar base p l s m args meth c own cc nL ret) (hP : va_P D classes (wl base n M) H) (hS : va_S (nB base) s.heap H locs) (q0 : Nat) (hq : q0 < n) {N : Nat} {f : Nat → Int32} (he : M q0 = .inl (ar 2, N, .inl f)) {i x : Int32} (hin : vp_in i N) (hdg : decode cc pc = .ok (.bastore, 1)) (hz : s.heap.size + cells = base + n)
    (kk : ∀ (H1 : Heap) (locs1 : List Loc), H1.size = base + n → va_P D classes (wl base n (va_up M q0 (.inl (ar 2, N, .inl (upd f i.toNatClampNeg (vp_nar .boolean x)))))) H1 → va_S (nB base) s.heap H1 locs1 → W p l e R s m args below meth c H1 locs1 cells slots Q (F0 m (pc + 1) ls rest)) : W p l e R s m args below meth c H locs cells slots Q (F0 m pc ls (.int x :: .int i :: .ref (base + q0) :: rest)) := by
  obtain ⟨hx, hb, -, hml, hown, -, -, -, h0, -⟩ := C0
  exact b_zast hx hb h0.K hP nB_at hS q0 2 hq he rfl hin hdg (fun H1 locs1 h1 h2 => W.sz h1 (by omega) hz (fun h3 => kk H1 locs1 h3 h1 h2))
theorem n_iast (C0 : Cx S0 A0 D ar base p l s m args meth c own cc nL ret) (hP : va_P D classes (wl base n M) H) (hS : va_S (nB base) s.heap H locs) (q0 : Nat) (hq : q0 < n) {N : Nat} {f : Nat → Int32} (he : M q0 = .inl (ar 0, N, .inl f)) {i x : Int32} (hin : vp_in i N) (hdg : decode cc pc = .ok (.iastore, 1)) (hz : s.heap.size + cells = base + n)
    (kk : ∀ (H1 : Heap) (locs1 : List Loc), H1.size = base + n → va_P D classes (wl base n (va_up M q0 (.inl (ar 0, N, .inl (upd f i.toNatClampNeg x))))) H1 → va_S (nB base) s.heap H1 locs1 → W p l e R s m args below meth c H1 locs1 cells slots Q (F0 m (pc + 1) ls rest)) : W p l e R s m args below meth c H locs cells slots Q (F0 m pc ls (.int x :: .int i :: .ref (base + q0) :: rest)) := by
  obtain ⟨hx, hb, -, hml, hown, -, -, -, h0, -⟩ := C0
  exact b_iast hx hb h0.K hP nB_at hS q0 0 hq he rfl hin hdg (fun H1 locs1 h1 h2 => W.sz h1 (by omega) hz (fun h3 => kk H1 locs1 h3 h1 h2))
theorem n_aast (C0 : Cx S0 A0 D ar base p l s m args meth c own cc nL ret) (hP : va_P D classes (wl base n M) H) (hS : va_S (nB base) s.heap H locs) (q0 t0 qk ci : Nat) (hq : q0 < n) (hqk : qk < n) {cA : ClassId} {r : vw_C} {N : Nat} {vs : List Value} {f : Nat → Option Nat} (he : M q0 = .inl (cA, N, refs f)) (ht : (tysOf ar)[t0]? = some (cA, .object r.1)) (hv : M qk = .inr (ci, vs)) (hc : classes[ci]? = some r) {i : Int32} (hin : vp_in i N) (hdg : decode cc pc = .ok (.aastore, 1)) (hz : s.heap.size + cells = base + n)
    (kk : ∀ (H1 : Heap) (locs1 : List Loc), H1.size = base + n → va_P D classes (wl base n (va_up M q0 (.inl (cA, N, refs (va_up f i.toNatClampNeg (some (base + qk))))))) H1 → va_S (nB base) s.heap H1 locs1 → W p l e R s m args below meth c H1 locs1 cells slots Q (F0 m (pc + 1) ls rest)) : W p l e R s m args below meth c H locs cells slots Q (F0 m pc ls (.ref (base + qk) :: .int i :: .ref (base + q0) :: rest)) := by
  obtain ⟨hx, hb, -, hml, hown, -, -, -, h0, -⟩ := C0
  exact b_astq hx hb h0.K hP nB_at hS q0 t0 qk ci hq hqk he ht hv hc hin hdg (fun H1 locs1 h1 h2 => W.sz h1 (by omega) hz (fun h3 => kk H1 locs1 h3 h1 h2))
theorem n_ret {M' : Nat → va_E} (C0 : Cx S0 A0 D ar base p l s m args meth c own cc nL none) (hP : va_P D classes (wl base n M) H) (hz : H.size = base + n) (hS : va_S (nB base) s.heap H locs) (hM : ∀ k, k < n → M k = M' k) (hc : cells ≤ R.cells ∧ slots ≤ R.slots) (hdg : decode cc pc = .ok (.return_, 1)) :
    W p l e R s m args below meth c H locs cells slots (MQX below (QN D base n M') args s R.cells R.slots (nB base)) (F0 m pc ls []) := by
  obtain ⟨hx, hb, hr, -, -, hlk, -, -, -, -⟩ := C0
  exact W.widen hc.1 hc.2 (x_vret hx hb hr hlk (fun t ht _ => ⟨rfl, by rw [ht]; exact hz, by rw [ht, ← wl_congr hM]; exact hP⟩) hS.2.2 hdg)
/-- the call of a nested class's constructor -/
theorem n_call {n' : Nat} {M' : Nat → va_E} {host : String} {b : Nat} (C0 : Cx S0 A0 D ar base p l s m args meth c own cc nL ret) (hP : va_P D classes (wl base n M) H) (hz : H.size = base + n) (hS : va_S (nB base) s.heap H locs)
    (hlink : Cond.methodLinkNest own index y host ∈ lw_tbl) (him : Cond.instanceMethod y ∈ lw_tbl) (hcd : Cond.code y bytes maxL none ∈ lw_tbl) (hin : Cond.initialized y.cls ∈ lw_tbl) (hy1 : y.name = "<init>")
    (hd : y.cls ≠ "java/lang/invoke/MethodHandle" ∧ y.cls ≠ "java/lang/invoke/VarHandle" ∧ (parseMethodDescriptor y.desc).map (fun d => d.parameters.length) = some 0)
    (hM : MX l y [Cond.code y bytes maxL none] rm (PN S0 A0 D ar base n M [.ref b]) (QN D base n' M') (nB base))
    (hsize : ls.size = nL) (hdg : decode cc pc = .ok (.invokespecial index, 3)) (hW : (rest.map fun v => v.category).sum ≤ 8) (hR : rm.frames + 1 ≤ R.frames ∧ 8 + (maxL + 11) + rm.locals ≤ R.locals) (hf : cells + rm.cells ≤ R.cells ∧ slots + rm.slots ≤ R.slots)
    (kr : ∀ (H1 : Heap) (locs1 : List Loc), H1.size = base + n' → va_P D classes (wl base n' M') H1 → va_S (nB base) s.heap H1 locs1 → W p l e R s m args below meth c H1 locs1 (cells + rm.cells) (slots + rm.slots) Q (F0 m (pc + 3) ls rest)) : W p l e R s m args below meth c H locs cells slots Q (F0 m pc ls (.ref b :: rest)) := by
  obtain ⟨hx, hb, hr, hml, hown, hlk, hn0, hl, h0, hbase⟩ := C0
  refine x_call (x_inIN (As := []) (b := b) (rest := rest) hx hb hown hy1 (h0.nestM hlink) (h0.word him rfl) hd (h0.word hcd rfl) rfl hdg) (x_ok1 (args := args) (h0.word hcd rfl) (h0.word hin rfl)) hM PN_blind hml hsize hb hdg hW hR hf (fun U hU hWU => ⟨rfl, h0.warm hWU (A := nB base) (locs := locs) (by rw [hU]; exact hS) (fun q hq => Nat.le_trans hbase hq), hbase, by rw [hU]; exact hz, by rw [hU]; exact hP⟩) ?_ ?_
  · intro v st₀ t L _ _ hq hkp hL
    obtain ⟨ho, h1, h2⟩ := hq
    cases ho
    exact kr t.heap _ h1 h2 (hkp.S hS (fun q h => h) hL)
  · intro x st₀ t L _ _ hq _ _
    cases hq.1
end NR

