/-! What holds in every method of the class: the start S0 (the law's entry), from which every table's word is had; the class's block at base holds the picture of σ. -/
def tysOf (ar : Nat → ClassId) : List (ClassId × FieldType) := [(ar 0, .int), (ar 1, .char), (ar 2, .boolean), (ar 3, .object R_Co), (ar 4, .object R_Bl), (ar 5, .object R_En), (ar 6, .long)]
def E0 (S0 : State) (A0 : Array Value) (D : va_G) (ar : Nat → ClassId) : Prop :=
  (∀ w ∈ lw_tbl, w.before A0 S0 = true) ∧ va_K D classes (tysOf ar) S0 ∧ (Jvm.Cond.and given_1 narrow_1).before A0 S0 = true
/-- a state of the run: its tables are warmer than the start's, and the start's cells are as they were -/
def At0 (S0 : State) (A0 : Array Value) (D : va_G) (ar : Nat → ClassId) (s : State) : Prop := E0 S0 A0 D ar ∧ S0.WarmedH s.vm ∧ x_Keep (fun _ => False) S0.heap s.heap
section A0
variable {S0 : State} {A0 : Array Value} {D : va_G} {ar : Nat → ClassId} {s : State} {args : Array Value}
theorem At0.word (h : At0 S0 A0 D ar s) {w : Cond} (hw : w ∈ lw_tbl) (hg : goodWord w = true) : w.before args s = true := word_at h.2.1 (good_of_word hg) (h.1.1 w hw)
theorem At0.K (h : At0 S0 A0 D ar s) : va_K D classes (tysOf ar) s := va_K.moved h.2.1.alike h.1.2.1
theorem At0.nestF (h : At0 S0 A0 D ar s) {a : String} {i : Nat} {b n d g : String} (hw : Cond.fieldLinkNest a i b n d g ∈ lw_tbl) : (Cond.fieldLinkNest a i b n d g).before args s = true :=
  va_Nw.use rfl (va_Nw.warmF h.2.1 (va_Nw.of rfl (h.1.1 _ hw)))
theorem At0.nestM (h : At0 S0 A0 D ar s) {a : String} {i : Nat} {x : MethodName} {g : String} (hw : Cond.methodLinkNest a i x g ∈ lw_tbl) : (Cond.methodLinkNest a i x g).before args s = true :=
  va_Nw.use rfl (va_Nw.warmM h.2.1 (va_Nw.of rfl (h.1.1 _ hw)))
theorem At0.step (h : At0 S0 A0 D ar s) {U : State} {free : Nat → Prop} (hW : s.WarmedH U.vm) (hk : x_Keep free s.heap U.heap) (hf : ∀ q, free q → S0.heap.size ≤ q) : At0 S0 A0 D ar U := by
  refine ⟨h.1, State.WarmedH.trans h.2.1 hW, Nat.le_trans h.2.2.1 hk.1, fun q hq _ => ?_⟩
  rw [hk.2 q (Nat.lt_of_lt_of_le hq h.2.2.1) (fun z => absurd (hf q z) (by omega))]
  exact h.2.2.2 q hq id
theorem At0.warm (h : At0 S0 A0 D ar s) {U : State} {A : Nat → Prop} {locs : List Loc} (hW : s.WarmedH U.vm) (hS : va_S A s.heap U.heap locs) (hA : ∀ q, A q → S0.heap.size ≤ q) : At0 S0 A0 D ar U :=
  h.step hW (free := A) ⟨hS.1, hS.2.1⟩ hA
theorem uws_good {C : String} {T : u_T} {N : Nat} : ∀ w ∈ u_ws C T N, goodWord w = true := by
  intro w hw
  obtain ⟨k, -, rfl⟩ := List.mem_map.mp hw
  unfold u_lay
  split <;> rfl
theorem cls_in : ∀ (ci : Nat) (C : String) (T : u_T) (N : Nat), classes[ci]? = some (C, T, N) → ∀ w ∈ u_ws C T N, w ∈ lw_tbl := by
  intro ci C T N h
  match ci, h with
  | 0, h => cases h; exact i_Sy
  | 1, h => cases h; exact i_Co
  | 2, h => cases h; exact i_Bl
  | 3, h => cases h; exact i_En
  | 4, h => cases h; exact i_Mo
  | k + 5, h => simp [classes] at h
end A0
/-- the class's methods: what they are called with -/
def PS (S0 : State) (A0 : Array Value) (D : va_G) (ar : Nat → ClassId) (base : Nat) (σ : Mem) (av : List Value) : Array Value → State → Prop :=
  va_Pc av (fun U => At0 S0 A0 D ar U ∧ S0.heap.size ≤ base ∧ va_P D classes (wl base 122 (mem ar base σ)) U.heap)
theorem PS_blind {S0 : State} {A0 : Array Value} {D : va_G} {ar : Nat → ClassId} {base : Nat} {σ : Mem} {av : List Value} : FrameBlind (PS S0 A0 D ar base σ av) := by
  intro a U g mk h
  obtain ⟨h0, ⟨h1, h2, h3⟩, h4, h5⟩ := h
  exact ⟨h0, ⟨h1, h2, h3⟩, h4, h5⟩
def exN (k : Nat) : String := if k = 1 then "java/lang/IllegalArgumentException" else if k = 2 then "java/lang/IllegalStateException" else if k = 3 then "java/util/NoSuchElementException" else "java/lang/UnsupportedOperationException"
/-- the exception at x is an object of the class named E -/
def x_is (E : String) (x : Addr) (t : State) : Prop := ∃ cell : Cell, t.heap[x]? = some cell ∧ cell.vm = .none ∧ t.vm.findClass E = some cell.cls
/-- how a method ended: k = 0: it returned r; else it threw the exception number k -/
def oR (k : Nat) (r : Option Int32) (o : Outcome) (t : State) : Prop := if k = 0 then o = .returned (r.map Value.int) else ∃ x, o = .threw x ∧ x_is (exN k) x t
theorem oR_ret {k : Nat} {r : Option Int32} {v : Option Value} {t : State} (h : oR k r (.returned v) t) : k = 0 ∧ v = r.map Value.int := by
  unfold oR at h
  split at h
  · rename_i h0
    cases h
    exact ⟨h0, rfl⟩
  · obtain ⟨x, h1, -⟩ := h
    cases h1
theorem oR_thr {k : Nat} {r : Option Int32} {x : Addr} {t : State} (h : oR k r (.threw x) t) : k ≠ 0 ∧ x_is (exN k) x t := by
  unfold oR at h
  split at h
  · cases h
  · rename_i h0
    obtain ⟨y, h1, h2⟩ := h
    cases h1
    exact ⟨h0, h2⟩
theorem x_is.to {E : String} {x : Addr} {t u : State} (h : x_is E x t) (hh : u.heap = t.heap) (hv : t.vm.Alike u.vm) : x_is E x u := by
  obtain ⟨cell, h1, h2, h3⟩ := h
  exact ⟨cell, by rw [hh]; exact h1, h2, by rw [hv.findClass]; exact h3⟩
/-- the end of a method that changes nothing -/
def QP (P : Nat → Option Int32 → Prop) : Array Value → State → Outcome → State → Prop := fun _ st o t => ∃ k r, P k r ∧ oR k r o t ∧ (k = 0 → t.heap = st.heap)
/-- the end of a method that may change the class's block -/
def QI (D : va_G) (ar : Nat → ClassId) (base : Nat) (P : Nat → Option Int32 → Mem → Prop) : Array Value → State → Outcome → State → Prop := fun _ _ o t => ∃ k r σ', P k r σ' ∧ oR k r o t ∧ va_P D classes (wl base 122 (mem ar base σ')) t.heap
/-- inside a method of the class named own -/
def Cx (S0 : State) (A0 : Array Value) (D : va_G) (ar : Nat → ClassId) (base : Nat) (p : Program) (l : Launch) (s : State) (m : MethodId) (args : Array Value) (meth : Method) (c : Code) (own : String) (cc : ByteArray) (nL : Nat) (ret : Option FieldType) : Prop :=
  p.tables.exec = Jvm.exec ∧ c.code = cc ∧ meth.sig.returnType = ret ∧ c.maxLocals = nL ∧ s.vm.findClass own = some m.cls ∧ meth.locks = false ∧ c.exceptionTable.isEmpty = true ∧ l.stackTraces = false ∧ At0 S0 A0 D ar s ∧ S0.heap.size ≤ base
section CX
variable {S0 : State} {A0 : Array Value} {D : va_G} {ar : Nat → ClassId} {base : Nat} {σ : Mem}
variable {p : Program} {l : Launch} {e : Env} {R : Room} {s : State} {m : MethodId} {args : Array Value} {below : List Frame} {meth : Method} {c : Code} {H : Heap} {locs : List Loc} {cells slots : Nat} {Q : State → Prop}
variable {own : String} {cc : ByteArray} {nL : Nat} {ret : Option FieldType} {pc : Nat} {ls : Array Slot} {rest : List Value}
/-- THE HEAD OF EVERY METHOD OF THE CLASS -/
theorem cx_head {y : MethodName} {av : List Value} {rm : Room} {Qc : Array Value → State → Outcome → State → Prop} {free : Addr → Prop} (hl : l.stackTraces = false) (hy : plainName y.cls = true) (hlen : (lg_sl av).length ≤ nL)
    (body : ∀ p e s m below meth c (ls : Array Slot), Cx S0 A0 D ar base p l s m av.toArray meth c y.cls cc nL ret → va_P D classes (wl base 122 (mem ar base σ)) s.heap → lv_has ls nL (lv_args 0 av) →
      W p l e rm s m av.toArray below meth c s.heap [] 0 0 (MQX below Qc av.toArray s rm.cells rm.slots free) (F0 m 0 ls [])) : MX l y [Cond.code y cc nL ret] rm (PS S0 A0 D ar base σ av) Qc free := by
  refine MX.ofW hy rfl ?_
  intro p e s m args below meth c s₁ B hml hno hv
  obtain ⟨rfl, h0, h1, h2⟩ := hv
  have hl9 := lv_entry av hlen
  rw [lg_entry_eq]
  exact body p e s m below meth c _ ⟨B.exec, B.bytes, B.returns, hml, findClass_of_methodNamed B.named, B.notSynchronized, hno, hl, h0, h1⟩ h2 hl9
theorem q_get (C0 : Cx S0 A0 D ar base p l s m args meth c own cc nL ret) (hP : va_P D classes (wl base 122 (mem ar base σ)) H) {kd i ci index : Nat} {C : String} {T : u_T} {N : Nat} {fs : List Value} (hkd : kd < 17) (hi : i < adN kd) (he : cont ar base σ kd i = .inr (ci, fs)) (hc : classes[ci]? = some (C, T, N)) (k : Nat) (hk : k < N) (hT : (T k).1 = C)
    (hlink : Cond.fieldLink own index C (T k).2.1 (T k).2.2.1 ∈ lw_tbl) {v : Value} (hv : fs[k]? = some v) (hdg : decode cc pc = .ok (.getfield index, 3))
    (kk : W p l e R s m args below meth c H locs cells slots Q (F0 m (pc + 3) ls (v :: rest))) : W p l e R s m args below meth c H locs cells slots Q (F0 m pc ls (.ref (base + ad kd i) :: rest)) := by
  obtain ⟨hx, hb, -, -, hown, -, -, -, h0, -⟩ := C0
  exact b_get hx hb (Ts := u_ws C T N) (fun w hw => h0.word (cls_in ci C T N hc w hw) (uws_good w hw)) (fun w hw => hw) hown h0.K hP (ad kd i) (ad_lt hkd hi) ((mem_at hkd hi).trans he) hc k hk (h0.word hlink rfl) (fun x hx => by rw [hT] at hx; exact hx) hv hdg kk
theorem q_getN (C0 : Cx S0 A0 D ar base p l s m args meth c own cc nL ret) (hP : va_P D classes (wl base 122 (mem ar base σ)) H) {kd i ci index : Nat} {C host : String} {T : u_T} {N : Nat} {fs : List Value} (hkd : kd < 17) (hi : i < adN kd) (he : cont ar base σ kd i = .inr (ci, fs)) (hc : classes[ci]? = some (C, T, N)) (k : Nat) (hk : k < N) (hT : (T k).1 = C)
    (hlink : Cond.fieldLinkNest own index C (T k).2.1 (T k).2.2.1 host ∈ lw_tbl) {v : Value} (hv : fs[k]? = some v) (hdg : decode cc pc = .ok (.getfield index, 3))
    (kk : W p l e R s m args below meth c H locs cells slots Q (F0 m (pc + 3) ls (v :: rest))) : W p l e R s m args below meth c H locs cells slots Q (F0 m pc ls (.ref (base + ad kd i) :: rest)) := by
  obtain ⟨hx, hb, -, -, hown, -, -, -, h0, -⟩ := C0
  exact b_getN hx hb (Ts := u_ws C T N) (fun w hw => h0.word (cls_in ci C T N hc w hw) (uws_good w hw)) (fun w hw => hw) hown h0.K hP (ad kd i) (ad_lt hkd hi) ((mem_at hkd hi).trans he) hc k hk (h0.nestF hlink) (fun x hx => by rw [hT] at hx; exact hx) hv hdg kk
/-- an int field is written: σ K i j becomes x -/
theorem q_put (C0 : Cx S0 A0 D ar base p l s m args meth c own cc nL ret) (hP : va_P D classes (wl base 122 (mem ar base σ)) H) (hS : va_S (inB base 122) s.heap H locs) {kd i ci index : Nat} {C : String} {T : u_T} {N : Nat} {fs : List Value} (K j : Nat) (hK : K < 16) (hkd : ow K = kd) (hi : i < adN kd) (he : cont ar base σ kd i = .inr (ci, fs)) (hc : classes[ci]? = some (C, T, N)) (ty0 : Nat → FieldType) (hty : ∀ k, k < N → parseFieldDescriptor (T k).2.2.1 = some (ty0 k)) (hnm : ∀ a, a < N → ∀ b, b < N → a ≠ b → (T a).2.1 ≠ (T b).2.1) (k : Nat) (hk : k < N) (hT : (T k).1 = C)
    (hlink : Cond.fieldLink own index C (T k).2.1 (T k).2.2.1 ∈ lw_tbl) (hfin : (T k).2.2.2 = false) (hd : parseFieldDescriptor (T k).2.2.1 = some .int) (hl : k < fs.length) {x : Int32} (he' : .inr (ci, fs.set k (.int x)) = cont ar base (up σ K i j x) kd i) (hdg : decode cc pc = .ok (.putfield index, 3))
    (kk : ∀ (H1 : Heap) (locs1 : List Loc), va_P D classes (wl base 122 (mem ar base (up σ K i j x))) H1 → va_S (inB base 122) s.heap H1 locs1 → W p l e R s m args below meth c H1 locs1 cells slots Q (F0 m (pc + 3) ls rest)) : W p l e R s m args below meth c H locs cells slots Q (F0 m pc ls (.int x :: .ref (base + ad kd i) :: rest)) := by
  obtain ⟨hx, hb, -, -, hown, -, -, -, h0, -⟩ := C0
  subst hkd
  have how : ow K < 17 := (by decide : ∀ k, k < 16 → ow k < 17) K hK
  exact b_put hx hb (Ts := u_ws C T N) (fun w hw => h0.word (cls_in ci C T N hc w hw) (uws_good w hw)) (fun w hw => hw) ty0 hty hnm hown h0.K hP inB_at hS (ad (ow K) i) (ad_lt how hi) ((mem_at how hi).trans he) hc k hk (h0.word hlink rfl) (fun x hx => by rw [hT] at hx; exact hx) hfin hd rfl rfl hl hdg (fun H1 locs1 h1 h2 => kk H1 locs1 (mem_up hK hi he' h1) h2)
theorem q_putN (C0 : Cx S0 A0 D ar base p l s m args meth c own cc nL ret) (hP : va_P D classes (wl base 122 (mem ar base σ)) H) (hS : va_S (inB base 122) s.heap H locs) {kd i ci index : Nat} {C host : String} {T : u_T} {N : Nat} {fs : List Value} (K j : Nat) (hK : K < 16) (hkd : ow K = kd) (hi : i < adN kd) (he : cont ar base σ kd i = .inr (ci, fs)) (hc : classes[ci]? = some (C, T, N)) (ty0 : Nat → FieldType) (hty : ∀ k, k < N → parseFieldDescriptor (T k).2.2.1 = some (ty0 k)) (hnm : ∀ a, a < N → ∀ b, b < N → a ≠ b → (T a).2.1 ≠ (T b).2.1) (k : Nat) (hk : k < N) (hT : (T k).1 = C)
    (hlink : Cond.fieldLinkNest own index C (T k).2.1 (T k).2.2.1 host ∈ lw_tbl) (hfin : (T k).2.2.2 = false) (hd : parseFieldDescriptor (T k).2.2.1 = some .int) (hl : k < fs.length) {x : Int32} (he' : .inr (ci, fs.set k (.int x)) = cont ar base (up σ K i j x) kd i) (hdg : decode cc pc = .ok (.putfield index, 3))
    (kk : ∀ (H1 : Heap) (locs1 : List Loc), va_P D classes (wl base 122 (mem ar base (up σ K i j x))) H1 → va_S (inB base 122) s.heap H1 locs1 → W p l e R s m args below meth c H1 locs1 cells slots Q (F0 m (pc + 3) ls rest)) : W p l e R s m args below meth c H locs cells slots Q (F0 m pc ls (.int x :: .ref (base + ad kd i) :: rest)) := by
  obtain ⟨hx, hb, -, -, hown, -, -, -, h0, -⟩ := C0
  subst hkd
  have how : ow K < 17 := (by decide : ∀ k, k < 16 → ow k < 17) K hK
  exact b_putN hx hb (Ts := u_ws C T N) (fun w hw => h0.word (cls_in ci C T N hc w hw) (uws_good w hw)) (fun w hw => hw) ty0 hty hnm hown h0.K hP inB_at hS (ad (ow K) i) (ad_lt how hi) ((mem_at how hi).trans he) hc k hk (h0.nestF hlink) (fun x hx => by rw [hT] at hx; exact hx) hfin hd rfl rfl hl hdg (fun H1 locs1 h1 h2 => kk H1 locs1 (mem_up hK hi he' h1) h2)
theorem q_iald (C0 : Cx S0 A0 D ar base p l s m args meth c own cc nL ret) (hP : va_P D classes (wl base 122 (mem ar base σ)) H) {kd i N : Nat} {f : Nat → Int32} (hkd : kd < 17) (hi : i < adN kd) (he : cont ar base σ kd i = .inl (ar 0, N, .inl f)) {x : Int32} (hin : vp_in x N) (hdg : decode cc pc = .ok (.iaload, 1))
    (kk : W p l e R s m args below meth c H locs cells slots Q (F0 m (pc + 1) ls (.int (f x.toNatClampNeg) :: rest))) : W p l e R s m args below meth c H locs cells slots Q (F0 m pc ls (.int x :: .ref (base + ad kd i) :: rest)) := by
  obtain ⟨hx, hb, -, -, hown, -, -, -, h0, -⟩ := C0
  exact b_iald hx hb h0.K hP (ad kd i) 0 (ad_lt hkd hi) ((mem_at hkd hi).trans he) rfl hin hdg kk
theorem q_cald (C0 : Cx S0 A0 D ar base p l s m args meth c own cc nL ret) (hP : va_P D classes (wl base 122 (mem ar base σ)) H) {kd i N : Nat} {f : Nat → Int32} (hkd : kd < 17) (hi : i < adN kd) (he : cont ar base σ kd i = .inl (ar 1, N, .inl f)) {x : Int32} (hin : vp_in x N) (hdg : decode cc pc = .ok (.caload, 1))
    (kk : W p l e R s m args below meth c H locs cells slots Q (F0 m (pc + 1) ls (.int (f x.toNatClampNeg) :: rest))) : W p l e R s m args below meth c H locs cells slots Q (F0 m pc ls (.int x :: .ref (base + ad kd i) :: rest)) := by
  obtain ⟨hx, hb, -, -, hown, -, -, -, h0, -⟩ := C0
  exact b_cald hx hb h0.K hP (ad kd i) 1 (ad_lt hkd hi) ((mem_at hkd hi).trans he) rfl hin hdg kk
theorem q_zald (C0 : Cx S0 A0 D ar base p l s m args meth c own cc nL ret) (hP : va_P D classes (wl base 122 (mem ar base σ)) H) {kd i N : Nat} {f : Nat → Int32} (hkd : kd < 17) (hi : i < adN kd) (he : cont ar base σ kd i = .inl (ar 2, N, .inl f)) {x : Int32} (hin : vp_in x N) (hdg : decode cc pc = .ok (.baload, 1))
    (kk : W p l e R s m args below meth c H locs cells slots Q (F0 m (pc + 1) ls (.int (f x.toNatClampNeg) :: rest))) : W p l e R s m args below meth c H locs cells slots Q (F0 m pc ls (.int x :: .ref (base + ad kd i) :: rest)) := by
  obtain ⟨hx, hb, -, -, hown, -, -, -, h0, -⟩ := C0
  exact b_zald hx hb h0.K hP (ad kd i) 2 (ad_lt hkd hi) ((mem_at hkd hi).trans he) rfl hin hdg kk
/-- an array of references of the class: its element at x is the cell of a kind -/
theorem q_aald (C0 : Cx S0 A0 D ar base p l s m args meth c own cc nL ret) (hP : va_P D classes (wl base 122 (mem ar base σ)) H) {kd i N t0 : Nat} {C : String} {cA : ClassId} {f : Nat → Option Nat} (hkd : kd < 17) (hi : i < adN kd) (he : cont ar base σ kd i = .inl (cA, N, refs f)) (ht : (tysOf ar)[t0]? = some (cA, .object C)) {x : Int32} {v : Nat} (hv : f x.toNatClampNeg = some v) (hin : vp_in x N) (hdg : decode cc pc = .ok (.aaload, 1))
    (kk : W p l e R s m args below meth c H locs cells slots Q (F0 m (pc + 1) ls (.ref v :: rest))) : W p l e R s m args below meth c H locs cells slots Q (F0 m pc ls (.int x :: .ref (base + ad kd i) :: rest)) := by
  obtain ⟨hx, hb, -, -, hown, -, -, -, h0, -⟩ := C0
  exact b_aldq hx hb h0.K hP (ad kd i) t0 (ad_lt hkd hi) ((mem_at hkd hi).trans he) ht hv hin hdg kk
theorem q_iast (C0 : Cx S0 A0 D ar base p l s m args meth c own cc nL ret) (hP : va_P D classes (wl base 122 (mem ar base σ)) H) (hS : va_S (inB base 122) s.heap H locs) {kd i N : Nat} {f : Nat → Int32} (K : Nat) (hK : K < 16) (hkd : ow K = kd) (hi : i < adN kd) (he : cont ar base σ kd i = .inl (ar 0, N, .inl f)) {x v : Int32} (hin : vp_in x N) (he' : .inl (ar 0, N, .inl (upd f x.toNatClampNeg v)) = cont ar base (up σ K i x.toNatClampNeg v) kd i) (hdg : decode cc pc = .ok (.iastore, 1))
    (kk : ∀ (H1 : Heap) (locs1 : List Loc), va_P D classes (wl base 122 (mem ar base (up σ K i x.toNatClampNeg v))) H1 → va_S (inB base 122) s.heap H1 locs1 → W p l e R s m args below meth c H1 locs1 cells slots Q (F0 m (pc + 1) ls rest)) : W p l e R s m args below meth c H locs cells slots Q (F0 m pc ls (.int v :: .int x :: .ref (base + ad kd i) :: rest)) := by
  obtain ⟨hx, hb, -, -, hown, -, -, -, h0, -⟩ := C0
  subst hkd
  have how : ow K < 17 := (by decide : ∀ k, k < 16 → ow k < 17) K hK
  exact b_iast hx hb h0.K hP inB_at hS (ad (ow K) i) 0 (ad_lt how hi) ((mem_at how hi).trans he) rfl hin hdg (fun H1 locs1 h1 h2 => kk H1 locs1 (mem_up hK hi he' h1) h2)
theorem q_cast (C0 : Cx S0 A0 D ar base p l s m args meth c own cc nL ret) (hP : va_P D classes (wl base 122 (mem ar base σ)) H) (hS : va_S (inB base 122) s.heap H locs) {kd i N : Nat} {f : Nat → Int32} (K : Nat) (hK : K < 16) (hkd : ow K = kd) (hi : i < adN kd) (he : cont ar base σ kd i = .inl (ar 1, N, .inl f)) {x v : Int32} (hin : vp_in x N) (he' : .inl (ar 1, N, .inl (upd f x.toNatClampNeg (vp_nar .char v))) = cont ar base (up σ K i x.toNatClampNeg (vp_nar .char v)) kd i) (hdg : decode cc pc = .ok (.castore, 1))
    (kk : ∀ (H1 : Heap) (locs1 : List Loc), va_P D classes (wl base 122 (mem ar base (up σ K i x.toNatClampNeg (vp_nar .char v)))) H1 → va_S (inB base 122) s.heap H1 locs1 → W p l e R s m args below meth c H1 locs1 cells slots Q (F0 m (pc + 1) ls rest)) : W p l e R s m args below meth c H locs cells slots Q (F0 m pc ls (.int v :: .int x :: .ref (base + ad kd i) :: rest)) := by
  obtain ⟨hx, hb, -, -, hown, -, -, -, h0, -⟩ := C0
  subst hkd
  have how : ow K < 17 := (by decide : ∀ k, k < 16 → ow k < 17) K hK
  exact b_cast hx hb h0.K hP inB_at hS (ad (ow K) i) 1 (ad_lt how hi) ((mem_at how hi).trans he) rfl hin hdg (fun H1 locs1 h1 h2 => kk H1 locs1 (mem_up hK hi he' h1) h2)
theorem q_zast (C0 : Cx S0 A0 D ar base p l s m args meth c own cc nL ret) (hP : va_P D classes (wl base 122 (mem ar base σ)) H) (hS : va_S (inB base 122) s.heap H locs) {kd i N : Nat} {f : Nat → Int32} (K : Nat) (hK : K < 16) (hkd : ow K = kd) (hi : i < adN kd) (he : cont ar base σ kd i = .inl (ar 2, N, .inl f)) {x v : Int32} (hin : vp_in x N) (he' : .inl (ar 2, N, .inl (upd f x.toNatClampNeg (vp_nar .boolean v))) = cont ar base (up σ K i x.toNatClampNeg (vp_nar .boolean v)) kd i) (hdg : decode cc pc = .ok (.bastore, 1))
    (kk : ∀ (H1 : Heap) (locs1 : List Loc), va_P D classes (wl base 122 (mem ar base (up σ K i x.toNatClampNeg (vp_nar .boolean v)))) H1 → va_S (inB base 122) s.heap H1 locs1 → W p l e R s m args below meth c H1 locs1 cells slots Q (F0 m (pc + 1) ls rest)) : W p l e R s m args below meth c H locs cells slots Q (F0 m pc ls (.int v :: .int x :: .ref (base + ad kd i) :: rest)) := by
  obtain ⟨hx, hb, -, -, hown, -, -, -, h0, -⟩ := C0
  subst hkd
  have how : ow K < 17 := (by decide : ∀ k, k < 16 → ow k < 17) K hK
  exact b_zast hx hb h0.K hP inB_at hS (ad (ow K) i) 2 (ad_lt how hi) ((mem_at how hi).trans he) rfl hin hdg (fun H1 locs1 h1 h2 => kk H1 locs1 (mem_up hK hi he' h1) h2)
end CX
