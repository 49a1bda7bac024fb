/-! The model's block: 16 cells, the object and its arrays: laid by gen/mo.py. -/
def adm (kd _i : Nat) : Nat := kd
def adMN (_kd : Nat) : Nat := 1
def owm (k : Nat) : Nat := k
def conto (ar : Nat → ClassId) (base : Nat) (σ : Mem) (kd _i : Nat) : va_E := match kd with
  | 0 => .inr (4, [.ref (base + 1), .ref (base + 2), .ref (base + 3), .ref (base + 4), .ref (base + 5), .ref (base + 6), .ref (base + 7), .ref (base + 8), .ref (base + 9), .ref (base + 10), .ref (base + 11), .ref (base + 12), .ref (base + 13), .ref (base + 14), .ref (base + 15), .int (σ 0 0 0), .int (σ 0 0 1), .int (σ 0 0 2), .int (σ 0 0 3), .int (σ 0 0 4), .int (σ 0 0 5), .int (σ 0 0 6), .int (σ 0 0 7), .int (σ 0 0 8)])
  | 1 => .inl (ar 0, 36, .inl (fun j => σ 1 0 j))
  | 2 => .inl (ar 0, 144, .inl (fun j => σ 2 0 j))
  | 3 => .inl (ar 0, 4, .inl (fun j => σ 3 0 j))
  | 4 => .inl (ar 0, 216, .inl (fun j => σ 4 0 j))
  | 5 => .inl (ar 0, 6, .inl (fun j => σ 5 0 j))
  | 6 => .inl (ar 2, 4, .inl (fun j => σ 6 0 j))
  | 7 => .inl (ar 0, 12, .inl (fun j => σ 7 0 j))
  | 8 => .inl (ar 0, 12, .inl (fun j => σ 8 0 j))
  | 9 => .inl (ar 0, 96, .inl (fun j => σ 9 0 j))
  | 10 => .inl (ar 0, 12, .inl (fun j => σ 10 0 j))
  | 11 => .inl (ar 0, 12, .inl (fun j => σ 11 0 j))
  | 12 => .inl (ar 0, 12, .inl (fun j => σ 12 0 j))
  | 13 => .inl (ar 0, 36, .inl (fun j => σ 13 0 j))
  | 14 => .inl (ar 0, 36, .inl (fun j => σ 14 0 j))
  | _ => .inl (ar 0, 12, .inl (fun j => σ 15 0 j))
def memo (ar : Nat → ClassId) (base : Nat) (σ : Mem) (k : Nat) : va_E := conto ar base σ k 0
theorem memo_at {ar : Nat → ClassId} {base : Nat} {σ : Mem} {kd i : Nat} (_h : kd < 16) (_hi : i < adMN kd) : memo ar base σ (adm kd i) = conto ar base σ kd i := rfl
theorem adm_lt {kd i : Nat} (h : kd < 16) (_hi : i < adMN kd) : adm kd i < 16 := h
theorem conto_ne {ar : Nat → ClassId} {base : Nat} {σ : Mem} {k j : Nat} {v : Int32} (hk : k < 16) {kd : Nat} (h : kd ≠ k) (hd : kd < 16) : conto ar base (up σ k 0 j v) kd 0 = conto ar base σ kd 0 := by
  have hd' : kd = 0 ∨ kd = 1 ∨ kd = 2 ∨ kd = 3 ∨ kd = 4 ∨ kd = 5 ∨ kd = 6 ∨ kd = 7 ∨ kd = 8 ∨ kd = 9 ∨ kd = 10 ∨ kd = 11 ∨ kd = 12 ∨ kd = 13 ∨ kd = 14 ∨ kd = 15 := by omega
  rcases hd' with rfl | rfl | rfl | rfl | rfl | rfl | rfl | rfl | rfl | rfl | rfl | rfl | rfl | rfl | rfl | rfl <;> simp [conto, up, h]
theorem memo_up {ar : Nat → ClassId} {base : Nat} {σ : Mem} {k i j : Nat} {v : Int32} {D : va_G} {H : Heap} {cl : List vw_C} {x : va_E} (hk : k < 16) (hi : i < adMN (owm k)) (he : x = conto ar base (up σ k i j v) (owm k) i)
    (hP : va_P D cl (wl base 16 (va_up (memo ar base σ) (adm (owm k) i) x)) H) : va_P D cl (wl base 16 (memo ar base (up σ k i j v))) H := by
  have hi0 : i = 0 := by unfold adMN at hi; omega
  subst hi0
  rw [wl_congr (M' := memo ar base (up σ k 0 j v))] at hP
  · exact hP
  · intro a ha
    by_cases h : a = k
    · subst h
      show va_up _ a x a = _
      rw [va_up_self, he]; rfl
    · show va_up _ k x a = _
      rw [va_up_ne _ _ h]
      exact (conto_ne hk h ha).symm
/-- the model's methods: what they are called with -/
def PO (S0 : State) (A0 : Array Value) (D : va_G) (ar : Nat → ClassId) (base : Nat) (σ : Mem) (av : List Value) : Array Value → State → Prop :=
  va_Pc av (fun U => At0 S0 A0 D ar U ∧ S0.heap.size ≤ base ∧ va_P D classes (wl base 16 (memo ar base σ)) U.heap)
theorem PO_blind {S0 : State} {A0 : Array Value} {D : va_G} {ar : Nat → ClassId} {base : Nat} {σ : Mem} {av : List Value} : FrameBlind (PO S0 A0 D ar base σ av) := by
  intro a U g mk h
  obtain ⟨h0, ⟨h1, h2, h3⟩, h4, h5⟩ := h
  exact ⟨h0, ⟨h1, h2, h3⟩, h4, h5⟩

/-- the end of a method that may change the class's block -/
def QO (D : va_G) (ar : Nat → ClassId) (base : Nat) (P : Nat → Option Int32 → Mem → Prop) : Array Value → State → Outcome → State → Prop := fun _ _ o t => ∃ k r σ', P k r σ' ∧ oR k r o t ∧ va_P D classes (wl base 16 (memo ar base σ')) t.heap

section MCX
variable {S0 : State} {A0 : Array Value} {D : va_G} {ar : Nat → ClassId} {base : Nat} {σ : Mem}
variable {p : Program} {l : Launch} {e : Env} {R : Room} {s : State} {m : MethodId} {args : Array Value} {below : List Frame} {meth : Method} {c : Code} {H : Heap} {locs : List Loc} {cells slots : Nat} {Q : State → Prop}
variable {own : String} {cc : ByteArray} {nL : Nat} {ret : Option FieldType} {pc : Nat} {ls : Array Slot} {rest : List Value}
/-- THE HEAD OF EVERY METHOD OF THE CLASS -/
theorem mx_head {y : MethodName} {av : List Value} {rm : Room} {Qc : Array Value → State → Outcome → State → Prop} {free : Addr → Prop} (hl : l.stackTraces = false) (hy : plainName y.cls = true) (hlen : (lg_sl av).length ≤ nL)
    (body : ∀ p e s m below meth c (ls : Array Slot), Cx S0 A0 D ar base p l s m av.toArray meth c y.cls cc nL ret → va_P D classes (wl base 16 (memo ar base σ)) s.heap → lv_has ls nL (lv_args 0 av) →
      W p l e rm s m av.toArray below meth c s.heap [] 0 0 (MQX below Qc av.toArray s rm.cells rm.slots free) (F0 m 0 ls [])) : MX l y [Cond.code y cc nL ret] rm (PO S0 A0 D ar base σ av) Qc free := by
  refine MX.ofW hy rfl ?_
  intro p e s m args below meth c s₁ B hml hno hv
  obtain ⟨rfl, h0, h1, h2⟩ := hv
  have hl9 := lv_entry av hlen
  rw [lg_entry_eq]
  exact body p e s m below meth c _ ⟨B.exec, B.bytes, B.returns, hml, findClass_of_methodNamed B.named, B.notSynchronized, hno, hl, h0, h1⟩ h2 hl9

theorem mq_get (C0 : Cx S0 A0 D ar base p l s m args meth c own cc nL ret) (hP : va_P D classes (wl base 16 (memo ar base σ)) H) {kd i ci index : Nat} {C : String} {T : u_T} {N : Nat} {fs : List Value} (hkd : kd < 16) (hi : i < adMN kd) (he : conto ar base σ kd i = .inr (ci, fs)) (hc : classes[ci]? = some (C, T, N)) (k : Nat) (hk : k < N) (hT : (T k).1 = C)
    (hlink : Cond.fieldLink own index C (T k).2.1 (T k).2.2.1 ∈ lw_tbl) {v : Value} (hv : fs[k]? = some v) (hdg : decode cc pc = .ok (.getfield index, 3))
    (kk : W p l e R s m args below meth c H locs cells slots Q (F0 m (pc + 3) ls (v :: rest))) : W p l e R s m args below meth c H locs cells slots Q (F0 m pc ls (.ref (base + adm kd i) :: rest)) := by
  obtain ⟨hx, hb, -, -, hown, -, -, -, h0, -⟩ := C0
  exact b_get hx hb (Ts := u_ws C T N) (fun w hw => h0.word (cls_in ci C T N hc w hw) (uws_good w hw)) (fun w hw => hw) hown h0.K hP (adm kd i) (adm_lt hkd hi) ((memo_at hkd hi).trans he) hc k hk (h0.word hlink rfl) (fun x hx => by rw [hT] at hx; exact hx) hv hdg kk

theorem mq_put (C0 : Cx S0 A0 D ar base p l s m args meth c own cc nL ret) (hP : va_P D classes (wl base 16 (memo ar base σ)) H) (hS : va_S (inB base 16) s.heap H locs) {kd i ci index : Nat} {C : String} {T : u_T} {N : Nat} {fs : List Value} (K j : Nat) (hK : K < 16) (hkd : owm K = kd) (hi : i < adMN kd) (he : conto ar base σ kd i = .inr (ci, fs)) (hc : classes[ci]? = some (C, T, N)) (ty0 : Nat → FieldType) (hty : ∀ k, k < N → parseFieldDescriptor (T k).2.2.1 = some (ty0 k)) (hnm : ∀ a, a < N → ∀ b, b < N → a ≠ b → (T a).2.1 ≠ (T b).2.1) (k : Nat) (hk : k < N) (hT : (T k).1 = C)
    (hlink : Cond.fieldLink own index C (T k).2.1 (T k).2.2.1 ∈ lw_tbl) (hfin : (T k).2.2.2 = false) (hd : parseFieldDescriptor (T k).2.2.1 = some .int) (hl : k < fs.length) {x : Int32} (he' : .inr (ci, fs.set k (.int x)) = conto ar base (up σ K i j x) kd i) (hdg : decode cc pc = .ok (.putfield index, 3))
    (kk : ∀ (H1 : Heap) (locs1 : List Loc), va_P D classes (wl base 16 (memo ar base (up σ K i j x))) H1 → va_S (inB base 16) s.heap H1 locs1 → W p l e R s m args below meth c H1 locs1 cells slots Q (F0 m (pc + 3) ls rest)) : W p l e R s m args below meth c H locs cells slots Q (F0 m pc ls (.int x :: .ref (base + adm kd i) :: rest)) := by
  obtain ⟨hx, hb, -, -, hown, -, -, -, h0, -⟩ := C0
  subst hkd
  have how : owm K < 16 := (by decide : ∀ k, k < 16 → owm k < 16) K hK
  exact b_put hx hb (Ts := u_ws C T N) (fun w hw => h0.word (cls_in ci C T N hc w hw) (uws_good w hw)) (fun w hw => hw) ty0 hty hnm hown h0.K hP inB_at hS (adm (owm K) i) (adm_lt how hi) ((memo_at how hi).trans he) hc k hk (h0.word hlink rfl) (fun x hx => by rw [hT] at hx; exact hx) hfin hd rfl rfl hl hdg (fun H1 locs1 h1 h2 => kk H1 locs1 (memo_up hK hi he' h1) h2)

theorem mq_iald (C0 : Cx S0 A0 D ar base p l s m args meth c own cc nL ret) (hP : va_P D classes (wl base 16 (memo ar base σ)) H) {kd i N : Nat} {f : Nat → Int32} (hkd : kd < 16) (hi : i < adMN kd) (he : conto ar base σ kd i = .inl (ar 0, N, .inl f)) {x : Int32} (hin : vp_in x N) (hdg : decode cc pc = .ok (.iaload, 1))
    (kk : W p l e R s m args below meth c H locs cells slots Q (F0 m (pc + 1) ls (.int (f x.toNatClampNeg) :: rest))) : W p l e R s m args below meth c H locs cells slots Q (F0 m pc ls (.int x :: .ref (base + adm kd i) :: rest)) := by
  obtain ⟨hx, hb, -, -, hown, -, -, -, h0, -⟩ := C0
  exact b_iald hx hb h0.K hP (adm kd i) 0 (adm_lt hkd hi) ((memo_at hkd hi).trans he) rfl hin hdg kk

theorem mq_zald (C0 : Cx S0 A0 D ar base p l s m args meth c own cc nL ret) (hP : va_P D classes (wl base 16 (memo ar base σ)) H) {kd i N : Nat} {f : Nat → Int32} (hkd : kd < 16) (hi : i < adMN kd) (he : conto ar base σ kd i = .inl (ar 2, N, .inl f)) {x : Int32} (hin : vp_in x N) (hdg : decode cc pc = .ok (.baload, 1))
    (kk : W p l e R s m args below meth c H locs cells slots Q (F0 m (pc + 1) ls (.int (f x.toNatClampNeg) :: rest))) : W p l e R s m args below meth c H locs cells slots Q (F0 m pc ls (.int x :: .ref (base + adm kd i) :: rest)) := by
  obtain ⟨hx, hb, -, -, hown, -, -, -, h0, -⟩ := C0
  exact b_zald hx hb h0.K hP (adm kd i) 2 (adm_lt hkd hi) ((memo_at hkd hi).trans he) rfl hin hdg kk

theorem mq_iast (C0 : Cx S0 A0 D ar base p l s m args meth c own cc nL ret) (hP : va_P D classes (wl base 16 (memo ar base σ)) H) (hS : va_S (inB base 16) s.heap H locs) {kd i N : Nat} {f : Nat → Int32} (K : Nat) (hK : K < 16) (hkd : owm K = kd) (hi : i < adMN kd) (he : conto ar base σ kd i = .inl (ar 0, N, .inl f)) {x v : Int32} (hin : vp_in x N) (he' : .inl (ar 0, N, .inl (upd f x.toNatClampNeg v)) = conto ar base (up σ K i x.toNatClampNeg v) kd i) (hdg : decode cc pc = .ok (.iastore, 1))
    (kk : ∀ (H1 : Heap) (locs1 : List Loc), va_P D classes (wl base 16 (memo ar base (up σ K i x.toNatClampNeg v))) H1 → va_S (inB base 16) s.heap H1 locs1 → W p l e R s m args below meth c H1 locs1 cells slots Q (F0 m (pc + 1) ls rest)) : W p l e R s m args below meth c H locs cells slots Q (F0 m pc ls (.int v :: .int x :: .ref (base + adm kd i) :: rest)) := by
  obtain ⟨hx, hb, -, -, hown, -, -, -, h0, -⟩ := C0
  subst hkd
  have how : owm K < 16 := (by decide : ∀ k, k < 16 → owm k < 16) K hK
  exact b_iast hx hb h0.K hP inB_at hS (adm (owm K) i) 0 (adm_lt how hi) ((memo_at how hi).trans he) rfl hin hdg (fun H1 locs1 h1 h2 => kk H1 locs1 (memo_up hK hi he' h1) h2)

theorem mq_zast (C0 : Cx S0 A0 D ar base p l s m args meth c own cc nL ret) (hP : va_P D classes (wl base 16 (memo ar base σ)) H) (hS : va_S (inB base 16) s.heap H locs) {kd i N : Nat} {f : Nat → Int32} (K : Nat) (hK : K < 16) (hkd : owm K = kd) (hi : i < adMN kd) (he : conto ar base σ kd i = .inl (ar 2, N, .inl f)) {x v : Int32} (hin : vp_in x N) (he' : .inl (ar 2, N, .inl (upd f x.toNatClampNeg (vp_nar .boolean v))) = conto ar base (up σ K i x.toNatClampNeg (vp_nar .boolean v)) kd i) (hdg : decode cc pc = .ok (.bastore, 1))
    (kk : ∀ (H1 : Heap) (locs1 : List Loc), va_P D classes (wl base 16 (memo ar base (up σ K i x.toNatClampNeg (vp_nar .boolean v)))) H1 → va_S (inB base 16) s.heap H1 locs1 → W p l e R s m args below meth c H1 locs1 cells slots Q (F0 m (pc + 1) ls rest)) : W p l e R s m args below meth c H locs cells slots Q (F0 m pc ls (.int v :: .int x :: .ref (base + adm kd i) :: rest)) := by
  obtain ⟨hx, hb, -, -, hown, -, -, -, h0, -⟩ := C0
  subst hkd
  have how : owm K < 16 := (by decide : ∀ k, k < 16 → owm k < 16) K hK
  exact b_zast hx hb h0.K hP inB_at hS (adm (owm K) i) 2 (adm_lt how hi) ((memo_at how hi).trans he) rfl hin hdg (fun H1 locs1 h1 h2 => kk H1 locs1 (memo_up hK hi he' h1) h2)

end MCX
section MCS
variable {S0 : State} {A0 : Array Value} {D : va_G} {ar : Nat → ClassId} {base : Nat} {σ : Mem}
variable {p : Program} {l : Launch} {e : Env} {R : Room} {s : State} {m : MethodId} {args : Array Value} {below : List Frame} {meth : Method} {c : Code} {H : Heap} {locs : List Loc} {cells slots : Nat} {Q : State → Prop}
variable {own : String} {cc : ByteArray} {nL : Nat} {ret : Option FieldType} {pc index : Nat} {ls : Array Slot} {rest As st0 av : List Value} {y : MethodName} {bytes : ByteArray} {maxL : Nat} {rt : Option FieldType} {rm : Room}

theorem ms_V (C0 : Cx S0 A0 D ar base p l s m args meth c own cc nL ret) (hP : va_P D classes (wl base 16 (memo ar base σ)) H) {kd i ci : Nat} {C : String} {T : u_T} {N : Nat} {fs : List Value} (hkd : kd < 16) (hi : i < adMN kd) (he : conto ar base σ kd i = .inr (ci, fs)) (hc : classes[ci]? = some (C, T, N))
    (hml : Cond.methodLink own index y ∈ lw_tbl) (him : Cond.instanceMethod y ∈ lw_tbl) (hsl : Cond.selects C y y ∈ lw_tbl) (hcd : Cond.code y bytes maxL rt ∈ lw_tbl) (hin : Cond.initialized y.cls ∈ lw_tbl)
    (hd : y.cls ≠ "java/lang/invoke/MethodHandle" ∧ y.cls ≠ "java/lang/invoke/VarHandle" ∧ (parseMethodDescriptor y.desc).map (fun d => d.parameters.length) = some As.length) (hst : st0 = As.reverse ++ .ref (base + adm kd i) :: rest) (hdg : decode cc pc = .ok (.invokevirtual index, 3)) :
    x_In p l e R s m args below meth c H locs cells slots (F0 m pc ls st0) rest y (Value.ref (base + adm kd i) :: As).toArray ∧ x_Ok s y [Cond.code y bytes maxL rt] maxL := by
  obtain ⟨hx, hb, -, -, hown, -, -, -, h0, -⟩ := C0
  exact ⟨x_inV (C := C) hx hb hown (h0.word hml rfl) (h0.word him rfl) (h0.word hsl rfl) hd (h0.word hcd rfl) (va_recv h0.K hP (ci := ci) (q0   := adm kd i) hc (by rw [wl_get (adm_lt hkd hi), (memo_at hkd hi).trans he])) hst hdg, x_ok1 (args := args) (h0.word hcd rfl) (h0.word hin rfl)⟩

theorem ms_P {P : Nat → Option Int32 → Prop} {ig : Instr} (C0 : Cx S0 A0 D ar base p l s m args meth c own cc nL ret) (hP : va_P D classes (wl base 16 (memo ar base σ)) H) (hS : va_S (inB base 16) s.heap H locs)
    (hcall : x_In p l e R s m args below meth c H locs cells slots (F0 m pc ls st0) rest y av.toArray ∧ x_Ok s y [Cond.code y bytes maxL rt] maxL) (hM : MX l y [Cond.code y bytes maxL rt] rm (PO S0 A0 D ar base σ av) (QP P) (fun _ => False))
    (hsize : ls.size = nL) (hdg : decode cc pc = .ok (ig, 3)) (hW : (rest.map fun v => v.category).sum ≤ 8) (hR : rm.frames + 1 ≤ R.frames ∧ 8 + (maxL + 11) + rm.locals ≤ R.locals) (hf : cells + rm.cells ≤ R.cells ∧ slots + rm.slots ≤ R.slots)
    (kt : ∀ (k : Nat) (r : Option Int32) (x : Addr) (t : State), k ≠ 0 → P k r → x_is (exN k) x t → s.vm.Alike t.vm → x_Keep (fun _ => False) H t.heap → WT p l e R s m args below meth c t.heap locs (cells + rm.cells) (slots + rm.slots) Q (F0 m pc ls rest) x)
    (kr : ∀ r : Option Int32, P 0 r → W p l e R s m args below meth c H locs cells slots Q (F0 m (pc + 3) ls ((r.map Value.int).toList ++ rest))) : W p l e R s m args below meth c H locs cells slots Q (F0 m pc ls st0) := by
  obtain ⟨hx, hb, hr, hml, hown, hlk, hno, hl, h0, hbase⟩ := C0
  refine x_callR hcall.1 hcall.2 hM PO_blind hml hsize hb hdg hW hR hf (fun U hU hWU => ⟨rfl, h0.warm hWU (locs := locs) (by rw [hU]; exact hS) (inB_old hbase), hbase, by rw [hU]; exact hP⟩) ?_ ?_ ?_
  · intro v st₀ t _ hq
    obtain ⟨k, r, hp, ho, hh⟩ := hq
    exact hh (oR_ret ho).1
  · intro v st₀ t _ _ hq
    obtain ⟨k, r, hp, ho, hh⟩ := hq
    obtain ⟨rfl, rfl⟩ := oR_ret ho
    exact kr r hp
  · intro x st₀ t L _ hv hq hkp hL
    obtain ⟨k, r, hp, ho, -⟩ := hq
    obtain ⟨hk, hxx⟩ := oR_thr ho
    have hL0 : L = [] := by
      cases L with
      | nil => rfl
      | cons a b => exact (hL a List.mem_cons_self).elim
    subst hL0
    rw [List.append_nil]
    exact kt k r x t hk hp hxx hv hkp

theorem mth_I {P' : Nat → Option Int32 → Mem → Prop} {k mc ms : Nat} {x : Addr} {t : State} (C0 : Cx S0 A0 D ar base p l s m args meth c own cc nL ret) (hP : va_P D classes (wl base 16 (memo ar base σ)) H) (hS : va_S (inB base 16) s.heap H locs) (hk : k ≠ 0) (hx : x_is (exN k) x t) (hv : s.vm.Alike t.vm) (hkp : x_Keep (fun _ => False) H t.heap) (hp : P' k none σ) (h1 : cells ≤ mc) (h2 : slots ≤ ms) :
    WT p l e R s m args below meth c t.heap locs cells slots (MQX below (QO D ar base P') args s mc ms (inB base 16)) (F0 m pc ls rest) x := by
  obtain ⟨-, -, -, -, -, hlk, hno, -, -, -⟩ := C0
  refine WT.widen h1 h2 (WT.leave hno hlk (fun t' ht hW => ⟨k, none, σ, hp, ?_, ?_⟩) hS.2.2)
  · unfold oR
    rw [if_neg hk]
    exact ⟨x, rfl, hx.to ht (hv.symm.trans hW.alike)⟩
  · rw [ht]
    exact wl_kept hP (fun q _ h4 => hkp.2 q (by have := wl_lt hP (k := q - base) (by omega); omega) id)

theorem ms_PI {P : Nat → Option Int32 → Prop} {P' : Nat → Option Int32 → Mem → Prop} {ig : Instr} (C0 : Cx S0 A0 D ar base p l s m args meth c own cc nL ret) (hP : va_P D classes (wl base 16 (memo ar base σ)) H) (hS : va_S (inB base 16) s.heap H locs)
    (hcall : x_In p l e R s m args below meth c H locs cells slots (F0 m pc ls st0) rest y av.toArray ∧ x_Ok s y [Cond.code y bytes maxL rt] maxL) (hM : MX l y [Cond.code y bytes maxL rt] rm (PO S0 A0 D ar base σ av) (QP P) (fun _ => False))
    (hsize : ls.size = nL) (hdg : decode cc pc = .ok (ig, 3)) (hW : (rest.map fun v => v.category).sum ≤ 8) (hR : rm.frames + 1 ≤ R.frames ∧ 8 + (maxL + 11) + rm.locals ≤ R.locals) (hf : cells + rm.cells ≤ R.cells ∧ slots + rm.slots ≤ R.slots)
    (kt : ∀ (k : Nat) (r : Option Int32), k ≠ 0 → P k r → P' k none σ)
    (kr : ∀ r : Option Int32, P 0 r → W p l e R s m args below meth c H locs cells slots (MQX below (QO D ar base P') args s R.cells R.slots (inB base 16)) (F0 m (pc + 3) ls ((r.map Value.int).toList ++ rest))) :
    W p l e R s m args below meth c H locs cells slots (MQX below (QO D ar base P') args s R.cells R.slots (inB base 16)) (F0 m pc ls st0) :=
  ms_P C0 hP hS hcall hM hsize hdg hW hR hf (fun k r x t hk hp hx hv hkp => mth_I C0 hP hS hk hx hv hkp (kt k r hk hp) hf.1 hf.2) kr

theorem ms_PP {P P' : Nat → Option Int32 → Prop} {ig : Instr} (C0 : Cx S0 A0 D ar base p l s m args meth c own cc nL ret) (hP : va_P D classes (wl base 16 (memo ar base σ)) s.heap)
    (hcall : x_In p l e R s m args below meth c s.heap [] cells slots (F0 m pc ls st0) rest y av.toArray ∧ x_Ok s y [Cond.code y bytes maxL rt] maxL) (hM : MX l y [Cond.code y bytes maxL rt] rm (PO S0 A0 D ar base σ av) (QP P) (fun _ => False))
    (hsize : ls.size = nL) (hdg : decode cc pc = .ok (ig, 3)) (hW : (rest.map fun v => v.category).sum ≤ 8) (hR : rm.frames + 1 ≤ R.frames ∧ 8 + (maxL + 11) + rm.locals ≤ R.locals) (hf : cells + rm.cells ≤ R.cells ∧ slots + rm.slots ≤ R.slots)
    (kt : ∀ (k : Nat) (r : Option Int32), k ≠ 0 → P k r → P' k none)
    (kr : ∀ r : Option Int32, P 0 r → W p l e R s m args below meth c s.heap [] cells slots (MQX below (QP P') args s R.cells R.slots (fun _ => False)) (F0 m (pc + 3) ls ((r.map Value.int).toList ++ rest))) :
    W p l e R s m args below meth c s.heap [] cells slots (MQX below (QP P') args s R.cells R.slots (fun _ => False)) (F0 m pc ls st0) :=
  ms_P C0 hP va_S.rf hcall hM hsize hdg hW hR hf (fun k r x t hk hp hx hv hkp => th_P C0 hk hx hv (kt k r hk hp) hf.1 hf.2) kr

theorem ms_I {P : Nat → Option Int32 → Mem → Prop} {ig : Instr} (C0 : Cx S0 A0 D ar base p l s m args meth c own cc nL ret) (hP : va_P D classes (wl base 16 (memo ar base σ)) H) (hS : va_S (inB base 16) s.heap H locs)
    (hcall : x_In p l e R s m args below meth c H locs cells slots (F0 m pc ls st0) rest y av.toArray ∧ x_Ok s y [Cond.code y bytes maxL rt] maxL) (hM : MX l y [Cond.code y bytes maxL rt] rm (PO S0 A0 D ar base σ av) (QO D ar base P) (inB base 16))
    (hno : ∀ k r σ', P k r σ' → k = 0) (hz : rm.cells = 0 ∧ rm.slots = 0)
    (hsize : ls.size = nL) (hdg : decode cc pc = .ok (ig, 3)) (hW : (rest.map fun v => v.category).sum ≤ 8) (hR : rm.frames + 1 ≤ R.frames ∧ 8 + (maxL + 11) + rm.locals ≤ R.locals) (hf : cells ≤ R.cells ∧ slots ≤ R.slots)
    (kr : ∀ (r : Option Int32) (σ' : Mem) (H1 : Heap) (locs1 : List Loc), P 0 r σ' → va_P D classes (wl base 16 (memo ar base σ')) H1 → va_S (inB base 16) s.heap H1 locs1 → W p l e R s m args below meth c H1 locs1 cells slots Q (F0 m (pc + 3) ls ((r.map Value.int).toList ++ rest))) : W p l e R s m args below meth c H locs cells slots Q (F0 m pc ls st0) := by
  obtain ⟨hx, hb, hr, hml, hown, hlk, hn0, hl, h0, hbase⟩ := C0
  refine x_call hcall.1 hcall.2 hM PO_blind hml hsize hb hdg hW hR ⟨by rw [hz.1]; exact hf.1, by rw [hz.2]; exact hf.2⟩ (fun U hU hWU => ⟨rfl, h0.warm hWU (locs := locs) (by rw [hU]; exact hS) (inB_old hbase), hbase, by rw [hU]; exact hP⟩) ?_ ?_
  · intro v st₀ t L _ _ hq hkp hL
    obtain ⟨k, r, σ', hp, ho, hh⟩ := hq
    obtain ⟨rfl, rfl⟩ := oR_ret ho
    rw [hz.1, hz.2]
    exact kr r σ' t.heap _ hp hh (hkp.S hS (fun q h => h) hL)
  · intro x st₀ t L _ _ hq _ _
    obtain ⟨k, r, σ', hp, ho, hh⟩ := hq
    exact absurd (hno k r σ' hp) (oR_thr ho).1
-- returns

theorem mrI_i {P : Nat → Option Int32 → Mem → Prop} {v : Int32} (C0 : Cx S0 A0 D ar base p l s m args meth c own cc nL (some .int)) (hP : va_P D classes (wl base 16 (memo ar base σ)) H) (hS : va_S (inB base 16) s.heap H locs) (hc : cells ≤ R.cells ∧ slots ≤ R.slots) (hp : P 0 (some v) σ) (hdg : decode cc pc = .ok (.ireturn, 1)) :
    W p l e R s m args below meth c H locs cells slots (MQX below (QO D ar base P) args s R.cells R.slots (inB base 16)) (F0 m pc ls [.int v]) := by
  obtain ⟨hx, hb, hr, -, -, hlk, -, -, -, -⟩ := C0
  exact W.widen hc.1 hc.2 (x_iret hx hb hr hlk (fun t ht _ => ⟨0, some v, σ, hp, rfl, by rw [ht]; exact hP⟩) hS.2.2 hdg)

theorem mrI_z {P : Nat → Option Int32 → Mem → Prop} {v : Int32} (C0 : Cx S0 A0 D ar base p l s m args meth c own cc nL (some .boolean)) (hP : va_P D classes (wl base 16 (memo ar base σ)) H) (hS : va_S (inB base 16) s.heap H locs) (hc : cells ≤ R.cells ∧ slots ≤ R.slots) (hn : v = 0 ∨ v = 1) (hp : P 0 (some v) σ) (hdg : decode cc pc = .ok (.ireturn, 1)) :
    W p l e R s m args below meth c H locs cells slots (MQX below (QO D ar base P) args s R.cells R.slots (inB base 16)) (F0 m pc ls [.int v]) := by
  obtain ⟨hx, hb, hr, -, -, hlk, -, -, -, -⟩ := C0
  exact W.widen hc.1 hc.2 (x_zret hx hb hr hlk (by rcases hn with rfl | rfl <;> rfl) (fun t ht _ => ⟨0, some v, σ, hp, rfl, by rw [ht]; exact hP⟩) hS.2.2 hdg)

theorem mrI_v {P : Nat → Option Int32 → Mem → Prop} (C0 : Cx S0 A0 D ar base p l s m args meth c own cc nL none) (hP : va_P D classes (wl base 16 (memo ar base σ)) H) (hS : va_S (inB base 16) s.heap H locs) (hc : cells ≤ R.cells ∧ slots ≤ R.slots) (hp : P 0 none σ) (hdg : decode cc pc = .ok (.return_, 1)) :
    W p l e R s m args below meth c H locs cells slots (MQX below (QO D ar base P) args s R.cells R.slots (inB base 16)) (F0 m pc ls []) := by
  obtain ⟨hx, hb, hr, -, -, hlk, -, -, -, -⟩ := C0
  exact W.widen hc.1 hc.2 (x_vret hx hb hr hlk (fun t ht _ => ⟨0, none, σ, hp, rfl, by rw [ht]; exact hP⟩) hS.2.2 hdg)

end MCS
