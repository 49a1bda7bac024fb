/-! The law's wrappers: their rows: laid by gen/m60.py. -/
def oE (ar : Nat → ClassId) (v : Int64) : Nat → va_E := fun _ => .inl (ar 6, 1, .inr (.inl (fun _ => v)))
def wF (base ob : Nat) : Nat → Prop := fun q => inB base 122 q ∨ q = ob
def PW (S0 : State) (A0 : Array Value) (D : va_G) (ar : Nat → ClassId) (base ob : Nat) (σ : Mem) (v : Int64) (av : List Value) : Array Value → State → Prop :=
  va_Pc av (fun U => At0 S0 A0 D ar U ∧ S0.heap.size ≤ base ∧ va_P D classes (wl base 122 (mem ar base σ)) U.heap ∧ va_P D classes (wl ob 1 (oE ar v)) U.heap)
theorem PW_blind {S0 : State} {A0 : Array Value} {D : va_G} {ar : Nat → ClassId} {base ob : Nat} {σ : Mem} {v : Int64} {av : List Value} : FrameBlind (PW S0 A0 D ar base ob σ v av) := by
  intro a U g mk h
  obtain ⟨h0, ⟨h1, h2, h3, h6⟩, h4, h5⟩ := h
  exact ⟨h0, ⟨h1, h2, h3, h6⟩, h4, h5⟩
/-- the end of a wrapper: P: its answer, the class's memory, what out holds -/
def QWr (D : va_G) (ar : Nat → ClassId) (base ob : Nat) (P : Int32 → Mem → Int64 → Prop) : Array Value → State → Outcome → State → Prop := fun _ _ o t => ∃ w σ' v', P w σ' v' ∧ o = .returned (some (.int w)) ∧ va_P D classes (wl base 122 (mem ar base σ')) t.heap ∧ va_P D classes (wl ob 1 (oE ar v')) t.heap
abbrev tab4 (x : ExceptionTableEntry) : Nat × Nat × Nat × Nat := (x.startPc, x.endPc, x.handlerPc, x.catchType)
theorem w2_get {base ob k : Nat} {M O : Nat → va_E} : (wl base 122 M ++ wl ob 1 O)[k]? = if k < 122 then some (base + k, M k) else if k = 122 then some (ob, O 0) else none := by
  by_cases h : k < 122
  · rw [if_pos h, List.getElem?_append_left (by rw [wl_len]; exact h), wl_get h]
  · rw [if_neg h, List.getElem?_append_right (by rw [wl_len]; omega), wl_len]
    by_cases h2 : k = 122
    · subst h2; rw [if_pos rfl]; exact wl_get (by omega)
    · rw [if_neg h2, wl_none (by omega)]
theorem w2_D {base ob : Nat} {M O : Nat → va_E} (hob : base + 122 ≤ ob) : va_D (wF base ob) (wl base 122 M ++ wl ob 1 O) := by
  have hc : ∀ (k : Nat) (q : Nat × va_E), (wl base 122 M ++ wl ob 1 O)[k]? = some q → (k < 122 ∧ q.1 = base + k) ∨ (k = 122 ∧ q.1 = ob) := by
    intro k q hk
    rw [w2_get] at hk
    split at hk
    · rename_i h; cases hk; exact Or.inl ⟨h, rfl⟩
    · split at hk
      · rename_i h; cases hk; exact Or.inr ⟨h, rfl⟩
      · cases hk
  refine ⟨fun i j p q hi hj hpq => ?_, fun k q hk => ?_⟩
  · rcases hc i p hi with ⟨a1, a2⟩ | ⟨a1, a2⟩ <;> rcases hc j q hj with ⟨b1, b2⟩ | ⟨b1, b2⟩ <;> omega
  · rcases hc k q hk with ⟨a1, a2⟩ | ⟨a1, a2⟩
    · rw [a2]; exact Or.inl ⟨by omega, by omega⟩
    · exact Or.inr a2
theorem oE_at {D : va_G} {ar : Nat → ClassId} {ob : Nat} {x : Int64} {f : Nat → Int64} {H : Heap} (h : va_at D classes (ob, .inl (ar 6, 1, .inr (.inl (vp_updL f 0 x)))) H) : va_at D classes (ob + 0, oE ar x 0) H := by
  have h1 : H[ob]? = some (vp_cell (ar 6) (1, .inr (.inl (vp_updL f 0 x)))) := h
  show H[ob]? = some (vp_cell (ar 6) (1, .inr (.inl (fun _ => x))))
  rw [h1]
  show some (arrV (ar 6) 1 (fun j => .long (vp_updL f 0 x j))) = some (arrV (ar 6) 1 (fun _ => .long x))
  exact congrArg some (arrV_congr (fun j hj => by rw [show j = 0 from by omega]; rfl))
section WR
variable {S0 : State} {A0 : Array Value} {D : va_G} {ar : Nat → ClassId} {base ob : Nat} {σ : Mem} {v : Int64}
variable {p : Program} {l : Launch} {e : Env} {R : Room} {s : State} {m : MethodId} {args : Array Value} {below : List Frame} {meth : Method} {c : Code} {H : Heap} {locs : List Loc} {cells slots : Nat} {Q : State → Prop}
variable {own : String} {cc : ByteArray} {nL : Nat} {ret : Option FieldType} {pc index : Nat} {ls : Array Slot} {rest As st0 : List Value} {y : MethodName} {bytes : ByteArray} {maxL : Nat} {rt : Option FieldType} {rm : Room}
/-- inside a wrapper -/
def Cw (S0 : State) (A0 : Array Value) (D : va_G) (ar : Nat → ClassId) (base ob : Nat) (p : Program) (s : State) (m : MethodId) (meth : Method) (c : Code) (cc : ByteArray) (nL : Nat) (ret : Option FieldType) (hh : List (Nat × Nat × Nat × Nat)) : Prop :=
  p.tables.exec = Jvm.exec ∧ c.code = cc ∧ meth.sig.returnType = ret ∧ c.maxLocals = nL ∧ s.vm.findClass R_La = some m.cls ∧ meth.locks = false ∧ c.exceptionTable.toList.map tab4 = hh ∧ At0 S0 A0 D ar s ∧ S0.heap.size ≤ base ∧ base + 122 ≤ ob
theorem w_head {av : List Value} {Qc : Array Value → State → Outcome → State → Prop} {free : Addr → Prop} {hh : List (Nat × Nat × Nat × Nat)} (hob : base + 122 ≤ ob) (hyc : y.cls = R_La) (hlen : (lg_sl av).length ≤ nL)
    (body : ∀ p e s m below meth c (ls : Array Slot), Cw S0 A0 D ar base ob p s m meth c cc nL ret hh → va_P D classes (wl base 122 (mem ar base σ)) s.heap → va_P D classes (wl ob 1 (oE ar v)) s.heap → lv_has ls nL (lv_args 0 av) →
      W p l e rm s m av.toArray below meth c s.heap [] 0 0 (MQX below Qc av.toArray s rm.cells rm.slots free) (F0 m 0 ls [])) : MX l y [Cond.codeWith y cc nL ret hh] rm (PW S0 A0 D ar base ob σ v av) Qc free := by
  refine MX.ofWh (by rw [hyc]; decide +kernel) rfl ?_
  intro p e s m args below meth c s₁ B hml hno hv
  obtain ⟨rfl, h0, h1, h2, h3⟩ := hv
  have hl9 := lv_entry av hlen
  rw [lg_entry_eq]
  exact body p e s m below meth c _ ⟨B.exec, B.bytes, B.returns, hml, by rw [← hyc]; exact findClass_of_methodNamed B.named, B.notSynchronized, hno, h0, h1, hob⟩ h2 h3 hl9
theorem w_call {P : Nat → Option Int32 → Mem → Prop} {hh : List (Nat × Nat × Nat × Nat)} (C0 : Cw S0 A0 D ar base ob p s m meth c cc nL ret hh) (hP : va_P D classes (wl base 122 (mem ar base σ)) s.heap) (hO : va_P D classes (wl ob 1 (oE ar v)) s.heap)
    (hml0 : Cond.methodLink R_La index y ∈ lw_tbl) (him : Cond.instanceMethod y ∈ lw_tbl) (hsl : Cond.selects R_Sy y y ∈ lw_tbl) (hcd : Cond.code y bytes maxL rt ∈ lw_tbl) (hin : Cond.initialized y.cls ∈ lw_tbl)
    (hd : y.cls ≠ "java/lang/invoke/MethodHandle" ∧ y.cls ≠ "java/lang/invoke/VarHandle" ∧ (parseMethodDescriptor y.desc).map (fun d => d.parameters.length) = some As.length) (hst : st0 = As.reverse ++ .ref (base + ad 0 0) :: rest) (hdg : decode cc pc = .ok (.invokevirtual index, 3))
    (hM : MX l y [Cond.code y bytes maxL rt] rm (PS S0 A0 D ar base σ (.ref (base + ad 0 0) :: As)) (QI D ar base P) (inB base 122)) (hsize : ls.size = nL) (hW : (rest.map fun v => v.category).sum ≤ 8) (hR : rm.frames + 1 ≤ R.frames ∧ 8 + (maxL + 11) + rm.locals ≤ R.locals) (hf : rm.cells ≤ R.cells ∧ rm.slots ≤ R.slots)
    (kr : ∀ (r : Option Int32) (σ' : Mem) (H1 : Heap) (locs1 : List Loc), P 0 r σ' → va_P D classes (wl base 122 (mem ar base σ')) H1 → va_P D classes (wl ob 1 (oE ar v)) H1 → va_S (wF base ob) s.heap H1 locs1 → W p l e R s m args below meth c H1 locs1 rm.cells rm.slots Q (F0 m (pc + 3) ls ((r.map Value.int).toList ++ rest)))
    (kt : ∀ (k : Nat) (r : Option Int32) (σ' : Mem) (x : Addr) (H1 : Heap) (locs1 : List Loc), k ≠ 0 → P k r σ' → (∃ cell : Cell, H1[x]? = some cell ∧ cell.vm = .none ∧ s.vm.findClass (exN k) = some cell.cls) → va_P D classes (wl base 122 (mem ar base σ')) H1 → va_P D classes (wl ob 1 (oE ar v)) H1 → va_S (wF base ob) s.heap H1 locs1 → WT p l e R s m args below meth c H1 locs1 rm.cells rm.slots Q (F0 m pc ls rest) x) :
    W p l e R s m args below meth c s.heap [] 0 0 Q (F0 m pc ls st0) := by
  obtain ⟨hx, hb, hr, hml, hown, hlk, htab, h0, hbase, hob⟩ := C0
  have hoK : ∀ t : State, x_Keep (inB base 122) s.heap t.heap → va_P D classes (wl ob 1 (oE ar v)) t.heap := fun t hk => wl_kept hO (fun q g1 g2 => hk.2 q (by have := wl_lt hO (k := 0) (by omega); omega) (fun z => by have := z.2; omega))
  refine x_call (x_inV (C := R_Sy) (b := base + ad 0 0) hx hb hown (h0.word hml0 rfl) (h0.word him rfl) (h0.word hsl rfl) hd (h0.word hcd rfl) (va_recv h0.K hP (ci := 0) (q0 := ad 0 0) rfl (by rw [wl_get (by decide)]; rfl)) hst hdg) (x_ok1 (args := args) (h0.word hcd rfl) (h0.word hin rfl)) hM PS_blind hml hsize hb hdg hW hR (by rw [Nat.zero_add, Nat.zero_add]; exact hf)
    (fun U hU hWU => ⟨rfl, h0.warm hWU (locs := []) (A := inB base 122) (by rw [hU]; exact va_S.rf) (inB_old hbase), hbase, by rw [hU]; exact hP⟩) ?_ ?_
  · intro v' st₀ t L _ _ hq hkp hL
    obtain ⟨k, r, σ', hp, ho, hh9⟩ := hq
    obtain ⟨rfl, rfl⟩ := oR_ret ho
    rw [Nat.zero_add, Nat.zero_add]
    exact kr r σ' t.heap _ hp hh9 (hoK t hkp) (hkp.S va_S.rf (fun q h => Or.inl h) hL)
  · intro x st₀ t L _ hv hq hkp hL
    obtain ⟨k, r, σ', hp, ho, hh9⟩ := hq
    obtain ⟨hk, cell, g1, g2, g3⟩ := oR_thr ho
    rw [Nat.zero_add, Nat.zero_add]
    exact kt k r σ' x t.heap _ hk hp ⟨cell, g1, g2, by rw [← hv.findClass]; exact g3⟩ hh9 (hoK t hkp) (hkp.S va_S.rf (fun q h => Or.inl h) hL)
theorem w_catch {hh pre' suf' : List (Nat × Nat × Nat × Nat)} {E : String} {q : Addr} {a b h ct : Nat} (C0 : Cw S0 A0 D ar base ob p s m meth c cc nL ret hh) (hhe : hh = pre' ++ (a, b, h, ct) :: suf')
    (hpre : ∀ z ∈ pre', z.2.2.2 ≠ 0 ∧ ∃ nm : String, Cond.classLink R_La z.2.2.2 nm ∈ lw_tbl ∧ Cond.not (.castable E nm) ∈ flatC (Jvm.Cond.and given_1 narrow_1)) (hcov : a ≤ pc ∧ pc < b) (hct : ct ≠ 0) (hlink : Cond.classLink R_La ct E ∈ lw_tbl) (hcast : Cond.castable E E ∈ lw_tbl)
    (hcell : ∃ cell : Cell, H[q]? = some cell ∧ cell.vm = .none ∧ s.vm.findClass E = some cell.cls) (kk : W p l e R s m args below meth c H locs cells slots Q (F0 m h ls [.ref q])) : WT p l e R s m args below meth c H locs cells slots Q (F0 m pc ls rest) q := by
  obtain ⟨hx, hb, hr, hml, hown, hlk, htab, h0, hbase, hob⟩ := C0
  rw [hhe] at htab
  obtain ⟨pre, tl, h1, h2, h3⟩ := List.map_eq_append_iff.mp htab
  obtain ⟨x, suf, h4, h5, h6⟩ := List.map_eq_cons_iff.mp h3
  subst h4
  obtain ⟨cell, g1, g2, g3⟩ := hcell
  have e1 : x.startPc = a := congrArg (·.1) h5
  have e2 : x.endPc = b := congrArg (·.2.1) h5
  have e3 : x.handlerPc = h := congrArg (·.2.2.1) h5
  have e4 : x.catchType = ct := congrArg (·.2.2.2) h5
  refine vx_catch (own := R_La) (name := E) (E := E) (ce := cell) hown pre x suf h1 (fun z hz => Or.inr ?_) ?_ (by rw [e4]; exact hct) (by rw [e4]; exact h0.word hlink rfl) (castable_at h0.2.1.alike (h0.1.1 _ hcast)) g1 g2 g3 (by rw [e3]; exact kk)
  · have hz' : tab4 z ∈ pre' := by rw [← h2]; exact List.mem_map_of_mem hz
    obtain ⟨n1, nm, n2, n3⟩ := hpre _ hz'
    exact ⟨n1, nm, h0.word n2 rfl, va_Nc.moved h0.2.1.alike (va_Nc.of (flat_of_before _ h0.1.2.2 _ n3))⟩
  · show covers x pc = true
    simp [covers, e1, e2, hcov.1, hcov.2]
theorem w_last {hh : List (Nat × Nat × Nat × Nat)} {x : Int64} (C0 : Cw S0 A0 D ar base ob p s m meth c cc nL ret hh) (hP : va_P D classes (wl base 122 (mem ar base σ)) H) (hO : va_P D classes (wl ob 1 (oE ar v)) H) (hS : va_S (wF base ob) s.heap H locs) (hdg : decode cc pc = .ok (.lastore, 1))
    (kk : ∀ (H1 : Heap) (locs1 : List Loc), va_P D classes (wl base 122 (mem ar base σ)) H1 → va_P D classes (wl ob 1 (oE ar x)) H1 → va_S (wF base ob) s.heap H1 locs1 → W p l e R s m args below meth c H1 locs1 cells slots Q (F0 m (pc + 1) ls rest)) : W p l e R s m args below meth c H locs cells slots Q (F0 m pc ls (.long x :: .int 0 :: .ref ob :: rest)) := by
  obtain ⟨hx, hb, hr, hml, hown, hlk, htab, h0, hbase, hob⟩ := C0
  have hws : va_P D classes (wl base 122 (mem ar base σ) ++ wl ob 1 (oE ar v)) H := va_P.app hP hO
  refine va_last hx hb h0.K hws (A := wF base ob) (w2_D hob) hS 122 6 (a := ob) (cA := ar 6) (n := 1) (f := fun _ => v) (by rw [w2_get, if_neg (by omega), if_pos rfl]; rfl) rfl (i := 0) (by unfold vp_in; decide) hdg (fun H1 locs1 h1 _ h3 => ?_)
  refine kk H1 locs1 (fun k q hk => ?_) (fun k q hk => ?_) h3
  · obtain ⟨hk1, rfl⟩ := wl_some hk
    exact h1 k _ (by rw [List.getElem?_set_ne (by omega), w2_get, if_pos hk1])
  · obtain ⟨hk1, rfl⟩ := wl_some hk
    have hk0 : k = 0 := by omega
    subst hk0
    refine (show vp_updL (fun _ => v) (0 : Int32).toNatClampNeg x 0 = x from rfl) ▸ ?_
    have h9 := h1 122 _ (List.getElem?_set_self (by simp [wl_len]))
    exact oE_at h9
end WR

