/-! The law calls a wrapper, and the model: laid by gen/m82.py. -/
section LC
variable {S0 : State} {A0 : Array Value} {D : va_G} {ar : Nat → ClassId} {base : Nat} {σ τ : Mem} {v : Int64}
variable {p : Program} {l : Launch} {e : Env} {R : Room} {s : State} {m : MethodId} {args : Array Value} {below : List Frame} {meth : Method} {c : Code} {H : Heap} {locs : List Loc} {cells slots : Nat} {Q : State → Prop}
variable {cc : ByteArray} {nL : Nat} {pc index : Nat} {ls : Array Slot} {rest As st0 : List Value} {y : MethodName} {bytes : ByteArray} {maxL : Nat} {rt : Option FieldType} {rm : Room}
/-- inside the law's method -/
def Cl (S0 : State) (A0 : Array Value) (D : va_G) (ar : Nat → ClassId) (base : Nat) (p : Program) (s : State) (m : MethodId) (c : Code) (cc : ByteArray) (nL : Nat) : Prop :=
  p.tables.exec = Jvm.exec ∧ c.code = cc ∧ c.maxLocals = nL ∧ s.vm.findClass R_La = some m.cls ∧ At0 S0 A0 D ar s ∧ S0.heap.size ≤ base
theorem l_wrap {P : Int32 → Mem → Int64 → Prop} {hh : List (Nat × Nat × Nat × Nat)} (C0 : Cl S0 A0 D ar base p s m c cc nL) (hL : LWd D ar base σ τ v H) (hS : va_S (nB base) s.heap H locs)
    (hml0 : Cond.methodLink R_La index y ∈ lw_tbl) (hst1 : Cond.static y ∈ lw_tbl) (hcd : Cond.codeWith y bytes maxL (some .int) hh ∈ lw_tbl) (hin : Cond.initialized y.cls ∈ lw_tbl)
    (hd : y.cls ≠ "java/lang/invoke/MethodHandle" ∧ y.cls ≠ "java/lang/invoke/VarHandle" ∧ (parseMethodDescriptor y.desc).map (fun d => d.parameters.length) = some As.length) (hst : st0 = As.reverse ++ rest) (hdg : decode cc pc = .ok (.invokestatic index, 3))
    (hM : MX l y [Cond.codeWith y bytes maxL (some .int) hh] rm (PW S0 A0 D ar base (base + 138) σ v As) (QWr D ar base (base + 138) P) (wF base (base + 138))) (hsize : ls.size = nL) (hW : (rest.map fun v => v.category).sum ≤ 8) (hR : rm.frames + 1 ≤ R.frames ∧ 8 + (maxL + 11) + rm.locals ≤ R.locals) (hf : cells + rm.cells ≤ R.cells ∧ slots + rm.slots ≤ R.slots)
    (kr : ∀ (w : Int32) (σ' : Mem) (v' : Int64) (H1 : Heap) (locs1 : List Loc), P w σ' v' → LWd D ar base σ' τ v' H1 → va_S (nB base) s.heap H1 locs1 → W p l e R s m args below meth c H1 locs1 (cells + rm.cells) (slots + rm.slots) Q (F0 m (pc + 3) ls (.int w :: rest))) :
    W p l e R s m args below meth c H locs cells slots Q (F0 m pc ls st0) := by
  obtain ⟨hx, hb, hml, hown, h0, hbase⟩ := C0
  have hwF : ∀ q, wF base (base + 138) q → nB base q := fun q z => by rcases z with z | z; exact z.1; exact (by unfold nB; omega)
  refine x_call (x_inS hx hb hown (h0.word hml0 rfl) (h0.word hst1 rfl) (h0.word hin rfl) hd (Or.inr ⟨hh, h0.word hcd rfl⟩) hst hdg) (x_okW (args := args) (h0.word hcd rfl) (h0.word hin rfl)) hM PW_blind hml hsize hb hdg hW hR hf
    (fun U hU hWU => ⟨rfl, h0.warm hWU (locs := locs) (A := nB base) (by rw [hU]; exact hS) (fun q hq => Nat.le_trans hbase hq), hbase, by rw [hU]; exact hL.1, by rw [hU]; exact hL.2.2⟩) ?_ ?_
  · intro v9 st₀ t L _ _ hq hkp hL9
    obtain ⟨w, σ', v', hp, ho, h1, h2⟩ := hq
    cases ho
    exact kr w σ' v' t.heap _ hp ⟨h1, hL.keepS hkp, h2⟩ (hkp.S hS hwF hL9)
  · intro x st₀ t L _ _ hq _ _
    obtain ⟨w, σ', v', hp, ho, -⟩ := hq
    cases ho
/-- a method of the model, called by the law -/
theorem l_mod {P : Nat → Option Int32 → Mem → Prop} (C0 : Cl S0 A0 D ar base p s m c cc nL) (hL : LWd D ar base σ τ v H) (hS : va_S (nB base) s.heap H locs)
    (hml0 : Cond.methodLink R_La index y ∈ lw_tbl) (him : Cond.instanceMethod y ∈ lw_tbl) (hsl : Cond.selects R_Mo y y ∈ lw_tbl) (hcd : Cond.code y bytes maxL rt ∈ lw_tbl) (hin : Cond.initialized y.cls ∈ lw_tbl)
    (hd : y.cls ≠ "java/lang/invoke/MethodHandle" ∧ y.cls ≠ "java/lang/invoke/VarHandle" ∧ (parseMethodDescriptor y.desc).map (fun d => d.parameters.length) = some As.length) (hst : st0 = As.reverse ++ .ref (base + 122 + adm 0 0) :: rest) (hdg : decode cc pc = .ok (.invokevirtual index, 3))
    (hM : MX l y [Cond.code y bytes maxL rt] rm (PO S0 A0 D ar (base + 122) τ (.ref (base + 122 + adm 0 0) :: As)) (QO D ar (base + 122) P) (inB (base + 122) 16)) (hno : ∀ k r σ', P k r σ' → k = 0) (hsize : ls.size = nL) (hW : (rest.map fun v => v.category).sum ≤ 8) (hR : rm.frames + 1 ≤ R.frames ∧ 8 + (maxL + 11) + rm.locals ≤ R.locals) (hf : cells + rm.cells ≤ R.cells ∧ slots + rm.slots ≤ R.slots)
    (kr : ∀ (r : Option Int32) (τ' : Mem) (H1 : Heap) (locs1 : List Loc), P 0 r τ' → LWd D ar base σ τ' v H1 → va_S (nB base) s.heap H1 locs1 → W p l e R s m args below meth c H1 locs1 (cells + rm.cells) (slots + rm.slots) Q (F0 m (pc + 3) ls ((r.map Value.int).toList ++ rest))) :
    W p l e R s m args below meth c H locs cells slots Q (F0 m pc ls st0) := by
  obtain ⟨hx, hb, hml, hown, h0, hbase⟩ := C0
  refine x_call (x_inV (C := R_Mo) (b := base + 122 + adm 0 0) hx hb hown (h0.word hml0 rfl) (h0.word him rfl) (h0.word hsl rfl) hd (h0.word hcd rfl) (va_recv h0.K hL.2.1 (ci := 4) (q0 := 0) rfl (by rw [wl_get (by decide)]; rfl)) hst hdg) (x_ok1 (args := args) (h0.word hcd rfl) (h0.word hin rfl)) hM PO_blind hml hsize hb hdg hW hR hf
    (fun U hU hWU => ⟨rfl, h0.warm hWU (locs := locs) (A := nB base) (by rw [hU]; exact hS) (fun q hq => Nat.le_trans hbase hq), by omega, by rw [hU]; exact hL.2.1⟩) ?_ ?_
  · intro v9 st₀ t L _ _ hq hkp hL9
    obtain ⟨k, r, τ', hp, ho, h1⟩ := hq
    obtain ⟨rfl, rfl⟩ := oR_ret ho
    exact kr r τ' t.heap _ hp ⟨(hL.keepM hkp).1, h1, (hL.keepM hkp).2⟩ (hkp.S hS (fun q z => by unfold nB; have := z.1; omega) hL9)
  · intro x st₀ t L _ _ hq _ _
    obtain ⟨k, r, τ', hp, ho, -⟩ := hq
    exact absurd (hno k r τ' hp) (oR_thr ho).1
end LC
