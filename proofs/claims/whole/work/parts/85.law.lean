/-! The law calls a constructor: laid by gen/m85.py. -/
theorem l_init {S0 : State} {A0 : Array Value} {D : va_G} {ar : Nat → ClassId} {b0 bs n' : Nat} {M M' : Nat → va_E} {p : Program} {l : Launch} {e : Env} {R : Room} {s : State} {m : MethodId} {args : Array Value} {below : List Frame} {meth : Method} {c : Code} {H : Heap} {locs : List Loc} {cells slots : Nat} {Q : State → Prop} {cc : ByteArray} {nL : Nat} {pc index : Nat} {ls : Array Slot} {rest : List Value} {y : MethodName} {bytes : ByteArray} {maxL : Nat} {rm : Room}
    (C0 : Cl S0 A0 D ar b0 p s m c cc nL) (hb0 : b0 ≤ bs) (hP : va_P D classes (wl bs 1 M) H) (hz : H.size = bs + 1) (hS : va_S (nB b0) s.heap H locs)
    (hlink : Cond.methodLink R_La index y ∈ lw_tbl) (him : Cond.instanceMethod y ∈ lw_tbl) (hcd : Cond.code y bytes maxL none ∈ lw_tbl) (hin : Cond.initialized y.cls ∈ lw_tbl) (hy1 : y.name = "<init>")
    (hd : y.cls ≠ "java/lang/invoke/MethodHandle" ∧ y.cls ≠ "java/lang/invoke/VarHandle" ∧ (parseMethodDescriptor y.desc).map (fun d => d.parameters.length) = some 0)
    (hM : MX l y [Cond.code y bytes maxL none] rm (PN S0 A0 D ar bs 1 M [.ref (bs + 0)]) (QN D bs n' M') (nB bs))
    (hsize : ls.size = nL) (hdg : decode cc pc = .ok (.invokespecial index, 3)) (hW : (rest.map fun v => v.category).sum ≤ 8) (hR : rm.frames + 1 ≤ R.frames ∧ 8 + (maxL + 11) + rm.locals ≤ R.locals) (hf : cells + rm.cells ≤ R.cells ∧ slots + rm.slots ≤ R.slots)
    (kr : ∀ (H1 : Heap) (locs1 : List Loc), H1.size = bs + n' → va_P D classes (wl bs n' M') H1 → (∀ q, q < bs → H1[q]? = H[q]?) → va_S (nB b0) s.heap H1 locs1 → W p l e R s m args below meth c H1 locs1 (cells + rm.cells) (slots + rm.slots) Q (F0 m (pc + 3) ls rest)) : W p l e R s m args below meth c H locs cells slots Q (F0 m pc ls (.ref (bs + 0) :: rest)) := by
  obtain ⟨hx, hb, hml, hown, h0, hbase⟩ := C0
  refine x_call (x_inI (As := []) (b := bs + 0) (rest := rest) hx hb hown hy1 (h0.word hlink rfl) (h0.word him rfl) hd (h0.word hcd rfl) rfl hdg) (x_ok1 (args := args) (h0.word hcd rfl) (h0.word hin rfl)) hM PN_blind hml hsize hb hdg hW hR hf (fun U hU hWU => ⟨rfl, h0.warm hWU (A := nB b0) (locs := locs) (by rw [hU]; exact hS) (fun q hq => Nat.le_trans hbase hq), by omega, by rw [hU]; exact hz, by rw [hU]; exact hP⟩) ?_ ?_
  · intro v st₀ t L _ _ hq hkp hL
    obtain ⟨ho, h1, h2⟩ := hq
    cases ho
    exact kr t.heap _ h1 h2 (fun q hq => hkp.2 q (by omega) (fun z => by unfold nB at z; omega)) (hkp.S hS (fun q h => Nat.le_trans hb0 h) hL)
  · intro x st₀ t L _ _ hq _ _
    cases hq.1
