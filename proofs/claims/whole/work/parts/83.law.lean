/-! The law asks the model what was thrown, and the class for a count: laid by gen/m83.py. -/
section LD
variable {S0 : State} {A0 : Array Value} {D : va_G} {ar : Nat → ClassId} {base : Nat} {σ τ : Mem} {v : Int64}
variable {p : Program} {l : Launch} {e : Env} {R : Room} {s : State} {m : MethodId} {args : Array Value} {below : List Frame} {meth : Method} {c : Code} {H : Heap} {locs : List Loc} {cells slots : Nat} {Q : State → Prop}
variable {cc : ByteArray} {nL : Nat} {pc index : Nat} {ls : Array Slot} {rest As st0 : List Value} {y : MethodName} {bytes : ByteArray} {maxL : Nat} {rt : Option FieldType} {rm : Room}
theorem l_modP {P : Nat → Option Int32 → Prop} (C0 : Cl S0 A0 D ar base p s m c cc nL) (hL : LWd D ar base σ τ v H) (hS : va_S (nB base) s.heap H locs)
    (hml0 : Cond.methodLink R_La index y ∈ lw_tbl) (him : Cond.instanceMethod y ∈ lw_tbl) (hsl : Cond.selects R_Mo y y ∈ lw_tbl) (hcd : Cond.code y bytes maxL rt ∈ lw_tbl) (hin : Cond.initialized y.cls ∈ lw_tbl)
    (hd : y.cls ≠ "java/lang/invoke/MethodHandle" ∧ y.cls ≠ "java/lang/invoke/VarHandle" ∧ (parseMethodDescriptor y.desc).map (fun d => d.parameters.length) = some As.length) (hst : st0 = As.reverse ++ .ref (base + 122 + adm 0 0) :: rest) (hdg : decode cc pc = .ok (.invokevirtual index, 3))
    (hM : MX l y [Cond.code y bytes maxL rt] rm (PO S0 A0 D ar (base + 122) τ (.ref (base + 122 + adm 0 0) :: As)) (QP P) (fun _ => False)) (hno : ∀ k r, P k r → k = 0) (hsize : ls.size = nL) (hW : (rest.map fun v => v.category).sum ≤ 8) (hR : rm.frames + 1 ≤ R.frames ∧ 8 + (maxL + 11) + rm.locals ≤ R.locals) (hf : cells + rm.cells ≤ R.cells ∧ slots + rm.slots ≤ R.slots)
    (kr : ∀ (r : Option Int32) (H1 : Heap) (locs1 : List Loc), P 0 r → LWd D ar base σ τ v H1 → va_S (nB base) s.heap H1 locs1 → W p l e R s m args below meth c H1 locs1 (cells + rm.cells) (slots + rm.slots) Q (F0 m (pc + 3) ls ((r.map Value.int).toList ++ rest))) :
    W p l e R s m args below meth c H locs cells slots Q (F0 m pc ls st0) := by
  obtain ⟨hx, hb, hml, hown, h0, hbase⟩ := C0
  refine x_call (x_inV (C := R_Mo) (b := base + 122 + adm 0 0) hx hb hown (h0.word hml0 rfl) (h0.word him rfl) (h0.word hsl rfl) hd (h0.word hcd rfl) (va_recv h0.K hL.2.1 (ci := 4) (q0 := 0) rfl (by rw [wl_get (by decide)]; rfl)) hst hdg) (x_ok1 (args := args) (h0.word hcd rfl) (h0.word hin rfl)) hM PO_blind hml hsize hb hdg hW hR hf
    (fun U hU hWU => ⟨rfl, h0.warm hWU (locs := locs) (A := nB base) (by rw [hU]; exact hS) (fun q hq => Nat.le_trans hbase hq), by omega, by rw [hU]; exact hL.2.1⟩) ?_ ?_
  · intro v9 st₀ t L _ _ hq hkp hL9
    obtain ⟨k, r, hp, ho, h1⟩ := hq
    obtain ⟨rfl, rfl⟩ := oR_ret ho
    exact kr r t.heap _ hp (hL.keepA hkp) (hkp.S hS (fun q z => z.elim) hL9)
  · intro x st₀ t L _ _ hq _ _
    obtain ⟨k, r, hp, ho, -⟩ := hq
    exact absurd (hno k r hp) (oR_thr ho).1
theorem LWd.keepC {H1 : Heap} (h : LWd D ar base σ τ v H) (hk : x_Keep (inB base 122) H H1) : va_P D classes (wl (base + 122) 16 (memo ar (base + 122) τ)) H1 ∧ va_P D classes (wl (base + 138) 1 (oE ar v)) H1 :=
  ⟨wl_kept h.2.1 (fun q g1 g2 => hk.2 q (by have := wl_lt h.2.1 (k := 15) (by omega); omega) (fun z => by have := z.2; omega)),
   wl_kept h.2.2 (fun q g1 g2 => hk.2 q (by have := wl_lt h.2.2 (k := 0) (by omega); omega) (fun z => by have := z.2; omega))⟩
theorem l_cls {P : Nat → Option Int32 → Mem → Prop} (C0 : Cl S0 A0 D ar base p s m c cc nL) (hL : LWd D ar base σ τ v H) (hS : va_S (nB base) s.heap H locs)
    (hml0 : Cond.methodLink R_La index y ∈ lw_tbl) (him : Cond.instanceMethod y ∈ lw_tbl) (hsl : Cond.selects R_Sy y y ∈ lw_tbl) (hcd : Cond.code y bytes maxL rt ∈ lw_tbl) (hin : Cond.initialized y.cls ∈ lw_tbl)
    (hd : y.cls ≠ "java/lang/invoke/MethodHandle" ∧ y.cls ≠ "java/lang/invoke/VarHandle" ∧ (parseMethodDescriptor y.desc).map (fun d => d.parameters.length) = some As.length) (hst : st0 = As.reverse ++ .ref (base + ad 0 0) :: rest) (hdg : decode cc pc = .ok (.invokevirtual index, 3))
    (hM : MX l y [Cond.code y bytes maxL rt] rm (PS S0 A0 D ar base σ (.ref (base + ad 0 0) :: As)) (QI D ar base P) (inB base 122)) (hno : ∀ k r σ', P k r σ' → k = 0) (hsize : ls.size = nL) (hW : (rest.map fun v => v.category).sum ≤ 8) (hR : rm.frames + 1 ≤ R.frames ∧ 8 + (maxL + 11) + rm.locals ≤ R.locals) (hf : cells + rm.cells ≤ R.cells ∧ slots + rm.slots ≤ R.slots)
    (kr : ∀ (r : Option Int32) (σ' : Mem) (H1 : Heap) (locs1 : List Loc), P 0 r σ' → LWd D ar base σ' τ v H1 → va_S (nB base) s.heap H1 locs1 → W p l e R s m args below meth c H1 locs1 (cells + rm.cells) (slots + rm.slots) Q (F0 m (pc + 3) ls ((r.map Value.int).toList ++ rest))) :
    W p l e R s m args below meth c H locs cells slots Q (F0 m pc ls st0) := by
  obtain ⟨hx, hb, hml, hown, h0, hbase⟩ := C0
  refine x_call (x_inV (C := R_Sy) (b := base + ad 0 0) hx hb hown (h0.word hml0 rfl) (h0.word him rfl) (h0.word hsl rfl) hd (h0.word hcd rfl) (va_recv h0.K hL.1 (ci := 0) (q0 := ad 0 0) rfl (by rw [wl_get (by decide)]; rfl)) hst hdg) (x_ok1 (args := args) (h0.word hcd rfl) (h0.word hin rfl)) hM PS_blind hml hsize hb hdg hW hR hf
    (fun U hU hWU => ⟨rfl, h0.warm hWU (locs := locs) (A := nB base) (by rw [hU]; exact hS) (fun q hq => Nat.le_trans hbase hq), hbase, by rw [hU]; exact hL.1⟩) ?_ ?_
  · intro v9 st₀ t L _ _ hq hkp hL9
    obtain ⟨k, r, σ', hp, ho, h1⟩ := hq
    obtain ⟨rfl, rfl⟩ := oR_ret ho
    exact kr r σ' t.heap _ hp ⟨h1, (hL.keepC hkp).1, (hL.keepC hkp).2⟩ (hkp.S hS (fun q z => z.1) hL9)
  · intro x st₀ t L _ _ hq _ _
    obtain ⟨k, r, σ', hp, ho, -⟩ := hq
    exact absurd (hno k r σ' hp) (oR_thr ho).1
end LD
