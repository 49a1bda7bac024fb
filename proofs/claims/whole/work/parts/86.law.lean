/-! The law makes its array of one long: laid by gen/m86.py. -/
theorem l_newL {S0 : State} {A0 : Array Value} {D : va_G} {ar : Nat → ClassId} {b0 bs : Nat} {p : Program} {l : Launch} {e : Env} {R : Room} {s : State} {m : MethodId} {args : Array Value} {below : List Frame} {meth : Method} {c : Code} {H : Heap} {locs : List Loc} {cells slots : Nat} {Q : State → Prop} {cc : ByteArray} {nL : Nat} {pc : Nat} {ls : Array Slot} {rest : List Value}
    (C0 : Cl S0 A0 D ar b0 p s m c cc nL) (hz : H.size = bs) (hS : va_S (nB b0) s.heap H locs) (hcs : cells + 1 ≤ R.cells ∧ slots + 1 ≤ R.slots) (hdg : decode cc pc = .ok (.newarray .long, 2))
    (kk : ∀ (H1 : Heap), H1.size = bs + 1 → va_P D classes (wl bs 1 (oE ar 0)) H1 → (∀ q, q < bs → H1[q]? = H[q]?) → va_S (nB b0) s.heap H1 locs →
      W p l e R s m args below meth c H1 locs (cells + 1) (slots + 1) Q (F0 m (pc + 2) ls (.ref bs :: rest))) : W p l e R s m args below meth c H locs cells slots Q (F0 m pc ls (.int 1 :: rest)) := by
  obtain ⟨hx, hb, hml, hown, h0, hbase⟩ := C0
  have hS1 := hS.1
  have hra : s.vm.findClass ("[" ++ (FieldType.long).toString) = some (ar 6) := (h0.K.2 6 _ rfl).2
  refine va_newaK (N := 1) hx hb (atype := .long) (h0.word k_ac_long rfl) rfl hdg rfl (by decide) (by decide) (by decide) hcs.1 hcs.2 hz fun H1 cA' e1 z1 o1 hAr hNm => ?_
  have hcc : cA' = ar 6 := Option.some.inj (hNm.symm.trans hra)
  subst hcc
  refine kk H1 (by omega) (fun k q hq => ?_) (fun q hq => o1 q (by omega)) ⟨by omega, fun x h1 h2 => (o1 x (by omega)).trans (hS.2.1 x h1 h2), hS.2.2⟩
  obtain ⟨hk, rfl⟩ := wl_some hq
  have hk0 : k = 0 := by omega
  subst hk0
  exact e1
