/-! The law makes its objects: laid by gen/m84.py. -/
section LN
variable {S0 : State} {A0 : Array Value} {D : va_G} {ar : Nat → ClassId} {b0 bs n : Nat} {M : Nat → va_E}
variable {p : Program} {l : Launch} {e : Env} {R : Room} {s : State} {m : MethodId} {args : Array Value} {below : List Frame} {meth : Method} {c : Code} {H : Heap} {locs : List Loc} {cells slots : Nat} {Q : State → Prop}
variable {cc : ByteArray} {nL : Nat} {pc index : Nat} {ls : Array Slot} {rest : List Value} {y : MethodName} {bytes : ByteArray} {maxL : Nat} {rm : Room}
/-- a new object behind all that is there: the old cells stay -/
theorem l_new (C0 : Cl S0 A0 D ar b0 p s m c cc nL) (hz : H.size = bs) (hS : va_S (nB b0) s.heap H locs) {C : String} {T : u_T} {N ci : Nat} (ty : Nat → FieldType) (hty : ∀ k, k < N → parseFieldDescriptor (T k).2.2.1 = some (ty k)) (hcl : Cond.classLink R_La index C ∈ lw_tbl) (hia : Cond.instantiable C N ∈ lw_tbl) (hini : Cond.initialized C ∈ lw_tbl) (hc : classes[ci]? = some (C, T, N)) {fs : List Value} (hfs : ∀ j, j < N → defaultValue (ty j) = vp_V fs j) (hcs : cells + 1 ≤ R.cells ∧ slots + N ≤ R.slots) (hdg : decode cc pc = .ok (.new index, 3))
    (kk : ∀ (H1 : Heap), H1.size = bs + 1 → va_P D classes (wl bs 1 (fun _ => .inr (ci, fs))) H1 → (∀ q, q < bs → H1[q]? = H[q]?) → va_S (nB b0) s.heap H1 locs →
      W p l e R s m args below meth c H1 locs (cells + 1) (slots + N) Q (F0 m (pc + 3) ls (.ref bs :: rest))) : W p l e R s m args below meth c H locs cells slots Q (F0 m pc ls rest) := by
  obtain ⟨hx, hb, hml, hown, h0, hbase⟩ := C0
  have hKn := h0.K.1 ci _ hc
  have hS1 := hS.1
  refine W.newcK hx hb hown (h0.word hcl rfl) (h0.word hia rfl) (h0.word hini rfl) rfl hdg hcs.1 hcs.2 hKn.2.1 hz fun H1 kC hkC e1 z1 o1 => ?_
  refine kk H1 (by omega) (fun k q hq => ?_) (fun q hq => o1 q (by omega)) ⟨by omega, fun x h1 h2 => (o1 x (by omega)).trans (hS.2.1 x h1 h2), hS.2.2⟩
  obtain ⟨hk, rfl⟩ := wl_some hq
  have hk0 : k = 0 := by omega
  subst hk0
  exact ⟨_, hc, (u_born ty (args := args) (ws := u_ws C T N) (fun w hw => h0.word (cls_in ci C T N hc w hw) (uws_good w hw)) (fun w hw => hw) hKn hkC e1 hty).to hfs⟩
end LN
