/-! A world that lies in one block of addresses, base .. base + n - 1, its cells told by a function M of their places. -/
def wl (base n : Nat) (M : Nat → va_E) : va_W := (List.range n).map (fun k => (base + k, M k))
theorem wl_len {base n : Nat} {M : Nat → va_E} : (wl base n M).length = n := by simp [wl]
theorem wl_get {base n k : Nat} {M : Nat → va_E} (hk : k < n) : (wl base n M)[k]? = some (base + k, M k) := by simp [wl, hk]
theorem wl_none {base n k : Nat} {M : Nat → va_E} (hk : ¬ k < n) : (wl base n M)[k]? = none := by simp [wl]; omega
theorem wl_some {base n k : Nat} {M : Nat → va_E} {q : Nat × va_E} (h : (wl base n M)[k]? = some q) : k < n ∧ q = (base + k, M k) := by
  by_cases hk : k < n
  · rw [wl_get hk] at h
    exact ⟨hk, (Option.some.inj h).symm⟩
  · rw [wl_none hk] at h
    cases h
theorem wl_ext {base n : Nat} {M : Nat → va_E} {w : va_W} (h : ∀ k, k < n → w[k]? = some (base + k, M k)) (hl : w.length = n) : w = wl base n M := by
  apply List.ext_getElem?
  intro i
  by_cases hi : i < n
  · rw [h i hi, wl_get hi]
  · rw [wl_none hi]
    exact List.getElem?_eq_none (by omega)
theorem wl_set {base n k : Nat} {M : Nat → va_E} (e : va_E) : (wl base n M).set k (base + k, e) = wl base n (va_up M k e) := by
  refine wl_ext (fun i hi => ?_) (by rw [List.length_set, wl_len])
  by_cases h : i = k
  · subst h
    rw [List.getElem?_set_self (by rw [wl_len]; exact hi), va_up_self]
  · rw [List.getElem?_set_ne (Ne.symm h), wl_get hi, va_up_ne _ _ h]
theorem wl_push {base n : Nat} {M : Nat → va_E} (e : va_E) : wl base n M ++ [(base + n, e)] = wl base (n + 1) (va_up M n e) := by
  refine wl_ext (fun i hi => ?_) (by simp [wl_len])
  by_cases h : i = n
  · subst h
    rw [List.getElem?_append_right (by rw [wl_len]; omega), wl_len, Nat.sub_self, va_up_self]
    rfl
  · rw [List.getElem?_append_left (by rw [wl_len]; omega), wl_get (by omega), va_up_ne _ _ h]
theorem wl_congr {base n : Nat} {M M' : Nat → va_E} (h : ∀ k, k < n → M k = M' k) : wl base n M = wl base n M' :=
  wl_ext (fun i hi => by rw [wl_get hi, h i hi]) wl_len
theorem wl_D {base n : Nat} {M : Nat → va_E} {A : Nat → Prop} (h : ∀ k, k < n → A (base + k)) : va_D A (wl base n M) := by
  refine ⟨fun i j p q hi hj hpq => ?_, fun k q hk => ?_⟩
  · obtain ⟨-, rfl⟩ := wl_some hi
    obtain ⟨-, rfl⟩ := wl_some hj
    have : base + i = base + j := hpq
    omega
  · obtain ⟨h1, rfl⟩ := wl_some hk
    exact h k h1
/-- a cell of the block -/
theorem wl_at {D : va_G} {cl : List vw_C} {base n k : Nat} {M : Nat → va_E} {H : Heap} (h : va_P D cl (wl base n M) H) (hk : k < n) : va_at D cl (base + k, M k) H := h k _ (wl_get hk)
theorem wl_lt {D : va_G} {cl : List vw_C} {base n k : Nat} {M : Nat → va_E} {H : Heap} (h : va_P D cl (wl base n M) H) (hk : k < n) : base + k < H.size := (wl_at h hk).lt
theorem wl_kept {D : va_G} {cl : List vw_C} {base n : Nat} {M : Nat → va_E} {H H1 : Heap} (h : va_P D cl (wl base n M) H) (hq : ∀ q, base ≤ q → q < base + n → H1[q]? = H[q]?) : va_P D cl (wl base n M) H1 :=
  h.kept (fun k q hk => by obtain ⟨h1, rfl⟩ := wl_some hk; exact hq _ (by omega) (by simp; omega))
/-- the block's addresses -/
def inB (base n : Nat) : Nat → Prop := fun q => base ≤ q ∧ q < base + n
theorem inB_at {base n : Nat} : ∀ k, k < n → inB base n (base + k) := fun k h => ⟨by omega, by omega⟩
section BL
variable {p : Program} {l : Launch} {e : Env} {R : Room} {s : State} {m : MethodId} {args : Array Value} {below : List Frame} {meth : Method} {c : Code} {H : Heap} {locs : List Loc} {cells slots : Nat} {Q : State → Prop}
variable {cc : ByteArray} {pc : Nat} {ls : Array Slot} {rest : List Value} {D : va_G} {cl : List vw_C} {tys : List (ClassId × FieldType)} {H0 : Heap} {base n : Nat} {M : Nat → va_E} {A : Nat → Prop}
theorem b_get (hexec : p.tables.exec = Jvm.exec) (hb : c.code = cc) {own ref C : String} {T : u_T} {N ci index : Nat} {Ts : List Cond} (hts : ∀ w ∈ Ts, w.before args s = true) (hin : ∀ w ∈ u_ws C T N, w ∈ Ts) (hown : s.vm.findClass own = some m.cls) (hK : va_K D cl tys s) (hP : va_P D cl (wl base n M) H) (q0 : Nat) (hq : q0 < n) {fs : List Value} (he : M q0 = .inr (ci, fs)) (hc : cl[ci]? = some (C, T, N)) (k : Nat) (hk : k < N) (hlink : (Cond.fieldLink own index ref (T k).2.1 (T k).2.2.1).before args s = true) (hsame : ∀ x, s.fieldFound? (T k).1 (T k).2.1 (T k).2.2.1 = some x → s.fieldFound? ref (T k).2.1 (T k).2.2.1 = some x) {v : Value} (hv : fs[k]? = some v) (hdg : decode cc pc = .ok (.getfield index, 3))
    (kk : W p l e R s m args below meth c H locs cells slots Q (F0 m (pc + 3) ls (v :: rest))) : W p l e R s m args below meth c H locs cells slots Q (F0 m pc ls (.ref (base + q0) :: rest)) :=
  va_get hexec hb hts hin hown hK hP q0 (by rw [wl_get hq, he]) hc k hk hlink hsame hv hdg kk
theorem b_getN (hexec : p.tables.exec = Jvm.exec) (hb : c.code = cc) {own ref C host : String} {T : u_T} {N ci index : Nat} {Ts : List Cond} (hts : ∀ w ∈ Ts, w.before args s = true) (hin : ∀ w ∈ u_ws C T N, w ∈ Ts) (hown : s.vm.findClass own = some m.cls) (hK : va_K D cl tys s) (hP : va_P D cl (wl base n M) H) (q0 : Nat) (hq : q0 < n) {fs : List Value} (he : M q0 = .inr (ci, fs)) (hc : cl[ci]? = some (C, T, N)) (k : Nat) (hk : k < N) (hlink : (Cond.fieldLinkNest own index ref (T k).2.1 (T k).2.2.1 host).before args s = true) (hsame : ∀ x, s.fieldFound? (T k).1 (T k).2.1 (T k).2.2.1 = some x → s.fieldFound? ref (T k).2.1 (T k).2.2.1 = some x) {v : Value} (hv : fs[k]? = some v) (hdg : decode cc pc = .ok (.getfield index, 3))
    (kk : W p l e R s m args below meth c H locs cells slots Q (F0 m (pc + 3) ls (v :: rest))) : W p l e R s m args below meth c H locs cells slots Q (F0 m pc ls (.ref (base + q0) :: rest)) :=
  va_getN hexec hb hts hin hown hK hP q0 (by rw [wl_get hq, he]) hc k hk hlink hsame hv hdg kk
theorem b_put (hexec : p.tables.exec = Jvm.exec) (hb : c.code = cc) {own ref C : String} {T : u_T} {N ci index : Nat} {Ts : List Cond} (hts : ∀ w ∈ Ts, w.before args s = true) (hin : ∀ w ∈ u_ws C T N, w ∈ Ts) (ty0 : Nat → FieldType) (hty : ∀ k, k < N → parseFieldDescriptor (T k).2.2.1 = some (ty0 k)) (hnm : ∀ a, a < N → ∀ b, b < N → a ≠ b → (T a).2.1 ≠ (T b).2.1) (hown : s.vm.findClass own = some m.cls) (hK : va_K D cl tys s) (hP : va_P D cl (wl base n M) H) (hA : ∀ k, k < n → A (base + k)) (hS0 : va_S A H0 H locs) (q0 : Nat) (hq : q0 < n) {fs : List Value} (he : M q0 = .inr (ci, fs)) (hc : cl[ci]? = some (C, T, N)) (k : Nat) (hk : k < N) (hlink : (Cond.fieldLink own index ref (T k).2.1 (T k).2.2.1).before args s = true) (hsame : ∀ x, s.fieldFound? (T k).1 (T k).2.1 (T k).2.2.1 = some x → s.fieldFound? ref (T k).2.1 (T k).2.2.1 = some x) (hfin : (T k).2.2.2 = false) {ty : FieldType} {v : Value} (hd : parseFieldDescriptor (T k).2.2.1 = some ty) (hn : narrow ty v = v) (hfit : fits ty v = true) (hl : k < fs.length)
    (hdg : decode cc pc = .ok (.putfield index, 3)) (kk : ∀ (H1 : Heap) (locs1 : List Loc), va_P D cl (wl base n (va_up M q0 (.inr (ci, fs.set k v)))) H1 → va_S A H0 H1 locs1 → W p l e R s m args below meth c H1 locs1 cells slots Q (F0 m (pc + 3) ls rest)) : W p l e R s m args below meth c H locs cells slots Q (F0 m pc ls (v :: .ref (base + q0) :: rest)) :=
  va_put hexec hb hts hin ty0 hty hnm hown hK hP (wl_D hA) hS0 q0 (by rw [wl_get hq, he]) hc k hk hlink hsame hfin hd hn hfit hl hdg (fun H1 locs1 h1 _ h3 => kk H1 locs1 (by rw [wl_set] at h1; exact h1) h3)
theorem b_putN (hexec : p.tables.exec = Jvm.exec) (hb : c.code = cc) {own ref C host : String} {T : u_T} {N ci index : Nat} {Ts : List Cond} (hts : ∀ w ∈ Ts, w.before args s = true) (hin : ∀ w ∈ u_ws C T N, w ∈ Ts) (ty0 : Nat → FieldType) (hty : ∀ k, k < N → parseFieldDescriptor (T k).2.2.1 = some (ty0 k)) (hnm : ∀ a, a < N → ∀ b, b < N → a ≠ b → (T a).2.1 ≠ (T b).2.1) (hown : s.vm.findClass own = some m.cls) (hK : va_K D cl tys s) (hP : va_P D cl (wl base n M) H) (hA : ∀ k, k < n → A (base + k)) (hS0 : va_S A H0 H locs) (q0 : Nat) (hq : q0 < n) {fs : List Value} (he : M q0 = .inr (ci, fs)) (hc : cl[ci]? = some (C, T, N)) (k : Nat) (hk : k < N) (hlink : (Cond.fieldLinkNest own index ref (T k).2.1 (T k).2.2.1 host).before args s = true) (hsame : ∀ x, s.fieldFound? (T k).1 (T k).2.1 (T k).2.2.1 = some x → s.fieldFound? ref (T k).2.1 (T k).2.2.1 = some x) (hfin : (T k).2.2.2 = false) {ty : FieldType} {v : Value} (hd : parseFieldDescriptor (T k).2.2.1 = some ty) (hn : narrow ty v = v) (hfit : fits ty v = true) (hl : k < fs.length)
    (hdg : decode cc pc = .ok (.putfield index, 3)) (kk : ∀ (H1 : Heap) (locs1 : List Loc), va_P D cl (wl base n (va_up M q0 (.inr (ci, fs.set k v)))) H1 → va_S A H0 H1 locs1 → W p l e R s m args below meth c H1 locs1 cells slots Q (F0 m (pc + 3) ls rest)) : W p l e R s m args below meth c H locs cells slots Q (F0 m pc ls (v :: .ref (base + q0) :: rest)) :=
  va_putN hexec hb hts hin ty0 hty hnm hown hK hP (wl_D hA) hS0 q0 (by rw [wl_get hq, he]) hc k hk hlink hsame hfin hd hn hfit hl hdg (fun H1 locs1 h1 _ h3 => kk H1 locs1 (by rw [wl_set] at h1; exact h1) h3)
theorem b_putF (hexec : p.tables.exec = Jvm.exec) (hb : c.code = cc) {own ref C : String} {T : u_T} {N ci index : Nat} {Ts : List Cond} (hts : ∀ w ∈ Ts, w.before args s = true) (hin : ∀ w ∈ u_ws C T N, w ∈ Ts) (ty0 : Nat → FieldType) (hty : ∀ k, k < N → parseFieldDescriptor (T k).2.2.1 = some (ty0 k)) (hnm : ∀ a, a < N → ∀ b, b < N → a ≠ b → (T a).2.1 ≠ (T b).2.1) (hown : s.vm.findClass own = some m.cls) (hK : va_K D cl tys s) (hP : va_P D cl (wl base n M) H) (hA : ∀ k, k < n → A (base + k)) (hS0 : va_S A H0 H locs) (q0 : Nat) (hq : q0 < n) {fs : List Value} (he : M q0 = .inr (ci, fs)) (hc : cl[ci]? = some (C, T, N)) (k : Nat) (hk : k < N) (hlink : (Cond.fieldLink own index ref (T k).2.1 (T k).2.2.1).before args s = true) (hsame : ∀ x, s.fieldFound? (T k).1 (T k).2.1 (T k).2.2.1 = some x → s.fieldFound? ref (T k).2.1 (T k).2.2.1 = some x) (hfin : (T k).2.2.2 = true) (hin2 : meth.name = "<init>") (hdecl : (T k).1 = own) {ty : FieldType} {v : Value} (hd : parseFieldDescriptor (T k).2.2.1 = some ty) (hn : narrow ty v = v) (hfit : fits ty v = true) (hl : k < fs.length)
    (hdg : decode cc pc = .ok (.putfield index, 3)) (kk : ∀ (H1 : Heap) (locs1 : List Loc), va_P D cl (wl base n (va_up M q0 (.inr (ci, fs.set k v)))) H1 → va_S A H0 H1 locs1 → W p l e R s m args below meth c H1 locs1 cells slots Q (F0 m (pc + 3) ls rest)) : W p l e R s m args below meth c H locs cells slots Q (F0 m pc ls (v :: .ref (base + q0) :: rest)) :=
  va_putF hexec hb hts hin ty0 hty hnm hown hK hP (wl_D hA) hS0 q0 (by rw [wl_get hq, he]) hc k hk hlink hsame hfin hin2 hdecl hd hn hfit hl hdg (fun H1 locs1 h1 _ h3 => kk H1 locs1 (by rw [wl_set] at h1; exact h1) h3)
theorem b_iald (hexec : p.tables.exec = Jvm.exec) (hb : c.code = cc) (hK : va_K D cl tys s) (hP : va_P D cl (wl base n M) H) (q0 t0 : Nat) (hq : q0 < n) {cA : ClassId} {N : Nat} {f : Nat → Int32} (he : M q0 = .inl (cA, N, .inl f)) (ht : tys[t0]? = some (cA, .int)) {i : Int32} (hin : vp_in i N) (hdg : decode cc pc = .ok (.iaload, 1))
    (kk : W p l e R s m args below meth c H locs cells slots Q (F0 m (pc + 1) ls (.int (f i.toNatClampNeg) :: rest))) : W p l e R s m args below meth c H locs cells slots Q (F0 m pc ls (.int i :: .ref (base + q0) :: rest)) :=
  va_iald hexec hb hK hP q0 t0 (by rw [wl_get hq, he]) ht hin hdg kk
theorem b_cald (hexec : p.tables.exec = Jvm.exec) (hb : c.code = cc) (hK : va_K D cl tys s) (hP : va_P D cl (wl base n M) H) (q0 t0 : Nat) (hq : q0 < n) {cA : ClassId} {N : Nat} {f : Nat → Int32} (he : M q0 = .inl (cA, N, .inl f)) (ht : tys[t0]? = some (cA, .char)) {i : Int32} (hin : vp_in i N) (hdg : decode cc pc = .ok (.caload, 1))
    (kk : W p l e R s m args below meth c H locs cells slots Q (F0 m (pc + 1) ls (.int (f i.toNatClampNeg) :: rest))) : W p l e R s m args below meth c H locs cells slots Q (F0 m pc ls (.int i :: .ref (base + q0) :: rest)) :=
  va_cald hexec hb hK hP q0 t0 (by rw [wl_get hq, he]) ht hin hdg kk
theorem b_zald (hexec : p.tables.exec = Jvm.exec) (hb : c.code = cc) (hK : va_K D cl tys s) (hP : va_P D cl (wl base n M) H) (q0 t0 : Nat) (hq : q0 < n) {cA : ClassId} {N : Nat} {f : Nat → Int32} (he : M q0 = .inl (cA, N, .inl f)) (ht : tys[t0]? = some (cA, .boolean)) {i : Int32} (hin : vp_in i N) (hdg : decode cc pc = .ok (.baload, 1))
    (kk : W p l e R s m args below meth c H locs cells slots Q (F0 m (pc + 1) ls (.int (f i.toNatClampNeg) :: rest))) : W p l e R s m args below meth c H locs cells slots Q (F0 m pc ls (.int i :: .ref (base + q0) :: rest)) :=
  va_zald hexec hb hK hP q0 t0 (by rw [wl_get hq, he]) ht hin hdg kk
theorem b_aldq (hexec : p.tables.exec = Jvm.exec) (hb : c.code = cc) (hK : va_K D cl tys s) (hP : va_P D cl (wl base n M) H) (q0 t0 : Nat) (hq : q0 < n) {cA : ClassId} {C : String} {N : Nat} {f : Nat → Option Nat} (he : M q0 = .inl (cA, N, .inr (.inr (.inr (.inr f))))) (ht : tys[t0]? = some (cA, .object C)) {i : Int32} {v : Nat} (hv : f i.toNatClampNeg = some v) (hin : vp_in i N) (hdg : decode cc pc = .ok (.aaload, 1))
    (kk : W p l e R s m args below meth c H locs cells slots Q (F0 m (pc + 1) ls (.ref v :: rest))) : W p l e R s m args below meth c H locs cells slots Q (F0 m pc ls (.int i :: .ref (base + q0) :: rest)) :=
  va_aldq hexec hb hK hP q0 t0 (by rw [wl_get hq, he]) ht hin hdg (by rw [hv]; exact kk)
theorem b_iast (hexec : p.tables.exec = Jvm.exec) (hb : c.code = cc) (hK : va_K D cl tys s) (hP : va_P D cl (wl base n M) H) (hA : ∀ k, k < n → A (base + k)) (hS : va_S A H0 H locs) (q0 t0 : Nat) (hq : q0 < n) {cA : ClassId} {N : Nat} {f : Nat → Int32} (he : M q0 = .inl (cA, N, .inl f)) (ht : tys[t0]? = some (cA, .int)) {i x : Int32} (hin : vp_in i N) (hdg : decode cc pc = .ok (.iastore, 1))
    (kk : ∀ (H1 : Heap) (locs1 : List Loc), va_P D cl (wl base n (va_up M q0 (.inl (cA, N, .inl (upd f i.toNatClampNeg x))))) H1 → va_S A H0 H1 locs1 → W p l e R s m args below meth c H1 locs1 cells slots Q (F0 m (pc + 1) ls rest)) : W p l e R s m args below meth c H locs cells slots Q (F0 m pc ls (.int x :: .int i :: .ref (base + q0) :: rest)) :=
  va_iast hexec hb hK hP (wl_D hA) hS q0 t0 (by rw [wl_get hq, he]) ht hin hdg (fun H1 locs1 h1 _ h3 => kk H1 locs1 (by rw [wl_set] at h1; exact h1) h3)
theorem b_cast (hexec : p.tables.exec = Jvm.exec) (hb : c.code = cc) (hK : va_K D cl tys s) (hP : va_P D cl (wl base n M) H) (hA : ∀ k, k < n → A (base + k)) (hS : va_S A H0 H locs) (q0 t0 : Nat) (hq : q0 < n) {cA : ClassId} {N : Nat} {f : Nat → Int32} (he : M q0 = .inl (cA, N, .inl f)) (ht : tys[t0]? = some (cA, .char)) {i x : Int32} (hin : vp_in i N) (hdg : decode cc pc = .ok (.castore, 1))
    (kk : ∀ (H1 : Heap) (locs1 : List Loc), va_P D cl (wl base n (va_up M q0 (.inl (cA, N, .inl (upd f i.toNatClampNeg (vp_nar .char x)))))) H1 → va_S A H0 H1 locs1 → W p l e R s m args below meth c H1 locs1 cells slots Q (F0 m (pc + 1) ls rest)) : W p l e R s m args below meth c H locs cells slots Q (F0 m pc ls (.int x :: .int i :: .ref (base + q0) :: rest)) :=
  va_cast hexec hb hK hP (wl_D hA) hS q0 t0 (by rw [wl_get hq, he]) ht hin hdg (fun H1 locs1 h1 _ h3 => kk H1 locs1 (by rw [wl_set] at h1; exact h1) h3)
theorem b_zast (hexec : p.tables.exec = Jvm.exec) (hb : c.code = cc) (hK : va_K D cl tys s) (hP : va_P D cl (wl base n M) H) (hA : ∀ k, k < n → A (base + k)) (hS : va_S A H0 H locs) (q0 t0 : Nat) (hq : q0 < n) {cA : ClassId} {N : Nat} {f : Nat → Int32} (he : M q0 = .inl (cA, N, .inl f)) (ht : tys[t0]? = some (cA, .boolean)) {i x : Int32} (hin : vp_in i N) (hdg : decode cc pc = .ok (.bastore, 1))
    (kk : ∀ (H1 : Heap) (locs1 : List Loc), va_P D cl (wl base n (va_up M q0 (.inl (cA, N, .inl (upd f i.toNatClampNeg (vp_nar .boolean x)))))) H1 → va_S A H0 H1 locs1 → W p l e R s m args below meth c H1 locs1 cells slots Q (F0 m (pc + 1) ls rest)) : W p l e R s m args below meth c H locs cells slots Q (F0 m pc ls (.int x :: .int i :: .ref (base + q0) :: rest)) :=
  va_zast hexec hb hK hP (wl_D hA) hS q0 t0 (by rw [wl_get hq, he]) ht hin hdg (fun H1 locs1 h1 _ h3 => kk H1 locs1 (by rw [wl_set] at h1; exact h1) h3)
theorem b_astq (hexec : p.tables.exec = Jvm.exec) (hb : c.code = cc) (hK : va_K D cl tys s) (hP : va_P D cl (wl base n M) H) (hA : ∀ k, k < n → A (base + k)) (hS : va_S A H0 H locs) (q0 t0 qk ci : Nat) (hq : q0 < n) (hqk : qk < n) {cA : ClassId} {r : vw_C} {N : Nat} {vs : List Value} {f : Nat → Option Nat} (he : M q0 = .inl (cA, N, .inr (.inr (.inr (.inr f))))) (ht : tys[t0]? = some (cA, .object r.1)) (hv : M qk = .inr (ci, vs)) (hc : cl[ci]? = some r) {i : Int32} (hin : vp_in i N) (hdg : decode cc pc = .ok (.aastore, 1))
    (kk : ∀ (H1 : Heap) (locs1 : List Loc), va_P D cl (wl base n (va_up M q0 (.inl (cA, N, .inr (.inr (.inr (.inr (va_up f i.toNatClampNeg (some (base + qk)))))))))) H1 → va_S A H0 H1 locs1 → W p l e R s m args below meth c H1 locs1 cells slots Q (F0 m (pc + 1) ls rest)) : W p l e R s m args below meth c H locs cells slots Q (F0 m pc ls (.ref (base + qk) :: .int i :: .ref (base + q0) :: rest)) :=
  va_astq hexec hb hK hP (wl_D hA) hS q0 t0 qk ci (by rw [wl_get hq, he]) ht (by rw [wl_get hqk, hv]) hc hin hdg (fun H1 locs1 h1 _ h3 => kk H1 locs1 (by rw [wl_set] at h1; exact h1) h3)
end BL
section BN
variable {p : Program} {l : Launch} {e : Env} {R : Room} {s : State} {m : MethodId} {args : Array Value} {below : List Frame} {meth : Method} {c : Code} {H : Heap} {locs : List Loc} {cells slots : Nat} {Q : State → Prop}
variable {cc : ByteArray} {pc : Nat} {ls : Array Slot} {rest : List Value} {D : va_G} {cl : List vw_C} {tys : List (ClassId × FieldType)} {H0 : Heap} {base n : Nat} {M : Nat → va_E} {A : Nat → Prop}
/-- one more cell behind the block -/
theorem wl_grow {H1 : Heap} {x : va_E} (hP : va_P D cl (wl base n M) H) (o1 : ∀ q, q < base + n → H1[q]? = H[q]?) (hx : va_at D cl (base + n, x) H1) : va_P D cl (wl base (n + 1) (va_up M n x)) H1 := by
  rw [← wl_push]
  refine va_P.app (wl_kept hP (fun q _ h2 => o1 q h2)) (fun k y hy => ?_)
  have hz : k < 1 := (List.getElem?_eq_some_iff.mp hy).1
  rw [show k = 0 by omega] at hy
  cases hy
  exact hx
theorem b_new (hexec : p.tables.exec = Jvm.exec) (hb : c.code = cc) {own C : String} {T : u_T} {N ci index : Nat} {Ts : List Cond} (hts : ∀ w ∈ Ts, w.before args s = true) (hin : ∀ w ∈ u_ws C T N, w ∈ Ts) (ty : Nat → FieldType) (hty : ∀ k, k < N → parseFieldDescriptor (T k).2.2.1 = some (ty k)) (hown : s.vm.findClass own = some m.cls) (hcl : (Cond.classLink own index C).before args s = true) (hinst : (Cond.instantiable C N).before args s = true) (hini : (Cond.initialized C).before args s = true)
    (hK : va_K D cl tys s) (hP : va_P D cl (wl base n M) H) (hz : H.size = base + n) (hS : va_S A H0 H locs) (hc : cl[ci]? = some (C, T, N)) {fs : List Value} (hfs : ∀ j, j < N → defaultValue (ty j) = vp_V fs j) (hcells : cells + 1 ≤ R.cells) (hslots : slots + N ≤ R.slots) (hdg : decode cc pc = .ok (.new index, 3))
    (kk : ∀ (H1 : Heap), H1.size = base + (n + 1) → va_P D cl (wl base (n + 1) (va_up M n (.inr (ci, fs)))) H1 → va_S A H0 H1 locs →
      W p l e R s m args below meth c H1 locs (cells + 1) (slots + N) Q (F0 m (pc + 3) ls (.ref (base + n) :: rest))) : W p l e R s m args below meth c H locs cells slots Q (F0 m pc ls rest) := by
  have hKn := hK.1 ci _ hc
  have hS1 := hS.1
  refine W.newcK hexec hb hown hcl hinst hini rfl hdg hcells hslots hKn.2.1 hz fun H1 kC hkC e1 z1 o1 => ?_
  exact kk H1 (by omega) (wl_grow hP o1 ⟨_, hc, (u_born ty hts hin hKn hkC e1 hty).to hfs⟩) ⟨by omega, fun x h1 h2 => (o1 x (by omega)).trans (hS.2.1 x h1 h2), hS.2.2⟩
theorem b_newa (hexec : p.tables.exec = Jvm.exec) (hb : c.code = cc) {atype : ArrayType} (harr : (Cond.arrayClass (newarray.typeOf atype)).before args s = true) {ty : FieldType} (hty : newarray.typeOf atype = ty) {cA : ClassId} (hra : s.vm.findClass ("[" ++ ty.toString) = some cA)
    (hP : va_P D cl (wl base n M) H) (hz : H.size = base + n) (hS : va_S A H0 H locs)
    {i : Int32} {N' : Nat} {a0 : vp_A} (ha : ∀ cA : ClassId, vp_cell cA a0 = arrV cA N' (fun _ => defaultValue ty)) (hn : ¬ i < 0) (hN : i.toNatClampNeg = N') (hbytes : N' * componentBytes ty ≤ 536870912) (hcells : cells + 1 ≤ R.cells) (hslots : slots + N' ≤ R.slots) (hdg : decode cc pc = .ok (.newarray atype, 2))
    (kk : ∀ (H1 : Heap), H1.size = base + (n + 1) → va_P D cl (wl base (n + 1) (va_up M n (.inl (cA, a0)))) H1 → va_S A H0 H1 locs →
      W p l e R s m args below meth c H1 locs (cells + 1) (slots + N') Q (F0 m (pc + 2) ls (.ref (base + n) :: rest))) : W p l e R s m args below meth c H locs cells slots Q (F0 m pc ls (.int i :: rest)) := by
  subst hty
  have hS1 := hS.1
  refine va_newaK hexec hb harr rfl hdg rfl hn hN hbytes hcells hslots hz fun H1 cA' e1 z1 o1 hAr hNm => ?_
  cases hra.symm.trans hNm
  refine kk H1 (by omega) (wl_grow hP o1 ?_) ⟨by omega, fun x h1 h2 => (o1 x (by omega)).trans (hS.2.1 x h1 h2), hS.2.2⟩
  show H1[base + n]? = some (vp_cell _ _)
  rw [ha]
  exact e1
theorem b_newq (hexec : p.tables.exec = Jvm.exec) (hb : c.code = cc) {own C : String} {index : Nat} (hown : s.vm.findClass own = some m.cls) (hclink : (Cond.classLink own index C).before args s = true) (hover : va_AO C s) {cA : ClassId} (hra : s.vm.findClass ("[" ++ (FieldType.object C).toString) = some cA)
    (hP : va_P D cl (wl base n M) H) (hz : H.size = base + n) (hS : va_S A H0 H locs)
    {i : Int32} {N' : Nat} (hn : ¬ i < 0) (hN : i.toNatClampNeg = N') (hbytes : N' * 4 ≤ 536870912) (hcells : cells + 1 ≤ R.cells) (hslots : slots + N' ≤ R.slots) (hdg : decode cc pc = .ok (.anewarray index, 3))
    (kk : ∀ (H1 : Heap), H1.size = base + (n + 1) → va_P D cl (wl base (n + 1) (va_up M n (.inl (cA, N', .inr (.inr (.inr (.inr (fun _ => none)))))))) H1 → va_S A H0 H1 locs →
      W p l e R s m args below meth c H1 locs (cells + 1) (slots + N') Q (F0 m (pc + 3) ls (.ref (base + n) :: rest))) : W p l e R s m args below meth c H locs cells slots Q (F0 m pc ls (.int i :: rest)) := by
  subst hN
  have hS1 := hS.1
  refine W.anew hexec hb hown hclink (va_AO.use hover) rfl hdg rfl hn hbytes hcells hslots fun cA' kA comp f1 f2 f3 f4 => ?_
  cases hra.symm.trans f1
  generalize hH1 : H.push ({ cls := cA, slots := Array.replicate i.toNatClampNeg .null, vm := .none } : Cell) = H1
  have z1 : H1.size = H.size + 1 := by rw [← hH1, Array.size_push]
  have e1 : H1[H.size]? = some (arrV cA i.toNatClampNeg (fun _ => .null)) := by rw [← hH1, Array.getElem?_push_size, ← arrV_new]
  have o1 : ∀ q : Nat, q < base + n → H1[q]? = H[q]? := fun q hq => by rw [← hH1, Array.getElem?_push, if_neg (by omega)]
  rw [hz] at e1
  refine W.eq (g2 := F0 m (pc + 3) ls (.ref (base + n) :: rest)) (by rw [← hz]) ?_
  refine kk H1 (by omega) (wl_grow hP o1 ?_) ⟨by omega, fun x h1 h2 => (o1 x (by omega)).trans (hS.2.1 x h1 h2), hS.2.2⟩
  show H1[base + n]? = some (vp_cell _ _)
  rw [vp_cell_q]
  exact e1
end BN
