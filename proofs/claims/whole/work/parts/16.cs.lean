/-! Calls, returns and throws in the class's methods. -/
section CS0
variable {S0 : State} {A0 : Array Value} {D : va_G} {ar : Nat → ClassId} {s : State} {args : Array Value}
theorem x_ok1 {y : MethodName} {bytes : ByteArray} {maxL : Nat} {ret : Option FieldType} (hc : (Cond.code y bytes maxL ret).before args s = true) (hi : (Cond.initialized y.cls).before args s = true) : x_Ok s y [Cond.code y bytes maxL ret] maxL := by
  refine ⟨fun w hw a' U hU => ?_, fun U hU mk hn => ?_, fun a' U hU => word_at hU (Or.inl rfl) hi⟩
  · cases List.mem_singleton.mp hw
    exact word_at hU (Or.inl rfl) hc
  · obtain ⟨meth, cc, h1, h2, -, h4, -⟩ := Cond.code_spec hn (word_at (a' := #[]) hU (Or.inl rfl) hc)
    exact ⟨meth, cc, h1, h2, h4⟩
theorem castable_at {a b : String} {U : State} {a' : Array Value} (hv : s.vm.Alike U.vm) (h : (Cond.castable a b).before args s = true) : (Cond.castable a b).before a' U = true := by
  rw [← Cond.castable_setVm hv] at h
  exact h
theorem declares_at {x : MethodName} {U : State} {a' : Array Value} (hv : s.vm.Alike U.vm) (h : (Cond.declares x).before args s = true) : (Cond.declares x).before a' U = true := by
  rw [← Cond.declares_setVm hv] at h
  exact h
/-- the words of a throw: each stands in the tables, and stays -/
theorem At0.thr (h : At0 S0 A0 D ar s) {L : List Cond} (hL : ∀ w ∈ L, w ∈ lw_tbl) (hg : L.all (fun w => goodWord w || (match w with | .castable _ _ => true | .declares _ => true | _ => false)) = true) : ∀ w ∈ L, w.before args s = true := by
  intro w hw
  have h1 := List.all_eq_true.mp hg w hw
  rcases Bool.or_eq_true_iff.mp h1 with h2 | h2
  · exact h.word (hL w hw) h2
  · cases w <;> first | exact castable_at h.2.1.alike (h.1.1 _ (hL _ hw)) | exact declares_at h.2.1.alike (h.1.1 _ (hL _ hw)) | (simp at h2; done)
theorem At0.str (h : At0 S0 A0 D ar s) {own tx : String} {k : Nat} (hw : Cond.stringRef own k tx ∈ lw_tbl) (hx : (Cond.exactly (.string own k) "java/lang/String").before A0 S0 = true) : ∃ a, vk_R own k tx a s := by
  obtain ⟨a, c, cA, kA, q1, -⟩ := Cond.exactly_spec (args := A0) (first := S0) (o := none) (s := S0) (idx := []) hx
  exact ⟨a, vk_R.warm h.2.1 (vk_R.of (h.1.1 _ hw) q1)⟩
theorem At0.zq (h : At0 S0 A0 D ar s) {C n d : String} (hl : Cond.laysStatic C n d ∈ lw_tbl) (hi : Cond.initialized C ∈ lw_tbl) (hr : (Cond.isRef (.static C n d)).before A0 S0 = true) {A : Nat → Prop} (hA : ∀ q, A q → S0.heap.size ≤ q) : vx_Zq C n d A s s.heap := by
  have h1 : vx_Zq C n d (fun q => S0.heap.size ≤ q) S0 S0.heap := vx_Zqof (h.1.1 _ hl) (h.1.1 _ hi) hr (fun a ha hz => by omega)
  exact (vx_Zq.moved h.2.1.alike (h1.kept (fun a ha _ => h.2.2.2 a ha id))).narrow hA
end CS0
section CS
variable {S0 : State} {A0 : Array Value} {D : va_G} {ar : Nat → ClassId} {base : Nat} {σ : Mem}
variable {p : Program} {l : Launch} {e : Env} {R : Room} {s : State} {m : MethodId} {args : Array Value} {below : List Frame} {meth : Method} {c : Code} {H : Heap} {locs : List Loc} {cells slots : Nat} {Q : State → Prop}
variable {own : String} {cc : ByteArray} {nL : Nat} {ret : Option FieldType} {pc index : Nat} {ls : Array Slot} {rest As st0 av : List Value} {y : MethodName} {bytes : ByteArray} {maxL : Nat} {rt : Option FieldType} {rm : Room}
theorem inB_old {S : State} {base n : Nat} (h : S.heap.size ≤ base) : ∀ q, inB base n q → S.heap.size ≤ q := fun q hq => Nat.le_trans h hq.1
/-- the way into a method of an object of the block -/
theorem cs_V (C0 : Cx S0 A0 D ar base p l s m args meth c own cc nL ret) (hP : va_P D classes (wl base 122 (mem ar base σ)) H) {kd i ci : Nat} {C : String} {T : u_T} {N : Nat} {fs : List Value} (hkd : kd < 17) (hi : i < adN kd) (he : cont ar base σ kd i = .inr (ci, fs)) (hc : classes[ci]? = some (C, T, N))
    (hml : Cond.methodLink own index y ∈ lw_tbl) (him : Cond.instanceMethod y ∈ lw_tbl) (hsl : Cond.selects C y y ∈ lw_tbl) (hcd : Cond.code y bytes maxL rt ∈ lw_tbl) (hin : Cond.initialized y.cls ∈ lw_tbl)
    (hd : y.cls ≠ "java/lang/invoke/MethodHandle" ∧ y.cls ≠ "java/lang/invoke/VarHandle" ∧ (parseMethodDescriptor y.desc).map (fun d => d.parameters.length) = some As.length) (hst : st0 = As.reverse ++ .ref (base + ad kd i) :: rest) (hdg : decode cc pc = .ok (.invokevirtual index, 3)) :
    x_In p l e R s m args below meth c H locs cells slots (F0 m pc ls st0) rest y (Value.ref (base + ad kd i) :: As).toArray ∧ x_Ok s y [Cond.code y bytes maxL rt] maxL := by
  obtain ⟨hx, hb, -, -, hown, -, -, -, h0, -⟩ := C0
  exact ⟨x_inV (C := C) hx hb hown (h0.word hml rfl) (h0.word him rfl) (h0.word hsl rfl) hd (h0.word hcd rfl) (va_recv h0.K hP (ci := ci) (q0 := ad kd i) hc (by rw [wl_get (ad_lt hkd hi), (mem_at hkd hi).trans he])) hst hdg, x_ok1 (args := args) (h0.word hcd rfl) (h0.word hin rfl)⟩
theorem cs_S (C0 : Cx S0 A0 D ar base p l s m args meth c own cc nL ret) (hml : Cond.methodLink own index y ∈ lw_tbl) (him : Cond.static y ∈ lw_tbl) (hcd : Cond.code y bytes maxL rt ∈ lw_tbl) (hin : Cond.initialized y.cls ∈ lw_tbl)
    (hd : y.cls ≠ "java/lang/invoke/MethodHandle" ∧ y.cls ≠ "java/lang/invoke/VarHandle" ∧ (parseMethodDescriptor y.desc).map (fun d => d.parameters.length) = some As.length) (hst : st0 = As.reverse ++ rest) (hdg : decode cc pc = .ok (.invokestatic index, 3)) :
    x_In p l e R s m args below meth c H locs cells slots (F0 m pc ls st0) rest y As.toArray ∧ x_Ok s y [Cond.code y bytes maxL rt] maxL := by
  obtain ⟨hx, hb, -, -, hown, -, -, -, h0, -⟩ := C0
  exact ⟨x_inS hx hb hown (h0.word hml rfl) (h0.word him rfl) (h0.word hin rfl) hd (Or.inl (h0.word hcd rfl)) hst hdg, x_ok1 (args := args) (h0.word hcd rfl) (h0.word hin rfl)⟩
/-- a call of a method that changes nothing, and may throw -/
theorem cs_P {P : Nat → Option Int32 → Prop} {ig : Instr} (C0 : Cx S0 A0 D ar base p l s m args meth c own cc nL ret) (hP : va_P D classes (wl base 122 (mem ar base σ)) H) (hS : va_S (inB base 122) s.heap H locs)
    (hcall : x_In p l e R s m args below meth c H locs cells slots (F0 m pc ls st0) rest y av.toArray ∧ x_Ok s y [Cond.code y bytes maxL rt] maxL) (hM : MX l y [Cond.code y bytes maxL rt] rm (PS S0 A0 D ar base σ av) (QP P) (fun _ => False))
    (hsize : ls.size = nL) (hdg : decode cc pc = .ok (ig, 3)) (hW : (rest.map fun v => v.category).sum ≤ 8) (hR : rm.frames + 1 ≤ R.frames ∧ 8 + (maxL + 11) + rm.locals ≤ R.locals) (hf : cells + rm.cells ≤ R.cells ∧ slots + rm.slots ≤ R.slots)
    (kt : ∀ (k : Nat) (r : Option Int32) (x : Addr) (t : State), k ≠ 0 → P k r → x_is (exN k) x t → s.vm.Alike t.vm → x_Keep (fun _ => False) H t.heap → WT p l e R s m args below meth c t.heap locs (cells + rm.cells) (slots + rm.slots) Q (F0 m pc ls rest) x)
    (kr : ∀ r : Option Int32, P 0 r → W p l e R s m args below meth c H locs cells slots Q (F0 m (pc + 3) ls ((r.map Value.int).toList ++ rest))) : W p l e R s m args below meth c H locs cells slots Q (F0 m pc ls st0) := by
  obtain ⟨hx, hb, hr, hml, hown, hlk, hno, hl, h0, hbase⟩ := C0
  refine x_callR hcall.1 hcall.2 hM PS_blind hml hsize hb hdg hW hR hf (fun U hU hWU => ⟨rfl, h0.warm hWU (locs := locs) (by rw [hU]; exact hS) (inB_old hbase), hbase, by rw [hU]; exact hP⟩) ?_ ?_ ?_
  · intro v st₀ t _ hq
    obtain ⟨k, r, hp, ho, hh⟩ := hq
    exact hh (oR_ret ho).1
  · intro v st₀ t _ _ hq
    obtain ⟨k, r, hp, ho, hh⟩ := hq
    obtain ⟨rfl, rfl⟩ := oR_ret ho
    exact kr r hp
  · intro x st₀ t L _ hv hq hkp hL
    obtain ⟨k, r, hp, ho, -⟩ := hq
    obtain ⟨hk, hxx⟩ := oR_thr ho
    have hL0 : L = [] := by
      cases L with
      | nil => rfl
      | cons a b => exact (hL a List.mem_cons_self).elim
    subst hL0
    rw [List.append_nil]
    exact kt k r x t hk hp hxx hv hkp
/-- an exception passes through a method that has changed nothing so far -/
theorem th_I {P' : Nat → Option Int32 → Mem → Prop} {k mc ms : Nat} {x : Addr} {t : State} (C0 : Cx S0 A0 D ar base p l s m args meth c own cc nL ret) (hP : va_P D classes (wl base 122 (mem ar base σ)) H) (hS : va_S (inB base 122) s.heap H locs) (hk : k ≠ 0) (hx : x_is (exN k) x t) (hv : s.vm.Alike t.vm) (hkp : x_Keep (fun _ => False) H t.heap) (hp : P' k none σ) (h1 : cells ≤ mc) (h2 : slots ≤ ms) :
    WT p l e R s m args below meth c t.heap locs cells slots (MQX below (QI D ar base P') args s mc ms (inB base 122)) (F0 m pc ls rest) x := by
  obtain ⟨-, -, -, -, -, hlk, hno, -, -, -⟩ := C0
  refine WT.widen h1 h2 (WT.leave hno hlk (fun t' ht hW => ⟨k, none, σ, hp, ?_, ?_⟩) hS.2.2)
  · unfold oR
    rw [if_neg hk]
    exact ⟨x, rfl, hx.to ht (hv.symm.trans hW.alike)⟩
  · rw [ht]
    exact wl_kept hP (fun q _ h4 => hkp.2 q (by have := wl_lt hP (k := q - base) (by omega); omega) id)
theorem th_P {P' : Nat → Option Int32 → Prop} {k mc ms : Nat} {x : Addr} {t : State} (C0 : Cx S0 A0 D ar base p l s m args meth c own cc nL ret) (hk : k ≠ 0) (hx : x_is (exN k) x t) (hv : s.vm.Alike t.vm) (hp : P' k none) (h1 : cells ≤ mc) (h2 : slots ≤ ms) :
    WT p l e R s m args below meth c t.heap [] cells slots (MQX below (QP P') args s mc ms (fun _ => False)) (F0 m pc ls rest) x := by
  obtain ⟨-, -, -, -, -, hlk, hno, -, -, -⟩ := C0
  refine WT.widen h1 h2 (WT.leave hno hlk (fun t' ht hW => ⟨k, none, hp, ?_, fun h => absurd h hk⟩) (fun q hq => by cases hq))
  unfold oR
  rw [if_neg hk]
  exact ⟨x, rfl, hx.to ht (hv.symm.trans hW.alike)⟩
/-- such a call, in a method that may change the block but hasn't yet -/
theorem cs_PI {P : Nat → Option Int32 → Prop} {P' : Nat → Option Int32 → Mem → Prop} {ig : Instr} (C0 : Cx S0 A0 D ar base p l s m args meth c own cc nL ret) (hP : va_P D classes (wl base 122 (mem ar base σ)) H) (hS : va_S (inB base 122) s.heap H locs)
    (hcall : x_In p l e R s m args below meth c H locs cells slots (F0 m pc ls st0) rest y av.toArray ∧ x_Ok s y [Cond.code y bytes maxL rt] maxL) (hM : MX l y [Cond.code y bytes maxL rt] rm (PS S0 A0 D ar base σ av) (QP P) (fun _ => False))
    (hsize : ls.size = nL) (hdg : decode cc pc = .ok (ig, 3)) (hW : (rest.map fun v => v.category).sum ≤ 8) (hR : rm.frames + 1 ≤ R.frames ∧ 8 + (maxL + 11) + rm.locals ≤ R.locals) (hf : cells + rm.cells ≤ R.cells ∧ slots + rm.slots ≤ R.slots)
    (kt : ∀ (k : Nat) (r : Option Int32), k ≠ 0 → P k r → P' k none σ)
    (kr : ∀ r : Option Int32, P 0 r → W p l e R s m args below meth c H locs cells slots (MQX below (QI D ar base P') args s R.cells R.slots (inB base 122)) (F0 m (pc + 3) ls ((r.map Value.int).toList ++ rest))) :
    W p l e R s m args below meth c H locs cells slots (MQX below (QI D ar base P') args s R.cells R.slots (inB base 122)) (F0 m pc ls st0) :=
  cs_P C0 hP hS hcall hM hsize hdg hW hR hf (fun k r x t hk hp hx hv hkp => th_I C0 hP hS hk hx hv hkp (kt k r hk hp) hf.1 hf.2) kr
/-- .. in a method that changes nothing -/
theorem cs_PP {P P' : Nat → Option Int32 → Prop} {ig : Instr} (C0 : Cx S0 A0 D ar base p l s m args meth c own cc nL ret) (hP : va_P D classes (wl base 122 (mem ar base σ)) s.heap)
    (hcall : x_In p l e R s m args below meth c s.heap [] cells slots (F0 m pc ls st0) rest y av.toArray ∧ x_Ok s y [Cond.code y bytes maxL rt] maxL) (hM : MX l y [Cond.code y bytes maxL rt] rm (PS S0 A0 D ar base σ av) (QP P) (fun _ => False))
    (hsize : ls.size = nL) (hdg : decode cc pc = .ok (ig, 3)) (hW : (rest.map fun v => v.category).sum ≤ 8) (hR : rm.frames + 1 ≤ R.frames ∧ 8 + (maxL + 11) + rm.locals ≤ R.locals) (hf : cells + rm.cells ≤ R.cells ∧ slots + rm.slots ≤ R.slots)
    (kt : ∀ (k : Nat) (r : Option Int32), k ≠ 0 → P k r → P' k none)
    (kr : ∀ r : Option Int32, P 0 r → W p l e R s m args below meth c s.heap [] cells slots (MQX below (QP P') args s R.cells R.slots (fun _ => False)) (F0 m (pc + 3) ls ((r.map Value.int).toList ++ rest))) :
    W p l e R s m args below meth c s.heap [] cells slots (MQX below (QP P') args s R.cells R.slots (fun _ => False)) (F0 m pc ls st0) :=
  cs_P C0 hP va_S.rf hcall hM hsize hdg hW hR hf (fun k r x t hk hp hx hv hkp => th_P C0 hk hx hv (kt k r hk hp) hf.1 hf.2) kr
/-- a call of a method that changes the block and never throws -/
theorem cs_I {P : Nat → Option Int32 → Mem → Prop} {ig : Instr} (C0 : Cx S0 A0 D ar base p l s m args meth c own cc nL ret) (hP : va_P D classes (wl base 122 (mem ar base σ)) H) (hS : va_S (inB base 122) s.heap H locs)
    (hcall : x_In p l e R s m args below meth c H locs cells slots (F0 m pc ls st0) rest y av.toArray ∧ x_Ok s y [Cond.code y bytes maxL rt] maxL) (hM : MX l y [Cond.code y bytes maxL rt] rm (PS S0 A0 D ar base σ av) (QI D ar base P) (inB base 122))
    (hno : ∀ k r σ', P k r σ' → k = 0) (hz : rm.cells = 0 ∧ rm.slots = 0)
    (hsize : ls.size = nL) (hdg : decode cc pc = .ok (ig, 3)) (hW : (rest.map fun v => v.category).sum ≤ 8) (hR : rm.frames + 1 ≤ R.frames ∧ 8 + (maxL + 11) + rm.locals ≤ R.locals) (hf : cells ≤ R.cells ∧ slots ≤ R.slots)
    (kr : ∀ (r : Option Int32) (σ' : Mem) (H1 : Heap) (locs1 : List Loc), P 0 r σ' → va_P D classes (wl base 122 (mem ar base σ')) H1 → va_S (inB base 122) s.heap H1 locs1 → W p l e R s m args below meth c H1 locs1 cells slots Q (F0 m (pc + 3) ls ((r.map Value.int).toList ++ rest))) : W p l e R s m args below meth c H locs cells slots Q (F0 m pc ls st0) := by
  obtain ⟨hx, hb, hr, hml, hown, hlk, hn0, hl, h0, hbase⟩ := C0
  refine x_call hcall.1 hcall.2 hM PS_blind hml hsize hb hdg hW hR ⟨by rw [hz.1]; exact hf.1, by rw [hz.2]; exact hf.2⟩ (fun U hU hWU => ⟨rfl, h0.warm hWU (locs := locs) (by rw [hU]; exact hS) (inB_old hbase), hbase, by rw [hU]; exact hP⟩) ?_ ?_
  · intro v st₀ t L _ _ hq hkp hL
    obtain ⟨k, r, σ', hp, ho, hh⟩ := hq
    obtain ⟨rfl, rfl⟩ := oR_ret ho
    rw [hz.1, hz.2]
    exact kr r σ' t.heap _ hp hh (hkp.S hS (fun q h => h) hL)
  · intro x st₀ t L _ _ hq _ _
    obtain ⟨k, r, σ', hp, ho, hh⟩ := hq
    exact absurd (hno k r σ' hp) (oR_thr ho).1
-- returns
theorem rI_i {P : Nat → Option Int32 → Mem → Prop} {v : Int32} (C0 : Cx S0 A0 D ar base p l s m args meth c own cc nL (some .int)) (hP : va_P D classes (wl base 122 (mem ar base σ)) H) (hS : va_S (inB base 122) s.heap H locs) (hc : cells ≤ R.cells ∧ slots ≤ R.slots) (hp : P 0 (some v) σ) (hdg : decode cc pc = .ok (.ireturn, 1)) :
    W p l e R s m args below meth c H locs cells slots (MQX below (QI D ar base P) args s R.cells R.slots (inB base 122)) (F0 m pc ls [.int v]) := by
  obtain ⟨hx, hb, hr, -, -, hlk, -, -, -, -⟩ := C0
  exact W.widen hc.1 hc.2 (x_iret hx hb hr hlk (fun t ht _ => ⟨0, some v, σ, hp, rfl, by rw [ht]; exact hP⟩) hS.2.2 hdg)
theorem rI_z {P : Nat → Option Int32 → Mem → Prop} {v : Int32} (C0 : Cx S0 A0 D ar base p l s m args meth c own cc nL (some .boolean)) (hP : va_P D classes (wl base 122 (mem ar base σ)) H) (hS : va_S (inB base 122) s.heap H locs) (hc : cells ≤ R.cells ∧ slots ≤ R.slots) (hn : v = 0 ∨ v = 1) (hp : P 0 (some v) σ) (hdg : decode cc pc = .ok (.ireturn, 1)) :
    W p l e R s m args below meth c H locs cells slots (MQX below (QI D ar base P) args s R.cells R.slots (inB base 122)) (F0 m pc ls [.int v]) := by
  obtain ⟨hx, hb, hr, -, -, hlk, -, -, -, -⟩ := C0
  exact W.widen hc.1 hc.2 (x_zret hx hb hr hlk (by rcases hn with rfl | rfl <;> rfl) (fun t ht _ => ⟨0, some v, σ, hp, rfl, by rw [ht]; exact hP⟩) hS.2.2 hdg)
theorem rI_v {P : Nat → Option Int32 → Mem → Prop} (C0 : Cx S0 A0 D ar base p l s m args meth c own cc nL none) (hP : va_P D classes (wl base 122 (mem ar base σ)) H) (hS : va_S (inB base 122) s.heap H locs) (hc : cells ≤ R.cells ∧ slots ≤ R.slots) (hp : P 0 none σ) (hdg : decode cc pc = .ok (.return_, 1)) :
    W p l e R s m args below meth c H locs cells slots (MQX below (QI D ar base P) args s R.cells R.slots (inB base 122)) (F0 m pc ls []) := by
  obtain ⟨hx, hb, hr, -, -, hlk, -, -, -, -⟩ := C0
  exact W.widen hc.1 hc.2 (x_vret hx hb hr hlk (fun t ht _ => ⟨0, none, σ, hp, rfl, by rw [ht]; exact hP⟩) hS.2.2 hdg)
theorem rP_i {P : Nat → Option Int32 → Prop} {v : Int32} (C0 : Cx S0 A0 D ar base p l s m args meth c own cc nL (some .int)) (hc : cells ≤ R.cells ∧ slots ≤ R.slots) (hp : P 0 (some v)) (hdg : decode cc pc = .ok (.ireturn, 1)) :
    W p l e R s m args below meth c s.heap [] cells slots (MQX below (QP P) args s R.cells R.slots (fun _ => False)) (F0 m pc ls [.int v]) := by
  obtain ⟨hx, hb, hr, -, -, hlk, -, -, -, -⟩ := C0
  exact W.widen hc.1 hc.2 (x_iret hx hb hr hlk (fun t ht _ => ⟨0, some v, hp, rfl, fun _ => ht⟩) (fun q hq => by cases hq) hdg)
theorem rP_z {P : Nat → Option Int32 → Prop} {v : Int32} (C0 : Cx S0 A0 D ar base p l s m args meth c own cc nL (some .boolean)) (hc : cells ≤ R.cells ∧ slots ≤ R.slots) (hn : v = 0 ∨ v = 1) (hp : P 0 (some v)) (hdg : decode cc pc = .ok (.ireturn, 1)) :
    W p l e R s m args below meth c s.heap [] cells slots (MQX below (QP P) args s R.cells R.slots (fun _ => False)) (F0 m pc ls [.int v]) := by
  obtain ⟨hx, hb, hr, -, -, hlk, -, -, -, -⟩ := C0
  exact W.widen hc.1 hc.2 (x_zret hx hb hr hlk (by rcases hn with rfl | rfl <;> rfl) (fun t ht _ => ⟨0, some v, hp, rfl, fun _ => ht⟩) (fun q hq => by cases hq) hdg)
theorem rP_v {P : Nat → Option Int32 → Prop} (C0 : Cx S0 A0 D ar base p l s m args meth c own cc nL none) (hc : cells ≤ R.cells ∧ slots ≤ R.slots) (hp : P 0 none) (hdg : decode cc pc = .ok (.return_, 1)) :
    W p l e R s m args below meth c s.heap [] cells slots (MQX below (QP P) args s R.cells R.slots (fun _ => False)) (F0 m pc ls []) := by
  obtain ⟨hx, hb, hr, -, -, hlk, -, -, -, -⟩ := C0
  exact W.widen hc.1 hc.2 (x_vret hx hb hr hlk (fun t ht _ => ⟨0, none, hp, rfl, fun _ => ht⟩) (fun q hq => by cases hq) hdg)
/-- throw new E("text"); the block may have been changed -/
theorem tn_any {Qc : Array Value → State → Outcome → State → Prop} {free : Addr → Prop} {E text : String} {ik is ic : Nat} (C0 : Cx S0 A0 D ar base p l s m args meth c own cc nL ret) (hS : va_S (inB base 122) s.heap H locs) (hE : Bundle.fit E = true)
    (hk : Cond.classLink own ik E ∈ lw_tbl) (hini : Cond.initialized E ∈ lw_tbl) (hsr : Cond.stringRef own is text ∈ lw_tbl) (hex : ∀ A S, (Jvm.Cond.and given_1 narrow_1).before A S = true → (Cond.exactly (.string own is) "java/lang/String").before A S = true)
    (hat : ∀ w ∈ vx_atS own ic E ["java/lang/RuntimeException", "java/lang/Exception"], w ∈ lw_tbl) (hag : (vx_atS own ic E ["java/lang/RuntimeException", "java/lang/Exception"]).all (fun w => goodWord w || (match w with | .castable _ _ => true | .declares _ => true | _ => false)) = true)
    (hag2 : (vx_atS own ic E ["java/lang/RuntimeException", "java/lang/Exception"]).all vx_ot = true)
    (hu : ∀ A S, (Jvm.Cond.and given_1 narrow_1).before A S = true → (Cond.isRef (.static Bundle.tN "UNASSIGNED_STACK" Bundle.steD)).before A S = true ∧ (Cond.isRef (.static Bundle.tN "SUPPRESSED_SENTINEL" Bundle.listD)).before A S = true)
    (hz : Cond.laysStatic Bundle.tN "UNASSIGNED_STACK" Bundle.steD ∈ lw_tbl ∧ Cond.laysStatic Bundle.tN "SUPPRESSED_SENTINEL" Bundle.listD ∈ lw_tbl ∧ Cond.initialized Bundle.tN ∈ lw_tbl) (hsize : ls.size = nL)
    (d0 : decode cc pc = .ok (.new ik, 3)) (d3 : decode cc (pc + 3) = .ok (.dup, 1)) (d4 : decode cc (pc + 4) = .ok (.ldc is, 2)) (d6 : decode cc (pc + 6) = .ok (.invokespecial ic, 3)) (d9 : decode cc (pc + 9) = .ok (.athrow, 1))
    (hRf : 5 < R.frames) (hRl : (rest.map fun v => v.category).sum + 82 ≤ R.locals) (hc : cells + 1 ≤ R.cells ∧ slots + 6 ≤ R.slots) (hf : ∀ z ∈ locs, free z.base)
    (hq : ∀ (t : State) (x : Addr), s.WarmedH t.vm → x_Keep (fun _ => False) H t.heap → x_is E x t → Qc args s (.threw x) t) :
    W p l e R s m args below meth c H locs cells slots (MQX below Qc args s R.cells R.slots free) (F0 m pc ls rest) := by
  obtain ⟨hx, hb, -, hml, hown, hlk, hno, hl, h0, hbase⟩ := C0
  obtain ⟨sa, hsa⟩ := h0.str hsr (hex _ _ h0.1.2.2)
  have h1 := vx_throwS (p := p) (l := l) (e := e) (R := R) (s := s) (m := m) (args := args) (below := below) (meth := meth) (c := c) (H := H) (locs := locs) (cells := cells) (slots := slots) (free := free) (ls := ls) (rest := rest) (Qc := fun _ _ _ _ => False) (XC := fun E' _ t => E' = E ∧ x_Keep (fun _ => False) H t.heap) (A := inB base 122) (mc := R.cells) (ms := R.slots) (names := ["java/lang/RuntimeException", "java/lang/Exception"]) hx hb hl hown hE (by decide +kernel) (h0.word hk rfl) (h0.word hini rfl) hsa (h0.thr hat hag)
    (fun w hw => by
      rcases List.mem_cons.mp hw with rfl | hw
      · rfl
      · rcases List.mem_cons.mp hw with rfl | hw
        · rfl
        · exact List.all_eq_true.mp hag2 w hw)
    (h0.zq hz.1 hz.2.2 (hu _ _ h0.1.2.2).1 (inB_old hbase)) (h0.zq hz.2.1 hz.2.2 (hu _ _ h0.1.2.2).2 (inB_old hbase)) hS (hsize.trans hml.symm) d0 d3 d4 d6 d9 (x_empty hno _) hRf hRl hc.1 hc.2 hlk
    (fun t _ h3 h4 => ⟨rfl, h3, fun q hq _ => h4 q hq⟩) hf hc.1 hc.2
  refine W.mono ?_ h1
  rintro t ⟨o, h2, h3, h4⟩
  rcases h4 with ⟨h5, -⟩ | ⟨q, rfl, E', ce, L, ⟨rfl, h6⟩, h7, h8, h9, h10, h11, h12⟩
  · exact h5.elim
  · exact ⟨.threw q, h2, h3, hq t q h10 h6 ⟨ce, h7, h8, by rw [h10.alike.findClass]; exact h9⟩, L, ⟨h10, h11⟩, h12⟩
end CS
