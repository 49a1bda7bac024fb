/-! The law's calls of its wrappers: laid by gen/m81.py. -/
theorem x_okW {s : State} {args : Array Value} {y : MethodName} {bytes : ByteArray} {maxL : Nat} {ret : Option FieldType} {hh : List (Nat × Nat × Nat × Nat)} (hc : (Cond.codeWith y bytes maxL ret hh).before args s = true) (hi : (Cond.initialized y.cls).before args s = true) : x_Ok s y [Cond.codeWith y bytes maxL ret hh] maxL := by
  refine ⟨fun w hw a' U hU => ?_, fun U hU mk hn => ?_, fun a' U hU => word_at hU (Or.inl rfl) hi⟩
  · cases List.mem_singleton.mp hw
    exact word_at hU (Or.inl rfl) hc
  · obtain ⟨m9, meth, cc, hn9, h1, h2, -, h4, -⟩ := Cond.codeWith_spec (word_at (a' := #[]) hU (Or.inl rfl) hc)
    cases hn.symm.trans hn9
    exact ⟨meth, cc, h1, h2, h4⟩
/-- the three blocks of the law: the class's, the model's, out -/
def LWd (D : va_G) (ar : Nat → ClassId) (base : Nat) (σ τ : Mem) (v : Int64) (H : Heap) : Prop :=
  va_P D classes (wl base 122 (mem ar base σ)) H ∧ va_P D classes (wl (base + 122) 16 (memo ar (base + 122) τ)) H ∧ va_P D classes (wl (base + 138) 1 (oE ar v)) H
theorem LWd.keepS {D : va_G} {ar : Nat → ClassId} {base : Nat} {σ τ : Mem} {v : Int64} {H H1 : Heap} (h : LWd D ar base σ τ v H) (hk : x_Keep (wF base (base + 138)) H H1) : va_P D classes (wl (base + 122) 16 (memo ar (base + 122) τ)) H1 :=
  wl_kept h.2.1 (fun q g1 g2 => hk.2 q (by have := wl_lt h.2.1 (k := 15) (by omega); omega) (fun z => by rcases z with z | z; have := z.2; omega; omega))
theorem LWd.keepM {D : va_G} {ar : Nat → ClassId} {base : Nat} {σ τ : Mem} {v : Int64} {H H1 : Heap} (h : LWd D ar base σ τ v H) (hk : x_Keep (inB (base + 122) 16) H H1) : va_P D classes (wl base 122 (mem ar base σ)) H1 ∧ va_P D classes (wl (base + 138) 1 (oE ar v)) H1 :=
  ⟨wl_kept h.1 (fun q g1 g2 => hk.2 q (by have := wl_lt h.1 (k := 121) (by omega); omega) (fun z => by have := z.1; omega)),
   wl_kept h.2.2 (fun q g1 g2 => hk.2 q (by have := wl_lt h.2.2 (k := 0) (by omega); omega) (fun z => by have := z.2; omega))⟩
theorem LWd.keepA {D : va_G} {ar : Nat → ClassId} {base : Nat} {σ τ : Mem} {v : Int64} {H H1 : Heap} (h : LWd D ar base σ τ v H) (hk : x_Keep (fun _ => False) H H1) : LWd D ar base σ τ v H1 :=
  ⟨wl_kept h.1 (fun q g1 g2 => hk.2 q (by have := wl_lt h.1 (k := 121) (by omega); omega) id), wl_kept h.2.1 (fun q g1 g2 => hk.2 q (by have := wl_lt h.2.1 (k := 15) (by omega); omega) id), wl_kept h.2.2 (fun q g1 g2 => hk.2 q (by have := wl_lt h.2.2 (k := 0) (by omega); omega) id)⟩
