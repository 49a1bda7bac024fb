/-! throw new IllegalStateException with a text of a wide index -/
section CSW
variable {S0 : State} {A0 : Array Value} {D : va_G} {ar : Nat → ClassId} {base : Nat} {σ : Mem}
variable {p : Program} {l : Launch} {e : Env} {R : Room} {s : State} {m : MethodId} {args : Array Value} {below : List Frame} {meth : Method} {c : Code} {H : Heap} {locs : List Loc} {cells slots : Nat} {Q : State → Prop}
variable {own : String} {cc : ByteArray} {nL : Nat} {ret : Option FieldType} {pc index : Nat} {ls : Array Slot} {rest As st0 av : List Value} {y : MethodName} {bytes : ByteArray} {maxL : Nat} {rt : Option FieldType} {rm : Room}
/-- throw new E("text"); the block may have been changed -/
theorem tn_anyW {Qc : Array Value → State → Outcome → State → Prop} {free : Addr → Prop} {E text : String} {ik is ic : Nat} (C0 : Cx S0 A0 D ar base p l s m args meth c own cc nL ret) (hS : va_S (inB base 122) s.heap H locs) (hE : Bundle.fit E = true)
    (hk : Cond.classLink own ik E ∈ lw_tbl) (hini : Cond.initialized E ∈ lw_tbl) (hsr : Cond.stringRef own is text ∈ lw_tbl) (hex : ∀ A S, (Jvm.Cond.and given_1 narrow_1).before A S = true → (Cond.exactly (.string own is) "java/lang/String").before A S = true)
    (hat : ∀ w ∈ vx_atS own ic E ["java/lang/RuntimeException", "java/lang/Exception"], w ∈ lw_tbl) (hag : (vx_atS own ic E ["java/lang/RuntimeException", "java/lang/Exception"]).all (fun w => goodWord w || (match w with | .castable _ _ => true | .declares _ => true | _ => false)) = true)
    (hag2 : (vx_atS own ic E ["java/lang/RuntimeException", "java/lang/Exception"]).all vx_ot = true)
    (hu : ∀ A S, (Jvm.Cond.and given_1 narrow_1).before A S = true → (Cond.isRef (.static Bundle.tN "UNASSIGNED_STACK" Bundle.steD)).before A S = true ∧ (Cond.isRef (.static Bundle.tN "SUPPRESSED_SENTINEL" Bundle.listD)).before A S = true)
    (hz : Cond.laysStatic Bundle.tN "UNASSIGNED_STACK" Bundle.steD ∈ lw_tbl ∧ Cond.laysStatic Bundle.tN "SUPPRESSED_SENTINEL" Bundle.listD ∈ lw_tbl ∧ Cond.initialized Bundle.tN ∈ lw_tbl) (hsize : ls.size = nL)
    (d0 : decode cc pc = .ok (.new ik, 3)) (d3 : decode cc (pc + 3) = .ok (.dup, 1)) (d4 : decode cc (pc + 4) = .ok (.ldc_w is, 3)) (d6 : decode cc (pc + 7) = .ok (.invokespecial ic, 3)) (d9 : decode cc (pc + 10) = .ok (.athrow, 1))
    (hRf : 5 < R.frames) (hRl : (rest.map fun v => v.category).sum + 82 ≤ R.locals) (hc : cells + 1 ≤ R.cells ∧ slots + 6 ≤ R.slots) (hf : ∀ z ∈ locs, free z.base)
    (hq : ∀ (t : State) (x : Addr), s.WarmedH t.vm → x_Keep (fun _ => False) H t.heap → x_is E x t → Qc args s (.threw x) t) :
    W p l e R s m args below meth c H locs cells slots (MQX below Qc args s R.cells R.slots free) (F0 m pc ls rest) := by
  obtain ⟨hx, hb, -, hml, hown, hlk, hno, hl, h0, hbase⟩ := C0
  obtain ⟨sa, hsa⟩ := h0.str hsr (hex _ _ h0.1.2.2)
  have h1 := vx_throwSW (p := p) (l := l) (e := e) (R := R) (s := s) (m := m) (args := args) (below := below) (meth := meth) (c := c) (H := H) (locs := locs) (cells := cells) (slots := slots) (free := free) (ls := ls) (rest := rest) (Qc := fun _ _ _ _ => False) (XC := fun E' _ t => E' = E ∧ x_Keep (fun _ => False) H t.heap) (A := inB base 122) (mc := R.cells) (ms := R.slots) (names := ["java/lang/RuntimeException", "java/lang/Exception"]) hx hb hl hown hE (by decide +kernel) (h0.word hk rfl) (h0.word hini rfl) hsa (h0.thr hat hag)
    (fun w hw => by
      rcases List.mem_cons.mp hw with rfl | hw
      · rfl
      · rcases List.mem_cons.mp hw with rfl | hw
        · rfl
        · exact List.all_eq_true.mp hag2 w hw)
    (h0.zq hz.1 hz.2.2 (hu _ _ h0.1.2.2).1 (inB_old hbase)) (h0.zq hz.2.1 hz.2.2 (hu _ _ h0.1.2.2).2 (inB_old hbase)) hS (hsize.trans hml.symm) d0 d3 d4 d6 d9 (x_empty hno _) hRf hRl hc.1 hc.2 hlk
    (fun t _ h3 h4 => ⟨rfl, h3, fun q hq _ => h4 q hq⟩) hf hc.1 hc.2
  refine W.mono ?_ h1
  rintro t ⟨o, h2, h3, h4⟩
  rcases h4 with ⟨h5, -⟩ | ⟨q, rfl, E', ce, L, ⟨rfl, h6⟩, h7, h8, h9, h10, h11, h12⟩
  · exact h5.elim
  · exact ⟨.threw q, h2, h3, hq t q h10 h6 ⟨ce, h7, h8, by rw [h10.alike.findClass]; exact h9⟩, L, ⟨h10, h11⟩, h12⟩
end CSW
theorem tP_2W {S0 : State} {A0 : Array Value} {D : va_G} {ar : Nat → ClassId} {base : Nat} {p : Program} {l : Launch} {e : Env} {R : Room} {s : State} {m : MethodId} {args : Array Value} {below : List Frame} {meth : Method} {c : Code} {cells slots : Nat} {cc : ByteArray} {nL : Nat} {ret : Option FieldType} {pc is : Nat} {ls : Array Slot} {rest : List Value} {text : String} {P : Nat → Option Int32 → Prop} (C0 : Cx S0 A0 D ar base p l s m args meth c R_Sy cc nL ret) (hsr : Cond.stringRef R_Sy is text ∈ lw_tbl) (hex : ∀ A S, (Jvm.Cond.and given_1 narrow_1).before A S = true → (Cond.exactly (.string R_Sy is) "java/lang/String").before A S = true) (hsize : ls.size = nL)
    (d0 : decode cc pc = .ok (.new 181, 3)) (d3 : decode cc (pc + 3) = .ok (.dup, 1)) (d4 : decode cc (pc + 4) = .ok (.ldc_w is, 3)) (d6 : decode cc (pc + 7) = .ok (.invokespecial 185, 3)) (d9 : decode cc (pc + 10) = .ok (.athrow, 1)) (hRf : 5 < R.frames) (hRl : (rest.map fun v => v.category).sum + 82 ≤ R.locals) (hc : cells + 1 ≤ R.cells ∧ slots + 6 ≤ R.slots) (hp : P 2 none) :
    W p l e R s m args below meth c s.heap [] cells slots (MQX below (QP P) args s R.cells R.slots (fun _ => False)) (F0 m pc ls rest) :=
  tn_anyW C0 va_S.rf (by decide +kernel) k_cl_Sy_181 k_in_IllegalStateException hsr hex xa_2 xb_2 xc_2 xu_0 xz hsize d0 d3 d4 d6 d9 hRf hRl hc (fun z hz => by cases hz) (fun t x _ _ hx => ⟨2, none, hp, ⟨x, rfl, hx⟩, fun h => absurd h (by decide)⟩)
theorem tI_2W {S0 : State} {A0 : Array Value} {D : va_G} {ar : Nat → ClassId} {base : Nat} {σ : Mem} {p : Program} {l : Launch} {e : Env} {R : Room} {s : State} {m : MethodId} {args : Array Value} {below : List Frame} {meth : Method} {c : Code} {H : Heap} {locs : List Loc} {cells slots : Nat} {cc : ByteArray} {nL : Nat} {ret : Option FieldType} {pc is : Nat} {ls : Array Slot} {rest : List Value} {text : String} {P : Nat → Option Int32 → Mem → Prop} (C0 : Cx S0 A0 D ar base p l s m args meth c R_Sy cc nL ret) (hP : va_P D classes (wl base 122 (mem ar base σ)) H) (hS : va_S (inB base 122) s.heap H locs) (hsr : Cond.stringRef R_Sy is text ∈ lw_tbl) (hex : ∀ A S, (Jvm.Cond.and given_1 narrow_1).before A S = true → (Cond.exactly (.string R_Sy is) "java/lang/String").before A S = true) (hsize : ls.size = nL)
    (d0 : decode cc pc = .ok (.new 181, 3)) (d3 : decode cc (pc + 3) = .ok (.dup, 1)) (d4 : decode cc (pc + 4) = .ok (.ldc_w is, 3)) (d6 : decode cc (pc + 7) = .ok (.invokespecial 185, 3)) (d9 : decode cc (pc + 10) = .ok (.athrow, 1)) (hRf : 5 < R.frames) (hRl : (rest.map fun v => v.category).sum + 82 ≤ R.locals) (hc : cells + 1 ≤ R.cells ∧ slots + 6 ≤ R.slots) (hp : P 2 none σ) :
    W p l e R s m args below meth c H locs cells slots (MQX below (QI D ar base P) args s R.cells R.slots (inB base 122)) (F0 m pc ls rest) :=
  tn_anyW C0 hS (by decide +kernel) k_cl_Sy_181 k_in_IllegalStateException hsr hex xa_2 xb_2 xc_2 xu_0 xz hsize d0 d3 d4 d6 d9 hRf hRl hc hS.2.2 (fun t x _ hkp hx => ⟨2, none, σ, hp, ⟨x, rfl, hx⟩, wl_kept hP (fun q _ h4 => hkp.2 q (by have := wl_lt hP (k := q - base) (by omega); omega) id)⟩)

