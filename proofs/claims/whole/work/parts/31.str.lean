/-! The two string constants of the class, and the JDK methods over them: laid by gen/m31.py. -/
def strL : List Nat := [7, 2]
def strB : List (List Int32) := [[97, 98, 99, 65, 66, 67, 69], [33, 63]]
def strT : Nat → Term := fun i => if i = 0 then .string R_Sy 142 else .string R_Sy 273
def SX (S0 : State) (aK aV : Nat → Nat) : Prop := vk_S 2 strL strB aK aV (fun q => S0.heap.size ≤ q) S0 S0.heap
abbrev strN (i : Nat) : Nat := strL.getD i 0
abbrev strC (i j : Nat) : Int32 := (strB.getD i []).getD j 0
section STR
variable {S0 : State} {A0 : Array Value} {D : va_G} {ar : Nat → ClassId} {s : State} {args : Array Value} {aK aV : Nat → Nat}
theorem E0.strs (h : E0 S0 A0 D ar) : ∃ aK aV : Nat → Nat, SX S0 aK aV ∧ ∀ i : Nat, i < 2 → (strT i).eval A0 S0 none [] S0 = some (.ref (aK i)) := by
  have F := flat_of_before _ h.2.2
  refine vk_Sof (args := A0) (tm := strT) (fun i hi => ?_) (fun i hi => F _ ((by decide +kernel : ∀ i, i < 2 → Cond.exactly (strT i) "java/lang/String" ∈ flatC (Jvm.Cond.and given_1 narrow_1)) i hi))
    (fun i hi => F _ ((by decide +kernel : ∀ i, i < 2 → Cond.eq (.field (strT i) "java/lang/String" "coder" "B") (.int 0) ∈ flatC (Jvm.Cond.and given_1 narrow_1)) i hi))
    (fun i hi => F _ ((by decide +kernel : ∀ i, i < 2 → Cond.arrayOf (.field (strT i) "java/lang/String" "value" "[B") .byte ∈ flatC (Jvm.Cond.and given_1 narrow_1)) i hi))
    (fun i hi => F _ ((by decide +kernel : ∀ i, i < 2 → Cond.eq (.length (.field (strT i) "java/lang/String" "value" "[B")) (.int (Int32.ofNat (strL.getD i 0))) ∈ flatC (Jvm.Cond.and given_1 narrow_1)) i hi))
    (fun i hi j hj => F _ ((by decide +kernel : ∀ i, i < 2 → ∀ j, j < strL.getD i 0 → Cond.eq (.elem (.field (strT i) "java/lang/String" "value" "[B") (.int (Int32.ofNat j))) (.int ((strB.getD i []).getD j 0)) ∈ flatC (Jvm.Cond.and given_1 narrow_1)) i hi j hj))
    (fun i j hi hj hij => ?_) (fun a ha hz => by omega)
  · exact (by decide +kernel : ∀ i, i < 2 → strL.getD i 0 < 2 ^ 31) i hi
  · rcases (by decide +kernel : ∀ i, i < 2 → ∀ j, j < 2 → i ≠ j → Cond.not (Cond.eq (strT i) (strT j)) ∈ flatC (Jvm.Cond.and given_1 narrow_1) ∨ Cond.not (Cond.eq (strT j) (strT i)) ∈ flatC (Jvm.Cond.and given_1 narrow_1)) i hi j hj hij with h9 | h9
    · exact Or.inl (F _ h9)
    · exact Or.inr (F _ h9)
theorem At0.strS (h : At0 S0 A0 D ar s) (hs : SX S0 aK aV) {A : Nat → Prop} (hA : ∀ q, A q → S0.heap.size ≤ q) : vk_S 2 strL strB aK aV A s s.heap :=
  (vk_S.moved h.2.1.alike (vk_S.kept hs (fun a ha _ => h.2.2.2 a ha id))).narrow hA
theorem At0.zi (h : At0 S0 A0 D ar s) {C n d : String} {z : Int32} (hl : Cond.laysStatic C n d ∈ lw_tbl) (hi : Cond.initialized C ∈ lw_tbl) (hr : Cond.eq (.static C n d) (.int z) ∈ flatC (Jvm.Cond.and given_1 narrow_1)) {A : Nat → Prop} (hA : ∀ q, A q → S0.heap.size ≤ q) : va_Z C n d (.int z) A s s.heap := by
  have h1 : va_Z C n d (.int z) (fun q => S0.heap.size ≤ q) S0 S0.heap := va_Zof (h.1.1 _ hl) (h.1.1 _ hi) (va_eqi (flat_of_before _ h.1.2.2 _ hr)) (fun a ha hz => by omega)
  exact (va_Z.moved h.2.1.alike (h1.kept (fun a ha _ => h.2.2.2 a ha id))).narrow hA
end STR
theorem k_ls_compact : Cond.laysStatic "java/lang/String" "COMPACT_STRINGS" "Z" ∈ lw_tbl := List.mem_append_right _ (List.mem_of_getElem? (i := 316) (by decide +kernel))
theorem k_eq_compact : Cond.eq (.static "java/lang/String" "COMPACT_STRINGS" "Z") (.int 1) ∈ flatC (Jvm.Cond.and given_1 narrow_1) := by decide +kernel
section STRQ
variable {S0 : State} {A0 : Array Value} {D : va_G} {ar : Nat → ClassId} {base : Nat} {σ : Mem} {aK aV : Nat → Nat}
variable {p : Program} {l : Launch} {e : Env} {R : Room} {s : State} {m : MethodId} {args : Array Value} {below : List Frame} {meth : Method} {c : Code} {H : Heap} {locs : List Loc} {cells slots : Nat} {Q : State → Prop}
variable {own : String} {cc : ByteArray} {nL : Nat} {ret : Option FieldType} {pc index : Nat} {ls : Array Slot} {rest As st0 av : List Value} {y : MethodName} {bytes : ByteArray} {maxL : Nat} {rt : Option FieldType} {rm : Room}
theorem q_sval (C0 : Cx S0 A0 D ar base p l s m args meth c own cc nL ret) (hs : SX S0 aK aV) (hS : va_S (inB base 122) s.heap H locs) {i : Nat} (hi : i < 2) (hlink : Cond.fieldLink own index "java/lang/String" "value" "[B" ∈ lw_tbl) (hdg : decode cc pc = .ok (.getfield index, 3))
    (kk : W p l e R s m args below meth c H locs cells slots Q (F0 m (pc + 3) ls (.ref (aV i) :: rest))) : W p l e R s m args below meth c H locs cells slots Q (F0 m pc ls (.ref (aK i) :: rest)) := by
  obtain ⟨hx, hb, -, -, hown, -, -, -, h0, hbase⟩ := C0
  exact vk_getf hx hb ((h0.strS hs (inB_old hbase)).1 i hi).2.2.1 hS hown (h0.word hlink rfl) (fun x hx => hx) hdg kk
theorem q_scod (C0 : Cx S0 A0 D ar base p l s m args meth c own cc nL ret) (hs : SX S0 aK aV) (hS : va_S (inB base 122) s.heap H locs) {i : Nat} (hi : i < 2) (hlink : Cond.fieldLink own index "java/lang/String" "coder" "B" ∈ lw_tbl) (hdg : decode cc pc = .ok (.getfield index, 3))
    (kk : W p l e R s m args below meth c H locs cells slots Q (F0 m (pc + 3) ls (.int 0 :: rest))) : W p l e R s m args below meth c H locs cells slots Q (F0 m pc ls (.ref (aK i) :: rest)) := by
  obtain ⟨hx, hb, -, -, hown, -, -, -, h0, hbase⟩ := C0
  exact vk_getf hx hb ((h0.strS hs (inB_old hbase)).1 i hi).2.1 hS hown (h0.word hlink rfl) (fun x hx => hx) hdg kk
theorem q_scmp (C0 : Cx S0 A0 D ar base p l s m args meth c own cc nL ret) (hS : va_S (inB base 122) s.heap H locs) (hlink : Cond.fieldLink own index "java/lang/String" "COMPACT_STRINGS" "Z" ∈ lw_tbl) (hdg : decode cc pc = .ok (.getstatic index, 3))
    (kk : W p l e R s m args below meth c H locs cells slots Q (F0 m (pc + 3) ls (.int 1 :: rest))) : W p l e R s m args below meth c H locs cells slots Q (F0 m pc ls rest) := by
  obtain ⟨hx, hb, -, -, hown, -, -, -, h0, hbase⟩ := C0
  exact va_gets hx hb (h0.zi k_ls_compact k_in_String k_eq_compact (inB_old hbase)) hS hown (h0.word hlink rfl) (fun x hx => hx) hdg kk
theorem q_slen (C0 : Cx S0 A0 D ar base p l s m args meth c own cc nL ret) (hs : SX S0 aK aV) (hS : va_S (inB base 122) s.heap H locs) {i : Nat} (hi : i < 2) (hdg : decode cc pc = .ok (.arraylength, 1))
    (kk : W p l e R s m args below meth c H locs cells slots Q (F0 m (pc + 1) ls (.int (nI (strN i)) :: rest))) : W p l e R s m args below meth c H locs cells slots Q (F0 m pc ls (.ref (aV i) :: rest)) := by
  obtain ⟨hx, hb, -, -, hown, -, -, -, h0, hbase⟩ := C0
  exact va_tlen hx hb ((h0.strS hs (inB_old hbase)).1 i hi).2.2.2 hS rfl hdg kk
theorem q_sbyt (C0 : Cx S0 A0 D ar base p l s m args meth c own cc nL ret) (hs : SX S0 aK aV) (hS : va_S (inB base 122) s.heap H locs) {i : Nat} (hi : i < 2) {x : Int32} (hin : vp_in x (strN i)) (hdg : decode cc pc = .ok (.baload, 1))
    (kk : W p l e R s m args below meth c H locs cells slots Q (F0 m (pc + 1) ls (.int (strC i x.toNatClampNeg) :: rest))) : W p l e R s m args below meth c H locs cells slots Q (F0 m pc ls (.int x :: .ref (aV i) :: rest)) := by
  obtain ⟨hx, hb, -, -, hown, -, -, -, h0, hbase⟩ := C0
  exact va_tb hx hb ((h0.strS hs (inB_old hbase)).1 i hi).2.2.2 hS hin rfl hdg kk
/-- the way into a method of one of the two strings -/
theorem cs_VS (C0 : Cx S0 A0 D ar base p l s m args meth c own cc nL ret) (hs : SX S0 aK aV) (hS : va_S (inB base 122) s.heap H locs) {i : Nat} (hi : i < 2)
    (hml : Cond.methodLink own index y ∈ lw_tbl) (him : Cond.instanceMethod y ∈ lw_tbl) (hsl : Cond.selects "java/lang/String" y y ∈ lw_tbl) (hcd : Cond.code y bytes maxL rt ∈ lw_tbl) (hin : Cond.initialized y.cls ∈ lw_tbl)
    (hd : y.cls ≠ "java/lang/invoke/MethodHandle" ∧ y.cls ≠ "java/lang/invoke/VarHandle" ∧ (parseMethodDescriptor y.desc).map (fun d => d.parameters.length) = some As.length) (hst : st0 = As.reverse ++ .ref (aK i) :: rest) (hdg : decode cc pc = .ok (.invokevirtual index, 3)) :
    x_In p l e R s m args below meth c H locs cells slots (F0 m pc ls st0) rest y (Value.ref (aK i) :: As).toArray ∧ x_Ok s y [Cond.code y bytes maxL rt] maxL := by
  obtain ⟨hx, hb, -, -, hown, -, -, -, h0, hbase⟩ := C0
  exact ⟨x_inV (C := "java/lang/String") hx hb hown (h0.word hml rfl) (h0.word him rfl) (h0.word hsl rfl) hd (h0.word hcd rfl) (vk_recv (h0.strS hs (inB_old hbase)) hi hS) hst hdg, x_ok1 (args := args) (h0.word hcd rfl) (h0.word hin rfl)⟩
theorem q_ldcS (C0 : Cx S0 A0 D ar base p l s m args meth c own cc nL ret) {tx : String} {a : Nat} (hsr : Cond.stringRef own index tx ∈ lw_tbl) (hev : (Term.string own index).eval A0 S0 none [] S0 = some (.ref a)) (hdg : decode cc pc = .ok (.ldc index, 2))
    (kk : W p l e R s m args below meth c H locs cells slots Q (F0 m (pc + 2) ls (.ref a :: rest))) : W p l e R s m args below meth c H locs cells slots Q (F0 m pc ls rest) := by
  obtain ⟨hx, hb, -, -, hown, -, -, -, h0, hbase⟩ := C0
  exact va_ldcS hx hb hown (vk_R.warm h0.2.1 (vk_R.of (h0.1.1 _ hsr) hev)) hdg kk
theorem q_ldcSW (C0 : Cx S0 A0 D ar base p l s m args meth c own cc nL ret) {tx : String} {a : Nat} (hsr : Cond.stringRef own index tx ∈ lw_tbl) (hev : (Term.string own index).eval A0 S0 none [] S0 = some (.ref a)) (hdg : decode cc pc = .ok (.ldc_w index, 3))
    (kk : W p l e R s m args below meth c H locs cells slots Q (F0 m (pc + 3) ls (.ref a :: rest))) : W p l e R s m args below meth c H locs cells slots Q (F0 m pc ls rest) := by
  obtain ⟨hx, hb, -, -, hown, -, -, -, h0, hbase⟩ := C0
  have hZ := vk_R.warm h0.2.1 (vk_R.of (h0.1.1 _ hsr) hev)
  intro T hT X
  obtain ⟨t, a1, b1⟩ := kk T hT X
  exact ⟨t, Jvm.Stand.ldcStringW X hx hown (text := tx) (a := a) hZ.1 hZ.2 (g := F0 m pc ls rest) rfl (by rw [hb]; exact hdg) t a1, b1⟩
theorem q_alen (C0 : Cx S0 A0 D ar base p l s m args meth c own cc nL ret) (hP : va_P D classes (wl base 122 (mem ar base σ)) H) {kd i N : Nat} {f : Nat → Int32} (hkd : kd < 17) (hi : i < adN kd) (he : cont ar base σ kd i = .inl (ar 0, N, .inl f)) (hdg : decode cc pc = .ok (.arraylength, 1))
    (kk : W p l e R s m args below meth c H locs cells slots Q (F0 m (pc + 1) ls (.int (nI N) :: rest))) : W p l e R s m args below meth c H locs cells slots Q (F0 m pc ls (.ref (base + ad kd i) :: rest)) := by
  obtain ⟨hx, hb, -, -, hown, -, -, -, h0, -⟩ := C0
  exact va_alen (x := (N, .inl f)) (v := nI N) hx hb h0.K hP (ad kd i) 0 (by rw [wl_get (ad_lt hkd hi), (mem_at hkd hi).trans he]) rfl rfl hdg kk
theorem rP_n {P : Nat → Option Int32 → Prop} {v : Int32} {ty : FieldType} (C0 : Cx S0 A0 D ar base p l s m args meth c own cc nL (some ty)) (hc : cells ≤ R.cells ∧ slots ≤ R.slots) (hn : narrow ty (.int v) = .int v) (hp : P 0 (some v)) (hdg : decode cc pc = .ok (.ireturn, 1)) :
    W p l e R s m args below meth c s.heap [] cells slots (MQX below (QP P) args s R.cells R.slots (fun _ => False)) (F0 m pc ls [.int v]) := by
  obtain ⟨hx, hb, hr, -, -, hlk, -, -, -, -⟩ := C0
  exact W.widen hc.1 hc.2 (x_zret hx hb hr hlk hn (fun t ht _ => ⟨0, some v, hp, rfl, fun _ => ht⟩) (fun q hq => by cases hq) hdg)
theorem q_max (C0 : Cx S0 A0 D ar base p l s m args meth c own cc nL ret) (hsize : ls.size = nL) (hlink : Cond.methodLink own index y_Math_max_II ∈ lw_tbl) (hframes : 1 ≤ R.frames) (hlocals : (rest.map fun v => v.category).sum + 13 ≤ R.locals) (hc : cells ≤ R.cells ∧ slots ≤ R.slots) {x y : Int32} (hdg : decode cc pc = .ok (.invokestatic index, 3))
    (kk : W p l e R s m args below meth c H locs cells slots Q (F0 m (pc + 3) ls (.int (if x < y then y else x) :: rest))) : W p l e R s m args below meth c H locs cells slots Q (F0 m pc ls (.int y :: .int x :: rest)) := by
  obtain ⟨hx, hb, -, hml, hown, -, -, -, h0, -⟩ := C0
  exact va_mmax hx hb (hml.trans hsize.symm) hown (h0.word hlink rfl) (h0.word k_st_Math_max_II rfl) (h0.word k_in_Math rfl) (h0.word k_cd_Math_max_II rfl) hframes hlocals hc.1 hc.2 hdg kk
theorem q_min (C0 : Cx S0 A0 D ar base p l s m args meth c own cc nL ret) (hsize : ls.size = nL) (hlink : Cond.methodLink own index y_Math_min_II ∈ lw_tbl) (hframes : 1 ≤ R.frames) (hlocals : (rest.map fun v => v.category).sum + 13 ≤ R.locals) (hc : cells ≤ R.cells ∧ slots ≤ R.slots) {x y : Int32} (hdg : decode cc pc = .ok (.invokestatic index, 3))
    (kk : W p l e R s m args below meth c H locs cells slots Q (F0 m (pc + 3) ls (.int (if y < x then y else x) :: rest))) : W p l e R s m args below meth c H locs cells slots Q (F0 m pc ls (.int y :: .int x :: rest)) := by
  obtain ⟨hx, hb, -, hml, hown, -, -, -, h0, -⟩ := C0
  exact va_mmin hx hb (hml.trans hsize.symm) hown (h0.word hlink rfl) (h0.word k_st_Math_min_II rfl) (h0.word k_in_Math rfl) (h0.word k_cd_Math_min_II rfl) hframes hlocals hc.1 hc.2 hdg kk
end STRQ

theorem d_Arrays_fill_aII_0 : decode b_Arrays_fill_aII 0 = .ok (.iconst 0, 1) := by decide +kernel
theorem d_Arrays_fill_aII_1 : decode b_Arrays_fill_aII 1 = .ok (.istore_n 2, 1) := by decide +kernel
theorem d_Arrays_fill_aII_2 : decode b_Arrays_fill_aII 2 = .ok (.aload_n 0, 1) := by decide +kernel
theorem d_Arrays_fill_aII_3 : decode b_Arrays_fill_aII 3 = .ok (.arraylength, 1) := by decide +kernel
theorem d_Arrays_fill_aII_4 : decode b_Arrays_fill_aII 4 = .ok (.istore_n 3, 1) := by decide +kernel
theorem d_Arrays_fill_aII_5 : decode b_Arrays_fill_aII 5 = .ok (.iload_n 2, 1) := by decide +kernel
theorem d_Arrays_fill_aII_6 : decode b_Arrays_fill_aII 6 = .ok (.iload_n 3, 1) := by decide +kernel
theorem d_Arrays_fill_aII_7 : decode b_Arrays_fill_aII 7 = .ok (.if_icmp .ge 13, 3) := by decide +kernel
theorem d_Arrays_fill_aII_10 : decode b_Arrays_fill_aII 10 = .ok (.aload_n 0, 1) := by decide +kernel
theorem d_Arrays_fill_aII_11 : decode b_Arrays_fill_aII 11 = .ok (.iload_n 2, 1) := by decide +kernel
theorem d_Arrays_fill_aII_12 : decode b_Arrays_fill_aII 12 = .ok (.iload_n 1, 1) := by decide +kernel
theorem d_Arrays_fill_aII_13 : decode b_Arrays_fill_aII 13 = .ok (.iastore, 1) := by decide +kernel
theorem d_Arrays_fill_aII_14 : decode b_Arrays_fill_aII 14 = .ok (.iinc 2 1, 3) := by decide +kernel
theorem d_Arrays_fill_aII_17 : decode b_Arrays_fill_aII 17 = .ok (.goto (-12), 3) := by decide +kernel
theorem d_Arrays_fill_aII_20 : decode b_Arrays_fill_aII 20 = .ok (.return_, 1) := by decide +kernel
theorem d_String_indexOf_I_0 : decode b_String_indexOf_I 0 = .ok (.aload_n 0, 1) := by decide +kernel
theorem d_String_indexOf_I_1 : decode b_String_indexOf_I 1 = .ok (.iload_n 1, 1) := by decide +kernel
theorem d_String_indexOf_I_2 : decode b_String_indexOf_I 2 = .ok (.iconst 0, 1) := by decide +kernel
theorem d_String_indexOf_I_3 : decode b_String_indexOf_I 3 = .ok (.invokevirtual 633, 3) := by decide +kernel
theorem d_String_indexOf_I_6 : decode b_String_indexOf_I 6 = .ok (.ireturn, 1) := by decide +kernel
theorem d_String_indexOf_II_0 : decode b_String_indexOf_II 0 = .ok (.aload_n 0, 1) := by decide +kernel
theorem d_String_indexOf_II_1 : decode b_String_indexOf_II 1 = .ok (.invokevirtual 492, 3) := by decide +kernel
theorem d_String_indexOf_II_4 : decode b_String_indexOf_II 4 = .ok (.ifCond .eq 19, 3) := by decide +kernel
theorem d_String_indexOf_II_7 : decode b_String_indexOf_II 7 = .ok (.aload_n 0, 1) := by decide +kernel
theorem d_String_indexOf_II_8 : decode b_String_indexOf_II 8 = .ok (.getfield 9, 3) := by decide +kernel
theorem d_String_indexOf_II_11 : decode b_String_indexOf_II 11 = .ok (.iload_n 1, 1) := by decide +kernel
theorem d_String_indexOf_II_12 : decode b_String_indexOf_II 12 = .ok (.iload_n 2, 1) := by decide +kernel
theorem d_String_indexOf_II_13 : decode b_String_indexOf_II 13 = .ok (.aload_n 0, 1) := by decide +kernel
theorem d_String_indexOf_II_14 : decode b_String_indexOf_II 14 = .ok (.invokevirtual 505, 3) := by decide +kernel
theorem d_String_indexOf_II_17 : decode b_String_indexOf_II 17 = .ok (.invokestatic 637, 3) := by decide +kernel
theorem d_String_indexOf_II_20 : decode b_String_indexOf_II 20 = .ok (.goto 16, 3) := by decide +kernel
theorem d_String_indexOf_II_23 : decode b_String_indexOf_II 23 = .ok (.aload_n 0, 1) := by decide +kernel
theorem d_String_indexOf_II_24 : decode b_String_indexOf_II 24 = .ok (.getfield 9, 3) := by decide +kernel
theorem d_String_indexOf_II_27 : decode b_String_indexOf_II 27 = .ok (.iload_n 1, 1) := by decide +kernel
theorem d_String_indexOf_II_28 : decode b_String_indexOf_II 28 = .ok (.iload_n 2, 1) := by decide +kernel
theorem d_String_indexOf_II_29 : decode b_String_indexOf_II 29 = .ok (.aload_n 0, 1) := by decide +kernel
theorem d_String_indexOf_II_30 : decode b_String_indexOf_II 30 = .ok (.invokevirtual 505, 3) := by decide +kernel
theorem d_String_indexOf_II_33 : decode b_String_indexOf_II 33 = .ok (.invokestatic 640, 3) := by decide +kernel
theorem d_String_indexOf_II_36 : decode b_String_indexOf_II 36 = .ok (.ireturn, 1) := by decide +kernel
theorem d_String_isLatin1__0 : decode b_String_isLatin1_ 0 = .ok (.getstatic 38, 3) := by decide +kernel
theorem d_String_isLatin1__3 : decode b_String_isLatin1_ 3 = .ok (.ifCond .eq 14, 3) := by decide +kernel
theorem d_String_isLatin1__6 : decode b_String_isLatin1_ 6 = .ok (.aload_n 0, 1) := by decide +kernel
theorem d_String_isLatin1__7 : decode b_String_isLatin1_ 7 = .ok (.getfield 15, 3) := by decide +kernel
theorem d_String_isLatin1__10 : decode b_String_isLatin1_ 10 = .ok (.ifCond .ne 7, 3) := by decide +kernel
theorem d_String_isLatin1__13 : decode b_String_isLatin1_ 13 = .ok (.iconst 1, 1) := by decide +kernel
theorem d_String_isLatin1__14 : decode b_String_isLatin1_ 14 = .ok (.goto 4, 3) := by decide +kernel
theorem d_String_isLatin1__17 : decode b_String_isLatin1_ 17 = .ok (.iconst 0, 1) := by decide +kernel
theorem d_String_isLatin1__18 : decode b_String_isLatin1_ 18 = .ok (.ireturn, 1) := by decide +kernel
theorem d_String_length__0 : decode b_String_length_ 0 = .ok (.aload_n 0, 1) := by decide +kernel
theorem d_String_length__1 : decode b_String_length_ 1 = .ok (.getfield 9, 3) := by decide +kernel
theorem d_String_length__4 : decode b_String_length_ 4 = .ok (.arraylength, 1) := by decide +kernel
theorem d_String_length__5 : decode b_String_length_ 5 = .ok (.aload_n 0, 1) := by decide +kernel
theorem d_String_length__6 : decode b_String_length_ 6 = .ok (.invokevirtual 335, 3) := by decide +kernel
theorem d_String_length__9 : decode b_String_length_ 9 = .ok (.ishr, 1) := by decide +kernel
theorem d_String_length__10 : decode b_String_length_ 10 = .ok (.ireturn, 1) := by decide +kernel
theorem d_String_coder__0 : decode b_String_coder_ 0 = .ok (.getstatic 38, 3) := by decide +kernel
theorem d_String_coder__3 : decode b_String_coder_ 3 = .ok (.ifCond .eq 10, 3) := by decide +kernel
theorem d_String_coder__6 : decode b_String_coder_ 6 = .ok (.aload_n 0, 1) := by decide +kernel
theorem d_String_coder__7 : decode b_String_coder_ 7 = .ok (.getfield 15, 3) := by decide +kernel
theorem d_String_coder__10 : decode b_String_coder_ 10 = .ok (.goto 4, 3) := by decide +kernel
theorem d_String_coder__13 : decode b_String_coder_ 13 = .ok (.iconst 1, 1) := by decide +kernel
theorem d_String_coder__14 : decode b_String_coder_ 14 = .ok (.ireturn, 1) := by decide +kernel
theorem d_StringLatin1_indexOf_aBIII_0 : decode b_StringLatin1_indexOf_aBIII 0 = .ok (.iload_n 1, 1) := by decide +kernel
theorem d_StringLatin1_indexOf_aBIII_1 : decode b_StringLatin1_indexOf_aBIII 1 = .ok (.invokestatic 88, 3) := by decide +kernel
theorem d_StringLatin1_indexOf_aBIII_4 : decode b_StringLatin1_indexOf_aBIII 4 = .ok (.ifCond .ne 5, 3) := by decide +kernel
theorem d_StringLatin1_indexOf_aBIII_7 : decode b_StringLatin1_indexOf_aBIII 7 = .ok (.iconst (-1), 1) := by decide +kernel
theorem d_StringLatin1_indexOf_aBIII_8 : decode b_StringLatin1_indexOf_aBIII 8 = .ok (.ireturn, 1) := by decide +kernel
theorem d_StringLatin1_indexOf_aBIII_9 : decode b_StringLatin1_indexOf_aBIII 9 = .ok (.iload_n 2, 1) := by decide +kernel
theorem d_StringLatin1_indexOf_aBIII_10 : decode b_StringLatin1_indexOf_aBIII 10 = .ok (.iconst 0, 1) := by decide +kernel
theorem d_StringLatin1_indexOf_aBIII_11 : decode b_StringLatin1_indexOf_aBIII 11 = .ok (.invokestatic 92, 3) := by decide +kernel
theorem d_StringLatin1_indexOf_aBIII_14 : decode b_StringLatin1_indexOf_aBIII 14 = .ok (.istore_n 2, 1) := by decide +kernel
theorem d_StringLatin1_indexOf_aBIII_15 : decode b_StringLatin1_indexOf_aBIII 15 = .ok (.iload_n 3, 1) := by decide +kernel
theorem d_StringLatin1_indexOf_aBIII_16 : decode b_StringLatin1_indexOf_aBIII 16 = .ok (.aload_n 0, 1) := by decide +kernel
theorem d_StringLatin1_indexOf_aBIII_17 : decode b_StringLatin1_indexOf_aBIII 17 = .ok (.arraylength, 1) := by decide +kernel
theorem d_StringLatin1_indexOf_aBIII_18 : decode b_StringLatin1_indexOf_aBIII 18 = .ok (.invokestatic 38, 3) := by decide +kernel
theorem d_StringLatin1_indexOf_aBIII_21 : decode b_StringLatin1_indexOf_aBIII 21 = .ok (.istore_n 3, 1) := by decide +kernel
theorem d_StringLatin1_indexOf_aBIII_22 : decode b_StringLatin1_indexOf_aBIII 22 = .ok (.iload_n 2, 1) := by decide +kernel
theorem d_StringLatin1_indexOf_aBIII_23 : decode b_StringLatin1_indexOf_aBIII 23 = .ok (.iload_n 3, 1) := by decide +kernel
theorem d_StringLatin1_indexOf_aBIII_24 : decode b_StringLatin1_indexOf_aBIII 24 = .ok (.if_icmp .lt 5, 3) := by decide +kernel
theorem d_StringLatin1_indexOf_aBIII_27 : decode b_StringLatin1_indexOf_aBIII 27 = .ok (.iconst (-1), 1) := by decide +kernel
theorem d_StringLatin1_indexOf_aBIII_28 : decode b_StringLatin1_indexOf_aBIII 28 = .ok (.ireturn, 1) := by decide +kernel
theorem d_StringLatin1_indexOf_aBIII_29 : decode b_StringLatin1_indexOf_aBIII 29 = .ok (.aload_n 0, 1) := by decide +kernel
theorem d_StringLatin1_indexOf_aBIII_30 : decode b_StringLatin1_indexOf_aBIII 30 = .ok (.iload_n 1, 1) := by decide +kernel
theorem d_StringLatin1_indexOf_aBIII_31 : decode b_StringLatin1_indexOf_aBIII 31 = .ok (.iload_n 2, 1) := by decide +kernel
theorem d_StringLatin1_indexOf_aBIII_32 : decode b_StringLatin1_indexOf_aBIII 32 = .ok (.iload_n 3, 1) := by decide +kernel
theorem d_StringLatin1_indexOf_aBIII_33 : decode b_StringLatin1_indexOf_aBIII 33 = .ok (.invokestatic 95, 3) := by decide +kernel
theorem d_StringLatin1_indexOf_aBIII_36 : decode b_StringLatin1_indexOf_aBIII 36 = .ok (.ireturn, 1) := by decide +kernel
theorem d_StringLatin1_canEncode_I_0 : decode b_StringLatin1_canEncode_I 0 = .ok (.iload_n 0, 1) := by decide +kernel
theorem d_StringLatin1_canEncode_I_1 : decode b_StringLatin1_canEncode_I 1 = .ok (.ifCond .lt 14, 3) := by decide +kernel
theorem d_StringLatin1_canEncode_I_4 : decode b_StringLatin1_canEncode_I 4 = .ok (.iload_n 0, 1) := by decide +kernel
theorem d_StringLatin1_canEncode_I_5 : decode b_StringLatin1_canEncode_I 5 = .ok (.sipush 255, 3) := by decide +kernel
theorem d_StringLatin1_canEncode_I_8 : decode b_StringLatin1_canEncode_I 8 = .ok (.if_icmp .gt 7, 3) := by decide +kernel
theorem d_StringLatin1_canEncode_I_11 : decode b_StringLatin1_canEncode_I 11 = .ok (.iconst 1, 1) := by decide +kernel
theorem d_StringLatin1_canEncode_I_12 : decode b_StringLatin1_canEncode_I 12 = .ok (.goto 4, 3) := by decide +kernel
theorem d_StringLatin1_canEncode_I_15 : decode b_StringLatin1_canEncode_I 15 = .ok (.iconst 0, 1) := by decide +kernel
theorem d_StringLatin1_canEncode_I_16 : decode b_StringLatin1_canEncode_I 16 = .ok (.ireturn, 1) := by decide +kernel
theorem d_StringLatin1_indexOfChar_aBIII_0 : decode b_StringLatin1_indexOfChar_aBIII 0 = .ok (.iload_n 1, 1) := by decide +kernel
theorem d_StringLatin1_indexOfChar_aBIII_1 : decode b_StringLatin1_indexOfChar_aBIII 1 = .ok (.i2b, 1) := by decide +kernel
theorem d_StringLatin1_indexOfChar_aBIII_2 : decode b_StringLatin1_indexOfChar_aBIII 2 = .ok (.istore 4, 2) := by decide +kernel
theorem d_StringLatin1_indexOfChar_aBIII_4 : decode b_StringLatin1_indexOfChar_aBIII 4 = .ok (.iload_n 2, 1) := by decide +kernel
theorem d_StringLatin1_indexOfChar_aBIII_5 : decode b_StringLatin1_indexOfChar_aBIII 5 = .ok (.istore 5, 2) := by decide +kernel
theorem d_StringLatin1_indexOfChar_aBIII_7 : decode b_StringLatin1_indexOfChar_aBIII 7 = .ok (.iload 5, 2) := by decide +kernel
theorem d_StringLatin1_indexOfChar_aBIII_9 : decode b_StringLatin1_indexOfChar_aBIII 9 = .ok (.iload_n 3, 1) := by decide +kernel
theorem d_StringLatin1_indexOfChar_aBIII_10 : decode b_StringLatin1_indexOfChar_aBIII 10 = .ok (.if_icmp .ge 21, 3) := by decide +kernel
theorem d_StringLatin1_indexOfChar_aBIII_13 : decode b_StringLatin1_indexOfChar_aBIII 13 = .ok (.aload_n 0, 1) := by decide +kernel
theorem d_StringLatin1_indexOfChar_aBIII_14 : decode b_StringLatin1_indexOfChar_aBIII 14 = .ok (.iload 5, 2) := by decide +kernel
theorem d_StringLatin1_indexOfChar_aBIII_16 : decode b_StringLatin1_indexOfChar_aBIII 16 = .ok (.baload, 1) := by decide +kernel
theorem d_StringLatin1_indexOfChar_aBIII_17 : decode b_StringLatin1_indexOfChar_aBIII 17 = .ok (.iload 4, 2) := by decide +kernel
theorem d_StringLatin1_indexOfChar_aBIII_19 : decode b_StringLatin1_indexOfChar_aBIII 19 = .ok (.if_icmp .ne 6, 3) := by decide +kernel
theorem d_StringLatin1_indexOfChar_aBIII_22 : decode b_StringLatin1_indexOfChar_aBIII 22 = .ok (.iload 5, 2) := by decide +kernel
theorem d_StringLatin1_indexOfChar_aBIII_24 : decode b_StringLatin1_indexOfChar_aBIII 24 = .ok (.ireturn, 1) := by decide +kernel
theorem d_StringLatin1_indexOfChar_aBIII_25 : decode b_StringLatin1_indexOfChar_aBIII 25 = .ok (.iinc 5 1, 3) := by decide +kernel
theorem d_StringLatin1_indexOfChar_aBIII_28 : decode b_StringLatin1_indexOfChar_aBIII 28 = .ok (.goto (-21), 3) := by decide +kernel
theorem d_StringLatin1_indexOfChar_aBIII_31 : decode b_StringLatin1_indexOfChar_aBIII 31 = .ok (.iconst (-1), 1) := by decide +kernel
theorem d_StringLatin1_indexOfChar_aBIII_32 : decode b_StringLatin1_indexOfChar_aBIII 32 = .ok (.ireturn, 1) := by decide +kernel
theorem d_Math_max_II_0 : decode b_Math_max_II 0 = .ok (.iload_n 0, 1) := by decide +kernel
theorem d_Math_max_II_1 : decode b_Math_max_II 1 = .ok (.iload_n 1, 1) := by decide +kernel
theorem d_Math_max_II_2 : decode b_Math_max_II 2 = .ok (.if_icmp .lt 7, 3) := by decide +kernel
theorem d_Math_max_II_5 : decode b_Math_max_II 5 = .ok (.iload_n 0, 1) := by decide +kernel
theorem d_Math_max_II_6 : decode b_Math_max_II 6 = .ok (.goto 4, 3) := by decide +kernel
theorem d_Math_max_II_9 : decode b_Math_max_II 9 = .ok (.iload_n 1, 1) := by decide +kernel
theorem d_Math_max_II_10 : decode b_Math_max_II 10 = .ok (.ireturn, 1) := by decide +kernel
theorem d_Math_min_II_0 : decode b_Math_min_II 0 = .ok (.iload_n 0, 1) := by decide +kernel
theorem d_Math_min_II_1 : decode b_Math_min_II 1 = .ok (.iload_n 1, 1) := by decide +kernel
theorem d_Math_min_II_2 : decode b_Math_min_II 2 = .ok (.if_icmp .gt 7, 3) := by decide +kernel
theorem d_Math_min_II_5 : decode b_Math_min_II 5 = .ok (.iload_n 0, 1) := by decide +kernel
theorem d_Math_min_II_6 : decode b_Math_min_II 6 = .ok (.goto 4, 3) := by decide +kernel
theorem d_Math_min_II_9 : decode b_Math_min_II 9 = .ok (.iload_n 1, 1) := by decide +kernel
theorem d_Math_min_II_10 : decode b_Math_min_II 10 = .ok (.ireturn, 1) := by decide +kernel
set_option maxHeartbeats 4000000 in
set_option maxRecDepth 100000 in
theorem c_String_coder_ {S0 : State} {A0 : Array Value} {D : va_G} {ar : Nat → ClassId} {base : Nat} {σ : Mem} {l : Launch} (hlt : l.stackTraces = false) {aK aV : Nat → Nat} (hs : SX S0 aK aV) {i : Nat} (hi : i < 2) :
    MX l y_String_coder_ [Cond.code y_String_coder_ b_String_coder_ 1 (some .byte)] (rmL 0) (PS S0 A0 D ar base σ [.ref (aK i)]) (QP (fun k r => k = 0 ∧ r = some 0)) (fun _ => False) := by
  refine cx_head hlt (by decide +kernel) (Nat.le_of_ble_eq_true rfl) ?_
  intro p ev s m below meth c ls C0 hP hl
  have C0 : Cx S0 A0 D ar base p l s m _ meth c "java/lang/String" b_String_coder_ 1 (some .byte) := C0
  obtain ⟨hx, hb, -⟩ := id C0
  have hl : lv_has ls 1 [(0, .ref (aK i))] := hl
  refine q_scmp C0 va_S.rf k_fl_String_38 d_String_coder__0 ?_
  refine lv_if_eq (tgt := 13) hx hb d_String_coder__3 (by decide) (fun c_3 => ?_) (fun c_3 => ?_)
  · skip
    exact absurd c_3 (by decide)
  · skip
    refine lv_aload_n hx hb d_String_coder__6 rfl (lv_at hl 0 rfl) ?_
    refine q_scod C0 hs va_S.rf hi k_fl_String_15 d_String_coder__7 ?_
    refine lv_goto (tgt := 14) hx hb d_String_coder__10 (by decide) ?_
    exact rP_n C0 (⟨by decide, by decide⟩) rfl (⟨rfl, rfl⟩) d_String_coder__14
set_option maxHeartbeats 4000000 in
set_option maxRecDepth 100000 in
theorem c_String_isLatin1_ {S0 : State} {A0 : Array Value} {D : va_G} {ar : Nat → ClassId} {base : Nat} {σ : Mem} {l : Launch} (hlt : l.stackTraces = false) {aK aV : Nat → Nat} (hs : SX S0 aK aV) {i : Nat} (hi : i < 2) :
    MX l y_String_isLatin1_ [Cond.code y_String_isLatin1_ b_String_isLatin1_ 1 (some .boolean)] (rmL 0) (PS S0 A0 D ar base σ [.ref (aK i)]) (QP (fun k r => k = 0 ∧ r = some 1)) (fun _ => False) := by
  refine cx_head hlt (by decide +kernel) (Nat.le_of_ble_eq_true rfl) ?_
  intro p ev s m below meth c ls C0 hP hl
  have C0 : Cx S0 A0 D ar base p l s m _ meth c "java/lang/String" b_String_isLatin1_ 1 (some .boolean) := C0
  obtain ⟨hx, hb, -⟩ := id C0
  have hl : lv_has ls 1 [(0, .ref (aK i))] := hl
  refine q_scmp C0 va_S.rf k_fl_String_38 d_String_isLatin1__0 ?_
  refine lv_if_eq (tgt := 17) hx hb d_String_isLatin1__3 (by decide) (fun c_3 => ?_) (fun c_3 => ?_)
  · skip
    exact absurd c_3 (by decide)
  · skip
    refine lv_aload_n hx hb d_String_isLatin1__6 rfl (lv_at hl 0 rfl) ?_
    refine q_scod C0 hs va_S.rf hi k_fl_String_15 d_String_isLatin1__7 ?_
    refine lv_if_ne (tgt := 17) hx hb d_String_isLatin1__10 (by decide) (fun c_10 => ?_) (fun c_10 => ?_)
    · skip
      exact absurd rfl c_10
    · skip
      refine lv_iconst (v := 1) hx hb d_String_isLatin1__13 (by decide) ?_
      refine lv_goto (tgt := 18) hx hb d_String_isLatin1__14 (by decide) ?_
      exact rP_z C0 (⟨by decide, by decide⟩) (Or.inr rfl) (⟨rfl, rfl⟩) d_String_isLatin1__18
set_option maxHeartbeats 4000000 in
set_option maxRecDepth 100000 in
theorem c_String_length_ {S0 : State} {A0 : Array Value} {D : va_G} {ar : Nat → ClassId} {base : Nat} {σ : Mem} {l : Launch} (hlt : l.stackTraces = false) {aK aV : Nat → Nat} (hs : SX S0 aK aV) {i : Nat} (hi : i < 2) :
    MX l y_String_length_ [Cond.code y_String_length_ b_String_length_ 1 (some .int)] (rmL 1) (PS S0 A0 D ar base σ [.ref (aK i)]) (QP (fun k r => k = 0 ∧ r = some (nI (strN i)))) (fun _ => False) := by
  refine cx_head hlt (by decide +kernel) (Nat.le_of_ble_eq_true rfl) ?_
  intro p ev s m below meth c ls C0 hP hl
  have C0 : Cx S0 A0 D ar base p l s m _ meth c "java/lang/String" b_String_length_ 1 (some .int) := C0
  obtain ⟨hx, hb, -⟩ := id C0
  have hl : lv_has ls 1 [(0, .ref (aK i))] := hl
  refine lv_aload_n hx hb d_String_length__0 rfl (lv_at hl 0 rfl) ?_
  refine q_sval C0 hs va_S.rf hi k_fl_String_9 d_String_length__1 ?_
  refine q_slen C0 hs va_S.rf hi d_String_length__4 ?_
  refine lv_aload_n hx hb d_String_length__5 rfl (lv_at hl 0 rfl) ?_
  refine cs_PP C0 hP (cs_VS C0 hs va_S.rf hi (As := []) k_ml_String_335 k_im_String_coder_ k_sl_String_String_coder_ k_cd_String_coder_ k_in_String z_String_coder_ rfl d_String_length__6) (c_String_coder_ hlt hs hi) hl.1 d_String_length__6 (Nat.le_of_ble_eq_true rfl) (⟨by decide, by decide⟩) (⟨by decide, by decide⟩) (fun k r hk hp => absurd hp.1 hk) (fun r_2 h_1 => ?_)
  obtain ⟨-, rfl⟩ := h_1
  refine lv_ishr hx hb d_String_length__9 ?_
  rw [show ((nI (strN i)) >>> (0 &&& 31) : Int32) = nI (strN i) from (by decide : ∀ i, i < 2 → nI (strN i) >>> ((0 : Int32) &&& 31) = nI (strN i)) i hi]
  exact rP_i C0 (⟨by decide, by decide⟩) (⟨rfl, rfl⟩) d_String_length__10
set_option maxHeartbeats 4000000 in
set_option maxRecDepth 100000 in
theorem c_StringLatin1_canEncode_I {S0 : State} {A0 : Array Value} {D : va_G} {ar : Nat → ClassId} {base : Nat} {σ : Mem} {l : Launch} (hlt : l.stackTraces = false) {aK aV : Nat → Nat} (hs : SX S0 aK aV) {x : Int32} :
    MX l y_StringLatin1_canEncode_I [Cond.code y_StringLatin1_canEncode_I b_StringLatin1_canEncode_I 1 (some .boolean)] (rmL 0) (PS S0 A0 D ar base σ [.int x]) (QP (fun k r => k = 0 ∧ r = some (b2i (¬ x < 0 ∧ x ≤ 255)))) (fun _ => False) := by
  refine cx_head hlt (by decide +kernel) (Nat.le_of_ble_eq_true rfl) ?_
  intro p ev s m below meth c ls C0 hP hl
  have C0 : Cx S0 A0 D ar base p l s m _ meth c "java/lang/StringLatin1" b_StringLatin1_canEncode_I 1 (some .boolean) := C0
  obtain ⟨hx, hb, -⟩ := id C0
  have hl : lv_has ls 1 [(0, .int x)] := hl
  refine lv_iload_n hx hb d_StringLatin1_canEncode_I_0 rfl (lv_at hl 0 rfl) ?_
  refine lv_if_lt (tgt := 15) hx hb d_StringLatin1_canEncode_I_1 (by decide) (fun c_1 => ?_) (fun c_1 => ?_)
  · skip
    refine lv_iconst (v := 0) hx hb d_StringLatin1_canEncode_I_15 (by decide) ?_
    exact rP_z C0 (⟨by decide, by decide⟩) (Or.inl rfl) (⟨rfl, by simp [b2i, c_1]⟩) d_StringLatin1_canEncode_I_16
  · skip
    refine lv_iload_n hx hb d_StringLatin1_canEncode_I_4 rfl (lv_at hl 0 rfl) ?_
    refine lv_sipush (v := 255) hx hb d_StringLatin1_canEncode_I_5 (by decide) ?_
    refine lv_icmp_gt (tgt := 15) hx hb d_StringLatin1_canEncode_I_8 (by decide) (fun c_8 => ?_) (fun c_8 => ?_)
    · skip
      refine lv_iconst (v := 0) hx hb d_StringLatin1_canEncode_I_15 (by decide) ?_
      exact rP_z C0 (⟨by decide, by decide⟩) (Or.inl rfl) (⟨rfl, by simp [b2i, c_1, c_8]⟩) d_StringLatin1_canEncode_I_16
    · skip
      refine lv_iconst (v := 1) hx hb d_StringLatin1_canEncode_I_11 (by decide) ?_
      refine lv_goto (tgt := 16) hx hb d_StringLatin1_canEncode_I_12 (by decide) ?_
      exact rP_z C0 (⟨by decide, by decide⟩) (Or.inr rfl) (⟨rfl, by simp [b2i, c_1, c_8]⟩) d_StringLatin1_canEncode_I_16
def ixN (i : Nat) (c : Int32) : Nat := firstF (fun j => strC i j = c) (strN i) 0
def ixF (i : Nat) (c : Int32) : Int32 := if ixN i c < strN i then nI (ixN i c) else -1
def idxF (i : Nat) (x : Int32) : Int32 := if ¬ x < 0 ∧ x ≤ 255 then ixF i x.toInt8.toInt32 else -1
theorem strN_le {i : Nat} (hi : i < 2) : strN i ≤ 7 ∧ 0 < strN i := (by decide : ∀ i, i < 2 → strN i ≤ 7 ∧ 0 < strN i) i hi
theorem strN_max {i : Nat} (hi : i < 2) : (if nI (strN i) < nI (strN i) then nI (strN i) else nI (strN i)) = nI (strN i) := by split <;> rfl
set_option maxHeartbeats 4000000 in
set_option maxRecDepth 100000 in
theorem c_StringLatin1_indexOfChar_aBIII {S0 : State} {A0 : Array Value} {D : va_G} {ar : Nat → ClassId} {base : Nat} {σ : Mem} {l : Launch} (hlt : l.stackTraces = false) {aK aV : Nat → Nat} (hs : SX S0 aK aV) {i : Nat} (hi : i < 2) {x : Int32} :
    MX l y_StringLatin1_indexOfChar_aBIII [Cond.code y_StringLatin1_indexOfChar_aBIII b_StringLatin1_indexOfChar_aBIII 6 (some .int)] (rmL 0) (PS S0 A0 D ar base σ [.ref (aV i), .int x, .int 0, .int (nI (strN i))]) (QP (fun k r => k = 0 ∧ r = some (ixF i x.toInt8.toInt32))) (fun _ => False) := by
  refine cx_head hlt (by decide +kernel) (Nat.le_of_ble_eq_true rfl) ?_
  intro p ev s m below meth c ls C0 hP hl
  have C0 : Cx S0 A0 D ar base p l s m _ meth c "java/lang/StringLatin1" b_StringLatin1_indexOfChar_aBIII 6 (some .int) := C0
  obtain ⟨hx, hb, -⟩ := id C0
  have hl : lv_has ls 6 [(0, .ref (aV i)), (1, .int x), (2, .int 0), (3, .int (nI (strN i)))] := hl
  have hN7 := (strN_le hi).1
  refine lv_iload_n hx hb d_StringLatin1_indexOfChar_aBIII_0 rfl (lv_at hl 1 rfl) ?_
  refine lv_i2b hx hb d_StringLatin1_indexOfChar_aBIII_1 rfl ?_
  refine lv_istore (lv' := [(4, .int x.toInt8.toInt32), (0, .ref (aV i)), (1, .int x), (2, .int 0), (3, .int (nI (strN i)))]) hx hb d_StringLatin1_indexOfChar_aBIII_2 hl (by decide) rfl (fun ls hl => ?_)
  refine lv_iload_n hx hb d_StringLatin1_indexOfChar_aBIII_4 rfl (lv_at hl 3 rfl) ?_
  refine lv_istore (lv' := [(5, .int 0), (4, .int x.toInt8.toInt32), (0, .ref (aV i)), (1, .int x), (2, .int 0), (3, .int (nI (strN i)))]) hx hb d_StringLatin1_indexOfChar_aBIII_5 hl (by decide) rfl (fun ls hl => ?_)
  have loop : ∀ (n k : Nat), k ≤ strN i → strN i + 1 ≤ k + n → (∀ j, j < k → ¬ strC i j = x.toInt8.toInt32) → ∀ ls : Array Slot, lv_has ls 6 [(5, .int (nI k)), (4, .int x.toInt8.toInt32), (0, .ref (aV i)), (3, .int (nI (strN i)))] → W p l ev (rmL 0) s m ([.ref (aV i), .int x, .int 0, .int (nI (strN i))] : List Value).toArray below meth c s.heap [] 0 0 (MQX below (QP (fun k r => k = 0 ∧ r = some (ixF i x.toInt8.toInt32))) ([.ref (aV i), .int x, .int 0, .int (nI (strN i))] : List Value).toArray s (rmL 0).cells (rmL 0).slots (fun _ => False)) (F0 m 7 ls []) := by
    intro n
    induction n with
    | zero => intro k h1 h2; omega
    | succ n ih =>
      intro k hk1 hk2 hinv ls hl
      refine lv_iload hx hb d_StringLatin1_indexOfChar_aBIII_7 (lv_at hl 0 rfl) ?_
      refine lv_iload_n hx hb d_StringLatin1_indexOfChar_aBIII_9 rfl (lv_at hl 3 rfl) ?_
      refine lv_icmp_ge (tgt := 31) hx hb d_StringLatin1_indexOfChar_aBIII_10 (by decide) (fun c_10 => ?_) (fun c_10 => ?_)
      · skip
        have hkN : k = strN i := by have := ge_nI (N := strN i) c_10 rfl (by omega) (by omega); omega
        refine lv_iconst (v := (-1)) hx hb d_StringLatin1_indexOfChar_aBIII_31 (by decide) ?_
        exact rP_i C0 (⟨by decide, by decide⟩) (⟨rfl, by rw [ixF, show ixN i x.toInt8.toInt32 = k from firstF_eq (by omega) hinv (fun h9 => absurd h9 (by omega)) _ 0 (Nat.zero_add _) (Nat.zero_le _), if_neg (by omega)]⟩) d_StringLatin1_indexOfChar_aBIII_32
      · skip
        have hkN : k < strN i := lt_nI (N := strN i) c_10 rfl (by omega) (by omega)
        refine lv_aload_n hx hb d_StringLatin1_indexOfChar_aBIII_13 rfl (lv_at hl 2 rfl) ?_
        refine lv_iload hx hb d_StringLatin1_indexOfChar_aBIII_14 (lv_at hl 0 rfl) ?_
        refine q_sbyt C0 hs va_S.rf hi (vp_in_nI hkN (by omega)) d_StringLatin1_indexOfChar_aBIII_16 ?_
        rw [show (nI k).toNatClampNeg = k from nI_clamp (by omega)]
        refine lv_iload hx hb d_StringLatin1_indexOfChar_aBIII_17 (lv_at hl 1 rfl) ?_
        refine lv_icmp_ne (tgt := 25) hx hb d_StringLatin1_indexOfChar_aBIII_19 (by decide) (fun c_19 => ?_) (fun c_19 => ?_)
        · skip
          refine lv_iinc (v := nI (k + 1)) (lv' := [(5, .int (nI (k + 1))), (4, .int x.toInt8.toInt32), (0, .ref (aV i)), (3, .int (nI (strN i)))]) hx hb d_StringLatin1_indexOfChar_aBIII_25 hl (k := 0) rfl (by exact nI_1 k) (by decide) rfl (fun ls hl => ?_)
          refine lv_goto (tgt := 7) hx hb d_StringLatin1_indexOfChar_aBIII_28 (by decide) ?_
          exact ih (k + 1) (by omega) (by omega) (lt_s hinv c_19) ls (lv_sub hl [0, 1, 2, 3] rfl)
        · skip
          refine lv_iload hx hb d_StringLatin1_indexOfChar_aBIII_22 (lv_at hl 0 rfl) ?_
          exact rP_i C0 (⟨by decide, by decide⟩) (⟨rfl, by rw [ixF, show ixN i x.toInt8.toInt32 = k from firstF_eq (by omega) hinv (fun _ => c_19) _ 0 (Nat.zero_add _) (Nat.zero_le _), if_pos hkN]⟩) d_StringLatin1_indexOfChar_aBIII_24
  exact loop (strN i + 1) 0 (by omega) (by omega) (fun j hj => absurd hj (Nat.not_lt_zero j)) ls (lv_sub hl [0, 1, 2, 5] rfl)
set_option maxHeartbeats 4000000 in
set_option maxRecDepth 100000 in
theorem c_StringLatin1_indexOf_aBIII {S0 : State} {A0 : Array Value} {D : va_G} {ar : Nat → ClassId} {base : Nat} {σ : Mem} {l : Launch} (hlt : l.stackTraces = false) {aK aV : Nat → Nat} (hs : SX S0 aK aV) {i : Nat} (hi : i < 2) {x : Int32} :
    MX l y_StringLatin1_indexOf_aBIII [Cond.code y_StringLatin1_indexOf_aBIII b_StringLatin1_indexOf_aBIII 4 (some .int)] (rmL 1) (PS S0 A0 D ar base σ [.ref (aV i), .int x, .int 0, .int (nI (strN i))]) (QP (fun k r => k = 0 ∧ r = some (idxF i x))) (fun _ => False) := by
  refine cx_head hlt (by decide +kernel) (Nat.le_of_ble_eq_true rfl) ?_
  intro p ev s m below meth c ls C0 hP hl
  have C0 : Cx S0 A0 D ar base p l s m _ meth c "java/lang/StringLatin1" b_StringLatin1_indexOf_aBIII 4 (some .int) := C0
  obtain ⟨hx, hb, -⟩ := id C0
  have hl : lv_has ls 4 [(0, .ref (aV i)), (1, .int x), (2, .int 0), (3, .int (nI (strN i)))] := hl
  have hN7 := strN_le hi
  refine lv_iload_n hx hb d_StringLatin1_indexOf_aBIII_0 rfl (lv_at hl 1 rfl) ?_
  refine cs_PP C0 hP (cs_S C0 (As := [.int x]) k_ml_StringLatin1_88 k_st_StringLatin1_canEncode_I k_cd_StringLatin1_canEncode_I k_in_StringLatin1 z_StringLatin1_canEncode_I rfl d_StringLatin1_indexOf_aBIII_1) (c_StringLatin1_canEncode_I hlt hs) hl.1 d_StringLatin1_indexOf_aBIII_1 (Nat.le_of_ble_eq_true rfl) (⟨by decide, by decide⟩) (⟨by decide, by decide⟩) (fun k r hk hp => absurd hp.1 hk) (fun r_2 h_1 => ?_)
  obtain ⟨-, rfl⟩ := h_1
  refine lv_if_ne (tgt := 9) hx hb d_StringLatin1_indexOf_aBIII_4 (by decide) (fun c_4 => ?_) (fun c_4 => ?_)
  · skip
    have c_4 := b2i_ne.mp c_4
    refine lv_iload_n hx hb d_StringLatin1_indexOf_aBIII_9 rfl (lv_at hl 2 rfl) ?_
    refine lv_iconst (v := 0) hx hb d_StringLatin1_indexOf_aBIII_10 (by decide) ?_
    refine q_max C0 hl.1 k_ml_StringLatin1_92 (by decide) (by decide) ⟨by decide, by decide⟩ d_StringLatin1_indexOf_aBIII_11 ?_
    rw [show (if (0 : Int32) < 0 then 0 else 0 : Int32) = 0 from by decide]
    refine lv_istore_n (lv' := [(2, .int 0), (0, .ref (aV i)), (1, .int x), (3, .int (nI (strN i)))]) hx hb d_StringLatin1_indexOf_aBIII_14 rfl hl (by decide) rfl (fun ls hl => ?_)
    refine lv_iload_n hx hb d_StringLatin1_indexOf_aBIII_15 rfl (lv_at hl 3 rfl) ?_
    refine lv_aload_n hx hb d_StringLatin1_indexOf_aBIII_16 rfl (lv_at hl 1 rfl) ?_
    refine q_slen C0 hs va_S.rf hi d_StringLatin1_indexOf_aBIII_17 ?_
    refine q_min C0 hl.1 k_ml_StringLatin1_38 (by decide) (by decide) ⟨by decide, by decide⟩ d_StringLatin1_indexOf_aBIII_18 ?_
    rw [show (if (nI (strN i) : Int32) < nI (strN i) then nI (strN i) else nI (strN i) : Int32) = nI (strN i) from strN_max hi]
    refine lv_istore_n (lv' := [(3, .int (nI (strN i))), (2, .int 0), (0, .ref (aV i)), (1, .int x)]) hx hb d_StringLatin1_indexOf_aBIII_21 rfl hl (by decide) rfl (fun ls hl => ?_)
    refine lv_iload_n hx hb d_StringLatin1_indexOf_aBIII_22 rfl (lv_at hl 1 rfl) ?_
    refine lv_iload_n hx hb d_StringLatin1_indexOf_aBIII_23 rfl (lv_at hl 0 rfl) ?_
    refine lv_icmp_lt (tgt := 29) hx hb d_StringLatin1_indexOf_aBIII_24 (by decide) (fun c_24 => ?_) (fun c_24 => ?_)
    · skip
      refine lv_aload_n hx hb d_StringLatin1_indexOf_aBIII_29 rfl (lv_at hl 2 rfl) ?_
      refine lv_iload_n hx hb d_StringLatin1_indexOf_aBIII_30 rfl (lv_at hl 3 rfl) ?_
      refine lv_iload_n hx hb d_StringLatin1_indexOf_aBIII_31 rfl (lv_at hl 1 rfl) ?_
      refine lv_iload_n hx hb d_StringLatin1_indexOf_aBIII_32 rfl (lv_at hl 0 rfl) ?_
      refine cs_PP C0 hP (cs_S C0 (As := [.ref (aV i), .int x, .int 0, .int (nI (strN i))]) k_ml_StringLatin1_95 k_st_StringLatin1_indexOfChar_aBIII k_cd_StringLatin1_indexOfChar_aBIII k_in_StringLatin1 z_StringLatin1_indexOfChar_aBIII rfl d_StringLatin1_indexOf_aBIII_33) (c_StringLatin1_indexOfChar_aBIII hlt hs hi) hl.1 d_StringLatin1_indexOf_aBIII_33 (Nat.le_of_ble_eq_true rfl) (⟨by decide, by decide⟩) (⟨by decide, by decide⟩) (fun k r hk hp => absurd hp.1 hk) (fun r_4 h_3 => ?_)
      obtain ⟨-, rfl⟩ := h_3
      exact rP_i C0 (⟨by decide, by decide⟩) (⟨rfl, by unfold idxF; rw [if_pos c_4]⟩) d_StringLatin1_indexOf_aBIII_36
    · skip
      exact absurd ((by decide : ∀ i, i < 2 → (0 : Int32) < nI (strN i)) i hi) c_24
  · skip
    have c_4 := b2i_z.mp c_4
    refine lv_iconst (v := (-1)) hx hb d_StringLatin1_indexOf_aBIII_7 (by decide) ?_
    exact rP_i C0 (⟨by decide, by decide⟩) (⟨rfl, by unfold idxF; rw [if_neg c_4]⟩) d_StringLatin1_indexOf_aBIII_8
set_option maxHeartbeats 4000000 in
set_option maxRecDepth 100000 in
theorem c_String_indexOf_II {S0 : State} {A0 : Array Value} {D : va_G} {ar : Nat → ClassId} {base : Nat} {σ : Mem} {l : Launch} (hlt : l.stackTraces = false) {aK aV : Nat → Nat} (hs : SX S0 aK aV) {i : Nat} (hi : i < 2) {x : Int32} :
    MX l y_String_indexOf_II [Cond.code y_String_indexOf_II b_String_indexOf_II 3 (some .int)] (rmL 2) (PS S0 A0 D ar base σ [.ref (aK i), .int x, .int 0]) (QP (fun k r => k = 0 ∧ r = some (idxF i x))) (fun _ => False) := by
  refine cx_head hlt (by decide +kernel) (Nat.le_of_ble_eq_true rfl) ?_
  intro p ev s m below meth c ls C0 hP hl
  have C0 : Cx S0 A0 D ar base p l s m _ meth c "java/lang/String" b_String_indexOf_II 3 (some .int) := C0
  obtain ⟨hx, hb, -⟩ := id C0
  have hl : lv_has ls 3 [(0, .ref (aK i)), (1, .int x), (2, .int 0)] := hl
  refine lv_aload_n hx hb d_String_indexOf_II_0 rfl (lv_at hl 0 rfl) ?_
  refine cs_PP C0 hP (cs_VS C0 hs va_S.rf hi (As := []) k_ml_String_492 k_im_String_isLatin1_ k_sl_String_String_isLatin1_ k_cd_String_isLatin1_ k_in_String z_String_isLatin1_ rfl d_String_indexOf_II_1) (c_String_isLatin1_ hlt hs hi) hl.1 d_String_indexOf_II_1 (Nat.le_of_ble_eq_true rfl) (⟨by decide, by decide⟩) (⟨by decide, by decide⟩) (fun k r hk hp => absurd hp.1 hk) (fun r_2 h_1 => ?_)
  obtain ⟨-, rfl⟩ := h_1
  refine lv_if_eq (tgt := 23) hx hb d_String_indexOf_II_4 (by decide) (fun c_4 => ?_) (fun c_4 => ?_)
  · skip
    exact absurd c_4 (by decide)
  · skip
    refine lv_aload_n hx hb d_String_indexOf_II_7 rfl (lv_at hl 0 rfl) ?_
    refine q_sval C0 hs va_S.rf hi k_fl_String_9 d_String_indexOf_II_8 ?_
    refine lv_iload_n hx hb d_String_indexOf_II_11 rfl (lv_at hl 1 rfl) ?_
    refine lv_iload_n hx hb d_String_indexOf_II_12 rfl (lv_at hl 2 rfl) ?_
    refine lv_aload_n hx hb d_String_indexOf_II_13 rfl (lv_at hl 0 rfl) ?_
    refine cs_PP C0 hP (cs_VS C0 hs va_S.rf hi (As := []) k_ml_String_505 k_im_String_length_ k_sl_String_String_length_ k_cd_String_length_ k_in_String z_String_length_ rfl d_String_indexOf_II_14) (c_String_length_ hlt hs hi) hl.1 d_String_indexOf_II_14 (Nat.le_of_ble_eq_true rfl) (⟨by decide, by decide⟩) (⟨by decide, by decide⟩) (fun k r hk hp => absurd hp.1 hk) (fun r_4 h_3 => ?_)
    obtain ⟨-, rfl⟩ := h_3
    refine cs_PP C0 hP (cs_S C0 (As := [.ref (aV i), .int x, .int 0, .int (nI (strN i))]) k_ml_String_637 k_st_StringLatin1_indexOf_aBIII k_cd_StringLatin1_indexOf_aBIII k_in_StringLatin1 z_StringLatin1_indexOf_aBIII rfl d_String_indexOf_II_17) (c_StringLatin1_indexOf_aBIII hlt hs hi) hl.1 d_String_indexOf_II_17 (Nat.le_of_ble_eq_true rfl) (⟨by decide, by decide⟩) (⟨by decide, by decide⟩) (fun k r hk hp => absurd hp.1 hk) (fun r_6 h_5 => ?_)
    obtain ⟨-, rfl⟩ := h_5
    refine lv_goto (tgt := 36) hx hb d_String_indexOf_II_20 (by decide) ?_
    exact rP_i C0 (⟨by decide, by decide⟩) (⟨rfl, rfl⟩) d_String_indexOf_II_36
set_option maxHeartbeats 4000000 in
set_option maxRecDepth 100000 in
theorem c_String_indexOf_I {S0 : State} {A0 : Array Value} {D : va_G} {ar : Nat → ClassId} {base : Nat} {σ : Mem} {l : Launch} (hlt : l.stackTraces = false) {aK aV : Nat → Nat} (hs : SX S0 aK aV) {i : Nat} (hi : i < 2) {x : Int32} :
    MX l y_String_indexOf_I [Cond.code y_String_indexOf_I b_String_indexOf_I 2 (some .int)] (rmL 3) (PS S0 A0 D ar base σ [.ref (aK i), .int x]) (QP (fun k r => k = 0 ∧ r = some (idxF i x))) (fun _ => False) := by
  refine cx_head hlt (by decide +kernel) (Nat.le_of_ble_eq_true rfl) ?_
  intro p ev s m below meth c ls C0 hP hl
  have C0 : Cx S0 A0 D ar base p l s m _ meth c "java/lang/String" b_String_indexOf_I 2 (some .int) := C0
  obtain ⟨hx, hb, -⟩ := id C0
  have hl : lv_has ls 2 [(0, .ref (aK i)), (1, .int x)] := hl
  refine lv_aload_n hx hb d_String_indexOf_I_0 rfl (lv_at hl 0 rfl) ?_
  refine lv_iload_n hx hb d_String_indexOf_I_1 rfl (lv_at hl 1 rfl) ?_
  refine lv_iconst (v := 0) hx hb d_String_indexOf_I_2 (by decide) ?_
  refine cs_PP C0 hP (cs_VS C0 hs va_S.rf hi (As := [.int x, .int 0]) k_ml_String_633 k_im_String_indexOf_II k_sl_String_String_indexOf_II k_cd_String_indexOf_II k_in_String z_String_indexOf_II rfl d_String_indexOf_I_3) (c_String_indexOf_II hlt hs hi) hl.1 d_String_indexOf_I_3 (Nat.le_of_ble_eq_true rfl) (⟨by decide, by decide⟩) (⟨by decide, by decide⟩) (fun k r hk hp => absurd hp.1 hk) (fun r_2 h_1 => ?_)
  obtain ⟨-, rfl⟩ := h_1
  exact rP_i C0 (⟨by decide, by decide⟩) (⟨rfl, rfl⟩) d_String_indexOf_I_6
def fillM (σ : Mem) (b : Nat) (v : Int32) (k : Nat) : Mem := fun a c j => if a = 10 ∧ c = b ∧ j < k then v else σ a c j
theorem fill_0 {σ : Mem} {b : Nat} {v : Int32} : σ = fillM σ b v 0 := by
  funext a c j
  simp [fillM]
theorem fill_s {σ : Mem} {b k : Nat} {v : Int32} : up (fillM σ b v k) 10 b k v = fillM σ b v (k + 1) := by
  funext a c j
  simp only [up, fillM]
  by_cases h1 : a = 10 <;> by_cases h2 : c = b <;> by_cases h3 : j = k
  all_goals (try subst h1); (try subst h2); (try subst h3)
  all_goals simp_all
  all_goals (have h9 : j < k + 1 ↔ j < k := by omega)
  all_goals simp [h9]
set_option maxHeartbeats 4000000 in
set_option maxRecDepth 100000 in
theorem c_Arrays_fill_aII {S0 : State} {A0 : Array Value} {D : va_G} {ar : Nat → ClassId} {base : Nat} {σ : Mem} {l : Launch} (hlt : l.stackTraces = false) {aK aV : Nat → Nat} (hs : SX S0 aK aV) {b0 : Nat} (hb0 : b0 < 12) {v : Int32} :
    MX l y_Arrays_fill_aII [Cond.code y_Arrays_fill_aII b_Arrays_fill_aII 4 none] (rmL 0) (PS S0 A0 D ar base σ [.ref (base + ad 13 b0), .int v]) (QI D ar base (fun k r σ' => k = 0 ∧ r = none ∧ σ' = fillM σ b0 v 8)) (inB base 122) := by
  refine cx_head hlt (by decide +kernel) (Nat.le_of_ble_eq_true rfl) ?_
  intro p ev s m below meth c ls C0 hP hl
  have C0 : Cx S0 A0 D ar base p l s m _ meth c "java/util/Arrays" b_Arrays_fill_aII 4 none := C0
  obtain ⟨hx, hb, -⟩ := id C0
  have hl : lv_has ls 4 [(0, .ref (base + ad 13 b0)), (1, .int v)] := hl
  have hS : va_S (inB base 122) s.heap s.heap [] := va_S.rf
  refine lv_iconst (v := 0) hx hb d_Arrays_fill_aII_0 (by decide) ?_
  refine lv_istore_n (lv' := [(2, .int 0), (0, .ref (base + ad 13 b0)), (1, .int v)]) hx hb d_Arrays_fill_aII_1 rfl hl (by decide) rfl (fun ls hl => ?_)
  refine lv_aload_n hx hb d_Arrays_fill_aII_2 rfl (lv_at hl 1 rfl) ?_
  refine q_alen C0 hP (kd := 13) (i := b0) (N := 8) (by decide) (hb0) rfl d_Arrays_fill_aII_3 ?_
  refine lv_istore_n (lv' := [(3, .int (nI 8)), (2, .int 0), (0, .ref (base + ad 13 b0)), (1, .int v)]) hx hb d_Arrays_fill_aII_4 rfl hl (by decide) rfl (fun ls hl => ?_)
  have loop : ∀ (n k : Nat), k ≤ 8 → 8 + 1 ≤ k + n → ∀ (H : Heap) (locs : List Loc), va_P D classes (wl base 122 (mem ar base (fillM σ b0 v k))) H → va_S (inB base 122) s.heap H locs → ∀ ls : Array Slot, lv_has ls 4 [(2, .int (nI k)), (3, .int (nI 8)), (0, .ref (base + ad 13 b0)), (1, .int v)] → W p l ev (rmL 0) s m ([.ref (base + ad 13 b0), .int v] : List Value).toArray below meth c H locs 0 0 (MQX below (QI D ar base (fun k r σ' => k = 0 ∧ r = none ∧ σ' = fillM σ b0 v 8)) ([.ref (base + ad 13 b0), .int v] : List Value).toArray s (rmL 0).cells (rmL 0).slots (inB base 122)) (F0 m 5 ls []) := by
    intro n
    induction n with
    | zero => intro k h1 h2; omega
    | succ n ih =>
      intro k hk1 hk2 H locs hP hS ls hl
      refine lv_iload_n hx hb d_Arrays_fill_aII_5 rfl (lv_at hl 0 rfl) ?_
      refine lv_iload_n hx hb d_Arrays_fill_aII_6 rfl (lv_at hl 1 rfl) ?_
      refine lv_icmp_ge (tgt := 20) hx hb d_Arrays_fill_aII_7 (by decide) (fun c_7 => ?_) (fun c_7 => ?_)
      · skip
        have hkN : k = 8 := by have := ge_nI (N := 8) c_7; omega
        subst hkN
        exact rI_v C0 hP hS (⟨by decide, by decide⟩) (⟨rfl, rfl, rfl⟩) d_Arrays_fill_aII_20
      · skip
        have hkN : k < 8 := lt_nI (N := 8) c_7
        refine lv_aload_n hx hb d_Arrays_fill_aII_10 rfl (lv_at hl 2 rfl) ?_
        refine lv_iload_n hx hb d_Arrays_fill_aII_11 rfl (lv_at hl 0 rfl) ?_
        refine lv_iload_n hx hb d_Arrays_fill_aII_12 rfl (lv_at hl 3 rfl) ?_
        refine q_iast C0 hP hS (kd := 13) (i := b0) 10 (by decide) rfl (hb0) rfl (vin_nI hkN) (by rw [ast_fn]; rfl) d_Arrays_fill_aII_13 (fun H locs hP hS => ?_)
        rw [show (nI k).toNatClampNeg = k from nI_clamp (by omega)] at hP
        refine lv_iinc (v := nI (k + 1)) (lv' := [(2, .int (nI (k + 1))), (3, .int (nI 8)), (0, .ref (base + ad 13 b0)), (1, .int v)]) hx hb d_Arrays_fill_aII_14 hl (k := 0) rfl (by exact nI_1 k) (by decide) rfl (fun ls hl => ?_)
        refine lv_goto (tgt := 5) hx hb d_Arrays_fill_aII_17 (by decide) ?_
        rw [show ((up (fillM σ b0 v k) 10 b0 k v) : Mem) = fillM σ b0 v (k + 1) from fill_s] at hP
        exact ih (k + 1) (by omega) (by omega) _ _ hP hS ls (lv_sub hl [0, 1, 2, 3] rfl)
  rw [show (σ : Mem) = fillM σ b0 v 0 from fill_0] at hP
  exact loop (8 + 1) 0 (by omega) (by omega) _ _ hP hS ls (lv_sub hl [1, 0, 2, 3] rfl)
