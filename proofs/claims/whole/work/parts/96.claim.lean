/-! The law's start: laid by gen/m95.py. -/
theorem arr_p {s : State} {args : Array Value} {ty : FieldType} (h : (Cond.arrayClass ty).before args s = true) : ∃ cA : ClassId, ArrOfT s cA ty ∧ s.vm.findClass ("[" ++ ty.toString) = some cA := by
  obtain ⟨cA, k, comp, h1, h2, h3⟩ := Cond.arrayClass_spec h
  exact ⟨cA, fun n z => ⟨fun k h => (by cases h), k, h2, comp, h3⟩, h1⟩
theorem arr_o {s : State} {args : Array Value} {C : String} (h : (Cond.arrayOver (.object C)).before args s = true) : ∃ cA : ClassId, ArrOfT s cA (.object C) ∧ va_RA s cA (.object C) := by
  obtain ⟨comp, cA, k, h1, h2, h3, h4, h5⟩ := Cond.arrayOver_spec h
  exact ⟨cA, fun n z => ⟨fun k h => (by cases h), k, h3, comp, h4⟩, k, comp, h3, h4, h1, h5⟩
theorem K_at {s : State} {args : Array Value} (hts : ∀ w ∈ lw_tbl, w.before args s = true) : ∃ (D : va_G) (ar : Nat → ClassId), va_K D classes (tysOf ar) s := by
  obtain ⟨c0, i0, k0⟩ := u_known (C := R_Sy) (T := F_Sy) (N := 12) (n := 12) hts i_Sy (hts _ k_ia_Sy)
  obtain ⟨c1, i1, k1⟩ := u_known (C := R_Co) (T := F_Co) (N := 5) (n := 5) hts i_Co (hts _ k_ia_Co)
  obtain ⟨c2, i2, k2⟩ := u_known (C := R_Bl) (T := F_Bl) (N := 3) (n := 3) hts i_Bl (hts _ k_ia_Bl)
  obtain ⟨c3, i3, k3⟩ := u_known (C := R_En) (T := F_En) (N := 5) (n := 5) hts i_En (hts _ k_ia_En)
  obtain ⟨c4, i4, k4⟩ := u_known (C := R_Mo) (T := F_Mo) (N := 24) (n := 24) hts i_Mo (hts _ k_ia_Mo)
  obtain ⟨a0, x0, y0⟩ := arr_p (hts _ k_ac_int)
  obtain ⟨a1, x1, y1⟩ := arr_p (hts _ k_ac_char)
  obtain ⟨a2, x2, y2⟩ := arr_p (hts _ k_ac_boolean)
  obtain ⟨a3, x3, y3⟩ := arr_o (hts _ k_ao_Co)
  obtain ⟨a4, x4, y4⟩ := arr_o (hts _ k_ao_Bl)
  obtain ⟨a5, x5, y5⟩ := arr_o (hts _ k_ao_En)
  obtain ⟨a6, x6, y6⟩ := arr_p (hts _ k_ac_long)
  refine ⟨(fun k => if k = 0 then c0 else if k = 1 then c1 else if k = 2 then c2 else if k = 3 then c3 else c4, fun k => if k = 0 then i0 else if k = 1 then i1 else if k = 2 then i2 else if k = 3 then i3 else i4), fun k => if k = 0 then a0 else if k = 1 then a1 else if k = 2 then a2 else if k = 3 then a3 else if k = 4 then a4 else if k = 5 then a5 else a6, ?_, ?_⟩
  · intro k q hq
    match k, hq with
    | 0, hq => cases hq; exact k0
    | 1, hq => cases hq; exact k1
    | 2, hq => cases hq; exact k2
    | 3, hq => cases hq; exact k3
    | 4, hq => cases hq; exact k4
    | k + 5, hq => simp [classes] at hq
  · intro k q hq
    unfold tysOf at hq
    match k, hq with
    | 0, hq => cases hq; exact ⟨x0, y0⟩
    | 1, hq => cases hq; exact ⟨x1, y1⟩
    | 2, hq => cases hq; exact ⟨x2, y2⟩
    | 3, hq => cases hq; exact ⟨x3, y3⟩
    | 4, hq => cases hq; exact ⟨x4, y4⟩
    | 5, hq => cases hq; exact ⟨x5, y5⟩
    | 6, hq => cases hq; exact ⟨x6, y6⟩
    | k + 7, hq => simp at hq
set_option maxHeartbeats 4000000 in
theorem whole_start {p : Program} {e : Env} {s : State} {m : MethodId} {below : List Frame} {meth : Method} {c : Code} (l : Launch) (hlt : l.stackTraces = false) {b L : Nat} {xs : Nat → Int32} (hL : L ≤ 2560) (C0 : lw_At p s m meth c b L xs) : W p l e room_1 s m #[Value.ref b] below meth c s.heap [] 0 0 (lw_Z below #[Value.ref b] s) (entryFrame m ([Value.ref b] : List Value).toArray 7) := by
  obtain ⟨hx, hb, hr, hml, hown, hts, hX, hbl, hlocks, hgv⟩ := id C0
  obtain ⟨D, ar, hK⟩ := K_at hts
  have hE : E0 s #[Value.ref b] D ar := ⟨hts, hK, hgv⟩
  obtain ⟨aK, aV, hs, hz⟩ := E0.strs hE
  have h0 : At0 s #[Value.ref b] D ar s := ⟨hE, State.WarmedH.refl s, Nat.le_refl _, fun _ _ _ => rfl⟩
  have C : Cl s #[Value.ref b] D ar s.heap.size p s m c code 7 := ⟨hx, hb, hml, hown, h0, Nat.le_refl _⟩
  have hl := lv_entry ([.ref b]) (n := 7) (Nat.le_of_ble_eq_true rfl)
  rw [lg_entry_eq]
  generalize (lg_sl ([.ref b]) ++ List.replicate (7 - (lg_sl ([.ref b])).length) Slot.unset).toArray = ls at hl ⊢
  have hl : lv_has ls 7 [(0, .ref b)] := hl
  refine law_start hlt hs (hz 0 (by decide)) (hz 1 (by decide)) C hX hbl rfl hL ⟨by decide, by decide⟩ ⟨by decide, by decide⟩ hl (fun H locs cells slots ls hS hc1 hc2 => ?_)
  refine lv_iconst (v := 1) hx hb d_La_law_1151 (by decide) ?_
  refine va_forget (fun q hq => hS.2.2 q hq) ?_
  refine W.widen (k := 630173) (n := 7205585) (by omega) (by omega) ?_
  exact lw_ret hx hb hr hlocks d_La_law_1152
