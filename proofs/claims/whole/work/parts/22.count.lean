/-! The class's counts and searches: rows laid by gen/m22.py. -/
theorem b2i_z {c : Prop} [Decidable c] : b2i c = 0 ↔ ¬ c := by
  unfold b2i
  split <;> simp_all
theorem ge_nI {N k : Nat} {x : Int32} (h : x ≤ nI k) (hx : x = nI N := by decide) (hk : k < 2 ^ 31 := by omega) (hN : N < 2 ^ 31 := by decide) : N ≤ k := by
  subst hx
  exact (nI_leI hN hk).mp h
theorem lt_nI {N k : Nat} {x : Int32} (h : ¬ x ≤ nI k) (hx : x = nI N := by decide) (hk : k < 2 ^ 31 := by omega) (hN : N < 2 ^ 31 := by decide) : k < N := by
  subst hx
  exact Nat.lt_of_not_le fun z => h ((nI_leI hN hk).mpr z)
def LFB (σ : Mem) (b : Nat) : Prop := b ≤ 12 ∧ (∀ j, j < b → ¬ σ 8 j 0 = -1) ∧ (b < 12 → σ 8 b 0 = -1)
def LFC (σ : Mem) (c : Nat) : Prop := c ≤ 6 ∧ (∀ j, j < c → ¬ (σ 11 (2 * j) 0 = -1 ∧ σ 11 (2 * j + 1) 0 = -1)) ∧ (c < 6 → σ 11 (2 * c) 0 = -1 ∧ σ 11 (2 * c + 1) 0 = -1)
def RUL (σ : Mem) (c : Nat) (st lt : Int32) (sz r : Nat) : Prop := r ≤ sz ∧ (∀ j, j < r → ¬ (σ 4 c j = st ∧ σ 5 c j = lt)) ∧ (r < sz → σ 4 c r = st ∧ σ 5 c r = lt)
abbrev sAlive (σ : Mem) : Nat → Int32 := bx_sum (fun j => b2i (¬ σ 2 0 j = 0))
abbrev sBlocks (σ : Mem) : Nat → Int32 := bx_sum (fun j => b2i (¬ σ 8 j 0 = -1))
abbrev sCells (σ : Mem) : Nat → Int32 := bx_sum (fun j => σ 9 j 0)
abbrev sOpen (σ : Mem) : Nat → Int32 := bx_sum (fun j => b2i (¬ σ 11 j 0 = -1))
abbrev sWait (σ : Mem) : Nat → Int32 := bx_sum (fun j => σ 13 j 0)
abbrev sMade (σ : Mem) : Nat → Int32 := bx_sum (fun j => b2i (¬ σ 3 (j + 1) 0 = 0))
set_option maxHeartbeats 4000000 in
set_option maxRecDepth 100000 in
theorem c_Sy_processesAlive {S0 : State} {A0 : Array Value} {D : va_G} {ar : Nat → ClassId} {base : Nat} {σ : Mem} {l : Launch} (hlt : l.stackTraces = false)  :
    MX l y_Sy_processesAlive [Cond.code y_Sy_processesAlive b_Sy_processesAlive 3 (some .int)] (rmL 1) (PS S0 A0 D ar base σ [.ref (base + ad 0 0)]) (QP (fun k r => k = 0 ∧ r = some (sAlive σ 4))) (fun _ => False) := by
  refine cx_head hlt (by decide +kernel) (Nat.le_of_ble_eq_true rfl) ?_
  intro p ev s m below meth c ls C0 hP hl
  have C0 : Cx S0 A0 D ar base p l s m _ meth c R_Sy b_Sy_processesAlive 3 (some .int) := C0
  obtain ⟨hx, hb, -⟩ := id C0
  have hl : lv_has ls 3 [(0, .ref (base + ad 0 0))] := hl
  refine lv_iconst (v := 0) hx hb d_Sy_processesAlive_0 (by decide) ?_
  refine lv_istore_n (lv' := [(1, .int 0), (0, .ref (base + ad 0 0))]) hx hb d_Sy_processesAlive_1 rfl hl (by decide) rfl (fun ls hl => ?_)
  refine lv_iconst (v := 0) hx hb d_Sy_processesAlive_2 (by decide) ?_
  refine lv_istore_n (lv' := [(2, .int 0), (1, .int 0), (0, .ref (base + ad 0 0))]) hx hb d_Sy_processesAlive_3 rfl hl (by decide) rfl (fun ls hl => ?_)
  have loop : ∀ (n k : Nat), k ≤ 4 → 4 + 1 ≤ k + n → ∀ ls : Array Slot, lv_has ls 3 [(1, .int (sAlive σ k)), (2, .int (nI k)), (0, .ref (base + ad 0 0))] → W p l ev (rmL 1) s m ([.ref (base + ad 0 0)] : List Value).toArray below meth c s.heap [] 0 0 (MQX below (QP (fun k r => k = 0 ∧ r = some (sAlive σ 4))) ([.ref (base + ad 0 0)] : List Value).toArray s (rmL 1).cells (rmL 1).slots (fun _ => False)) (F0 m 4 ls []) := by
    intro n
    induction n with
    | zero => intro k h1 h2; omega
    | succ n ih =>
      intro k hk1 hk2 ls hl
      refine lv_iload_n hx hb d_Sy_processesAlive_4 rfl (lv_at hl 1 rfl) ?_
      refine lv_iconst (v := 4) hx hb d_Sy_processesAlive_5 (by decide) ?_
      refine lv_icmp_ge (tgt := 32) hx hb d_Sy_processesAlive_6 (by decide) (fun c_6 => ?_) (fun c_6 => ?_)
      · skip
        have hkN : k = 4 := by have := ge_nI (N := 4) c_6; omega
        subst hkN
        refine lv_iload_n hx hb d_Sy_processesAlive_32 rfl (lv_at hl 0 rfl) ?_
        exact rP_i C0 (⟨by decide, by decide⟩) (⟨rfl, rfl⟩) d_Sy_processesAlive_33
      · skip
        have hkN : k < 4 := lt_nI (N := 4) c_6
        refine lv_iload_n hx hb d_Sy_processesAlive_9 rfl (lv_at hl 0 rfl) ?_
        refine lv_aload_n hx hb d_Sy_processesAlive_10 rfl (lv_at hl 2 rfl) ?_
        refine q_get C0 hP (kd := 0) (i := 0) (ci := 0) (by decide) (by decide) rfl rfl 4 (by decide) rfl k_fl_Sy_24 rfl d_Sy_processesAlive_11 ?_
        refine lv_iload_n hx hb d_Sy_processesAlive_14 rfl (lv_at hl 1 rfl) ?_
        refine q_zald C0 hP (kd := 3) (i := 0) (by decide) (by decide) rfl (vin_nI hkN) d_Sy_processesAlive_15 ?_
        rw [show (nI k).toNatClampNeg = k from nI_clamp (by omega)]
        refine lv_if_eq (tgt := 23) hx hb d_Sy_processesAlive_16 (by decide) (fun c_16 => ?_) (fun c_16 => ?_)
        · skip
          refine lv_iconst (v := 0) hx hb d_Sy_processesAlive_23 (by decide) ?_
          refine lv_iadd hx hb d_Sy_processesAlive_24 ?_
          refine lv_istore_n (lv' := [(1, .int ((sAlive σ k) + 0)), (2, .int (nI k)), (0, .ref (base + ad 0 0))]) hx hb d_Sy_processesAlive_25 rfl hl (by decide) rfl (fun ls hl => ?_)
          refine lv_iinc (v := nI (k + 1)) (lv' := [(2, .int (nI (k + 1))), (1, .int ((sAlive σ k) + 0)), (0, .ref (base + ad 0 0))]) hx hb d_Sy_processesAlive_26 hl (k := 1) rfl (by exact nI_1 k) (by decide) rfl (fun ls hl => ?_)
          refine lv_goto (tgt := 4) hx hb d_Sy_processesAlive_29 (by decide) ?_
          rw [show ((sAlive σ k) + 0 : Int32) = sAlive σ (k + 1) from congrArg (fun z => sAlive σ k + z) (by simp [b2i, c_16])] at hl
          exact ih (k + 1) (by omega) (by omega) ls (lv_sub hl [1, 0, 2] rfl)
        · skip
          refine lv_iconst (v := 1) hx hb d_Sy_processesAlive_19 (by decide) ?_
          refine lv_goto (tgt := 24) hx hb d_Sy_processesAlive_20 (by decide) ?_
          refine lv_iadd hx hb d_Sy_processesAlive_24 ?_
          refine lv_istore_n (lv' := [(1, .int ((sAlive σ k) + 1)), (2, .int (nI k)), (0, .ref (base + ad 0 0))]) hx hb d_Sy_processesAlive_25 rfl hl (by decide) rfl (fun ls hl => ?_)
          refine lv_iinc (v := nI (k + 1)) (lv' := [(2, .int (nI (k + 1))), (1, .int ((sAlive σ k) + 1)), (0, .ref (base + ad 0 0))]) hx hb d_Sy_processesAlive_26 hl (k := 1) rfl (by exact nI_1 k) (by decide) rfl (fun ls hl => ?_)
          refine lv_goto (tgt := 4) hx hb d_Sy_processesAlive_29 (by decide) ?_
          rw [show ((sAlive σ k) + 1 : Int32) = sAlive σ (k + 1) from congrArg (fun z => sAlive σ k + z) (by simp [b2i, c_16])] at hl
          exact ih (k + 1) (by omega) (by omega) ls (lv_sub hl [1, 0, 2] rfl)
  exact loop (4 + 1) 0 (by omega) (by omega) ls (lv_sub hl [1, 0, 2] rfl)
set_option maxHeartbeats 4000000 in
set_option maxRecDepth 100000 in
theorem c_Sy_cellsInUse {S0 : State} {A0 : Array Value} {D : va_G} {ar : Nat → ClassId} {base : Nat} {σ : Mem} {l : Launch} (hlt : l.stackTraces = false)  :
    MX l y_Sy_cellsInUse [Cond.code y_Sy_cellsInUse b_Sy_cellsInUse 3 (some .int)] (rmL 1) (PS S0 A0 D ar base σ [.ref (base + ad 0 0)]) (QP (fun k r => k = 0 ∧ r = some (sCells σ 12))) (fun _ => False) := by
  refine cx_head hlt (by decide +kernel) (Nat.le_of_ble_eq_true rfl) ?_
  intro p ev s m below meth c ls C0 hP hl
  have C0 : Cx S0 A0 D ar base p l s m _ meth c R_Sy b_Sy_cellsInUse 3 (some .int) := C0
  obtain ⟨hx, hb, -⟩ := id C0
  have hl : lv_has ls 3 [(0, .ref (base + ad 0 0))] := hl
  refine lv_iconst (v := 0) hx hb d_Sy_cellsInUse_0 (by decide) ?_
  refine lv_istore_n (lv' := [(1, .int 0), (0, .ref (base + ad 0 0))]) hx hb d_Sy_cellsInUse_1 rfl hl (by decide) rfl (fun ls hl => ?_)
  refine lv_iconst (v := 0) hx hb d_Sy_cellsInUse_2 (by decide) ?_
  refine lv_istore_n (lv' := [(2, .int 0), (1, .int 0), (0, .ref (base + ad 0 0))]) hx hb d_Sy_cellsInUse_3 rfl hl (by decide) rfl (fun ls hl => ?_)
  have loop : ∀ (n k : Nat), k ≤ 12 → 12 + 1 ≤ k + n → ∀ ls : Array Slot, lv_has ls 3 [(1, .int (sCells σ k)), (2, .int (nI k)), (0, .ref (base + ad 0 0))] → W p l ev (rmL 1) s m ([.ref (base + ad 0 0)] : List Value).toArray below meth c s.heap [] 0 0 (MQX below (QP (fun k r => k = 0 ∧ r = some (sCells σ 12))) ([.ref (base + ad 0 0)] : List Value).toArray s (rmL 1).cells (rmL 1).slots (fun _ => False)) (F0 m 4 ls []) := by
    intro n
    induction n with
    | zero => intro k h1 h2; omega
    | succ n ih =>
      intro k hk1 hk2 ls hl
      refine lv_iload_n hx hb d_Sy_cellsInUse_4 rfl (lv_at hl 1 rfl) ?_
      refine lv_bipush (v := 12) hx hb d_Sy_cellsInUse_5 (by decide) ?_
      refine lv_icmp_ge (tgt := 28) hx hb d_Sy_cellsInUse_7 (by decide) (fun c_7 => ?_) (fun c_7 => ?_)
      · skip
        have hkN : k = 12 := by have := ge_nI (N := 12) c_7; omega
        subst hkN
        refine lv_iload_n hx hb d_Sy_cellsInUse_28 rfl (lv_at hl 0 rfl) ?_
        exact rP_i C0 (⟨by decide, by decide⟩) (⟨rfl, rfl⟩) d_Sy_cellsInUse_29
      · skip
        have hkN : k < 12 := lt_nI (N := 12) c_7
        refine lv_iload_n hx hb d_Sy_cellsInUse_10 rfl (lv_at hl 0 rfl) ?_
        refine lv_aload_n hx hb d_Sy_cellsInUse_11 rfl (lv_at hl 2 rfl) ?_
        refine q_get C0 hP (kd := 0) (i := 0) (ci := 0) (by decide) (by decide) rfl rfl 5 (by decide) rfl k_fl_Sy_30 rfl d_Sy_cellsInUse_12 ?_
        refine lv_iload_n hx hb d_Sy_cellsInUse_15 rfl (lv_at hl 1 rfl) ?_
        refine q_aald C0 hP (kd := 4) (i := 0) (t0 := 4) (v := base + ad 12 k) (by decide) (by decide) rfl rfl (by rw [nI_clamp (by omega)]) (vin_nI hkN) d_Sy_cellsInUse_16 ?_
        refine q_getN C0 hP (kd := 12) (i := k) (ci := 2) (by decide) (hkN) rfl rfl 2 (by decide) rfl k_fn_Sy_211 rfl d_Sy_cellsInUse_17 ?_
        refine lv_iadd hx hb d_Sy_cellsInUse_20 ?_
        refine lv_istore_n (lv' := [(1, .int ((sCells σ k) + (σ 9 k 0))), (2, .int (nI k)), (0, .ref (base + ad 0 0))]) hx hb d_Sy_cellsInUse_21 rfl hl (by decide) rfl (fun ls hl => ?_)
        refine lv_iinc (v := nI (k + 1)) (lv' := [(2, .int (nI (k + 1))), (1, .int ((sCells σ k) + (σ 9 k 0))), (0, .ref (base + ad 0 0))]) hx hb d_Sy_cellsInUse_22 hl (k := 1) rfl (by exact nI_1 k) (by decide) rfl (fun ls hl => ?_)
        refine lv_goto (tgt := 4) hx hb d_Sy_cellsInUse_25 (by decide) ?_
        rw [show ((sCells σ k) + (σ 9 k 0) : Int32) = sCells σ (k + 1) from congrArg (fun z => sCells σ k + z) (by simp [b2i])] at hl
        exact ih (k + 1) (by omega) (by omega) ls (lv_sub hl [1, 0, 2] rfl)
  exact loop (12 + 1) 0 (by omega) (by omega) ls (lv_sub hl [1, 0, 2] rfl)
set_option maxHeartbeats 4000000 in
set_option maxRecDepth 100000 in
theorem c_Sy_messagesWaiting {S0 : State} {A0 : Array Value} {D : va_G} {ar : Nat → ClassId} {base : Nat} {σ : Mem} {l : Launch} (hlt : l.stackTraces = false)  :
    MX l y_Sy_messagesWaiting [Cond.code y_Sy_messagesWaiting b_Sy_messagesWaiting 3 (some .int)] (rmL 1) (PS S0 A0 D ar base σ [.ref (base + ad 0 0)]) (QP (fun k r => k = 0 ∧ r = some (sWait σ 12))) (fun _ => False) := by
  refine cx_head hlt (by decide +kernel) (Nat.le_of_ble_eq_true rfl) ?_
  intro p ev s m below meth c ls C0 hP hl
  have C0 : Cx S0 A0 D ar base p l s m _ meth c R_Sy b_Sy_messagesWaiting 3 (some .int) := C0
  obtain ⟨hx, hb, -⟩ := id C0
  have hl : lv_has ls 3 [(0, .ref (base + ad 0 0))] := hl
  refine lv_iconst (v := 0) hx hb d_Sy_messagesWaiting_0 (by decide) ?_
  refine lv_istore_n (lv' := [(1, .int 0), (0, .ref (base + ad 0 0))]) hx hb d_Sy_messagesWaiting_1 rfl hl (by decide) rfl (fun ls hl => ?_)
  refine lv_iconst (v := 0) hx hb d_Sy_messagesWaiting_2 (by decide) ?_
  refine lv_istore_n (lv' := [(2, .int 0), (1, .int 0), (0, .ref (base + ad 0 0))]) hx hb d_Sy_messagesWaiting_3 rfl hl (by decide) rfl (fun ls hl => ?_)
  have loop : ∀ (n k : Nat), k ≤ 12 → 12 + 1 ≤ k + n → ∀ ls : Array Slot, lv_has ls 3 [(1, .int (sWait σ k)), (2, .int (nI k)), (0, .ref (base + ad 0 0))] → W p l ev (rmL 1) s m ([.ref (base + ad 0 0)] : List Value).toArray below meth c s.heap [] 0 0 (MQX below (QP (fun k r => k = 0 ∧ r = some (sWait σ 12))) ([.ref (base + ad 0 0)] : List Value).toArray s (rmL 1).cells (rmL 1).slots (fun _ => False)) (F0 m 4 ls []) := by
    intro n
    induction n with
    | zero => intro k h1 h2; omega
    | succ n ih =>
      intro k hk1 hk2 ls hl
      refine lv_iload_n hx hb d_Sy_messagesWaiting_4 rfl (lv_at hl 1 rfl) ?_
      refine lv_bipush (v := 12) hx hb d_Sy_messagesWaiting_5 (by decide) ?_
      refine lv_icmp_ge (tgt := 28) hx hb d_Sy_messagesWaiting_7 (by decide) (fun c_7 => ?_) (fun c_7 => ?_)
      · skip
        have hkN : k = 12 := by have := ge_nI (N := 12) c_7; omega
        subst hkN
        refine lv_iload_n hx hb d_Sy_messagesWaiting_28 rfl (lv_at hl 0 rfl) ?_
        exact rP_i C0 (⟨by decide, by decide⟩) (⟨rfl, rfl⟩) d_Sy_messagesWaiting_29
      · skip
        have hkN : k < 12 := lt_nI (N := 12) c_7
        refine lv_iload_n hx hb d_Sy_messagesWaiting_10 rfl (lv_at hl 0 rfl) ?_
        refine lv_aload_n hx hb d_Sy_messagesWaiting_11 rfl (lv_at hl 2 rfl) ?_
        refine q_get C0 hP (kd := 0) (i := 0) (ci := 0) (by decide) (by decide) rfl rfl 7 (by decide) rfl k_fl_Sy_40 rfl d_Sy_messagesWaiting_12 ?_
        refine lv_iload_n hx hb d_Sy_messagesWaiting_15 rfl (lv_at hl 1 rfl) ?_
        refine q_aald C0 hP (kd := 6) (i := 0) (t0 := 5) (v := base + ad 14 k) (by decide) (by decide) rfl rfl (by rw [nI_clamp (by omega)]) (vin_nI hkN) d_Sy_messagesWaiting_16 ?_
        refine q_getN C0 hP (kd := 14) (i := k) (ci := 3) (by decide) (hkN) rfl rfl 4 (by decide) rfl k_fn_Sy_178 rfl d_Sy_messagesWaiting_17 ?_
        refine lv_iadd hx hb d_Sy_messagesWaiting_20 ?_
        refine lv_istore_n (lv' := [(1, .int ((sWait σ k) + (σ 13 k 0))), (2, .int (nI k)), (0, .ref (base + ad 0 0))]) hx hb d_Sy_messagesWaiting_21 rfl hl (by decide) rfl (fun ls hl => ?_)
        refine lv_iinc (v := nI (k + 1)) (lv' := [(2, .int (nI (k + 1))), (1, .int ((sWait σ k) + (σ 13 k 0))), (0, .ref (base + ad 0 0))]) hx hb d_Sy_messagesWaiting_22 hl (k := 1) rfl (by exact nI_1 k) (by decide) rfl (fun ls hl => ?_)
        refine lv_goto (tgt := 4) hx hb d_Sy_messagesWaiting_25 (by decide) ?_
        rw [show ((sWait σ k) + (σ 13 k 0) : Int32) = sWait σ (k + 1) from congrArg (fun z => sWait σ k + z) (by simp [b2i])] at hl
        exact ih (k + 1) (by omega) (by omega) ls (lv_sub hl [1, 0, 2] rfl)
  exact loop (12 + 1) 0 (by omega) (by omega) ls (lv_sub hl [1, 0, 2] rfl)
set_option maxHeartbeats 4000000 in
set_option maxRecDepth 100000 in
theorem c_Sy_blocksInUse {S0 : State} {A0 : Array Value} {D : va_G} {ar : Nat → ClassId} {base : Nat} {σ : Mem} {l : Launch} (hlt : l.stackTraces = false)  :
    MX l y_Sy_blocksInUse [Cond.code y_Sy_blocksInUse b_Sy_blocksInUse 3 (some .int)] (rmL 1) (PS S0 A0 D ar base σ [.ref (base + ad 0 0)]) (QP (fun k r => k = 0 ∧ r = some (sBlocks σ 12))) (fun _ => False) := by
  refine cx_head hlt (by decide +kernel) (Nat.le_of_ble_eq_true rfl) ?_
  intro p ev s m below meth c ls C0 hP hl
  have C0 : Cx S0 A0 D ar base p l s m _ meth c R_Sy b_Sy_blocksInUse 3 (some .int) := C0
  obtain ⟨hx, hb, -⟩ := id C0
  have hl : lv_has ls 3 [(0, .ref (base + ad 0 0))] := hl
  refine lv_iconst (v := 0) hx hb d_Sy_blocksInUse_0 (by decide) ?_
  refine lv_istore_n (lv' := [(1, .int 0), (0, .ref (base + ad 0 0))]) hx hb d_Sy_blocksInUse_1 rfl hl (by decide) rfl (fun ls hl => ?_)
  refine lv_iconst (v := 0) hx hb d_Sy_blocksInUse_2 (by decide) ?_
  refine lv_istore_n (lv' := [(2, .int 0), (1, .int 0), (0, .ref (base + ad 0 0))]) hx hb d_Sy_blocksInUse_3 rfl hl (by decide) rfl (fun ls hl => ?_)
  have loop : ∀ (n k : Nat), k ≤ 12 → 12 + 1 ≤ k + n → ∀ ls : Array Slot, lv_has ls 3 [(1, .int (sBlocks σ k)), (2, .int (nI k)), (0, .ref (base + ad 0 0))] → W p l ev (rmL 1) s m ([.ref (base + ad 0 0)] : List Value).toArray below meth c s.heap [] 0 0 (MQX below (QP (fun k r => k = 0 ∧ r = some (sBlocks σ 12))) ([.ref (base + ad 0 0)] : List Value).toArray s (rmL 1).cells (rmL 1).slots (fun _ => False)) (F0 m 4 ls []) := by
    intro n
    induction n with
    | zero => intro k h1 h2; omega
    | succ n ih =>
      intro k hk1 hk2 ls hl
      refine lv_iload_n hx hb d_Sy_blocksInUse_4 rfl (lv_at hl 1 rfl) ?_
      refine lv_bipush (v := 12) hx hb d_Sy_blocksInUse_5 (by decide) ?_
      refine lv_icmp_ge (tgt := 36) hx hb d_Sy_blocksInUse_7 (by decide) (fun c_7 => ?_) (fun c_7 => ?_)
      · skip
        have hkN : k = 12 := by have := ge_nI (N := 12) c_7; omega
        subst hkN
        refine lv_iload_n hx hb d_Sy_blocksInUse_36 rfl (lv_at hl 0 rfl) ?_
        exact rP_i C0 (⟨by decide, by decide⟩) (⟨rfl, rfl⟩) d_Sy_blocksInUse_37
      · skip
        have hkN : k < 12 := lt_nI (N := 12) c_7
        refine lv_iload_n hx hb d_Sy_blocksInUse_10 rfl (lv_at hl 0 rfl) ?_
        refine lv_aload_n hx hb d_Sy_blocksInUse_11 rfl (lv_at hl 2 rfl) ?_
        refine q_get C0 hP (kd := 0) (i := 0) (ci := 0) (by decide) (by decide) rfl rfl 5 (by decide) rfl k_fl_Sy_30 rfl d_Sy_blocksInUse_12 ?_
        refine lv_iload_n hx hb d_Sy_blocksInUse_15 rfl (lv_at hl 1 rfl) ?_
        refine q_aald C0 hP (kd := 4) (i := 0) (t0 := 4) (v := base + ad 12 k) (by decide) (by decide) rfl rfl (by rw [nI_clamp (by omega)]) (vin_nI hkN) d_Sy_blocksInUse_16 ?_
        refine cs_PP C0 hP (cs_V C0 hP (kd := 12) (i := k) (ci := 2) (As := []) (by decide) (hkN) rfl rfl k_ml_Sy_279 k_im_Bl_isFree k_sl_Bl_Bl_isFree k_cd_Bl_isFree k_in_Bl z_Bl_isFree rfl d_Sy_blocksInUse_17) (c_Bl_isFree hlt hkN) hl.1 d_Sy_blocksInUse_17 (Nat.le_of_ble_eq_true rfl) ⟨by decide, by decide⟩ (⟨by decide, by decide⟩) (fun k r hk hp => absurd hp.1 hk) (fun r_2 h_1 => ?_)
        obtain rfl := h_1.2
        refine lv_if_eq (tgt := 27) hx hb d_Sy_blocksInUse_20 (by decide) (fun c_20 => ?_) (fun c_20 => ?_)
        · skip
          have c_20 := b2i_z.mp c_20
          refine lv_iconst (v := 1) hx hb d_Sy_blocksInUse_27 (by decide) ?_
          refine lv_iadd hx hb d_Sy_blocksInUse_28 ?_
          refine lv_istore_n (lv' := [(1, .int ((sBlocks σ k) + 1)), (2, .int (nI k)), (0, .ref (base + ad 0 0))]) hx hb d_Sy_blocksInUse_29 rfl hl (by decide) rfl (fun ls hl => ?_)
          refine lv_iinc (v := nI (k + 1)) (lv' := [(2, .int (nI (k + 1))), (1, .int ((sBlocks σ k) + 1)), (0, .ref (base + ad 0 0))]) hx hb d_Sy_blocksInUse_30 hl (k := 1) rfl (by exact nI_1 k) (by decide) rfl (fun ls hl => ?_)
          refine lv_goto (tgt := 4) hx hb d_Sy_blocksInUse_33 (by decide) ?_
          rw [show ((sBlocks σ k) + 1 : Int32) = sBlocks σ (k + 1) from congrArg (fun z => sBlocks σ k + z) (by simp [b2i, c_20])] at hl
          exact ih (k + 1) (by omega) (by omega) ls (lv_sub hl [1, 0, 2] rfl)
        · skip
          have c_20 := b2i_ne.mp c_20
          refine lv_iconst (v := 0) hx hb d_Sy_blocksInUse_23 (by decide) ?_
          refine lv_goto (tgt := 28) hx hb d_Sy_blocksInUse_24 (by decide) ?_
          refine lv_iadd hx hb d_Sy_blocksInUse_28 ?_
          refine lv_istore_n (lv' := [(1, .int ((sBlocks σ k) + 0)), (2, .int (nI k)), (0, .ref (base + ad 0 0))]) hx hb d_Sy_blocksInUse_29 rfl hl (by decide) rfl (fun ls hl => ?_)
          refine lv_iinc (v := nI (k + 1)) (lv' := [(2, .int (nI (k + 1))), (1, .int ((sBlocks σ k) + 0)), (0, .ref (base + ad 0 0))]) hx hb d_Sy_blocksInUse_30 hl (k := 1) rfl (by exact nI_1 k) (by decide) rfl (fun ls hl => ?_)
          refine lv_goto (tgt := 4) hx hb d_Sy_blocksInUse_33 (by decide) ?_
          rw [show ((sBlocks σ k) + 0 : Int32) = sBlocks σ (k + 1) from congrArg (fun z => sBlocks σ k + z) (by simp [b2i, c_20])] at hl
          exact ih (k + 1) (by omega) (by omega) ls (lv_sub hl [1, 0, 2] rfl)
  exact loop (12 + 1) 0 (by omega) (by omega) ls (lv_sub hl [1, 0, 2] rfl)
set_option maxHeartbeats 4000000 in
set_option maxRecDepth 100000 in
theorem c_Sy_endsOpen {S0 : State} {A0 : Array Value} {D : va_G} {ar : Nat → ClassId} {base : Nat} {σ : Mem} {l : Launch} (hlt : l.stackTraces = false)  :
    MX l y_Sy_endsOpen [Cond.code y_Sy_endsOpen b_Sy_endsOpen 3 (some .int)] (rmL 1) (PS S0 A0 D ar base σ [.ref (base + ad 0 0)]) (QP (fun k r => k = 0 ∧ r = some (sOpen σ 12))) (fun _ => False) := by
  refine cx_head hlt (by decide +kernel) (Nat.le_of_ble_eq_true rfl) ?_
  intro p ev s m below meth c ls C0 hP hl
  have C0 : Cx S0 A0 D ar base p l s m _ meth c R_Sy b_Sy_endsOpen 3 (some .int) := C0
  obtain ⟨hx, hb, -⟩ := id C0
  have hl : lv_has ls 3 [(0, .ref (base + ad 0 0))] := hl
  refine lv_iconst (v := 0) hx hb d_Sy_endsOpen_0 (by decide) ?_
  refine lv_istore_n (lv' := [(1, .int 0), (0, .ref (base + ad 0 0))]) hx hb d_Sy_endsOpen_1 rfl hl (by decide) rfl (fun ls hl => ?_)
  refine lv_iconst (v := 0) hx hb d_Sy_endsOpen_2 (by decide) ?_
  refine lv_istore_n (lv' := [(2, .int 0), (1, .int 0), (0, .ref (base + ad 0 0))]) hx hb d_Sy_endsOpen_3 rfl hl (by decide) rfl (fun ls hl => ?_)
  have loop : ∀ (n k : Nat), k ≤ 12 → 12 + 1 ≤ k + n → ∀ ls : Array Slot, lv_has ls 3 [(1, .int (sOpen σ k)), (2, .int (nI k)), (0, .ref (base + ad 0 0))] → W p l ev (rmL 1) s m ([.ref (base + ad 0 0)] : List Value).toArray below meth c s.heap [] 0 0 (MQX below (QP (fun k r => k = 0 ∧ r = some (sOpen σ 12))) ([.ref (base + ad 0 0)] : List Value).toArray s (rmL 1).cells (rmL 1).slots (fun _ => False)) (F0 m 4 ls []) := by
    intro n
    induction n with
    | zero => intro k h1 h2; omega
    | succ n ih =>
      intro k hk1 hk2 ls hl
      refine lv_iload_n hx hb d_Sy_endsOpen_4 rfl (lv_at hl 1 rfl) ?_
      refine lv_bipush (v := 12) hx hb d_Sy_endsOpen_5 (by decide) ?_
      refine lv_icmp_ge (tgt := 36) hx hb d_Sy_endsOpen_7 (by decide) (fun c_7 => ?_) (fun c_7 => ?_)
      · skip
        have hkN : k = 12 := by have := ge_nI (N := 12) c_7; omega
        subst hkN
        refine lv_iload_n hx hb d_Sy_endsOpen_36 rfl (lv_at hl 0 rfl) ?_
        exact rP_i C0 (⟨by decide, by decide⟩) (⟨rfl, rfl⟩) d_Sy_endsOpen_37
      · skip
        have hkN : k < 12 := lt_nI (N := 12) c_7
        refine lv_iload_n hx hb d_Sy_endsOpen_10 rfl (lv_at hl 0 rfl) ?_
        refine lv_aload_n hx hb d_Sy_endsOpen_11 rfl (lv_at hl 2 rfl) ?_
        refine q_get C0 hP (kd := 0) (i := 0) (ci := 0) (by decide) (by decide) rfl rfl 7 (by decide) rfl k_fl_Sy_40 rfl d_Sy_endsOpen_12 ?_
        refine lv_iload_n hx hb d_Sy_endsOpen_15 rfl (lv_at hl 1 rfl) ?_
        refine q_aald C0 hP (kd := 6) (i := 0) (t0 := 5) (v := base + ad 14 k) (by decide) (by decide) rfl rfl (by rw [nI_clamp (by omega)]) (vin_nI hkN) d_Sy_endsOpen_16 ?_
        refine cs_PP C0 hP (cs_V C0 hP (kd := 14) (i := k) (ci := 3) (As := []) (by decide) (hkN) rfl rfl k_ml_Sy_173 k_im_En_isOpen k_sl_En_En_isOpen k_cd_En_isOpen k_in_En z_En_isOpen rfl d_Sy_endsOpen_17) (c_En_isOpen hlt hkN) hl.1 d_Sy_endsOpen_17 (Nat.le_of_ble_eq_true rfl) ⟨by decide, by decide⟩ (⟨by decide, by decide⟩) (fun k r hk hp => absurd hp.1 hk) (fun r_2 h_1 => ?_)
        obtain rfl := h_1.2
        refine lv_if_eq (tgt := 27) hx hb d_Sy_endsOpen_20 (by decide) (fun c_20 => ?_) (fun c_20 => ?_)
        · skip
          have c_20 := b2i_z.mp c_20
          refine lv_iconst (v := 0) hx hb d_Sy_endsOpen_27 (by decide) ?_
          refine lv_iadd hx hb d_Sy_endsOpen_28 ?_
          refine lv_istore_n (lv' := [(1, .int ((sOpen σ k) + 0)), (2, .int (nI k)), (0, .ref (base + ad 0 0))]) hx hb d_Sy_endsOpen_29 rfl hl (by decide) rfl (fun ls hl => ?_)
          refine lv_iinc (v := nI (k + 1)) (lv' := [(2, .int (nI (k + 1))), (1, .int ((sOpen σ k) + 0)), (0, .ref (base + ad 0 0))]) hx hb d_Sy_endsOpen_30 hl (k := 1) rfl (by exact nI_1 k) (by decide) rfl (fun ls hl => ?_)
          refine lv_goto (tgt := 4) hx hb d_Sy_endsOpen_33 (by decide) ?_
          rw [show ((sOpen σ k) + 0 : Int32) = sOpen σ (k + 1) from congrArg (fun z => sOpen σ k + z) (by simp [b2i, c_20])] at hl
          exact ih (k + 1) (by omega) (by omega) ls (lv_sub hl [1, 0, 2] rfl)
        · skip
          have c_20 := b2i_ne.mp c_20
          refine lv_iconst (v := 1) hx hb d_Sy_endsOpen_23 (by decide) ?_
          refine lv_goto (tgt := 28) hx hb d_Sy_endsOpen_24 (by decide) ?_
          refine lv_iadd hx hb d_Sy_endsOpen_28 ?_
          refine lv_istore_n (lv' := [(1, .int ((sOpen σ k) + 1)), (2, .int (nI k)), (0, .ref (base + ad 0 0))]) hx hb d_Sy_endsOpen_29 rfl hl (by decide) rfl (fun ls hl => ?_)
          refine lv_iinc (v := nI (k + 1)) (lv' := [(2, .int (nI (k + 1))), (1, .int ((sOpen σ k) + 1)), (0, .ref (base + ad 0 0))]) hx hb d_Sy_endsOpen_30 hl (k := 1) rfl (by exact nI_1 k) (by decide) rfl (fun ls hl => ?_)
          refine lv_goto (tgt := 4) hx hb d_Sy_endsOpen_33 (by decide) ?_
          rw [show ((sOpen σ k) + 1 : Int32) = sOpen σ (k + 1) from congrArg (fun z => sOpen σ k + z) (by simp [b2i, c_20])] at hl
          exact ih (k + 1) (by omega) (by omega) ls (lv_sub hl [1, 0, 2] rfl)
  exact loop (12 + 1) 0 (by omega) (by omega) ls (lv_sub hl [1, 0, 2] rfl)
set_option maxHeartbeats 4000000 in
set_option maxRecDepth 100000 in
theorem c_Sy_contractsMade {S0 : State} {A0 : Array Value} {D : va_G} {ar : Nat → ClassId} {base : Nat} {σ : Mem} {l : Launch} (hlt : l.stackTraces = false)  :
    MX l y_Sy_contractsMade [Cond.code y_Sy_contractsMade b_Sy_contractsMade 3 (some .int)] (rmL 1) (PS S0 A0 D ar base σ [.ref (base + ad 0 0)]) (QP (fun k r => k = 0 ∧ r = some (sMade σ 4))) (fun _ => False) := by
  refine cx_head hlt (by decide +kernel) (Nat.le_of_ble_eq_true rfl) ?_
  intro p ev s m below meth c ls C0 hP hl
  have C0 : Cx S0 A0 D ar base p l s m _ meth c R_Sy b_Sy_contractsMade 3 (some .int) := C0
  obtain ⟨hx, hb, -⟩ := id C0
  have hl : lv_has ls 3 [(0, .ref (base + ad 0 0))] := hl
  refine lv_iconst (v := 0) hx hb d_Sy_contractsMade_0 (by decide) ?_
  refine lv_istore_n (lv' := [(1, .int 0), (0, .ref (base + ad 0 0))]) hx hb d_Sy_contractsMade_1 rfl hl (by decide) rfl (fun ls hl => ?_)
  refine lv_iconst (v := 0) hx hb d_Sy_contractsMade_2 (by decide) ?_
  refine lv_istore_n (lv' := [(2, .int 0), (1, .int 0), (0, .ref (base + ad 0 0))]) hx hb d_Sy_contractsMade_3 rfl hl (by decide) rfl (fun ls hl => ?_)
  have loop : ∀ (n k : Nat), k ≤ 4 → 4 + 1 ≤ k + n → ∀ ls : Array Slot, lv_has ls 3 [(1, .int (sMade σ k)), (2, .int (nI k)), (0, .ref (base + ad 0 0))] → W p l ev (rmL 1) s m ([.ref (base + ad 0 0)] : List Value).toArray below meth c s.heap [] 0 0 (MQX below (QP (fun k r => k = 0 ∧ r = some (sMade σ 4))) ([.ref (base + ad 0 0)] : List Value).toArray s (rmL 1).cells (rmL 1).slots (fun _ => False)) (F0 m 4 ls []) := by
    intro n
    induction n with
    | zero => intro k h1 h2; omega
    | succ n ih =>
      intro k hk1 hk2 ls hl
      refine lv_iload_n hx hb d_Sy_contractsMade_4 rfl (lv_at hl 1 rfl) ?_
      refine lv_iconst (v := 4) hx hb d_Sy_contractsMade_5 (by decide) ?_
      refine lv_icmp_ge (tgt := 35) hx hb d_Sy_contractsMade_6 (by decide) (fun c_6 => ?_) (fun c_6 => ?_)
      · skip
        have hkN : k = 4 := by have := ge_nI (N := 4) c_6; omega
        subst hkN
        refine lv_iload_n hx hb d_Sy_contractsMade_35 rfl (lv_at hl 0 rfl) ?_
        exact rP_i C0 (⟨by decide, by decide⟩) (⟨rfl, rfl⟩) d_Sy_contractsMade_36
      · skip
        have hkN : k < 4 := lt_nI (N := 4) c_6
        refine lv_iload_n hx hb d_Sy_contractsMade_9 rfl (lv_at hl 0 rfl) ?_
        refine lv_aload_n hx hb d_Sy_contractsMade_10 rfl (lv_at hl 2 rfl) ?_
        refine q_get C0 hP (kd := 0) (i := 0) (ci := 0) (by decide) (by decide) rfl rfl 3 (by decide) rfl k_fl_Sy_20 rfl d_Sy_contractsMade_11 ?_
        refine lv_iload_n hx hb d_Sy_contractsMade_14 rfl (lv_at hl 1 rfl) ?_
        refine q_aald C0 hP (kd := 2) (i := 0) (t0 := 3) (v := base + ad 7 (k + 1)) (by decide) (by decide) rfl rfl (by rw [nI_clamp (by omega)]) (vin_nI hkN) d_Sy_contractsMade_15 ?_
        refine cs_PP C0 hP (cs_V C0 hP (kd := 7) (i := k + 1) (ci := 1) (As := []) (by decide) (show k + 1 < 11 by omega) rfl rfl k_ml_Sy_126 k_im_Co_isNone k_sl_Co_Co_isNone k_cd_Co_isNone k_in_Co z_Co_isNone rfl d_Sy_contractsMade_16) (c_Co_isNone hlt (by omega)) hl.1 d_Sy_contractsMade_16 (Nat.le_of_ble_eq_true rfl) ⟨by decide, by decide⟩ (⟨by decide, by decide⟩) (fun k r hk hp => absurd hp.1 hk) (fun r_2 h_1 => ?_)
        obtain rfl := h_1.2
        refine lv_if_eq (tgt := 26) hx hb d_Sy_contractsMade_19 (by decide) (fun c_19 => ?_) (fun c_19 => ?_)
        · skip
          have c_19 := b2i_z.mp c_19
          refine lv_iconst (v := 1) hx hb d_Sy_contractsMade_26 (by decide) ?_
          refine lv_iadd hx hb d_Sy_contractsMade_27 ?_
          refine lv_istore_n (lv' := [(1, .int ((sMade σ k) + 1)), (2, .int (nI k)), (0, .ref (base + ad 0 0))]) hx hb d_Sy_contractsMade_28 rfl hl (by decide) rfl (fun ls hl => ?_)
          refine lv_iinc (v := nI (k + 1)) (lv' := [(2, .int (nI (k + 1))), (1, .int ((sMade σ k) + 1)), (0, .ref (base + ad 0 0))]) hx hb d_Sy_contractsMade_29 hl (k := 1) rfl (by exact nI_1 k) (by decide) rfl (fun ls hl => ?_)
          refine lv_goto (tgt := 4) hx hb d_Sy_contractsMade_32 (by decide) ?_
          rw [show ((sMade σ k) + 1 : Int32) = sMade σ (k + 1) from congrArg (fun z => sMade σ k + z) (by simp [b2i, c_19])] at hl
          exact ih (k + 1) (by omega) (by omega) ls (lv_sub hl [1, 0, 2] rfl)
        · skip
          have c_19 := b2i_ne.mp c_19
          refine lv_iconst (v := 0) hx hb d_Sy_contractsMade_22 (by decide) ?_
          refine lv_goto (tgt := 27) hx hb d_Sy_contractsMade_23 (by decide) ?_
          refine lv_iadd hx hb d_Sy_contractsMade_27 ?_
          refine lv_istore_n (lv' := [(1, .int ((sMade σ k) + 0)), (2, .int (nI k)), (0, .ref (base + ad 0 0))]) hx hb d_Sy_contractsMade_28 rfl hl (by decide) rfl (fun ls hl => ?_)
          refine lv_iinc (v := nI (k + 1)) (lv' := [(2, .int (nI (k + 1))), (1, .int ((sMade σ k) + 0)), (0, .ref (base + ad 0 0))]) hx hb d_Sy_contractsMade_29 hl (k := 1) rfl (by exact nI_1 k) (by decide) rfl (fun ls hl => ?_)
          refine lv_goto (tgt := 4) hx hb d_Sy_contractsMade_32 (by decide) ?_
          rw [show ((sMade σ k) + 0 : Int32) = sMade σ (k + 1) from congrArg (fun z => sMade σ k + z) (by simp [b2i, c_19])] at hl
          exact ih (k + 1) (by omega) (by omega) ls (lv_sub hl [1, 0, 2] rfl)
  exact loop (4 + 1) 0 (by omega) (by omega) ls (lv_sub hl [1, 0, 2] rfl)
