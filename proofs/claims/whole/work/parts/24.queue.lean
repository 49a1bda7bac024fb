/-! Queues, loads: laid by gen/m24.py. -/
set_option maxHeartbeats 4000000 in
set_option maxRecDepth 100000 in
theorem c_En_addLast {S0 : State} {A0 : Array Value} {D : va_G} {ar : Nat → ClassId} {base : Nat} {σ : Mem} {l : Launch} (hlt : l.stackTraces = false) {e0 : Nat} (he : e0 < 12) {wt : Nat} (hwt : σ 13 e0 0 = nI wt) (hw3 : wt ≤ 3) {lt v : Int32} :
    MX l y_En_addLast [Cond.code y_En_addLast b_En_addLast 3 none] (rmL 0) (PS S0 A0 D ar base σ [.ref (base + ad 14 e0), .int lt, .int v]) (QI D ar base (fun k r σ' => k = 0 ∧ r = none ∧ (wt < 3 → σ' = pushM σ e0 wt lt v))) (inB base 122) := by
  refine cx_head hlt (by decide +kernel) (Nat.le_of_ble_eq_true rfl) ?_
  intro p ev s m below meth c ls C0 hP hl
  have C0 : Cx S0 A0 D ar base p l s m _ meth c R_En b_En_addLast 3 none := C0
  obtain ⟨hx, hb, -⟩ := id C0
  have hl : lv_has ls 3 [(0, .ref (base + ad 14 e0)), (1, .int lt), (2, .int v)] := hl
  have hS : va_S (inB base 122) s.heap s.heap [] := va_S.rf
  refine lv_aload_n hx hb d_En_addLast_0 rfl (lv_at hl 0 rfl) ?_
  refine q_get C0 hP (kd := 14) (i := e0) (ci := 3) (by decide) (he) rfl rfl 4 (by decide) rfl k_fl_En_25 rfl d_En_addLast_1 ?_
  rw [show (σ 13 e0 0 : Int32) = nI wt from hwt]
  refine lv_iconst (v := 3) hx hb d_En_addLast_4 (by decide) ?_
  refine lv_icmp_ge (tgt := 38) hx hb d_En_addLast_5 (by decide) (fun c_5 => ?_) (fun c_5 => ?_)
  · skip
    have hw : ¬ wt < 3 := by have := (nI_leI (by decide) (by omega)).mp (show nI 3 ≤ nI wt from c_5); omega
    exact rI_v C0 hP hS (⟨by decide, by decide⟩) (⟨rfl, rfl, fun h => absurd h hw⟩) d_En_addLast_38
  · skip
    have hw : wt < 3 := Nat.lt_of_not_le fun z => c_5 (show nI 3 ≤ nI wt from (nI_leI (by decide) (by omega)).mpr z)
    refine lv_aload_n hx hb d_En_addLast_8 rfl (lv_at hl 0 rfl) ?_
    refine q_get C0 hP (kd := 14) (i := e0) (ci := 3) (by decide) (he) rfl rfl 0 (by decide) rfl k_fl_En_9 rfl d_En_addLast_9 ?_
    refine lv_aload_n hx hb d_En_addLast_12 rfl (lv_at hl 0 rfl) ?_
    refine q_get C0 hP (kd := 14) (i := e0) (ci := 3) (by decide) (he) rfl rfl 4 (by decide) rfl k_fl_En_25 rfl d_En_addLast_13 ?_
    rw [show (σ 13 e0 0 : Int32) = nI wt from hwt]
    refine lv_iload_n hx hb d_En_addLast_16 rfl (lv_at hl 1 rfl) ?_
    refine q_iast C0 hP hS (kd := 15) (i := e0) 14 (by decide) rfl (he) rfl (vin_nI hw) (by rw [ast_fn]; rfl) d_En_addLast_17 (fun H locs hP hS => ?_)
    rw [show (nI wt).toNatClampNeg = wt from nI_clamp (by omega)] at hP
    refine lv_aload_n hx hb d_En_addLast_18 rfl (lv_at hl 0 rfl) ?_
    refine q_get C0 hP (kd := 14) (i := e0) (ci := 3) (by decide) (he) rfl rfl 1 (by decide) rfl k_fl_En_15 rfl d_En_addLast_19 ?_
    refine lv_aload_n hx hb d_En_addLast_22 rfl (lv_at hl 0 rfl) ?_
    refine q_get C0 hP (kd := 14) (i := e0) (ci := 3) (by decide) (he) rfl rfl 4 (by decide) rfl k_fl_En_25 rfl d_En_addLast_23 ?_
    rw [show ((up σ 14 e0 wt lt) 13 e0 0 : Int32) = nI wt from by simp [up, hwt]]
    refine lv_iload_n hx hb d_En_addLast_26 rfl (lv_at hl 2 rfl) ?_
    refine q_iast C0 hP hS (kd := 16) (i := e0) 15 (by decide) rfl (he) rfl (vin_nI hw) (by rw [ast_fn]; rfl) d_En_addLast_27 (fun H locs hP hS => ?_)
    rw [show (nI wt).toNatClampNeg = wt from nI_clamp (by omega)] at hP
    refine lv_aload_n hx hb d_En_addLast_28 rfl (lv_at hl 0 rfl) ?_
    refine lv_dup hx hb d_En_addLast_29 rfl ?_
    refine q_get C0 hP (kd := 14) (i := e0) (ci := 3) (by decide) (he) rfl rfl 4 (by decide) rfl k_fl_En_25 rfl d_En_addLast_30 ?_
    rw [show ((up (up σ 14 e0 wt lt) 15 e0 wt v) 13 e0 0 : Int32) = nI wt from by simp [up, hwt]]
    refine lv_iconst (v := 1) hx hb d_En_addLast_33 (by decide) ?_
    refine lv_iadd hx hb d_En_addLast_34 ?_
    rw [show ((nI wt) + 1 : Int32) = nI (wt + 1) from nI_1 wt]
    refine q_put C0 hP hS (kd := 14) (i := e0) (ci := 3) 13 0 (by decide) rfl (he) rfl rfl t_En t_En_ok n_En 4 (by decide) rfl k_fl_En_25 rfl (by decide +kernel) (Nat.le_of_ble_eq_true rfl) (by simp [cont, up]) d_En_addLast_35 (fun H locs hP hS => ?_)
    exact rI_v C0 hP hS (⟨by decide, by decide⟩) (⟨rfl, rfl, fun _ => rfl⟩) d_En_addLast_38
set_option maxHeartbeats 4000000 in
set_option maxRecDepth 100000 in
theorem c_En_removeFirst {S0 : State} {A0 : Array Value} {D : va_G} {ar : Nat → ClassId} {base : Nat} {σ : Mem} {l : Launch} (hlt : l.stackTraces = false) {e0 : Nat} (he : e0 < 12) {wt : Nat} (hwt : σ 13 e0 0 = nI wt) (hw3 : wt ≤ 3) (hw1 : 0 < wt) :
    MX l y_En_removeFirst [Cond.code y_En_removeFirst b_En_removeFirst 2 none] (rmL 0) (PS S0 A0 D ar base σ [.ref (base + ad 14 e0)]) (QI D ar base (fun k r σ' => k = 0 ∧ r = none ∧ σ' = up (popM σ e0 wt) 13 e0 0 (nI (wt - 1)))) (inB base 122) := by
  refine cx_head hlt (by decide +kernel) (Nat.le_of_ble_eq_true rfl) ?_
  intro p ev s m below meth c ls C0 hP hl
  have C0 : Cx S0 A0 D ar base p l s m _ meth c R_En b_En_removeFirst 2 none := C0
  obtain ⟨hx, hb, -⟩ := id C0
  have hl : lv_has ls 2 [(0, .ref (base + ad 14 e0))] := hl
  have hS : va_S (inB base 122) s.heap s.heap [] := va_S.rf
  refine lv_iconst (v := 1) hx hb d_En_removeFirst_0 (by decide) ?_
  refine lv_istore_n (lv' := [(1, .int 1), (0, .ref (base + ad 14 e0))]) hx hb d_En_removeFirst_1 rfl hl (by decide) rfl (fun ls hl => ?_)
  have loop : ∀ (n k : Nat), k ≤ 2 → 2 + 1 ≤ k + n → k + 1 ≤ wt → ∀ (H : Heap) (locs : List Loc), va_P D classes (wl base 122 (mem ar base (popM σ e0 (k + 1)))) H → va_S (inB base 122) s.heap H locs → ∀ ls : Array Slot, lv_has ls 2 [(1, .int (nI (k + 1))), (0, .ref (base + ad 14 e0))] → W p l ev (rmL 0) s m ([.ref (base + ad 14 e0)] : List Value).toArray below meth c H locs 0 0 (MQX below (QI D ar base (fun k r σ' => k = 0 ∧ r = none ∧ σ' = up (popM σ e0 wt) 13 e0 0 (nI (wt - 1)))) ([.ref (base + ad 14 e0)] : List Value).toArray s (rmL 0).cells (rmL 0).slots (inB base 122)) (F0 m 2 ls []) := by
    intro n
    induction n with
    | zero => intro k h1 h2; omega
    | succ n ih =>
      intro k hk1 hk2 hinv H locs hP hS ls hl
      refine lv_iload_n hx hb d_En_removeFirst_2 rfl (lv_at hl 0 rfl) ?_
      refine lv_aload_n hx hb d_En_removeFirst_3 rfl (lv_at hl 1 rfl) ?_
      refine q_get C0 hP (kd := 14) (i := e0) (ci := 3) (by decide) (he) rfl rfl 4 (by decide) rfl k_fl_En_25 rfl d_En_removeFirst_4 ?_
      rw [show ((popM σ e0 (k + 1)) 13 e0 0 : Int32) = nI wt from by simp [popM, hwt]]
      refine lv_icmp_ge (tgt := 44) hx hb d_En_removeFirst_7 (by decide) (fun c_7 => ?_) (fun c_7 => ?_)
      · skip
        have hkN : k + 1 = wt ∨ wt = 0 := by have := (nI_leI (by omega) (by omega)).mp c_7; omega
        refine lv_aload_n hx hb d_En_removeFirst_44 rfl (lv_at hl 1 rfl) ?_
        refine q_get C0 hP (kd := 14) (i := e0) (ci := 3) (by decide) (he) rfl rfl 4 (by decide) rfl k_fl_En_25 rfl d_En_removeFirst_45 ?_
        have hkw : k + 1 = wt := by omega
        rw [show ((popM σ e0 (k + 1)) 13 e0 0 : Int32) = nI wt from by simp [popM, hwt]]
        refine lv_if_le (tgt := 61) hx hb d_En_removeFirst_48 (by decide) (fun c_48 => ?_) (fun c_48 => ?_)
        · skip
          exact absurd c_48 (nI_nle (by omega) (by omega))
        · skip
          have hw0 : 0 < wt := Nat.lt_of_not_le fun z => c_48 (show nI wt ≤ nI 0 from (nI_leI (by omega) (by decide)).mpr z)
          refine lv_aload_n hx hb d_En_removeFirst_51 rfl (lv_at hl 1 rfl) ?_
          refine lv_dup hx hb d_En_removeFirst_52 rfl ?_
          refine q_get C0 hP (kd := 14) (i := e0) (ci := 3) (by decide) (he) rfl rfl 4 (by decide) rfl k_fl_En_25 rfl d_En_removeFirst_53 ?_
          rw [show ((popM σ e0 (k + 1)) 13 e0 0 : Int32) = nI wt from by simp [popM, hwt]]
          refine lv_iconst (v := 1) hx hb d_En_removeFirst_56 (by decide) ?_
          refine lv_isub hx hb d_En_removeFirst_57 ?_
          rw [show ((nI wt) - 1 : Int32) = nI (wt - 1) from by rw [show wt = (wt - 1) + 1 from by omega]; exact nI_pred _]
          refine q_put C0 hP hS (kd := 14) (i := e0) (ci := 3) 13 0 (by decide) rfl (he) rfl rfl t_En t_En_ok n_En 4 (by decide) rfl k_fl_En_25 rfl (by decide +kernel) (Nat.le_of_ble_eq_true rfl) (by simp [cont, up]) d_En_removeFirst_58 (fun H locs hP hS => ?_)
          exact rI_v C0 hP hS (⟨by decide, by decide⟩) (⟨rfl, rfl, by rw [hkw]⟩) d_En_removeFirst_61
      · skip
        have hkN : k + 1 < wt := Nat.lt_of_not_le fun z => c_7 ((nI_leI (by omega) (by omega)).mpr z)
        refine lv_aload_n hx hb d_En_removeFirst_10 rfl (lv_at hl 1 rfl) ?_
        refine q_get C0 hP (kd := 14) (i := e0) (ci := 3) (by decide) (he) rfl rfl 0 (by decide) rfl k_fl_En_9 rfl d_En_removeFirst_11 ?_
        refine lv_iload_n hx hb d_En_removeFirst_14 rfl (lv_at hl 0 rfl) ?_
        refine lv_iconst (v := 1) hx hb d_En_removeFirst_15 (by decide) ?_
        refine lv_isub hx hb d_En_removeFirst_16 ?_
        rw [show ((nI (k + 1)) - 1 : Int32) = nI k from nI_pred k]
        refine lv_aload_n hx hb d_En_removeFirst_17 rfl (lv_at hl 1 rfl) ?_
        refine q_get C0 hP (kd := 14) (i := e0) (ci := 3) (by decide) (he) rfl rfl 0 (by decide) rfl k_fl_En_9 rfl d_En_removeFirst_18 ?_
        refine lv_iload_n hx hb d_En_removeFirst_21 rfl (lv_at hl 0 rfl) ?_
        refine q_iald C0 hP (kd := 15) (i := e0) (by decide) (he) rfl (vin_nI (by omega)) d_En_removeFirst_22 ?_
        rw [show (nI (k + 1)).toNatClampNeg = (k + 1) from nI_clamp (by omega)]
        refine q_iast C0 hP hS (kd := 15) (i := e0) 14 (by decide) rfl (he) rfl (vin_nI (by omega)) (by rw [ast_fn]; rfl) d_En_removeFirst_23 (fun H locs hP hS => ?_)
        rw [show (nI k).toNatClampNeg = k from nI_clamp (by omega)] at hP
        refine lv_aload_n hx hb d_En_removeFirst_24 rfl (lv_at hl 1 rfl) ?_
        refine q_get C0 hP (kd := 14) (i := e0) (ci := 3) (by decide) (he) rfl rfl 1 (by decide) rfl k_fl_En_15 rfl d_En_removeFirst_25 ?_
        refine lv_iload_n hx hb d_En_removeFirst_28 rfl (lv_at hl 0 rfl) ?_
        refine lv_iconst (v := 1) hx hb d_En_removeFirst_29 (by decide) ?_
        refine lv_isub hx hb d_En_removeFirst_30 ?_
        rw [show ((nI (k + 1)) - 1 : Int32) = nI k from nI_pred k]
        refine lv_aload_n hx hb d_En_removeFirst_31 rfl (lv_at hl 1 rfl) ?_
        refine q_get C0 hP (kd := 14) (i := e0) (ci := 3) (by decide) (he) rfl rfl 1 (by decide) rfl k_fl_En_15 rfl d_En_removeFirst_32 ?_
        refine lv_iload_n hx hb d_En_removeFirst_35 rfl (lv_at hl 0 rfl) ?_
        refine q_iald C0 hP (kd := 16) (i := e0) (by decide) (he) rfl (vin_nI (by omega)) d_En_removeFirst_36 ?_
        rw [show (nI (k + 1)).toNatClampNeg = (k + 1) from nI_clamp (by omega)]
        refine q_iast C0 hP hS (kd := 16) (i := e0) 15 (by decide) rfl (he) rfl (vin_nI (by omega)) (by rw [ast_fn]; rfl) d_En_removeFirst_37 (fun H locs hP hS => ?_)
        rw [show (nI k).toNatClampNeg = k from nI_clamp (by omega)] at hP
        refine lv_iinc (v := nI (k + 1 + 1)) (lv' := [(1, .int (nI (k + 1 + 1))), (0, .ref (base + ad 14 e0))]) hx hb d_En_removeFirst_38 hl (k := 0) rfl (by exact nI_1 (k + 1)) (by decide) rfl (fun ls hl => ?_)
        refine lv_goto (tgt := 2) hx hb d_En_removeFirst_41 (by decide) ?_
        rw [show ((up (up (popM σ e0 (k + 1)) 14 e0 k ((popM σ e0 (k + 1)) 14 e0 (k + 1))) 15 e0 k ((up (popM σ e0 (k + 1)) 14 e0 k ((popM σ e0 (k + 1)) 14 e0 (k + 1))) 15 e0 (k + 1))) : Mem) = popM σ e0 (k + 1 + 1) from by rw [← pop_s]; simp [up]] at hP
        exact ih (k + 1) (by omega) (by omega) (by omega) _ _ hP hS ls (lv_sub hl [0, 1] rfl)
  rw [show (σ : Mem) = popM σ e0 (0 + 1) from pop_1] at hP
  exact loop (2 + 1) 0 (by omega) (by omega) (by omega) _ _ hP hS ls (lv_sub hl [0, 1] rfl)
set_option maxHeartbeats 4000000 in
set_option maxRecDepth 100000 in
theorem c_Sy_ownsBlock {S0 : State} {A0 : Array Value} {D : va_G} {ar : Nat → ClassId} {base : Nat} {σ : Mem} {l : Launch} (hlt : l.stackTraces = false) {q v : Int32} :
    MX l y_Sy_ownsBlock [Cond.code y_Sy_ownsBlock b_Sy_ownsBlock 3 (some .boolean)] (rmL 0) (PS S0 A0 D ar base σ [.ref (base + ad 0 0), .int q, .int v]) (QP (fun k r => k = 0 ∧ r = some (b2i (¬ v < 0 ∧ ¬ 12 ≤ v ∧ σ 8 v.toNatClampNeg 0 = q)))) (fun _ => False) := by
  refine cx_head hlt (by decide +kernel) (Nat.le_of_ble_eq_true rfl) ?_
  intro p ev s m below meth c ls C0 hP hl
  have C0 : Cx S0 A0 D ar base p l s m _ meth c R_Sy b_Sy_ownsBlock 3 (some .boolean) := C0
  obtain ⟨hx, hb, -⟩ := id C0
  have hl : lv_has ls 3 [(0, .ref (base + ad 0 0)), (1, .int q), (2, .int v)] := hl
  refine lv_iload_n hx hb d_Sy_ownsBlock_0 rfl (lv_at hl 2 rfl) ?_
  refine lv_if_lt (tgt := 27) hx hb d_Sy_ownsBlock_1 (by decide) (fun c_1 => ?_) (fun c_1 => ?_)
  · skip
    refine lv_iconst (v := 0) hx hb d_Sy_ownsBlock_27 (by decide) ?_
    exact rP_z C0 (⟨by decide, by decide⟩) (Or.inl rfl) (⟨rfl, by simp [b2i, c_1]⟩) d_Sy_ownsBlock_28
  · skip
    refine lv_iload_n hx hb d_Sy_ownsBlock_4 rfl (lv_at hl 2 rfl) ?_
    refine lv_bipush (v := 12) hx hb d_Sy_ownsBlock_5 (by decide) ?_
    refine lv_icmp_ge (tgt := 27) hx hb d_Sy_ownsBlock_7 (by decide) (fun c_7 => ?_) (fun c_7 => ?_)
    · skip
      refine lv_iconst (v := 0) hx hb d_Sy_ownsBlock_27 (by decide) ?_
      exact rP_z C0 (⟨by decide, by decide⟩) (Or.inl rfl) (⟨rfl, by simp [b2i, c_1, c_7]⟩) d_Sy_ownsBlock_28
    · skip
      have hv12 : vp_in v 12 := vin_rg c_1 (by rw [Int32.le_iff_toInt_le] at c_7; have h12 : (12 : Int32).toInt = 12 := (by decide); omega)
      refine lv_aload_n hx hb d_Sy_ownsBlock_10 rfl (lv_at hl 0 rfl) ?_
      refine q_get C0 hP (kd := 0) (i := 0) (ci := 0) (by decide) (by decide) rfl rfl 5 (by decide) rfl k_fl_Sy_30 rfl d_Sy_ownsBlock_11 ?_
      refine lv_iload_n hx hb d_Sy_ownsBlock_14 rfl (lv_at hl 2 rfl) ?_
      refine q_aald C0 hP (kd := 4) (i := 0) (t0 := 4) (v := base + ad 12 v.toNatClampNeg) (by decide) (by decide) rfl rfl (rfl) (hv12) d_Sy_ownsBlock_15 ?_
      refine q_getN C0 hP (kd := 12) (i := v.toNatClampNeg) (ci := 2) (by decide) (vin_lt (hv12)) rfl rfl 1 (by decide) rfl k_fn_Sy_93 rfl d_Sy_ownsBlock_16 ?_
      refine lv_iload_n hx hb d_Sy_ownsBlock_19 rfl (lv_at hl 1 rfl) ?_
      refine lv_icmp_ne (tgt := 27) hx hb d_Sy_ownsBlock_20 (by decide) (fun c_20 => ?_) (fun c_20 => ?_)
      · skip
        refine lv_iconst (v := 0) hx hb d_Sy_ownsBlock_27 (by decide) ?_
        exact rP_z C0 (⟨by decide, by decide⟩) (Or.inl rfl) (⟨rfl, by simp [b2i, c_1, c_7, c_20]⟩) d_Sy_ownsBlock_28
      · skip
        refine lv_iconst (v := 1) hx hb d_Sy_ownsBlock_23 (by decide) ?_
        refine lv_goto (tgt := 28) hx hb d_Sy_ownsBlock_24 (by decide) ?_
        exact rP_z C0 (⟨by decide, by decide⟩) (Or.inr rfl) (⟨rfl, by simp [b2i, c_1, c_7, c_20]⟩) d_Sy_ownsBlock_28
set_option maxHeartbeats 4000000 in
set_option maxRecDepth 100000 in
theorem c_Sy_ownsEndOfOtherChannel {S0 : State} {A0 : Array Value} {D : va_G} {ar : Nat → ClassId} {base : Nat} {σ : Mem} {l : Launch} (hlt : l.stackTraces = false) {q v x : Int32} :
    MX l y_Sy_ownsEndOfOtherChannel [Cond.code y_Sy_ownsEndOfOtherChannel b_Sy_ownsEndOfOtherChannel 4 (some .boolean)] (rmL 0) (PS S0 A0 D ar base σ [.ref (base + ad 0 0), .int q, .int v, .int x]) (QP (fun k r => k = 0 ∧ r = some (b2i (¬ v < 0 ∧ ¬ 12 ≤ v ∧ ¬ v / 2 = x / 2 ∧ σ 11 v.toNatClampNeg 0 = q)))) (fun _ => False) := by
  refine cx_head hlt (by decide +kernel) (Nat.le_of_ble_eq_true rfl) ?_
  intro p ev s m below meth c ls C0 hP hl
  have C0 : Cx S0 A0 D ar base p l s m _ meth c R_Sy b_Sy_ownsEndOfOtherChannel 4 (some .boolean) := C0
  obtain ⟨hx, hb, -⟩ := id C0
  have hl : lv_has ls 4 [(0, .ref (base + ad 0 0)), (1, .int q), (2, .int v), (3, .int x)] := hl
  refine lv_iload_n hx hb d_Sy_ownsEndOfOtherChannel_0 rfl (lv_at hl 2 rfl) ?_
  refine lv_if_lt (tgt := 36) hx hb d_Sy_ownsEndOfOtherChannel_1 (by decide) (fun c_1 => ?_) (fun c_1 => ?_)
  · skip
    refine lv_iconst (v := 0) hx hb d_Sy_ownsEndOfOtherChannel_36 (by decide) ?_
    exact rP_z C0 (⟨by decide, by decide⟩) (Or.inl rfl) (⟨rfl, by simp [b2i, c_1]⟩) d_Sy_ownsEndOfOtherChannel_37
  · skip
    refine lv_iload_n hx hb d_Sy_ownsEndOfOtherChannel_4 rfl (lv_at hl 2 rfl) ?_
    refine lv_bipush (v := 12) hx hb d_Sy_ownsEndOfOtherChannel_5 (by decide) ?_
    refine lv_icmp_ge (tgt := 36) hx hb d_Sy_ownsEndOfOtherChannel_7 (by decide) (fun c_7 => ?_) (fun c_7 => ?_)
    · skip
      refine lv_iconst (v := 0) hx hb d_Sy_ownsEndOfOtherChannel_36 (by decide) ?_
      exact rP_z C0 (⟨by decide, by decide⟩) (Or.inl rfl) (⟨rfl, by simp [b2i, c_1, c_7]⟩) d_Sy_ownsEndOfOtherChannel_37
    · skip
      have hv12 : vp_in v 12 := vin_rg c_1 (by rw [Int32.le_iff_toInt_le] at c_7; have h12 : (12 : Int32).toInt = 12 := (by decide); omega)
      refine lv_iload_n hx hb d_Sy_ownsEndOfOtherChannel_10 rfl (lv_at hl 2 rfl) ?_
      refine lv_iconst (v := 2) hx hb d_Sy_ownsEndOfOtherChannel_11 (by decide) ?_
      refine lv_idiv hx hb d_Sy_ownsEndOfOtherChannel_12 (by decide) ?_
      refine lv_iload_n hx hb d_Sy_ownsEndOfOtherChannel_13 rfl (lv_at hl 3 rfl) ?_
      refine lv_iconst (v := 2) hx hb d_Sy_ownsEndOfOtherChannel_14 (by decide) ?_
      refine lv_idiv hx hb d_Sy_ownsEndOfOtherChannel_15 (by decide) ?_
      refine lv_icmp_eq (tgt := 36) hx hb d_Sy_ownsEndOfOtherChannel_16 (by decide) (fun c_16 => ?_) (fun c_16 => ?_)
      · skip
        refine lv_iconst (v := 0) hx hb d_Sy_ownsEndOfOtherChannel_36 (by decide) ?_
        exact rP_z C0 (⟨by decide, by decide⟩) (Or.inl rfl) (⟨rfl, by simp [b2i, c_1, c_7, c_16]⟩) d_Sy_ownsEndOfOtherChannel_37
      · skip
        refine lv_aload_n hx hb d_Sy_ownsEndOfOtherChannel_19 rfl (lv_at hl 0 rfl) ?_
        refine q_get C0 hP (kd := 0) (i := 0) (ci := 0) (by decide) (by decide) rfl rfl 7 (by decide) rfl k_fl_Sy_40 rfl d_Sy_ownsEndOfOtherChannel_20 ?_
        refine lv_iload_n hx hb d_Sy_ownsEndOfOtherChannel_23 rfl (lv_at hl 2 rfl) ?_
        refine q_aald C0 hP (kd := 6) (i := 0) (t0 := 5) (v := base + ad 14 v.toNatClampNeg) (by decide) (by decide) rfl rfl (rfl) (hv12) d_Sy_ownsEndOfOtherChannel_24 ?_
        refine q_getN C0 hP (kd := 14) (i := v.toNatClampNeg) (ci := 3) (by decide) (vin_lt (hv12)) rfl rfl 2 (by decide) rfl k_fn_Sy_99 rfl d_Sy_ownsEndOfOtherChannel_25 ?_
        refine lv_iload_n hx hb d_Sy_ownsEndOfOtherChannel_28 rfl (lv_at hl 1 rfl) ?_
        refine lv_icmp_ne (tgt := 36) hx hb d_Sy_ownsEndOfOtherChannel_29 (by decide) (fun c_29 => ?_) (fun c_29 => ?_)
        · skip
          refine lv_iconst (v := 0) hx hb d_Sy_ownsEndOfOtherChannel_36 (by decide) ?_
          exact rP_z C0 (⟨by decide, by decide⟩) (Or.inl rfl) (⟨rfl, by simp [b2i, c_1, c_7, c_16, c_29]⟩) d_Sy_ownsEndOfOtherChannel_37
        · skip
          refine lv_iconst (v := 1) hx hb d_Sy_ownsEndOfOtherChannel_32 (by decide) ?_
          refine lv_goto (tgt := 37) hx hb d_Sy_ownsEndOfOtherChannel_33 (by decide) ?_
          exact rP_z C0 (⟨by decide, by decide⟩) (Or.inr rfl) (⟨rfl, by simp [b2i, c_1, c_7, c_16, c_29]⟩) d_Sy_ownsEndOfOtherChannel_37
