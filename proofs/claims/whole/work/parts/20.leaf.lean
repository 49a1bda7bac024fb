/-! Leaves: rows laid by gen/m20.py. -/
set_option maxHeartbeats 4000000 in
set_option maxRecDepth 100000 in
theorem c_En_isOpen {S0 : State} {A0 : Array Value} {D : va_G} {ar : Nat → ClassId} {base : Nat} {σ : Mem} {l : Launch} (hlt : l.stackTraces = false) {e0 : Nat} (he : e0 < 12) :
    MX l y_En_isOpen [Cond.code y_En_isOpen b_En_isOpen 1 (some .boolean)] (rmL 0) (PS S0 A0 D ar base σ [.ref (base + ad 14 e0)]) (QP (fun k r => k = 0 ∧ r = some (b2i (σ 11 e0 0 ≠ -1)))) (fun _ => False) := by
  refine cx_head hlt (by decide +kernel) (Nat.le_of_ble_eq_true rfl) ?_
  intro p ev s m below meth c ls C0 hP hl
  have C0 : Cx S0 A0 D ar base p l s m _ meth c R_En b_En_isOpen 1 (some .boolean) := C0
  obtain ⟨hx, hb, -⟩ := id C0
  have hl : lv_has ls 1 [(0, .ref (base + ad 14 e0))] := hl
  refine lv_aload_n hx hb d_En_isOpen_0 rfl (lv_at hl 0 rfl) ?_
  refine q_get C0 hP (kd := 14) (i := e0) (ci := 3) (by decide) (he) rfl rfl 2 (by decide) rfl k_fl_En_18 rfl d_En_isOpen_1 ?_
  refine lv_iconst (v := (-1)) hx hb d_En_isOpen_4 (by decide) ?_
  refine lv_icmp_eq (tgt := 12) hx hb d_En_isOpen_5 (by decide) (fun c_5 => ?_) (fun c_5 => ?_)
  · skip
    refine lv_iconst (v := 0) hx hb d_En_isOpen_12 (by decide) ?_
    exact rP_z C0 (⟨by decide, by decide⟩) (Or.inl rfl) (⟨rfl, by simp [b2i, c_5]⟩) d_En_isOpen_13
  · skip
    refine lv_iconst (v := 1) hx hb d_En_isOpen_8 (by decide) ?_
    refine lv_goto (tgt := 13) hx hb d_En_isOpen_9 (by decide) ?_
    exact rP_z C0 (⟨by decide, by decide⟩) (Or.inr rfl) (⟨rfl, by simp [b2i, c_5]⟩) d_En_isOpen_13
set_option maxHeartbeats 4000000 in
set_option maxRecDepth 100000 in
theorem c_Bl_isFree {S0 : State} {A0 : Array Value} {D : va_G} {ar : Nat → ClassId} {base : Nat} {σ : Mem} {l : Launch} (hlt : l.stackTraces = false) {b0 : Nat} (hb0 : b0 < 12) :
    MX l y_Bl_isFree [Cond.code y_Bl_isFree b_Bl_isFree 1 (some .boolean)] (rmL 0) (PS S0 A0 D ar base σ [.ref (base + ad 12 b0)]) (QP (fun k r => k = 0 ∧ r = some (b2i (σ 8 b0 0 = -1)))) (fun _ => False) := by
  refine cx_head hlt (by decide +kernel) (Nat.le_of_ble_eq_true rfl) ?_
  intro p ev s m below meth c ls C0 hP hl
  have C0 : Cx S0 A0 D ar base p l s m _ meth c R_Bl b_Bl_isFree 1 (some .boolean) := C0
  obtain ⟨hx, hb, -⟩ := id C0
  have hl : lv_has ls 1 [(0, .ref (base + ad 12 b0))] := hl
  refine lv_aload_n hx hb d_Bl_isFree_0 rfl (lv_at hl 0 rfl) ?_
  refine q_get C0 hP (kd := 12) (i := b0) (ci := 2) (by decide) (hb0) rfl rfl 1 (by decide) rfl k_fl_Bl_15 rfl d_Bl_isFree_1 ?_
  refine lv_iconst (v := (-1)) hx hb d_Bl_isFree_4 (by decide) ?_
  refine lv_icmp_ne (tgt := 12) hx hb d_Bl_isFree_5 (by decide) (fun c_5 => ?_) (fun c_5 => ?_)
  · skip
    refine lv_iconst (v := 0) hx hb d_Bl_isFree_12 (by decide) ?_
    exact rP_z C0 (⟨by decide, by decide⟩) (Or.inl rfl) (⟨rfl, by simp [b2i, c_5]⟩) d_Bl_isFree_13
  · skip
    refine lv_iconst (v := 1) hx hb d_Bl_isFree_8 (by decide) ?_
    refine lv_goto (tgt := 13) hx hb d_Bl_isFree_9 (by decide) ?_
    exact rP_z C0 (⟨by decide, by decide⟩) (Or.inr rfl) (⟨rfl, by simp [b2i, c_5]⟩) d_Bl_isFree_13
set_option maxHeartbeats 4000000 in
set_option maxRecDepth 100000 in
theorem c_Co_isNone {S0 : State} {A0 : Array Value} {D : va_G} {ar : Nat → ClassId} {base : Nat} {σ : Mem} {l : Launch} (hlt : l.stackTraces = false) {c0 : Nat} (hc0 : c0 < 11) :
    MX l y_Co_isNone [Cond.code y_Co_isNone b_Co_isNone 1 (some .boolean)] (rmL 0) (PS S0 A0 D ar base σ [.ref (base + ad 7 c0)]) (QP (fun k r => k = 0 ∧ r = some (b2i (σ 3 c0 0 = 0)))) (fun _ => False) := by
  refine cx_head hlt (by decide +kernel) (Nat.le_of_ble_eq_true rfl) ?_
  intro p ev s m below meth c ls C0 hP hl
  have C0 : Cx S0 A0 D ar base p l s m _ meth c R_Co b_Co_isNone 1 (some .boolean) := C0
  obtain ⟨hx, hb, -⟩ := id C0
  have hl : lv_has ls 1 [(0, .ref (base + ad 7 c0))] := hl
  refine lv_aload_n hx hb d_Co_isNone_0 rfl (lv_at hl 0 rfl) ?_
  refine q_get C0 hP (kd := 7) (i := c0) (ci := 1) (by decide) (hc0) rfl rfl 4 (by decide) rfl k_fl_Co_24 rfl d_Co_isNone_1 ?_
  refine lv_if_ne (tgt := 11) hx hb d_Co_isNone_4 (by decide) (fun c_4 => ?_) (fun c_4 => ?_)
  · skip
    refine lv_iconst (v := 0) hx hb d_Co_isNone_11 (by decide) ?_
    exact rP_z C0 (⟨by decide, by decide⟩) (Or.inl rfl) (⟨rfl, by simp [b2i, c_4]⟩) d_Co_isNone_12
  · skip
    refine lv_iconst (v := 1) hx hb d_Co_isNone_7 (by decide) ?_
    refine lv_goto (tgt := 12) hx hb d_Co_isNone_8 (by decide) ?_
    exact rP_z C0 (⟨by decide, by decide⟩) (Or.inr rfl) (⟨rfl, by simp [b2i, c_4]⟩) d_Co_isNone_12
set_option maxHeartbeats 4000000 in
set_option maxRecDepth 100000 in
theorem c_Co_clear {S0 : State} {A0 : Array Value} {D : va_G} {ar : Nat → ClassId} {base : Nat} {σ : Mem} {l : Launch} (hlt : l.stackTraces = false) {c0 : Nat} (hc0 : c0 < 11) :
    MX l y_Co_clear [Cond.code y_Co_clear b_Co_clear 1 none] (rmL 0) (PS S0 A0 D ar base σ [.ref (base + ad 7 c0)]) (QI D ar base (fun k r σ' => k = 0 ∧ r = none ∧ σ' = up σ 3 c0 0 0)) (inB base 122) := by
  refine cx_head hlt (by decide +kernel) (Nat.le_of_ble_eq_true rfl) ?_
  intro p ev s m below meth c ls C0 hP hl
  have C0 : Cx S0 A0 D ar base p l s m _ meth c R_Co b_Co_clear 1 none := C0
  obtain ⟨hx, hb, -⟩ := id C0
  have hl : lv_has ls 1 [(0, .ref (base + ad 7 c0))] := hl
  have hS : va_S (inB base 122) s.heap s.heap [] := va_S.rf
  refine lv_aload_n hx hb d_Co_clear_0 rfl (lv_at hl 0 rfl) ?_
  refine lv_iconst (v := 0) hx hb d_Co_clear_1 (by decide) ?_
  refine q_put C0 hP hS (kd := 7) (i := c0) (ci := 1) 3 0 (by decide) rfl (hc0) rfl rfl t_Co t_Co_ok n_Co 4 (by decide) rfl k_fl_Co_24 rfl (by decide +kernel) (Nat.le_of_ble_eq_true rfl) (by simp [cont, up]) d_Co_clear_2 (fun H locs hP hS => ?_)
  exact rI_v C0 hP hS (⟨by decide, by decide⟩) (⟨rfl, rfl, rfl⟩) d_Co_clear_5
set_option maxHeartbeats 4000000 in
set_option maxRecDepth 100000 in
theorem c_Bl_giveBack {S0 : State} {A0 : Array Value} {D : va_G} {ar : Nat → ClassId} {base : Nat} {σ : Mem} {l : Launch} (hlt : l.stackTraces = false) {b0 : Nat} (hb0 : b0 < 12) :
    MX l y_Bl_giveBack [Cond.code y_Bl_giveBack b_Bl_giveBack 1 none] (rmL 0) (PS S0 A0 D ar base σ [.ref (base + ad 12 b0)]) (QI D ar base (fun k r σ' => k = 0 ∧ r = none ∧ σ' = up (up σ 8 b0 0 (-1)) 9 b0 0 0)) (inB base 122) := by
  refine cx_head hlt (by decide +kernel) (Nat.le_of_ble_eq_true rfl) ?_
  intro p ev s m below meth c ls C0 hP hl
  have C0 : Cx S0 A0 D ar base p l s m _ meth c R_Bl b_Bl_giveBack 1 none := C0
  obtain ⟨hx, hb, -⟩ := id C0
  have hl : lv_has ls 1 [(0, .ref (base + ad 12 b0))] := hl
  have hS : va_S (inB base 122) s.heap s.heap [] := va_S.rf
  refine lv_aload_n hx hb d_Bl_giveBack_0 rfl (lv_at hl 0 rfl) ?_
  refine lv_iconst (v := (-1)) hx hb d_Bl_giveBack_1 (by decide) ?_
  refine q_put C0 hP hS (kd := 12) (i := b0) (ci := 2) 8 0 (by decide) rfl (hb0) rfl rfl t_Bl t_Bl_ok n_Bl 1 (by decide) rfl k_fl_Bl_15 rfl (by decide +kernel) (Nat.le_of_ble_eq_true rfl) (by simp [cont, up]) d_Bl_giveBack_2 (fun H locs hP hS => ?_)
  refine lv_aload_n hx hb d_Bl_giveBack_5 rfl (lv_at hl 0 rfl) ?_
  refine lv_iconst (v := 0) hx hb d_Bl_giveBack_6 (by decide) ?_
  refine q_put C0 hP hS (kd := 12) (i := b0) (ci := 2) 9 0 (by decide) rfl (hb0) rfl rfl t_Bl t_Bl_ok n_Bl 2 (by decide) rfl k_fl_Bl_19 rfl (by decide +kernel) (Nat.le_of_ble_eq_true rfl) (by simp [cont, up]) d_Bl_giveBack_7 (fun H locs hP hS => ?_)
  exact rI_v C0 hP hS (⟨by decide, by decide⟩) (⟨rfl, rfl, rfl⟩) d_Bl_giveBack_10
set_option maxHeartbeats 4000000 in
set_option maxRecDepth 100000 in
theorem c_En_begin {S0 : State} {A0 : Array Value} {D : va_G} {ar : Nat → ClassId} {base : Nat} {σ : Mem} {l : Launch} (hlt : l.stackTraces = false) {e0 : Nat} (he : e0 < 12) {q : Int32} :
    MX l y_En_begin [Cond.code y_En_begin b_En_begin 2 none] (rmL 0) (PS S0 A0 D ar base σ [.ref (base + ad 14 e0), .int q]) (QI D ar base (fun k r σ' => k = 0 ∧ r = none ∧ σ' = up (up σ 11 e0 0 q) 12 e0 0 1)) (inB base 122) := by
  refine cx_head hlt (by decide +kernel) (Nat.le_of_ble_eq_true rfl) ?_
  intro p ev s m below meth c ls C0 hP hl
  have C0 : Cx S0 A0 D ar base p l s m _ meth c R_En b_En_begin 2 none := C0
  obtain ⟨hx, hb, -⟩ := id C0
  have hl : lv_has ls 2 [(0, .ref (base + ad 14 e0)), (1, .int q)] := hl
  have hS : va_S (inB base 122) s.heap s.heap [] := va_S.rf
  refine lv_aload_n hx hb d_En_begin_0 rfl (lv_at hl 0 rfl) ?_
  refine lv_iload_n hx hb d_En_begin_1 rfl (lv_at hl 1 rfl) ?_
  refine q_put C0 hP hS (kd := 14) (i := e0) (ci := 3) 11 0 (by decide) rfl (he) rfl rfl t_En t_En_ok n_En 2 (by decide) rfl k_fl_En_18 rfl (by decide +kernel) (Nat.le_of_ble_eq_true rfl) (by simp [cont, up]) d_En_begin_2 (fun H locs hP hS => ?_)
  refine lv_aload_n hx hb d_En_begin_5 rfl (lv_at hl 0 rfl) ?_
  refine lv_iconst (v := 1) hx hb d_En_begin_6 (by decide) ?_
  refine q_put C0 hP hS (kd := 14) (i := e0) (ci := 3) 12 0 (by decide) rfl (he) rfl rfl t_En t_En_ok n_En 3 (by decide) rfl k_fl_En_22 rfl (by decide +kernel) (Nat.le_of_ble_eq_true rfl) (by simp [cont, up]) d_En_begin_7 (fun H locs hP hS => ?_)
  exact rI_v C0 hP hS (⟨by decide, by decide⟩) (⟨rfl, rfl, rfl⟩) d_En_begin_10
set_option maxHeartbeats 4000000 in
set_option maxRecDepth 100000 in
theorem c_Sy_sideOf {S0 : State} {A0 : Array Value} {D : va_G} {ar : Nat → ClassId} {base : Nat} {σ : Mem} {l : Launch} (hlt : l.stackTraces = false) {x : Int32} :
    MX l y_Sy_sideOf [Cond.code y_Sy_sideOf b_Sy_sideOf 1 (some .int)] (rmL 0) (PS S0 A0 D ar base σ [.int x]) (QP (fun k r => k = 0 ∧ r = some (x &&& 1))) (fun _ => False) := by
  refine cx_head hlt (by decide +kernel) (Nat.le_of_ble_eq_true rfl) ?_
  intro p ev s m below meth c ls C0 hP hl
  have C0 : Cx S0 A0 D ar base p l s m _ meth c R_Sy b_Sy_sideOf 1 (some .int) := C0
  obtain ⟨hx, hb, -⟩ := id C0
  have hl : lv_has ls 1 [(0, .int x)] := hl
  refine lv_iload_n hx hb d_Sy_sideOf_0 rfl (lv_at hl 0 rfl) ?_
  refine lv_iconst (v := 1) hx hb d_Sy_sideOf_1 (by decide) ?_
  refine lv_iand hx hb d_Sy_sideOf_2 ?_
  exact rP_i C0 (⟨by decide, by decide⟩) (⟨rfl, rfl⟩) d_Sy_sideOf_3
set_option maxHeartbeats 4000000 in
set_option maxRecDepth 100000 in
theorem c_Sy_otherEnd {S0 : State} {A0 : Array Value} {D : va_G} {ar : Nat → ClassId} {base : Nat} {σ : Mem} {l : Launch} (hlt : l.stackTraces = false) {x : Int32} :
    MX l y_Sy_otherEnd [Cond.code y_Sy_otherEnd b_Sy_otherEnd 1 (some .int)] (rmL 0) (PS S0 A0 D ar base σ [.int x]) (QP (fun k r => k = 0 ∧ r = some (x ^^^ 1))) (fun _ => False) := by
  refine cx_head hlt (by decide +kernel) (Nat.le_of_ble_eq_true rfl) ?_
  intro p ev s m below meth c ls C0 hP hl
  have C0 : Cx S0 A0 D ar base p l s m _ meth c R_Sy b_Sy_otherEnd 1 (some .int) := C0
  obtain ⟨hx, hb, -⟩ := id C0
  have hl : lv_has ls 1 [(0, .int x)] := hl
  refine lv_iload_n hx hb d_Sy_otherEnd_0 rfl (lv_at hl 0 rfl) ?_
  refine lv_iconst (v := 1) hx hb d_Sy_otherEnd_1 (by decide) ?_
  refine lv_ixor hx hb d_Sy_otherEnd_2 ?_
  exact rP_i C0 (⟨by decide, by decide⟩) (⟨rfl, rfl⟩) d_Sy_otherEnd_3
set_option maxHeartbeats 4000000 in
set_option maxRecDepth 100000 in
theorem c_Sy_carriesBlock {S0 : State} {A0 : Array Value} {D : va_G} {ar : Nat → ClassId} {base : Nat} {σ : Mem} {l : Launch} (hlt : l.stackTraces = false) {x : Int32} :
    MX l y_Sy_carriesBlock [Cond.code y_Sy_carriesBlock b_Sy_carriesBlock 1 (some .boolean)] (rmL 0) (PS S0 A0 D ar base σ [.int x]) (QP (fun k r => k = 0 ∧ r = some (b2i (¬ x < 3 ∧ ¬ 6 ≤ x)))) (fun _ => False) := by
  refine cx_head hlt (by decide +kernel) (Nat.le_of_ble_eq_true rfl) ?_
  intro p ev s m below meth c ls C0 hP hl
  have C0 : Cx S0 A0 D ar base p l s m _ meth c R_Sy b_Sy_carriesBlock 1 (some .boolean) := C0
  obtain ⟨hx, hb, -⟩ := id C0
  have hl : lv_has ls 1 [(0, .int x)] := hl
  refine lv_iload_n hx hb d_Sy_carriesBlock_0 rfl (lv_at hl 0 rfl) ?_
  refine lv_iconst (v := 3) hx hb d_Sy_carriesBlock_1 (by decide) ?_
  refine lv_icmp_lt (tgt := 15) hx hb d_Sy_carriesBlock_2 (by decide) (fun c_2 => ?_) (fun c_2 => ?_)
  · skip
    refine lv_iconst (v := 0) hx hb d_Sy_carriesBlock_15 (by decide) ?_
    exact rP_z C0 (⟨by decide, by decide⟩) (Or.inl rfl) (⟨rfl, by simp [b2i, c_2]⟩) d_Sy_carriesBlock_16
  · skip
    refine lv_iload_n hx hb d_Sy_carriesBlock_5 rfl (lv_at hl 0 rfl) ?_
    refine lv_bipush (v := 6) hx hb d_Sy_carriesBlock_6 (by decide) ?_
    refine lv_icmp_ge (tgt := 15) hx hb d_Sy_carriesBlock_8 (by decide) (fun c_8 => ?_) (fun c_8 => ?_)
    · skip
      refine lv_iconst (v := 0) hx hb d_Sy_carriesBlock_15 (by decide) ?_
      exact rP_z C0 (⟨by decide, by decide⟩) (Or.inl rfl) (⟨rfl, by simp [b2i, c_2, c_8]⟩) d_Sy_carriesBlock_16
    · skip
      refine lv_iconst (v := 1) hx hb d_Sy_carriesBlock_11 (by decide) ?_
      refine lv_goto (tgt := 16) hx hb d_Sy_carriesBlock_12 (by decide) ?_
      exact rP_z C0 (⟨by decide, by decide⟩) (Or.inr rfl) (⟨rfl, by simp [b2i, c_2, c_8]⟩) d_Sy_carriesBlock_16
set_option maxHeartbeats 4000000 in
set_option maxRecDepth 100000 in
theorem c_Sy_carriesEnd {S0 : State} {A0 : Array Value} {D : va_G} {ar : Nat → ClassId} {base : Nat} {σ : Mem} {l : Launch} (hlt : l.stackTraces = false) {x : Int32} :
    MX l y_Sy_carriesEnd [Cond.code y_Sy_carriesEnd b_Sy_carriesEnd 1 (some .boolean)] (rmL 0) (PS S0 A0 D ar base σ [.int x]) (QP (fun k r => k = 0 ∧ r = some (b2i (x = 6)))) (fun _ => False) := by
  refine cx_head hlt (by decide +kernel) (Nat.le_of_ble_eq_true rfl) ?_
  intro p ev s m below meth c ls C0 hP hl
  have C0 : Cx S0 A0 D ar base p l s m _ meth c R_Sy b_Sy_carriesEnd 1 (some .boolean) := C0
  obtain ⟨hx, hb, -⟩ := id C0
  have hl : lv_has ls 1 [(0, .int x)] := hl
  refine lv_iload_n hx hb d_Sy_carriesEnd_0 rfl (lv_at hl 0 rfl) ?_
  refine lv_bipush (v := 6) hx hb d_Sy_carriesEnd_1 (by decide) ?_
  refine lv_icmp_ne (tgt := 10) hx hb d_Sy_carriesEnd_3 (by decide) (fun c_3 => ?_) (fun c_3 => ?_)
  · skip
    refine lv_iconst (v := 0) hx hb d_Sy_carriesEnd_10 (by decide) ?_
    exact rP_z C0 (⟨by decide, by decide⟩) (Or.inl rfl) (⟨rfl, by simp [b2i, c_3]⟩) d_Sy_carriesEnd_11
  · skip
    refine lv_iconst (v := 1) hx hb d_Sy_carriesEnd_6 (by decide) ?_
    refine lv_goto (tgt := 11) hx hb d_Sy_carriesEnd_7 (by decide) ?_
    exact rP_z C0 (⟨by decide, by decide⟩) (Or.inr rfl) (⟨rfl, by simp [b2i, c_3]⟩) d_Sy_carriesEnd_11
set_option maxHeartbeats 4000000 in
set_option maxRecDepth 100000 in
theorem c_Sy_byteAt {S0 : State} {A0 : Array Value} {D : va_G} {ar : Nat → ClassId} {base : Nat} {σ : Mem} {l : Launch} (hlt : l.stackTraces = false) {x : Int64} {sh : Int32} :
    MX l y_Sy_byteAt [Cond.code y_Sy_byteAt b_Sy_byteAt 3 (some .int)] (rmL 0) (PS S0 A0 D ar base σ [.long x, .int sh]) (QP (fun k r => k = 0 ∧ r = some ((x.toUInt64 >>> (sh.toInt64.toUInt64 &&& Int64.toUInt64 63)).toInt64.toInt32 &&& 255))) (fun _ => False) := by
  refine cx_head hlt (by decide +kernel) (Nat.le_of_ble_eq_true rfl) ?_
  intro p ev s m below meth c ls C0 hP hl
  have C0 : Cx S0 A0 D ar base p l s m _ meth c R_Sy b_Sy_byteAt 3 (some .int) := C0
  obtain ⟨hx, hb, -⟩ := id C0
  have hl : lv_has ls 3 [(0, .long x), (2, .int sh)] := hl
  refine lv_lload_n hx hb d_Sy_byteAt_0 rfl (lv_at hl 0 rfl) ?_
  refine lv_iload_n hx hb d_Sy_byteAt_1 rfl (lv_at hl 1 rfl) ?_
  refine lv_lushr hx hb d_Sy_byteAt_2 rfl ?_
  refine lv_l2i hx hb d_Sy_byteAt_3 rfl ?_
  refine lv_sipush (v := 255) hx hb d_Sy_byteAt_4 (by decide) ?_
  refine lv_iand hx hb d_Sy_byteAt_7 ?_
  exact rP_i C0 (⟨by decide, by decide⟩) (⟨rfl, rfl⟩) d_Sy_byteAt_8
set_option maxHeartbeats 4000000 in
set_option maxRecDepth 100000 in
theorem c_Sy_needWithin {S0 : State} {A0 : Array Value} {D : va_G} {ar : Nat → ClassId} {base : Nat} {σ : Mem} {l : Launch} (hlt : l.stackTraces = false) {x lo hi : Int32} :
    MX l y_Sy_needWithin [Cond.code y_Sy_needWithin b_Sy_needWithin 3 none] (rmT 0) (PS S0 A0 D ar base σ [.int x, .int lo, .int hi]) (QP (fun k r => r = none ∧ k = if x < lo ∨ ¬ x ≤ hi then 1 else 0)) (fun _ => False) := by
  refine cx_head hlt (by decide +kernel) (Nat.le_of_ble_eq_true rfl) ?_
  intro p ev s m below meth c ls C0 hP hl
  have C0 : Cx S0 A0 D ar base p l s m _ meth c R_Sy b_Sy_needWithin 3 none := C0
  obtain ⟨hx, hb, -⟩ := id C0
  have hl : lv_has ls 3 [(0, .int x), (1, .int lo), (2, .int hi)] := hl
  refine lv_iload_n hx hb d_Sy_needWithin_0 rfl (lv_at hl 0 rfl) ?_
  refine lv_iload_n hx hb d_Sy_needWithin_1 rfl (lv_at hl 1 rfl) ?_
  refine lv_icmp_lt (tgt := 10) hx hb d_Sy_needWithin_2 (by decide) (fun c_2 => ?_) (fun c_2 => ?_)
  · skip
    exact tP_1 C0 k_sr_Sy_230 xs_230 hl.1 d_Sy_needWithin_10 d_Sy_needWithin_13 d_Sy_needWithin_14 d_Sy_needWithin_16 d_Sy_needWithin_19 (by decide) (by decide) (⟨by decide, by decide⟩) (⟨rfl, by simp [c_2]⟩)
  · skip
    refine lv_iload_n hx hb d_Sy_needWithin_5 rfl (lv_at hl 0 rfl) ?_
    refine lv_iload_n hx hb d_Sy_needWithin_6 rfl (lv_at hl 2 rfl) ?_
    refine lv_icmp_le (tgt := 20) hx hb d_Sy_needWithin_7 (by decide) (fun c_7 => ?_) (fun c_7 => ?_)
    · skip
      exact rP_v C0 (⟨by decide, by decide⟩) (⟨rfl, by simp [c_2, c_7]⟩) d_Sy_needWithin_20
    · skip
      exact tP_1 C0 k_sr_Sy_230 xs_230 hl.1 d_Sy_needWithin_10 d_Sy_needWithin_13 d_Sy_needWithin_14 d_Sy_needWithin_16 d_Sy_needWithin_19 (by decide) (by decide) (⟨by decide, by decide⟩) (⟨rfl, by simp [c_2, c_7]⟩)
