/-! The class's checks: rows laid by gen/m21.py. -/
abbrev bad (x b : Int32) : Prop := x < 0 ∨ ¬ x ≤ b - 1
theorem nz_ok {c : Prop} [Decidable c] {n : Nat} (h : 0 = if c then n else 0) (hn : n ≠ 0 := by decide) : ¬ c := fun hc => hn (by rw [if_pos hc] at h; exact h.symm)
theorem nz_k {c : Prop} [Decidable c] {n k : Nat} (h : k = if c then n else 0) (hk : k ≠ 0) : c ∧ k = n := by
  by_cases hc : c
  · rw [if_pos hc] at h
    exact ⟨hc, h⟩
  · rw [if_neg hc] at h
    exact absurd h hk
theorem vin_b {x b : Int32} {n : Nat} (h : ¬ bad x b) (hb : (b - 1).toInt + 1 = n := by decide) : vp_in x n := by
  rw [vp_in_iff]
  have h0 : ¬ x < 0 := fun z => h (Or.inl z)
  have h1 : x ≤ b - 1 := Classical.byContradiction fun z => h (Or.inr z)
  rw [Int32.lt_iff_toInt_lt] at h0
  rw [Int32.le_iff_toInt_le] at h1
  have h2 : (0 : Int32).toInt = 0 := by decide
  omega
def kOwnB (σ : Mem) (q b : Int32) : Nat := if bad q 4 then 1 else if bad b 12 then 1 else if σ 2 0 q.toNatClampNeg = 0 then 2 else if σ 8 b.toNatClampNeg 0 = q then 0 else 2
def kOwnE (σ : Mem) (q x : Int32) : Nat := if bad q 4 then 1 else if bad x 12 then 1 else if σ 2 0 q.toNatClampNeg = 0 then 2 else if σ 11 x.toNatClampNeg 0 = q then 0 else 2
def kCell (σ : Mem) (b : Nat) (i : Int32) : Nat := if i < 0 then 3 else if ¬ i < σ 9 b 0 then 3 else 0
set_option maxHeartbeats 4000000 in
set_option maxRecDepth 100000 in
theorem c_Sy_needBelow {S0 : State} {A0 : Array Value} {D : va_G} {ar : Nat → ClassId} {base : Nat} {σ : Mem} {l : Launch} (hlt : l.stackTraces = false) {x b : Int32} :
    MX l y_Sy_needBelow [Cond.code y_Sy_needBelow b_Sy_needBelow 2 none] (rmT 1) (PS S0 A0 D ar base σ [.int x, .int b]) (QP (fun k r => r = none ∧ k = if bad x b then 1 else 0)) (fun _ => False) := by
  refine cx_head hlt (by decide +kernel) (Nat.le_of_ble_eq_true rfl) ?_
  intro p ev s m below meth c ls C0 hP hl
  have C0 : Cx S0 A0 D ar base p l s m _ meth c R_Sy b_Sy_needBelow 2 none := C0
  obtain ⟨hx, hb, -⟩ := id C0
  have hl : lv_has ls 2 [(0, .int x), (1, .int b)] := hl
  refine lv_iload_n hx hb d_Sy_needBelow_0 rfl (lv_at hl 0 rfl) ?_
  refine lv_iconst (v := 0) hx hb d_Sy_needBelow_1 (by decide) ?_
  refine lv_iload_n hx hb d_Sy_needBelow_2 rfl (lv_at hl 1 rfl) ?_
  refine lv_iconst (v := 1) hx hb d_Sy_needBelow_3 (by decide) ?_
  refine lv_isub hx hb d_Sy_needBelow_4 ?_
  refine cs_PP C0 hP (cs_S C0 (As := [.int x, .int 0, .int (b - 1)]) k_ml_Sy_49 k_st_Sy_needWithin k_cd_Sy_needWithin k_in_Sy z_Sy_needWithin rfl d_Sy_needBelow_5) (c_Sy_needWithin hlt) hl.1 d_Sy_needBelow_5 (by decide) ⟨by decide, by decide⟩ (⟨by decide, by decide⟩) (fun k r hk hp => ⟨rfl, hp.2⟩) (fun r_2 h_1 => ?_)
  obtain rfl := h_1.1
  exact rP_v C0 (⟨by decide, by decide⟩) (⟨rfl, h_1.2⟩) d_Sy_needBelow_8
set_option maxHeartbeats 4000000 in
set_option maxRecDepth 100000 in
theorem c_Sy_needAlive {S0 : State} {A0 : Array Value} {D : va_G} {ar : Nat → ClassId} {base : Nat} {σ : Mem} {l : Launch} (hlt : l.stackTraces = false) {q : Int32} (hq : vp_in q 4) :
    MX l y_Sy_needAlive [Cond.code y_Sy_needAlive b_Sy_needAlive 2 none] (rmT 0) (PS S0 A0 D ar base σ [.ref (base + ad 0 0), .int q]) (QP (fun k r => r = none ∧ k = if σ 2 0 q.toNatClampNeg = 0 then 2 else 0)) (fun _ => False) := by
  refine cx_head hlt (by decide +kernel) (Nat.le_of_ble_eq_true rfl) ?_
  intro p ev s m below meth c ls C0 hP hl
  have C0 : Cx S0 A0 D ar base p l s m _ meth c R_Sy b_Sy_needAlive 2 none := C0
  obtain ⟨hx, hb, -⟩ := id C0
  have hl : lv_has ls 2 [(0, .ref (base + ad 0 0)), (1, .int q)] := hl
  refine lv_aload_n hx hb d_Sy_needAlive_0 rfl (lv_at hl 0 rfl) ?_
  refine q_get C0 hP (kd := 0) (i := 0) (ci := 0) (by decide) (by decide) rfl rfl 4 (by decide) rfl k_fl_Sy_24 rfl d_Sy_needAlive_1 ?_
  refine lv_iload_n hx hb d_Sy_needAlive_4 rfl (lv_at hl 1 rfl) ?_
  refine q_zald C0 hP (kd := 3) (i := 0) (by decide) (by decide) rfl (hq) d_Sy_needAlive_5 ?_
  refine lv_if_ne (tgt := 19) hx hb d_Sy_needAlive_6 (by decide) (fun c_6 => ?_) (fun c_6 => ?_)
  · skip
    exact rP_v C0 (⟨by decide, by decide⟩) (⟨rfl, by simp [c_6]⟩) d_Sy_needAlive_19
  · skip
    exact tP_2 C0 k_sr_Sy_232 xs_232 hl.1 d_Sy_needAlive_9 d_Sy_needAlive_12 d_Sy_needAlive_13 d_Sy_needAlive_15 d_Sy_needAlive_18 (by decide) (by decide) (⟨by decide, by decide⟩) (⟨rfl, by simp [c_6]⟩)
set_option maxHeartbeats 4000000 in
set_option maxRecDepth 100000 in
theorem c_Sy_needAllowed {S0 : State} {A0 : Array Value} {D : va_G} {ar : Nat → ClassId} {base : Nat} {σ : Mem} {l : Launch} (hlt : l.stackTraces = false) {x : Int32} :
    MX l y_Sy_needAllowed [Cond.code y_Sy_needAllowed b_Sy_needAllowed 1 none] (rmT 0) (PS S0 A0 D ar base σ [.int x]) (QP (fun k r => r = none ∧ k = if x = -1 then 2 else 0)) (fun _ => False) := by
  refine cx_head hlt (by decide +kernel) (Nat.le_of_ble_eq_true rfl) ?_
  intro p ev s m below meth c ls C0 hP hl
  have C0 : Cx S0 A0 D ar base p l s m _ meth c R_Sy b_Sy_needAllowed 1 none := C0
  obtain ⟨hx, hb, -⟩ := id C0
  have hl : lv_has ls 1 [(0, .int x)] := hl
  refine lv_iload_n hx hb d_Sy_needAllowed_0 rfl (lv_at hl 0 rfl) ?_
  refine lv_iconst (v := (-1)) hx hb d_Sy_needAllowed_1 (by decide) ?_
  refine lv_icmp_ne (tgt := 15) hx hb d_Sy_needAllowed_2 (by decide) (fun c_2 => ?_) (fun c_2 => ?_)
  · skip
    exact rP_v C0 (⟨by decide, by decide⟩) (⟨rfl, by simp [c_2]⟩) d_Sy_needAllowed_15
  · skip
    exact tP_2 C0 k_sr_Sy_240 xs_240 hl.1 d_Sy_needAllowed_5 d_Sy_needAllowed_8 d_Sy_needAllowed_9 d_Sy_needAllowed_11 d_Sy_needAllowed_14 (by decide) (by decide) (⟨by decide, by decide⟩) (⟨rfl, by simp [c_2]⟩)
set_option maxHeartbeats 4000000 in
set_option maxRecDepth 100000 in
theorem c_Sy_needOwnBlock {S0 : State} {A0 : Array Value} {D : va_G} {ar : Nat → ClassId} {base : Nat} {σ : Mem} {l : Launch} (hlt : l.stackTraces = false) {q b : Int32} :
    MX l y_Sy_needOwnBlock [Cond.code y_Sy_needOwnBlock b_Sy_needOwnBlock 3 none] (rmT 2) (PS S0 A0 D ar base σ [.ref (base + ad 0 0), .int q, .int b]) (QP (fun k r => r = none ∧ k = kOwnB σ q b)) (fun _ => False) := by
  refine cx_head hlt (by decide +kernel) (Nat.le_of_ble_eq_true rfl) ?_
  intro p ev s m below meth c ls C0 hP hl
  have C0 : Cx S0 A0 D ar base p l s m _ meth c R_Sy b_Sy_needOwnBlock 3 none := C0
  obtain ⟨hx, hb, -⟩ := id C0
  have hl : lv_has ls 3 [(0, .ref (base + ad 0 0)), (1, .int q), (2, .int b)] := hl
  refine lv_iload_n hx hb d_Sy_needOwnBlock_0 rfl (lv_at hl 1 rfl) ?_
  refine lv_iconst (v := 4) hx hb d_Sy_needOwnBlock_1 (by decide) ?_
  refine cs_PP C0 hP (cs_S C0 (As := [.int q, .int 4]) k_ml_Sy_64 k_st_Sy_needBelow k_cd_Sy_needBelow k_in_Sy z_Sy_needBelow rfl d_Sy_needOwnBlock_2) (c_Sy_needBelow hlt) hl.1 d_Sy_needOwnBlock_2 (by decide) ⟨by decide, by decide⟩ (⟨by decide, by decide⟩) (fun k r hk hp => by obtain ⟨hc, rfl⟩ := nz_k hp.2 hk; exact ⟨rfl, by unfold kOwnB; rw [if_pos hc]⟩) (fun r_2 h_1 => ?_)
  have g_3 := nz_ok h_1.2
  obtain rfl := h_1.1
  refine lv_iload_n hx hb d_Sy_needOwnBlock_5 rfl (lv_at hl 2 rfl) ?_
  refine lv_bipush (v := 12) hx hb d_Sy_needOwnBlock_6 (by decide) ?_
  refine cs_PP C0 hP (cs_S C0 (As := [.int b, .int 12]) k_ml_Sy_64 k_st_Sy_needBelow k_cd_Sy_needBelow k_in_Sy z_Sy_needBelow rfl d_Sy_needOwnBlock_8) (c_Sy_needBelow hlt) hl.1 d_Sy_needOwnBlock_8 (by decide) ⟨by decide, by decide⟩ (⟨by decide, by decide⟩) (fun k r hk hp => by obtain ⟨hc, rfl⟩ := nz_k hp.2 hk; exact ⟨rfl, by unfold kOwnB; rw [if_neg g_3, if_pos hc]⟩) (fun r_5 h_4 => ?_)
  have g_6 := nz_ok h_4.2
  obtain rfl := h_4.1
  refine lv_aload_n hx hb d_Sy_needOwnBlock_11 rfl (lv_at hl 0 rfl) ?_
  refine lv_iload_n hx hb d_Sy_needOwnBlock_12 rfl (lv_at hl 1 rfl) ?_
  refine cs_PP C0 hP (cs_V C0 hP (kd := 0) (i := 0) (ci := 0) (As := [.int q]) (by decide) (by decide) rfl rfl k_ml_Sy_86 k_im_Sy_needAlive k_sl_Sy_Sy_needAlive k_cd_Sy_needAlive k_in_Sy z_Sy_needAlive rfl d_Sy_needOwnBlock_13) (c_Sy_needAlive hlt (vin_b g_3)) hl.1 d_Sy_needOwnBlock_13 (by decide) ⟨by decide, by decide⟩ (⟨by decide, by decide⟩) (fun k r hk hp => by obtain ⟨hc, rfl⟩ := nz_k hp.2 hk; exact ⟨rfl, by unfold kOwnB; rw [if_neg g_3, if_neg g_6, if_pos hc]⟩) (fun r_8 h_7 => ?_)
  have g_9 := nz_ok h_7.2
  obtain rfl := h_7.1
  refine lv_aload_n hx hb d_Sy_needOwnBlock_16 rfl (lv_at hl 0 rfl) ?_
  refine q_get C0 hP (kd := 0) (i := 0) (ci := 0) (by decide) (by decide) rfl rfl 5 (by decide) rfl k_fl_Sy_30 rfl d_Sy_needOwnBlock_17 ?_
  refine lv_iload_n hx hb d_Sy_needOwnBlock_20 rfl (lv_at hl 2 rfl) ?_
  refine q_aald C0 hP (kd := 4) (i := 0) (t0 := 4) (v := base + ad 12 b.toNatClampNeg) (by decide) (by decide) rfl rfl (rfl) (vin_b g_6) d_Sy_needOwnBlock_21 ?_
  refine q_getN C0 hP (kd := 12) (i := b.toNatClampNeg) (ci := 2) (by decide) (vin_lt (vin_b g_6)) rfl rfl 1 (by decide) rfl k_fn_Sy_93 rfl d_Sy_needOwnBlock_22 ?_
  refine lv_iload_n hx hb d_Sy_needOwnBlock_25 rfl (lv_at hl 1 rfl) ?_
  refine lv_icmp_eq (tgt := 39) hx hb d_Sy_needOwnBlock_26 (by decide) (fun c_26 => ?_) (fun c_26 => ?_)
  · skip
    exact rP_v C0 (⟨by decide, by decide⟩) (⟨rfl, by unfold kOwnB; rw [if_neg g_3, if_neg g_6, if_neg g_9, if_pos c_26]⟩) d_Sy_needOwnBlock_39
  · skip
    exact tP_2 C0 k_sr_Sy_234 xs_234 hl.1 d_Sy_needOwnBlock_29 d_Sy_needOwnBlock_32 d_Sy_needOwnBlock_33 d_Sy_needOwnBlock_35 d_Sy_needOwnBlock_38 (by decide) (by decide) (⟨by decide, by decide⟩) (⟨rfl, by unfold kOwnB; rw [if_neg g_3, if_neg g_6, if_neg g_9, if_neg c_26]⟩)
set_option maxHeartbeats 4000000 in
set_option maxRecDepth 100000 in
theorem c_Sy_needOwnEnd {S0 : State} {A0 : Array Value} {D : va_G} {ar : Nat → ClassId} {base : Nat} {σ : Mem} {l : Launch} (hlt : l.stackTraces = false) {q x : Int32} :
    MX l y_Sy_needOwnEnd [Cond.code y_Sy_needOwnEnd b_Sy_needOwnEnd 3 none] (rmT 2) (PS S0 A0 D ar base σ [.ref (base + ad 0 0), .int q, .int x]) (QP (fun k r => r = none ∧ k = kOwnE σ q x)) (fun _ => False) := by
  refine cx_head hlt (by decide +kernel) (Nat.le_of_ble_eq_true rfl) ?_
  intro p ev s m below meth c ls C0 hP hl
  have C0 : Cx S0 A0 D ar base p l s m _ meth c R_Sy b_Sy_needOwnEnd 3 none := C0
  obtain ⟨hx, hb, -⟩ := id C0
  have hl : lv_has ls 3 [(0, .ref (base + ad 0 0)), (1, .int q), (2, .int x)] := hl
  refine lv_iload_n hx hb d_Sy_needOwnEnd_0 rfl (lv_at hl 1 rfl) ?_
  refine lv_iconst (v := 4) hx hb d_Sy_needOwnEnd_1 (by decide) ?_
  refine cs_PP C0 hP (cs_S C0 (As := [.int q, .int 4]) k_ml_Sy_64 k_st_Sy_needBelow k_cd_Sy_needBelow k_in_Sy z_Sy_needBelow rfl d_Sy_needOwnEnd_2) (c_Sy_needBelow hlt) hl.1 d_Sy_needOwnEnd_2 (by decide) ⟨by decide, by decide⟩ (⟨by decide, by decide⟩) (fun k r hk hp => by obtain ⟨hc, rfl⟩ := nz_k hp.2 hk; exact ⟨rfl, by unfold kOwnE; rw [if_pos hc]⟩) (fun r_2 h_1 => ?_)
  have g_3 := nz_ok h_1.2
  obtain rfl := h_1.1
  refine lv_iload_n hx hb d_Sy_needOwnEnd_5 rfl (lv_at hl 2 rfl) ?_
  refine lv_bipush (v := 12) hx hb d_Sy_needOwnEnd_6 (by decide) ?_
  refine cs_PP C0 hP (cs_S C0 (As := [.int x, .int 12]) k_ml_Sy_64 k_st_Sy_needBelow k_cd_Sy_needBelow k_in_Sy z_Sy_needBelow rfl d_Sy_needOwnEnd_8) (c_Sy_needBelow hlt) hl.1 d_Sy_needOwnEnd_8 (by decide) ⟨by decide, by decide⟩ (⟨by decide, by decide⟩) (fun k r hk hp => by obtain ⟨hc, rfl⟩ := nz_k hp.2 hk; exact ⟨rfl, by unfold kOwnE; rw [if_neg g_3, if_pos hc]⟩) (fun r_5 h_4 => ?_)
  have g_6 := nz_ok h_4.2
  obtain rfl := h_4.1
  refine lv_aload_n hx hb d_Sy_needOwnEnd_11 rfl (lv_at hl 0 rfl) ?_
  refine lv_iload_n hx hb d_Sy_needOwnEnd_12 rfl (lv_at hl 1 rfl) ?_
  refine cs_PP C0 hP (cs_V C0 hP (kd := 0) (i := 0) (ci := 0) (As := [.int q]) (by decide) (by decide) rfl rfl k_ml_Sy_86 k_im_Sy_needAlive k_sl_Sy_Sy_needAlive k_cd_Sy_needAlive k_in_Sy z_Sy_needAlive rfl d_Sy_needOwnEnd_13) (c_Sy_needAlive hlt (vin_b g_3)) hl.1 d_Sy_needOwnEnd_13 (by decide) ⟨by decide, by decide⟩ (⟨by decide, by decide⟩) (fun k r hk hp => by obtain ⟨hc, rfl⟩ := nz_k hp.2 hk; exact ⟨rfl, by unfold kOwnE; rw [if_neg g_3, if_neg g_6, if_pos hc]⟩) (fun r_8 h_7 => ?_)
  have g_9 := nz_ok h_7.2
  obtain rfl := h_7.1
  refine lv_aload_n hx hb d_Sy_needOwnEnd_16 rfl (lv_at hl 0 rfl) ?_
  refine q_get C0 hP (kd := 0) (i := 0) (ci := 0) (by decide) (by decide) rfl rfl 7 (by decide) rfl k_fl_Sy_40 rfl d_Sy_needOwnEnd_17 ?_
  refine lv_iload_n hx hb d_Sy_needOwnEnd_20 rfl (lv_at hl 2 rfl) ?_
  refine q_aald C0 hP (kd := 6) (i := 0) (t0 := 5) (v := base + ad 14 x.toNatClampNeg) (by decide) (by decide) rfl rfl (rfl) (vin_b g_6) d_Sy_needOwnEnd_21 ?_
  refine q_getN C0 hP (kd := 14) (i := x.toNatClampNeg) (ci := 3) (by decide) (vin_lt (vin_b g_6)) rfl rfl 2 (by decide) rfl k_fn_Sy_99 rfl d_Sy_needOwnEnd_22 ?_
  refine lv_iload_n hx hb d_Sy_needOwnEnd_25 rfl (lv_at hl 1 rfl) ?_
  refine lv_icmp_eq (tgt := 39) hx hb d_Sy_needOwnEnd_26 (by decide) (fun c_26 => ?_) (fun c_26 => ?_)
  · skip
    exact rP_v C0 (⟨by decide, by decide⟩) (⟨rfl, by unfold kOwnE; rw [if_neg g_3, if_neg g_6, if_neg g_9, if_pos c_26]⟩) d_Sy_needOwnEnd_39
  · skip
    exact tP_2 C0 k_sr_Sy_238 xs_238 hl.1 d_Sy_needOwnEnd_29 d_Sy_needOwnEnd_32 d_Sy_needOwnEnd_33 d_Sy_needOwnEnd_35 d_Sy_needOwnEnd_38 (by decide) (by decide) (⟨by decide, by decide⟩) (⟨rfl, by unfold kOwnE; rw [if_neg g_3, if_neg g_6, if_neg g_9, if_neg c_26]⟩)
set_option maxHeartbeats 4000000 in
set_option maxRecDepth 100000 in
theorem c_Sy_needCell {S0 : State} {A0 : Array Value} {D : va_G} {ar : Nat → ClassId} {base : Nat} {σ : Mem} {l : Launch} (hlt : l.stackTraces = false) {b i : Int32} (hb0 : vp_in b 12) :
    MX l y_Sy_needCell [Cond.code y_Sy_needCell b_Sy_needCell 3 none] (rmT 0) (PS S0 A0 D ar base σ [.ref (base + ad 0 0), .int b, .int i]) (QP (fun k r => r = none ∧ k = kCell σ b.toNatClampNeg i)) (fun _ => False) := by
  refine cx_head hlt (by decide +kernel) (Nat.le_of_ble_eq_true rfl) ?_
  intro p ev s m below meth c ls C0 hP hl
  have C0 : Cx S0 A0 D ar base p l s m _ meth c R_Sy b_Sy_needCell 3 none := C0
  obtain ⟨hx, hb, -⟩ := id C0
  have hl : lv_has ls 3 [(0, .ref (base + ad 0 0)), (1, .int b), (2, .int i)] := hl
  refine lv_iload_n hx hb d_Sy_needCell_0 rfl (lv_at hl 2 rfl) ?_
  refine lv_if_lt (tgt := 17) hx hb d_Sy_needCell_1 (by decide) (fun c_1 => ?_) (fun c_1 => ?_)
  · skip
    exact tP_3 C0 k_sr_Sy_236 xs_236 hl.1 d_Sy_needCell_17 d_Sy_needCell_20 d_Sy_needCell_21 d_Sy_needCell_23 d_Sy_needCell_26 (by decide) (by decide) (⟨by decide, by decide⟩) (⟨rfl, by simp [kCell, c_1]⟩)
  · skip
    refine lv_iload_n hx hb d_Sy_needCell_4 rfl (lv_at hl 2 rfl) ?_
    refine lv_aload_n hx hb d_Sy_needCell_5 rfl (lv_at hl 0 rfl) ?_
    refine q_get C0 hP (kd := 0) (i := 0) (ci := 0) (by decide) (by decide) rfl rfl 5 (by decide) rfl k_fl_Sy_30 rfl d_Sy_needCell_6 ?_
    refine lv_iload_n hx hb d_Sy_needCell_9 rfl (lv_at hl 1 rfl) ?_
    refine q_aald C0 hP (kd := 4) (i := 0) (t0 := 4) (v := base + ad 12 b.toNatClampNeg) (by decide) (by decide) rfl rfl (rfl) (hb0) d_Sy_needCell_10 ?_
    refine q_getN C0 hP (kd := 12) (i := b.toNatClampNeg) (ci := 2) (by decide) (vin_lt (hb0)) rfl rfl 2 (by decide) rfl k_fn_Sy_211 rfl d_Sy_needCell_11 ?_
    refine lv_icmp_lt (tgt := 27) hx hb d_Sy_needCell_14 (by decide) (fun c_14 => ?_) (fun c_14 => ?_)
    · skip
      exact rP_v C0 (⟨by decide, by decide⟩) (⟨rfl, by simp [kCell, c_1, c_14]⟩) d_Sy_needCell_27
    · skip
      exact tP_3 C0 k_sr_Sy_236 xs_236 hl.1 d_Sy_needCell_17 d_Sy_needCell_20 d_Sy_needCell_21 d_Sy_needCell_23 d_Sy_needCell_26 (by decide) (by decide) (⟨by decide, by decide⟩) (⟨rfl, by simp [kCell, c_1, c_14]⟩)
