/-! What a message carries: laid by gen/m26.py. -/
abbrev isB (x : Int32) : Prop := ¬ x < 3 ∧ ¬ 6 ≤ x
abbrev ownB (σ : Mem) (q v : Int32) : Prop := ¬ v < 0 ∧ ¬ 12 ≤ v ∧ σ 8 v.toNatClampNeg 0 = q
abbrev ownE (σ : Mem) (q v x : Int32) : Prop := ¬ v < 0 ∧ ¬ 12 ≤ v ∧ ¬ v / 2 = x / 2 ∧ σ 11 v.toNatClampNeg 0 = q
def kLoad (σ : Mem) (q x lt v : Int32) : Nat := if isB lt ∧ ¬ ownB σ q v then 2 else if lt = 6 ∧ ¬ ownE σ q v x then 2 else 0
def giveM (σ : Mem) (lt v q : Int32) : Mem := if isB lt then up σ 8 v.toNatClampNeg 0 q else if lt = 6 then up σ 11 v.toNatClampNeg 0 q else σ
set_option maxHeartbeats 4000000 in
set_option maxRecDepth 100000 in
theorem c_Sy_needOwnLoad {S0 : State} {A0 : Array Value} {D : va_G} {ar : Nat → ClassId} {base : Nat} {σ : Mem} {l : Launch} (hlt : l.stackTraces = false) {q x lt v : Int32} :
    MX l y_Sy_needOwnLoad [Cond.code y_Sy_needOwnLoad b_Sy_needOwnLoad 5 none] (rmT 1) (PS S0 A0 D ar base σ [.ref (base + ad 0 0), .int q, .int x, .int lt, .int v]) (QP (fun k r => r = none ∧ k = kLoad σ q x lt v)) (fun _ => False) := by
  refine cx_head hlt (by decide +kernel) (Nat.le_of_ble_eq_true rfl) ?_
  intro p ev s m below meth c ls C0 hP hl
  have C0 : Cx S0 A0 D ar base p l s m _ meth c R_Sy b_Sy_needOwnLoad 5 none := C0
  obtain ⟨hx, hb, -⟩ := id C0
  have hl : lv_has ls 5 [(0, .ref (base + ad 0 0)), (1, .int q), (2, .int x), (3, .int lt), (4, .int v)] := hl
  refine lv_iload_n hx hb d_Sy_needOwnLoad_0 rfl (lv_at hl 3 rfl) ?_
  refine cs_PP C0 hP (cs_S C0 (As := [.int lt]) k_ml_Sy_242 k_st_Sy_carriesBlock k_cd_Sy_carriesBlock k_in_Sy z_Sy_carriesBlock rfl d_Sy_needOwnLoad_1) (c_Sy_carriesBlock hlt) hl.1 d_Sy_needOwnLoad_1 (Nat.le_of_ble_eq_true rfl) ⟨by decide, by decide⟩ (⟨by decide, by decide⟩) (fun k r hk hp => absurd hp.1 hk) (fun r_2 h_1 => ?_)
  obtain rfl := h_1.2
  refine lv_if_eq (tgt := 27) hx hb d_Sy_needOwnLoad_4 (by decide) (fun c_4 => ?_) (fun c_4 => ?_)
  · skip
    have c_4 := b2i_z.mp c_4
    refine lv_iload_n hx hb d_Sy_needOwnLoad_27 rfl (lv_at hl 3 rfl) ?_
    refine cs_PP C0 hP (cs_S C0 (As := [.int lt]) k_ml_Sy_252 k_st_Sy_carriesEnd k_cd_Sy_carriesEnd k_in_Sy z_Sy_carriesEnd rfl d_Sy_needOwnLoad_28) (c_Sy_carriesEnd hlt) hl.1 d_Sy_needOwnLoad_28 (Nat.le_of_ble_eq_true rfl) ⟨by decide, by decide⟩ (⟨by decide, by decide⟩) (fun k r hk hp => absurd hp.1 hk) (fun r_4 h_3 => ?_)
    obtain rfl := h_3.2
    refine lv_if_eq (tgt := 56) hx hb d_Sy_needOwnLoad_31 (by decide) (fun c_31 => ?_) (fun c_31 => ?_)
    · skip
      have c_31 := b2i_z.mp c_31
      exact rP_v C0 (⟨by decide, by decide⟩) (⟨rfl, by unfold kLoad; rw [if_neg (fun h => c_4 h.1), if_neg (fun h => c_31 h.1)]⟩) d_Sy_needOwnLoad_56
    · skip
      have c_31 := b2i_ne.mp c_31
      refine lv_aload_n hx hb d_Sy_needOwnLoad_34 rfl (lv_at hl 0 rfl) ?_
      refine lv_iload_n hx hb d_Sy_needOwnLoad_35 rfl (lv_at hl 1 rfl) ?_
      refine lv_iload hx hb d_Sy_needOwnLoad_36 (lv_at hl 4 rfl) ?_
      refine lv_iload_n hx hb d_Sy_needOwnLoad_38 rfl (lv_at hl 2 rfl) ?_
      refine cs_PP C0 hP (cs_V C0 hP (kd := 0) (i := 0) (ci := 0) (As := [.int q, .int v, .int x]) (by decide) (by decide) rfl rfl k_ml_Sy_255 k_im_Sy_ownsEndOfOtherChannel k_sl_Sy_Sy_ownsEndOfOtherChannel k_cd_Sy_ownsEndOfOtherChannel k_in_Sy z_Sy_ownsEndOfOtherChannel rfl d_Sy_needOwnLoad_39) (c_Sy_ownsEndOfOtherChannel hlt) hl.1 d_Sy_needOwnLoad_39 (Nat.le_of_ble_eq_true rfl) ⟨by decide, by decide⟩ (⟨by decide, by decide⟩) (fun k r hk hp => absurd hp.1 hk) (fun r_6 h_5 => ?_)
      obtain rfl := h_5.2
      refine lv_if_ne (tgt := 56) hx hb d_Sy_needOwnLoad_42 (by decide) (fun c_42 => ?_) (fun c_42 => ?_)
      · skip
        have c_42 := b2i_ne.mp c_42
        exact rP_v C0 (⟨by decide, by decide⟩) (⟨rfl, by unfold kLoad; rw [if_neg (fun h => c_4 h.1), if_neg (fun h => h.2 c_42)]⟩) d_Sy_needOwnLoad_56
      · skip
        have c_42 := b2i_z.mp c_42
        exact tP_2W C0 k_sr_Sy_259 xs_259 hl.1 d_Sy_needOwnLoad_45 d_Sy_needOwnLoad_48 d_Sy_needOwnLoad_49 d_Sy_needOwnLoad_52 d_Sy_needOwnLoad_55 (by decide) (by decide) (⟨by decide, by decide⟩) (⟨rfl, by unfold kLoad; rw [if_neg (fun h => c_4 h.1), if_pos ⟨c_31, c_42⟩]⟩)
  · skip
    have c_4 := b2i_ne.mp c_4
    refine lv_aload_n hx hb d_Sy_needOwnLoad_7 rfl (lv_at hl 0 rfl) ?_
    refine lv_iload_n hx hb d_Sy_needOwnLoad_8 rfl (lv_at hl 1 rfl) ?_
    refine lv_iload hx hb d_Sy_needOwnLoad_9 (lv_at hl 4 rfl) ?_
    refine cs_PP C0 hP (cs_V C0 hP (kd := 0) (i := 0) (ci := 0) (As := [.int q, .int v]) (by decide) (by decide) rfl rfl k_ml_Sy_246 k_im_Sy_ownsBlock k_sl_Sy_Sy_ownsBlock k_cd_Sy_ownsBlock k_in_Sy z_Sy_ownsBlock rfl d_Sy_needOwnLoad_11) (c_Sy_ownsBlock hlt) hl.1 d_Sy_needOwnLoad_11 (Nat.le_of_ble_eq_true rfl) ⟨by decide, by decide⟩ (⟨by decide, by decide⟩) (fun k r hk hp => absurd hp.1 hk) (fun r_8 h_7 => ?_)
    obtain rfl := h_7.2
    refine lv_if_ne (tgt := 27) hx hb d_Sy_needOwnLoad_14 (by decide) (fun c_14 => ?_) (fun c_14 => ?_)
    · skip
      have c_14 := b2i_ne.mp c_14
      refine lv_iload_n hx hb d_Sy_needOwnLoad_27 rfl (lv_at hl 3 rfl) ?_
      refine cs_PP C0 hP (cs_S C0 (As := [.int lt]) k_ml_Sy_252 k_st_Sy_carriesEnd k_cd_Sy_carriesEnd k_in_Sy z_Sy_carriesEnd rfl d_Sy_needOwnLoad_28) (c_Sy_carriesEnd hlt) hl.1 d_Sy_needOwnLoad_28 (Nat.le_of_ble_eq_true rfl) ⟨by decide, by decide⟩ (⟨by decide, by decide⟩) (fun k r hk hp => absurd hp.1 hk) (fun r_10 h_9 => ?_)
      obtain rfl := h_9.2
      refine lv_if_eq (tgt := 56) hx hb d_Sy_needOwnLoad_31 (by decide) (fun c_31 => ?_) (fun c_31 => ?_)
      · skip
        have c_31 := b2i_z.mp c_31
        exact rP_v C0 (⟨by decide, by decide⟩) (⟨rfl, by unfold kLoad; rw [if_neg (fun h => h.2 c_14), if_neg (fun h => c_31 h.1)]⟩) d_Sy_needOwnLoad_56
      · skip
        have c_31 := b2i_ne.mp c_31
        refine lv_aload_n hx hb d_Sy_needOwnLoad_34 rfl (lv_at hl 0 rfl) ?_
        refine lv_iload_n hx hb d_Sy_needOwnLoad_35 rfl (lv_at hl 1 rfl) ?_
        refine lv_iload hx hb d_Sy_needOwnLoad_36 (lv_at hl 4 rfl) ?_
        refine lv_iload_n hx hb d_Sy_needOwnLoad_38 rfl (lv_at hl 2 rfl) ?_
        refine cs_PP C0 hP (cs_V C0 hP (kd := 0) (i := 0) (ci := 0) (As := [.int q, .int v, .int x]) (by decide) (by decide) rfl rfl k_ml_Sy_255 k_im_Sy_ownsEndOfOtherChannel k_sl_Sy_Sy_ownsEndOfOtherChannel k_cd_Sy_ownsEndOfOtherChannel k_in_Sy z_Sy_ownsEndOfOtherChannel rfl d_Sy_needOwnLoad_39) (c_Sy_ownsEndOfOtherChannel hlt) hl.1 d_Sy_needOwnLoad_39 (Nat.le_of_ble_eq_true rfl) ⟨by decide, by decide⟩ (⟨by decide, by decide⟩) (fun k r hk hp => absurd hp.1 hk) (fun r_12 h_11 => ?_)
        obtain rfl := h_11.2
        refine lv_if_ne (tgt := 56) hx hb d_Sy_needOwnLoad_42 (by decide) (fun c_42 => ?_) (fun c_42 => ?_)
        · skip
          have c_42 := b2i_ne.mp c_42
          exact rP_v C0 (⟨by decide, by decide⟩) (⟨rfl, by unfold kLoad; rw [if_neg (fun h => h.2 c_14), if_neg (fun h => h.2 c_42)]⟩) d_Sy_needOwnLoad_56
        · skip
          have c_42 := b2i_z.mp c_42
          exact tP_2W C0 k_sr_Sy_259 xs_259 hl.1 d_Sy_needOwnLoad_45 d_Sy_needOwnLoad_48 d_Sy_needOwnLoad_49 d_Sy_needOwnLoad_52 d_Sy_needOwnLoad_55 (by decide) (by decide) (⟨by decide, by decide⟩) (⟨rfl, by unfold kLoad; rw [if_neg (fun h => h.2 c_14), if_pos ⟨c_31, c_42⟩]⟩)
    · skip
      have c_14 := b2i_z.mp c_14
      exact tP_2 C0 k_sr_Sy_250 xs_250 hl.1 d_Sy_needOwnLoad_17 d_Sy_needOwnLoad_20 d_Sy_needOwnLoad_21 d_Sy_needOwnLoad_23 d_Sy_needOwnLoad_26 (by decide) (by decide) (⟨by decide, by decide⟩) (⟨rfl, by unfold kLoad; rw [if_pos ⟨c_4, c_14⟩]⟩)
set_option maxHeartbeats 4000000 in
set_option maxRecDepth 100000 in
theorem c_Sy_giveLoad {S0 : State} {A0 : Array Value} {D : va_G} {ar : Nat → ClassId} {base : Nat} {σ : Mem} {l : Launch} (hlt : l.stackTraces = false) {lt v q : Int32} (hv : isB lt ∨ lt = 6 → vp_in v 12) :
    MX l y_Sy_giveLoad [Cond.code y_Sy_giveLoad b_Sy_giveLoad 4 none] (rmL 1) (PS S0 A0 D ar base σ [.ref (base + ad 0 0), .int lt, .int v, .int q]) (QI D ar base (fun k r σ' => k = 0 ∧ r = none ∧ σ' = giveM σ lt v q)) (inB base 122) := by
  refine cx_head hlt (by decide +kernel) (Nat.le_of_ble_eq_true rfl) ?_
  intro p ev s m below meth c ls C0 hP hl
  have C0 : Cx S0 A0 D ar base p l s m _ meth c R_Sy b_Sy_giveLoad 4 none := C0
  obtain ⟨hx, hb, -⟩ := id C0
  have hl : lv_has ls 4 [(0, .ref (base + ad 0 0)), (1, .int lt), (2, .int v), (3, .int q)] := hl
  have hS : va_S (inB base 122) s.heap s.heap [] := va_S.rf
  refine lv_iload_n hx hb d_Sy_giveLoad_0 rfl (lv_at hl 1 rfl) ?_
  refine cs_PI C0 hP hS (cs_S C0 (As := [.int lt]) k_ml_Sy_242 k_st_Sy_carriesBlock k_cd_Sy_carriesBlock k_in_Sy z_Sy_carriesBlock rfl d_Sy_giveLoad_1) (c_Sy_carriesBlock hlt) hl.1 d_Sy_giveLoad_1 (Nat.le_of_ble_eq_true rfl) ⟨by decide, by decide⟩ (⟨by decide, by decide⟩) (fun k r hk hp => absurd hp.1 hk) (fun r_2 h_1 => ?_)
  obtain rfl := h_1.2
  refine lv_if_eq (tgt := 20) hx hb d_Sy_giveLoad_4 (by decide) (fun c_4 => ?_) (fun c_4 => ?_)
  · skip
    have c_4 := b2i_z.mp c_4
    refine lv_iload_n hx hb d_Sy_giveLoad_20 rfl (lv_at hl 1 rfl) ?_
    refine cs_PI C0 hP hS (cs_S C0 (As := [.int lt]) k_ml_Sy_252 k_st_Sy_carriesEnd k_cd_Sy_carriesEnd k_in_Sy z_Sy_carriesEnd rfl d_Sy_giveLoad_21) (c_Sy_carriesEnd hlt) hl.1 d_Sy_giveLoad_21 (Nat.le_of_ble_eq_true rfl) ⟨by decide, by decide⟩ (⟨by decide, by decide⟩) (fun k r hk hp => absurd hp.1 hk) (fun r_4 h_3 => ?_)
    obtain rfl := h_3.2
    refine lv_if_eq (tgt := 37) hx hb d_Sy_giveLoad_24 (by decide) (fun c_24 => ?_) (fun c_24 => ?_)
    · skip
      have c_24 := b2i_z.mp c_24
      exact rI_v C0 hP hS (⟨by decide, by decide⟩) (⟨rfl, rfl, by unfold giveM; rw [if_neg c_4, if_neg c_24]⟩) d_Sy_giveLoad_37
    · skip
      have c_24 := b2i_ne.mp c_24
      refine lv_aload_n hx hb d_Sy_giveLoad_27 rfl (lv_at hl 0 rfl) ?_
      refine q_get C0 hP (kd := 0) (i := 0) (ci := 0) (by decide) (by decide) rfl rfl 7 (by decide) rfl k_fl_Sy_40 rfl d_Sy_giveLoad_28 ?_
      refine lv_iload_n hx hb d_Sy_giveLoad_31 rfl (lv_at hl 2 rfl) ?_
      refine q_aald C0 hP (kd := 6) (i := 0) (t0 := 5) (v := base + ad 14 v.toNatClampNeg) (by decide) (by decide) rfl rfl (rfl) (hv (Or.inr c_24)) d_Sy_giveLoad_32 ?_
      refine lv_iload_n hx hb d_Sy_giveLoad_33 rfl (lv_at hl 3 rfl) ?_
      refine q_putN C0 hP hS (kd := 14) (i := v.toNatClampNeg) (ci := 3) 11 0 (by decide) rfl (vin_lt (hv (Or.inr c_24))) rfl rfl t_En t_En_ok n_En 2 (by decide) rfl k_fn_Sy_99 rfl (by decide +kernel) (Nat.le_of_ble_eq_true rfl) (by simp [cont, up]) d_Sy_giveLoad_34 (fun H locs hP hS => ?_)
      exact rI_v C0 hP hS (⟨by decide, by decide⟩) (⟨rfl, rfl, by unfold giveM; rw [if_neg c_4, if_pos c_24]⟩) d_Sy_giveLoad_37
  · skip
    have c_4 := b2i_ne.mp c_4
    refine lv_aload_n hx hb d_Sy_giveLoad_7 rfl (lv_at hl 0 rfl) ?_
    refine q_get C0 hP (kd := 0) (i := 0) (ci := 0) (by decide) (by decide) rfl rfl 5 (by decide) rfl k_fl_Sy_30 rfl d_Sy_giveLoad_8 ?_
    refine lv_iload_n hx hb d_Sy_giveLoad_11 rfl (lv_at hl 2 rfl) ?_
    refine q_aald C0 hP (kd := 4) (i := 0) (t0 := 4) (v := base + ad 12 v.toNatClampNeg) (by decide) (by decide) rfl rfl (rfl) (hv (Or.inl c_4)) d_Sy_giveLoad_12 ?_
    refine lv_iload_n hx hb d_Sy_giveLoad_13 rfl (lv_at hl 3 rfl) ?_
    refine q_putN C0 hP hS (kd := 12) (i := v.toNatClampNeg) (ci := 2) 8 0 (by decide) rfl (vin_lt (hv (Or.inl c_4))) rfl rfl t_Bl t_Bl_ok n_Bl 1 (by decide) rfl k_fn_Sy_93 rfl (by decide +kernel) (Nat.le_of_ble_eq_true rfl) (by simp [cont, up]) d_Sy_giveLoad_14 (fun H locs hP hS => ?_)
    refine lv_goto (tgt := 37) hx hb d_Sy_giveLoad_17 (by decide) ?_
    exact rI_v C0 hP hS (⟨by decide, by decide⟩) (⟨rfl, rfl, by unfold giveM; rw [if_pos c_4]⟩) d_Sy_giveLoad_37
