/-! The model's say: laid by gen/m45.py. -/
theorem up_up {σ : Mem} {k i j : Nat} {v w : Int32} : up (up σ k i j v) k i j w = up σ k i j w := by
  funext a b c
  unfold up
  split <;> rfl
abbrev mine (σ : Mem) (q x lt v : Int32) : Prop := lt < 3 ∨ (¬ 6 ≤ lt ∧ inR v 0 11 ∧ σ 7 0 v.toNatClampNeg = q) ∨ (lt = 6 ∧ inR v 0 11 ∧ σ 10 0 v.toNatClampNeg = q ∧ ¬ v = x ∧ ¬ v = x ^^^ 1)
theorem mine_v {σ : Mem} {q x lt v : Int32} (h : mine σ q x lt v) (h2 : ¬ lt ≤ 2) : vp_in v 12 := by
  rcases h with h | h | h
  · exfalso
    rw [Int32.lt_iff_toInt_lt] at h
    rw [Int32.le_iff_toInt_le] at h2
    have h3 : (3 : Int32).toInt = 3 := (by decide)
    have h4 : (2 : Int32).toInt = 2 := (by decide)
    omega
  · exact vin_R h.2.1
  · exact vin_R h.2.1
def mSay3 (σ : Mem) (x lt v : Int32) : Mem := up (up (up (up (up (up σ 0 0 1 0) 0 0 8 (mNx (up σ 0 0 1 0) x lt (x - x / 2 * 2))) 11 0 x.toNatClampNeg (mNx (up σ 0 0 1 0) x lt (x - x / 2 * 2))) 13 0 (3 * (x ^^^ 1).toNatClampNeg + mwt σ (x ^^^ 1)) lt) 14 0 (3 * (x ^^^ 1).toNatClampNeg + mwt σ (x ^^^ 1)) v) 12 0 (x ^^^ 1).toNatClampNeg (nI (mwt σ (x ^^^ 1) + 1))
def mSayM (σ : Mem) (x lt v : Int32) : Mem := up (mGive (mSay3 σ x lt v) lt v 4) 0 0 2 (mGive (mSay3 σ x lt v) lt v 4 0 0 2 + 1)
def mSay (σ : Mem) (q x lt v : Int32) : Mem := if inR q 0 3 then (if inR x 0 11 then (if inR lt 0 6 then (if (mNE (up σ 0 0 1 0) q x).1 = 0 then (if (mLets (up σ 0 0 1 0) x lt (x - x / 2 * 2)).1 = 0 then up (up σ 0 0 1 0) 0 0 1 2 else
  if mine σ q x lt v then (if 0 ≤ σ 10 0 (x ^^^ 1).toNatClampNeg then (if σ 12 0 (x ^^^ 1).toNatClampNeg = 3 then up (up (up σ 0 0 1 0) 0 0 8 (mNx (up σ 0 0 1 0) x lt (x - x / 2 * 2))) 0 0 1 2 else mSayM σ x lt v) else up (up (up σ 0 0 1 0) 0 0 8 (mNx (up σ 0 0 1 0) x lt (x - x / 2 * 2))) 0 0 1 3) else up (up (up σ 0 0 1 0) 0 0 8 (mNx (up σ 0 0 1 0) x lt (x - x / 2 * 2))) 0 0 1 2)
  else (mNE (up σ 0 0 1 0) q x).2) else up σ 0 0 1 1) else up σ 0 0 1 1) else up σ 0 0 1 1
set_option maxHeartbeats 4000000 in
set_option maxRecDepth 100000 in
theorem c_Mo_say {S0 : State} {A0 : Array Value} {D : va_G} {ar : Nat → ClassId} {base : Nat} {σ : Mem} {l : Launch} (hlt : l.stackTraces = false) {q x lt v : Int32} (hqw : MQW σ) (hmu : MU σ) :
    MX l y_Mo_say [Cond.code y_Mo_say b_Mo_say 7 none] (rmL 2) (PO S0 A0 D ar base σ [.ref (base + adm 0 0), .int q, .int x, .int lt, .int v]) (QO D ar base (fun k r σ' => k = 0 ∧ r = none ∧ σ' = mSay σ q x lt v)) (inB base 16) := by
  refine mx_head hlt (by decide +kernel) (Nat.le_of_ble_eq_true rfl) ?_
  intro p ev s m below meth c ls C0 hP hl
  have C0 : Cx S0 A0 D ar base p l s m _ meth c R_Mo b_Mo_say 7 none := C0
  obtain ⟨hx, hb, -⟩ := id C0
  have hl : lv_has ls 7 [(0, .ref (base + adm 0 0)), (1, .int q), (2, .int x), (3, .int lt), (4, .int v)] := hl
  have hS : va_S (inB base 16) s.heap s.heap [] := va_S.rf
  refine lv_aload_n hx hb d_Mo_say_0 rfl (lv_at hl 0 rfl) ?_
  refine lv_iload_n hx hb d_Mo_say_1 rfl (lv_at hl 1 rfl) ?_
  refine lv_iconst (v := 0) hx hb d_Mo_say_2 (by decide) ?_
  refine lv_iconst (v := 3) hx hb d_Mo_say_3 (by decide) ?_
  refine ms_P C0 hP hS (cs_S C0 (As := [.int q, .int 0, .int 3]) k_ml_Mo_60 k_st_Mo_in k_cd_Mo_in k_in_Mo z_Mo_in rfl d_Mo_say_4) (c_Mo_in hlt) hl.1 d_Mo_say_4 (Nat.le_of_ble_eq_true rfl) (⟨by decide, by decide⟩) (⟨by decide, by decide⟩) (fun k r x t hk hp => absurd hp.1 hk) (fun r_2 h_1 => ?_)
  obtain ⟨-, rfl⟩ := h_1
  refine lv_if_eq (tgt := 34) hx hb d_Mo_say_7 (by decide) (fun c_7 => ?_) (fun c_7 => ?_)
  · skip
    have c_7 := b2i_z.mp c_7
    refine lv_iconst (v := 0) hx hb d_Mo_say_34 (by decide) ?_
    refine ms_I C0 hP hS (ms_V C0 hP (kd := 0) (i := 0) (ci := 4) (As := [.int 0]) (by decide) (by decide) rfl rfl k_ml_Mo_64 k_im_Mo_bad k_sl_Mo_Mo_bad k_cd_Mo_bad k_in_Mo z_Mo_bad rfl d_Mo_say_35) (c_Mo_bad hlt (P := False)) (fun k r σ h => h.1) ⟨rfl, rfl⟩ hl.1 d_Mo_say_35 (Nat.le_of_ble_eq_true rfl) (⟨by decide, by decide⟩) (⟨by decide, by decide⟩) (fun r_4 σ_5 H locs h_3 hP hS => ?_)
    obtain ⟨-, rfl, rfl⟩ := h_3
    replace hP : va_P D classes (wl base 16 (memo ar base (up σ 0 0 1 1))) H := hP
    refine lv_if_ne (tgt := 50) hx hb d_Mo_say_38 (by decide) (fun c_38 => ?_) (fun c_38 => ?_)
    · skip
      exact mrI_v C0 hP hS (⟨by decide, by decide⟩) (⟨rfl, rfl, by unfold mSay; rw [if_neg c_7]; first | done | rfl⟩) d_Mo_say_50
    · skip
      exact absurd c_38 (by decide)
  · skip
    have c_7 := b2i_ne.mp c_7
    refine lv_iload_n hx hb d_Mo_say_10 rfl (lv_at hl 2 rfl) ?_
    refine lv_iconst (v := 0) hx hb d_Mo_say_11 (by decide) ?_
    refine lv_bipush (v := 11) hx hb d_Mo_say_12 (by decide) ?_
    refine ms_P C0 hP hS (cs_S C0 (As := [.int x, .int 0, .int 11]) k_ml_Mo_60 k_st_Mo_in k_cd_Mo_in k_in_Mo z_Mo_in rfl d_Mo_say_14) (c_Mo_in hlt) hl.1 d_Mo_say_14 (Nat.le_of_ble_eq_true rfl) (⟨by decide, by decide⟩) (⟨by decide, by decide⟩) (fun k r x t hk hp => absurd hp.1 hk) (fun r_7 h_6 => ?_)
    obtain ⟨-, rfl⟩ := h_6
    refine lv_if_eq (tgt := 34) hx hb d_Mo_say_17 (by decide) (fun c_17 => ?_) (fun c_17 => ?_)
    · skip
      have c_17 := b2i_z.mp c_17
      refine lv_iconst (v := 0) hx hb d_Mo_say_34 (by decide) ?_
      refine ms_I C0 hP hS (ms_V C0 hP (kd := 0) (i := 0) (ci := 4) (As := [.int 0]) (by decide) (by decide) rfl rfl k_ml_Mo_64 k_im_Mo_bad k_sl_Mo_Mo_bad k_cd_Mo_bad k_in_Mo z_Mo_bad rfl d_Mo_say_35) (c_Mo_bad hlt (P := False)) (fun k r σ h => h.1) ⟨rfl, rfl⟩ hl.1 d_Mo_say_35 (Nat.le_of_ble_eq_true rfl) (⟨by decide, by decide⟩) (⟨by decide, by decide⟩) (fun r_9 σ_10 H locs h_8 hP hS => ?_)
      obtain ⟨-, rfl, rfl⟩ := h_8
      replace hP : va_P D classes (wl base 16 (memo ar base (up σ 0 0 1 1))) H := hP
      refine lv_if_ne (tgt := 50) hx hb d_Mo_say_38 (by decide) (fun c_38 => ?_) (fun c_38 => ?_)
      · skip
        exact mrI_v C0 hP hS (⟨by decide, by decide⟩) (⟨rfl, rfl, by unfold mSay; rw [if_pos c_7, if_neg c_17]; first | done | rfl⟩) d_Mo_say_50
      · skip
        exact absurd c_38 (by decide)
    · skip
      have c_17 := b2i_ne.mp c_17
      refine lv_iload_n hx hb d_Mo_say_20 rfl (lv_at hl 3 rfl) ?_
      refine lv_iconst (v := 0) hx hb d_Mo_say_21 (by decide) ?_
      refine lv_bipush (v := 6) hx hb d_Mo_say_22 (by decide) ?_
      refine ms_P C0 hP hS (cs_S C0 (As := [.int lt, .int 0, .int 6]) k_ml_Mo_60 k_st_Mo_in k_cd_Mo_in k_in_Mo z_Mo_in rfl d_Mo_say_24) (c_Mo_in hlt) hl.1 d_Mo_say_24 (Nat.le_of_ble_eq_true rfl) (⟨by decide, by decide⟩) (⟨by decide, by decide⟩) (fun k r x t hk hp => absurd hp.1 hk) (fun r_12 h_11 => ?_)
      obtain ⟨-, rfl⟩ := h_11
      refine lv_if_eq (tgt := 34) hx hb d_Mo_say_27 (by decide) (fun c_27 => ?_) (fun c_27 => ?_)
      · skip
        have c_27 := b2i_z.mp c_27
        refine lv_iconst (v := 0) hx hb d_Mo_say_34 (by decide) ?_
        refine ms_I C0 hP hS (ms_V C0 hP (kd := 0) (i := 0) (ci := 4) (As := [.int 0]) (by decide) (by decide) rfl rfl k_ml_Mo_64 k_im_Mo_bad k_sl_Mo_Mo_bad k_cd_Mo_bad k_in_Mo z_Mo_bad rfl d_Mo_say_35) (c_Mo_bad hlt (P := False)) (fun k r σ h => h.1) ⟨rfl, rfl⟩ hl.1 d_Mo_say_35 (Nat.le_of_ble_eq_true rfl) (⟨by decide, by decide⟩) (⟨by decide, by decide⟩) (fun r_14 σ_15 H locs h_13 hP hS => ?_)
        obtain ⟨-, rfl, rfl⟩ := h_13
        replace hP : va_P D classes (wl base 16 (memo ar base (up σ 0 0 1 1))) H := hP
        refine lv_if_ne (tgt := 50) hx hb d_Mo_say_38 (by decide) (fun c_38 => ?_) (fun c_38 => ?_)
        · skip
          exact mrI_v C0 hP hS (⟨by decide, by decide⟩) (⟨rfl, rfl, by unfold mSay; rw [if_pos c_7, if_pos c_17, if_neg c_27]; first | done | rfl⟩) d_Mo_say_50
        · skip
          exact absurd c_38 (by decide)
      · skip
        have c_27 := b2i_ne.mp c_27
        refine lv_iconst (v := 1) hx hb d_Mo_say_30 (by decide) ?_
        refine lv_goto (tgt := 35) hx hb d_Mo_say_31 (by decide) ?_
        refine ms_I C0 hP hS (ms_V C0 hP (kd := 0) (i := 0) (ci := 4) (As := [.int 1]) (by decide) (by decide) rfl rfl k_ml_Mo_64 k_im_Mo_bad k_sl_Mo_Mo_bad k_cd_Mo_bad k_in_Mo z_Mo_bad rfl d_Mo_say_35) (c_Mo_bad hlt (P := True)) (fun k r σ h => h.1) ⟨rfl, rfl⟩ hl.1 d_Mo_say_35 (Nat.le_of_ble_eq_true rfl) (⟨by decide, by decide⟩) (⟨by decide, by decide⟩) (fun r_17 σ_18 H locs h_16 hP hS => ?_)
        obtain ⟨-, rfl, rfl⟩ := h_16
        replace hP : va_P D classes (wl base 16 (memo ar base (up σ 0 0 1 0))) H := hP
        refine lv_if_ne (tgt := 50) hx hb d_Mo_say_38 (by decide) (fun c_38 => ?_) (fun c_38 => ?_)
        · skip
          exact absurd rfl c_38
        · skip
          refine lv_aload_n hx hb d_Mo_say_41 rfl (lv_at hl 0 rfl) ?_
          refine lv_iload_n hx hb d_Mo_say_42 rfl (lv_at hl 1 rfl) ?_
          refine lv_iload_n hx hb d_Mo_say_43 rfl (lv_at hl 2 rfl) ?_
          refine ms_I C0 hP hS (ms_V C0 hP (kd := 0) (i := 0) (ci := 4) (As := [.int q, .int x]) (by decide) (by decide) rfl rfl k_ml_Mo_114 k_im_Mo_notYourEnd k_sl_Mo_Mo_notYourEnd k_cd_Mo_notYourEnd k_in_Mo z_Mo_notYourEnd rfl d_Mo_say_44) (c_Mo_notYourEnd hlt) (fun k r σ h => h.1) ⟨rfl, rfl⟩ hl.1 d_Mo_say_44 (Nat.le_of_ble_eq_true rfl) (⟨by decide, by decide⟩) (⟨by decide, by decide⟩) (fun r_20 σ_21 H locs h_19 hP hS => ?_)
          obtain ⟨-, rfl, rfl⟩ := h_19
          refine lv_if_eq (tgt := 51) hx hb d_Mo_say_47 (by decide) (fun c_47 => ?_) (fun c_47 => ?_)
          · skip
            obtain ⟨hq4, hx12, hne⟩ := NE_0 c_47
            rw [hne, up_up] at hP
            have hy12 := vin_oth hx12
            have hyb := nI_back hy12
            have hy9 := vin_lt hy12
            obtain ⟨wt, hw3, hwt, hwl⟩ := hqw _ hy9
            have hmw : mwt σ (x ^^^ 1) = wt := by unfold mwt; rw [hwt, nI_clamp (by omega)]
            refine lv_iload_n hx hb d_Mo_say_51 rfl (lv_at hl 2 rfl) ?_
            refine lv_iconst (v := 1) hx hb d_Mo_say_52 (by decide) ?_
            refine lv_ixor hx hb d_Mo_say_53 ?_
            refine lv_istore (lv' := [(5, .int (x ^^^ 1)), (0, .ref (base + adm 0 0)), (1, .int q), (2, .int x), (3, .int lt), (4, .int v)]) hx hb d_Mo_say_54 hl (by decide) rfl (fun ls hl => ?_)
            have tail : ∀ z : Int32, z = b2i (mine σ q x lt v) → ∀ (H : Heap) (locs : List Loc), va_P D classes (wl base 16 (memo ar base (up σ 0 0 1 0))) H → va_S (inB base 16) s.heap H locs → ∀ ls : Array Slot, lv_has ls 7 [(6, .int z), (5, .int (x ^^^ 1)), (0, .ref (base + adm 0 0)), (1, .int q), (2, .int x), (3, .int lt), (4, .int v)] → W p l ev (rmL 2) s m ([.ref (base + adm 0 0), .int q, .int x, .int lt, .int v] : List Value).toArray below meth c H locs 0 0 (MQX below (QO D ar base (fun k r σ' => k = 0 ∧ r = none ∧ σ' = mSay σ q x lt v)) ([.ref (base + adm 0 0), .int q, .int x, .int lt, .int v] : List Value).toArray s (rmL 2).cells (rmL 2).slots (inB base 16)) (F0 m 137 ls []) := by
              intro z hz H locs hP hS ls hl
              subst hz
              refine lv_aload_n hx hb d_Mo_say_137 rfl (lv_at hl 2 rfl) ?_
              refine lv_iload_n hx hb d_Mo_say_138 rfl (lv_at hl 4 rfl) ?_
              refine lv_iload_n hx hb d_Mo_say_139 rfl (lv_at hl 5 rfl) ?_
              refine lv_iload_n hx hb d_Mo_say_140 rfl (lv_at hl 4 rfl) ?_
              refine lv_iconst (v := 2) hx hb d_Mo_say_141 (by decide) ?_
              refine lv_irem hx hb d_Mo_say_142 (by decide) ?_
              refine ms_I C0 hP hS (ms_V C0 hP (kd := 0) (i := 0) (ci := 4) (As := [.int x, .int lt, .int (x - x / 2 * 2)]) (by decide) (by decide) rfl rfl k_ml_Mo_117 k_im_Mo_lets k_sl_Mo_Mo_lets k_cd_Mo_lets k_in_Mo z_Mo_lets rfl d_Mo_say_143) (c_Mo_lets hlt hx12 hmu (lt := lt) (sd := x - x / 2 * 2)) (fun k r σ h => h.1) ⟨rfl, rfl⟩ hl.1 d_Mo_say_143 (Nat.le_of_ble_eq_true rfl) (⟨by decide, by decide⟩) (⟨by decide, by decide⟩) (fun r_23 σ_24 H locs h_22 hP hS => ?_)
              obtain ⟨-, rfl, rfl⟩ := h_22
              refine lv_if_eq (tgt := 154) hx hb d_Mo_say_146 (by decide) (fun c_146 => ?_) (fun c_146 => ?_)
              · skip
                rw [mLets_0 c_146] at hP
                refine lv_aload_n hx hb d_Mo_say_154 rfl (lv_at hl 2 rfl) ?_
                refine lv_iconst (v := 2) hx hb d_Mo_say_155 (by decide) ?_
                refine mq_put C0 hP hS (kd := 0) (i := 0) (ci := 4) 0 1 (by decide) rfl (by decide) rfl rfl t_Mo t_Mo_ok n_Mo 16 (by decide) rfl k_fl_Mo_56 rfl (by decide +kernel) (Nat.le_of_ble_eq_true rfl) (by simp [conto, up]) d_Mo_say_156 (fun H locs hP hS => ?_)
                refine lv_goto (tgt := 196) hx hb d_Mo_say_159 (by decide) ?_
                refine lv_aload_n hx hb d_Mo_say_196 rfl (lv_at hl 2 rfl) ?_
                refine mq_get C0 hP (kd := 0) (i := 0) (ci := 4) (by decide) (by decide) rfl rfl 16 (by decide) rfl k_fl_Mo_56 rfl d_Mo_say_197 ?_
                refine W.eq (g2 := F0 m 200 ls [.int 2]) rfl ?_
                refine lv_if_le (tgt := 204) hx hb d_Mo_say_200 (by decide) (fun c_200 => ?_) (fun c_200 => ?_)
                · skip
                  exact absurd c_200 (by decide)
                · skip
                  exact mrI_v C0 hP hS (⟨by decide, by decide⟩) (⟨rfl, rfl, by unfold mSay; rw [if_pos c_7, if_pos c_17, if_pos c_27, if_pos c_47, if_pos c_146]; first | done | rfl⟩) d_Mo_say_203
              · skip
                rw [mLets_1 c_146] at hP
                refine lv_iload hx hb d_Mo_say_149 (lv_at hl 0 rfl) ?_
                refine lv_if_ne (tgt := 162) hx hb d_Mo_say_151 (by decide) (fun c_151 => ?_) (fun c_151 => ?_)
                · skip
                  have c_151 := b2i_ne.mp c_151
                  refine lv_aload_n hx hb d_Mo_say_162 rfl (lv_at hl 2 rfl) ?_
                  refine mq_get C0 hP (kd := 0) (i := 0) (ci := 4) (by decide) (by decide) rfl rfl 9 (by decide) rfl k_fl_Mo_38 rfl d_Mo_say_163 ?_
                  refine lv_iload hx hb d_Mo_say_166 (lv_at hl 1 rfl) ?_
                  refine mq_iald C0 hP (kd := 10) (i := 0) (by decide) (by decide) rfl (hy12) d_Mo_say_168 ?_
                  refine W.eq (g2 := F0 m 169 ls [.int (σ 10 0 ((x ^^^ 1).toNatClampNeg))]) rfl ?_
                  refine lv_if_ge (tgt := 180) hx hb d_Mo_say_169 (by decide) (fun c_169 => ?_) (fun c_169 => ?_)
                  · skip
                    refine lv_aload_n hx hb d_Mo_say_180 rfl (lv_at hl 2 rfl) ?_
                    refine mq_get C0 hP (kd := 0) (i := 0) (ci := 4) (by decide) (by decide) rfl rfl 11 (by decide) rfl k_fl_Mo_44 rfl d_Mo_say_181 ?_
                    refine lv_iload hx hb d_Mo_say_184 (lv_at hl 1 rfl) ?_
                    refine mq_iald C0 hP (kd := 12) (i := 0) (by decide) (by decide) rfl (hy12) d_Mo_say_186 ?_
                    refine W.eq (g2 := F0 m 187 ls [.int (σ 12 0 ((x ^^^ 1).toNatClampNeg))]) rfl ?_
                    refine lv_iconst (v := 3) hx hb d_Mo_say_187 (by decide) ?_
                    refine lv_icmp_ne (tgt := 196) hx hb d_Mo_say_188 (by decide) (fun c_188 => ?_) (fun c_188 => ?_)
                    · skip
                      have hw2 : wt < 3 := Nat.lt_of_le_of_ne hw3 (fun z => c_188 (by rw [hwt, z]; decide))
                      refine lv_aload_n hx hb d_Mo_say_196 rfl (lv_at hl 2 rfl) ?_
                      refine mq_get C0 hP (kd := 0) (i := 0) (ci := 4) (by decide) (by decide) rfl rfl 16 (by decide) rfl k_fl_Mo_56 rfl d_Mo_say_197 ?_
                      refine W.eq (g2 := F0 m 200 ls [.int 0]) rfl ?_
                      refine lv_if_le (tgt := 204) hx hb d_Mo_say_200 (by decide) (fun c_200 => ?_) (fun c_200 => ?_)
                      · skip
                        refine lv_aload_n hx hb d_Mo_say_204 rfl (lv_at hl 2 rfl) ?_
                        refine mq_get C0 hP (kd := 0) (i := 0) (ci := 4) (by decide) (by decide) rfl rfl 10 (by decide) rfl k_fl_Mo_41 rfl d_Mo_say_205 ?_
                        refine lv_iload_n hx hb d_Mo_say_208 rfl (lv_at hl 4 rfl) ?_
                        refine lv_aload_n hx hb d_Mo_say_209 rfl (lv_at hl 2 rfl) ?_
                        refine mq_get C0 hP (kd := 0) (i := 0) (ci := 4) (by decide) (by decide) rfl rfl 23 (by decide) rfl k_fl_Mo_82 rfl d_Mo_say_210 ?_
                        refine W.eq (g2 := F0 m 213 ls [.int (mNx (up σ 0 0 1 0) x lt (x - x / 2 * 2)), .int x, .ref (base + adm 11 0)]) rfl ?_
                        refine mq_iast C0 hP hS (kd := 11) (i := 0) 11 (by decide) rfl (by decide) rfl (hx12) (by rw [ast_fn]; rfl) d_Mo_say_213 (fun H locs hP hS => ?_)
                        refine lv_aload_n hx hb d_Mo_say_214 rfl (lv_at hl 2 rfl) ?_
                        refine mq_get C0 hP (kd := 0) (i := 0) (ci := 4) (by decide) (by decide) rfl rfl 12 (by decide) rfl k_fl_Mo_47 rfl d_Mo_say_215 ?_
                        refine lv_iload hx hb d_Mo_say_218 (lv_at hl 1 rfl) ?_
                        refine lv_iconst (v := 3) hx hb d_Mo_say_220 (by decide) ?_
                        refine lv_imul hx hb d_Mo_say_221 ?_
                        refine lv_aload_n hx hb d_Mo_say_222 rfl (lv_at hl 2 rfl) ?_
                        refine mq_get C0 hP (kd := 0) (i := 0) (ci := 4) (by decide) (by decide) rfl rfl 11 (by decide) rfl k_fl_Mo_44 rfl d_Mo_say_223 ?_
                        refine lv_iload hx hb d_Mo_say_226 (lv_at hl 1 rfl) ?_
                        refine mq_iald C0 hP (kd := 12) (i := 0) (by decide) (by decide) rfl (hy12) d_Mo_say_228 ?_
                        refine W.eq (g2 := F0 m 229 ls [.int (σ 12 0 ((x ^^^ 1).toNatClampNeg)), .int ((x ^^^ 1) * 3), .ref (base + adm 13 0)]) rfl ?_
                        refine lv_iadd hx hb d_Mo_say_229 ?_
                        rw [show (((x ^^^ 1) * 3) + (σ 12 0 ((x ^^^ 1).toNatClampNeg)) : Int32) = nI (3 * (x ^^^ 1).toNatClampNeg + wt) from by rw [show σ 12 0 (x ^^^ 1).toNatClampNeg = nI wt from hwt, ← ix3, ← hyb]]
                        refine lv_iload_n hx hb d_Mo_say_230 rfl (lv_at hl 5 rfl) ?_
                        refine mq_iast C0 hP hS (kd := 13) (i := 0) 13 (by decide) rfl (by decide) rfl (vin_nI (by omega)) (by rw [ast_fn]; rfl) d_Mo_say_231 (fun H locs hP hS => ?_)
                        rw [show (nI (3 * (x ^^^ 1).toNatClampNeg + wt)).toNatClampNeg = (3 * (x ^^^ 1).toNatClampNeg + wt) from nI_clamp (by omega)] at hP
                        refine lv_aload_n hx hb d_Mo_say_232 rfl (lv_at hl 2 rfl) ?_
                        refine mq_get C0 hP (kd := 0) (i := 0) (ci := 4) (by decide) (by decide) rfl rfl 13 (by decide) rfl k_fl_Mo_50 rfl d_Mo_say_233 ?_
                        refine lv_iload hx hb d_Mo_say_236 (lv_at hl 1 rfl) ?_
                        refine lv_iconst (v := 3) hx hb d_Mo_say_238 (by decide) ?_
                        refine lv_imul hx hb d_Mo_say_239 ?_
                        refine lv_aload_n hx hb d_Mo_say_240 rfl (lv_at hl 2 rfl) ?_
                        refine mq_get C0 hP (kd := 0) (i := 0) (ci := 4) (by decide) (by decide) rfl rfl 11 (by decide) rfl k_fl_Mo_44 rfl d_Mo_say_241 ?_
                        refine lv_iload hx hb d_Mo_say_244 (lv_at hl 1 rfl) ?_
                        refine mq_iald C0 hP (kd := 12) (i := 0) (by decide) (by decide) rfl (hy12) d_Mo_say_246 ?_
                        refine W.eq (g2 := F0 m 247 ls [.int (σ 12 0 ((x ^^^ 1).toNatClampNeg)), .int ((x ^^^ 1) * 3), .ref (base + adm 14 0)]) rfl ?_
                        refine lv_iadd hx hb d_Mo_say_247 ?_
                        rw [show (((x ^^^ 1) * 3) + (σ 12 0 ((x ^^^ 1).toNatClampNeg)) : Int32) = nI (3 * (x ^^^ 1).toNatClampNeg + wt) from by rw [show σ 12 0 (x ^^^ 1).toNatClampNeg = nI wt from hwt, ← ix3, ← hyb]]
                        refine lv_iload hx hb d_Mo_say_248 (lv_at hl 6 rfl) ?_
                        refine mq_iast C0 hP hS (kd := 14) (i := 0) 14 (by decide) rfl (by decide) rfl (vin_nI (by omega)) (by rw [ast_fn]; rfl) d_Mo_say_250 (fun H locs hP hS => ?_)
                        rw [show (nI (3 * (x ^^^ 1).toNatClampNeg + wt)).toNatClampNeg = (3 * (x ^^^ 1).toNatClampNeg + wt) from nI_clamp (by omega)] at hP
                        refine lv_aload_n hx hb d_Mo_say_251 rfl (lv_at hl 2 rfl) ?_
                        refine mq_get C0 hP (kd := 0) (i := 0) (ci := 4) (by decide) (by decide) rfl rfl 11 (by decide) rfl k_fl_Mo_44 rfl d_Mo_say_252 ?_
                        refine lv_iload hx hb d_Mo_say_255 (lv_at hl 1 rfl) ?_
                        refine lv_dup2_11 hx hb d_Mo_say_257 rfl rfl ?_
                        refine mq_iald C0 hP (kd := 12) (i := 0) (by decide) (by decide) rfl (hy12) d_Mo_say_258 ?_
                        refine W.eq (g2 := F0 m 259 ls [.int (σ 12 0 ((x ^^^ 1).toNatClampNeg)), .int (x ^^^ 1), .ref (base + adm 12 0)]) rfl ?_
                        refine lv_iconst (v := 1) hx hb d_Mo_say_259 (by decide) ?_
                        refine lv_iadd hx hb d_Mo_say_260 ?_
                        refine W.eq (g2 := F0 m 261 ls [.int (nI (wt + 1)), .int (x ^^^ 1), .ref (base + adm 12 0)]) (by rw [← nI_1, ← hwt]; first | done | rfl) ?_
                        refine mq_iast C0 hP hS (kd := 12) (i := 0) 12 (by decide) rfl (by decide) rfl (hy12) (by rw [ast_fn]; rfl) d_Mo_say_261 (fun H locs hP hS => ?_)
                        refine lv_iload_n hx hb d_Mo_say_262 rfl (lv_at hl 5 rfl) ?_
                        refine lv_bipush (v := 6) hx hb d_Mo_say_263 (by decide) ?_
                        refine lv_icmp_ne (tgt := 279) hx hb d_Mo_say_265 (by decide) (fun c_265 => ?_) (fun c_265 => ?_)
                        · skip
                          refine lv_iload_n hx hb d_Mo_say_279 rfl (lv_at hl 5 rfl) ?_
                          refine lv_iconst (v := 2) hx hb d_Mo_say_280 (by decide) ?_
                          refine lv_icmp_le (tgt := 292) hx hb d_Mo_say_281 (by decide) (fun c_281 => ?_) (fun c_281 => ?_)
                          · skip
                            refine lv_aload_n hx hb d_Mo_say_292 rfl (lv_at hl 2 rfl) ?_
                            refine lv_dup hx hb d_Mo_say_293 rfl ?_
                            refine mq_get C0 hP (kd := 0) (i := 0) (ci := 4) (by decide) (by decide) rfl rfl 17 (by decide) rfl k_fl_Mo_120 rfl d_Mo_say_294 ?_
                            refine W.eq (g2 := F0 m 297 ls [.int (σ 0 0 2), .ref (base + adm 0 0)]) rfl ?_
                            refine lv_iconst (v := 1) hx hb d_Mo_say_297 (by decide) ?_
                            refine lv_iadd hx hb d_Mo_say_298 ?_
                            refine mq_put C0 hP hS (kd := 0) (i := 0) (ci := 4) 0 2 (by decide) rfl (by decide) rfl rfl t_Mo t_Mo_ok n_Mo 17 (by decide) rfl k_fl_Mo_120 rfl (by decide +kernel) (Nat.le_of_ble_eq_true rfl) (by simp [conto, up]) d_Mo_say_299 (fun H locs hP hS => ?_)
                            exact mrI_v C0 hP hS (⟨by decide, by decide⟩) (⟨rfl, rfl, by unfold mSay; rw [if_pos c_7, if_pos c_17, if_pos c_27, if_pos c_47, if_neg c_146, if_pos c_151, if_pos c_169, if_neg c_188]; unfold mSayM mGive mSay3; rw [hmw, if_neg c_265, if_pos c_281]; first | done | rfl⟩) d_Mo_say_302
                          · skip
                            refine lv_aload_n hx hb d_Mo_say_284 rfl (lv_at hl 2 rfl) ?_
                            refine mq_get C0 hP (kd := 0) (i := 0) (ci := 4) (by decide) (by decide) rfl rfl 6 (by decide) rfl k_fl_Mo_29 rfl d_Mo_say_285 ?_
                            refine lv_iload hx hb d_Mo_say_288 (lv_at hl 6 rfl) ?_
                            refine lv_iconst (v := 4) hx hb d_Mo_say_290 (by decide) ?_
                            refine mq_iast C0 hP hS (kd := 7) (i := 0) 7 (by decide) rfl (by decide) rfl (mine_v c_151 c_281) (by rw [ast_fn]; rfl) d_Mo_say_291 (fun H locs hP hS => ?_)
                            refine lv_aload_n hx hb d_Mo_say_292 rfl (lv_at hl 2 rfl) ?_
                            refine lv_dup hx hb d_Mo_say_293 rfl ?_
                            refine mq_get C0 hP (kd := 0) (i := 0) (ci := 4) (by decide) (by decide) rfl rfl 17 (by decide) rfl k_fl_Mo_120 rfl d_Mo_say_294 ?_
                            refine W.eq (g2 := F0 m 297 ls [.int (σ 0 0 2), .ref (base + adm 0 0)]) rfl ?_
                            refine lv_iconst (v := 1) hx hb d_Mo_say_297 (by decide) ?_
                            refine lv_iadd hx hb d_Mo_say_298 ?_
                            refine mq_put C0 hP hS (kd := 0) (i := 0) (ci := 4) 0 2 (by decide) rfl (by decide) rfl rfl t_Mo t_Mo_ok n_Mo 17 (by decide) rfl k_fl_Mo_120 rfl (by decide +kernel) (Nat.le_of_ble_eq_true rfl) (by simp [conto, up]) d_Mo_say_299 (fun H locs hP hS => ?_)
                            exact mrI_v C0 hP hS (⟨by decide, by decide⟩) (⟨rfl, rfl, by unfold mSay; rw [if_pos c_7, if_pos c_17, if_pos c_27, if_pos c_47, if_neg c_146, if_pos c_151, if_pos c_169, if_neg c_188]; unfold mSayM mGive mSay3; rw [hmw, if_neg c_265, if_neg c_281]; first | done | rfl⟩) d_Mo_say_302
                        · skip
                          refine lv_aload_n hx hb d_Mo_say_268 rfl (lv_at hl 2 rfl) ?_
                          refine mq_get C0 hP (kd := 0) (i := 0) (ci := 4) (by decide) (by decide) rfl rfl 9 (by decide) rfl k_fl_Mo_38 rfl d_Mo_say_269 ?_
                          refine lv_iload hx hb d_Mo_say_272 (lv_at hl 6 rfl) ?_
                          refine lv_iconst (v := 4) hx hb d_Mo_say_274 (by decide) ?_
                          refine mq_iast C0 hP hS (kd := 10) (i := 0) 10 (by decide) rfl (by decide) rfl (mine_v c_151 (by rw [c_265]; decide)) (by rw [ast_fn]; rfl) d_Mo_say_275 (fun H locs hP hS => ?_)
                          refine lv_goto (tgt := 292) hx hb d_Mo_say_276 (by decide) ?_
                          refine lv_aload_n hx hb d_Mo_say_292 rfl (lv_at hl 2 rfl) ?_
                          refine lv_dup hx hb d_Mo_say_293 rfl ?_
                          refine mq_get C0 hP (kd := 0) (i := 0) (ci := 4) (by decide) (by decide) rfl rfl 17 (by decide) rfl k_fl_Mo_120 rfl d_Mo_say_294 ?_
                          refine W.eq (g2 := F0 m 297 ls [.int (σ 0 0 2), .ref (base + adm 0 0)]) rfl ?_
                          refine lv_iconst (v := 1) hx hb d_Mo_say_297 (by decide) ?_
                          refine lv_iadd hx hb d_Mo_say_298 ?_
                          refine mq_put C0 hP hS (kd := 0) (i := 0) (ci := 4) 0 2 (by decide) rfl (by decide) rfl rfl t_Mo t_Mo_ok n_Mo 17 (by decide) rfl k_fl_Mo_120 rfl (by decide +kernel) (Nat.le_of_ble_eq_true rfl) (by simp [conto, up]) d_Mo_say_299 (fun H locs hP hS => ?_)
                          exact mrI_v C0 hP hS (⟨by decide, by decide⟩) (⟨rfl, rfl, by unfold mSay; rw [if_pos c_7, if_pos c_17, if_pos c_27, if_pos c_47, if_neg c_146, if_pos c_151, if_pos c_169, if_neg c_188]; unfold mSayM mGive mSay3; rw [hmw, if_pos c_265]; first | done | rfl⟩) d_Mo_say_302
                      · skip
                        exact absurd (by decide) c_200
                    · skip
                      refine lv_aload_n hx hb d_Mo_say_191 rfl (lv_at hl 2 rfl) ?_
                      refine lv_iconst (v := 2) hx hb d_Mo_say_192 (by decide) ?_
                      refine mq_put C0 hP hS (kd := 0) (i := 0) (ci := 4) 0 1 (by decide) rfl (by decide) rfl rfl t_Mo t_Mo_ok n_Mo 16 (by decide) rfl k_fl_Mo_56 rfl (by decide +kernel) (Nat.le_of_ble_eq_true rfl) (by simp [conto, up]) d_Mo_say_193 (fun H locs hP hS => ?_)
                      refine lv_aload_n hx hb d_Mo_say_196 rfl (lv_at hl 2 rfl) ?_
                      refine mq_get C0 hP (kd := 0) (i := 0) (ci := 4) (by decide) (by decide) rfl rfl 16 (by decide) rfl k_fl_Mo_56 rfl d_Mo_say_197 ?_
                      refine W.eq (g2 := F0 m 200 ls [.int 2]) rfl ?_
                      refine lv_if_le (tgt := 204) hx hb d_Mo_say_200 (by decide) (fun c_200 => ?_) (fun c_200 => ?_)
                      · skip
                        exact absurd c_200 (by decide)
                      · skip
                        exact mrI_v C0 hP hS (⟨by decide, by decide⟩) (⟨rfl, rfl, by unfold mSay; rw [if_pos c_7, if_pos c_17, if_pos c_27, if_pos c_47, if_neg c_146, if_pos c_151, if_pos c_169, if_pos c_188]; first | done | rfl⟩) d_Mo_say_203
                  · skip
                    refine lv_aload_n hx hb d_Mo_say_172 rfl (lv_at hl 2 rfl) ?_
                    refine lv_iconst (v := 3) hx hb d_Mo_say_173 (by decide) ?_
                    refine mq_put C0 hP hS (kd := 0) (i := 0) (ci := 4) 0 1 (by decide) rfl (by decide) rfl rfl t_Mo t_Mo_ok n_Mo 16 (by decide) rfl k_fl_Mo_56 rfl (by decide +kernel) (Nat.le_of_ble_eq_true rfl) (by simp [conto, up]) d_Mo_say_174 (fun H locs hP hS => ?_)
                    refine lv_goto (tgt := 196) hx hb d_Mo_say_177 (by decide) ?_
                    refine lv_aload_n hx hb d_Mo_say_196 rfl (lv_at hl 2 rfl) ?_
                    refine mq_get C0 hP (kd := 0) (i := 0) (ci := 4) (by decide) (by decide) rfl rfl 16 (by decide) rfl k_fl_Mo_56 rfl d_Mo_say_197 ?_
                    refine W.eq (g2 := F0 m 200 ls [.int 3]) rfl ?_
                    refine lv_if_le (tgt := 204) hx hb d_Mo_say_200 (by decide) (fun c_200 => ?_) (fun c_200 => ?_)
                    · skip
                      exact absurd c_200 (by decide)
                    · skip
                      exact mrI_v C0 hP hS (⟨by decide, by decide⟩) (⟨rfl, rfl, by unfold mSay; rw [if_pos c_7, if_pos c_17, if_pos c_27, if_pos c_47, if_neg c_146, if_pos c_151, if_neg c_169]; first | done | rfl⟩) d_Mo_say_203
                · skip
                  have c_151 := b2i_z.mp c_151
                  refine lv_aload_n hx hb d_Mo_say_154 rfl (lv_at hl 2 rfl) ?_
                  refine lv_iconst (v := 2) hx hb d_Mo_say_155 (by decide) ?_
                  refine mq_put C0 hP hS (kd := 0) (i := 0) (ci := 4) 0 1 (by decide) rfl (by decide) rfl rfl t_Mo t_Mo_ok n_Mo 16 (by decide) rfl k_fl_Mo_56 rfl (by decide +kernel) (Nat.le_of_ble_eq_true rfl) (by simp [conto, up]) d_Mo_say_156 (fun H locs hP hS => ?_)
                  refine lv_goto (tgt := 196) hx hb d_Mo_say_159 (by decide) ?_
                  refine lv_aload_n hx hb d_Mo_say_196 rfl (lv_at hl 2 rfl) ?_
                  refine mq_get C0 hP (kd := 0) (i := 0) (ci := 4) (by decide) (by decide) rfl rfl 16 (by decide) rfl k_fl_Mo_56 rfl d_Mo_say_197 ?_
                  refine W.eq (g2 := F0 m 200 ls [.int 2]) rfl ?_
                  refine lv_if_le (tgt := 204) hx hb d_Mo_say_200 (by decide) (fun c_200 => ?_) (fun c_200 => ?_)
                  · skip
                    exact absurd c_200 (by decide)
                  · skip
                    exact mrI_v C0 hP hS (⟨by decide, by decide⟩) (⟨rfl, rfl, by unfold mSay; rw [if_pos c_7, if_pos c_17, if_pos c_27, if_pos c_47, if_neg c_146, if_neg c_151]; first | done | rfl⟩) d_Mo_say_203
            refine lv_iload_n hx hb d_Mo_say_56 rfl (lv_at hl 4 rfl) ?_
            refine lv_iconst (v := 3) hx hb d_Mo_say_57 (by decide) ?_
            refine lv_icmp_lt (tgt := 130) hx hb d_Mo_say_58 (by decide) (fun c_58 => ?_) (fun c_58 => ?_)
            · skip
              refine lv_iconst (v := 1) hx hb d_Mo_say_130 (by decide) ?_
              refine lv_goto (tgt := 135) hx hb d_Mo_say_131 (by decide) ?_
              refine lv_istore (lv' := [(6, .int 1), (5, .int (x ^^^ 1)), (0, .ref (base + adm 0 0)), (1, .int q), (2, .int x), (3, .int lt), (4, .int v)]) hx hb d_Mo_say_135 hl (by decide) rfl (fun ls hl => ?_)
              exact tail 1 ((b2i_t (Or.inl c_58)).symm) _ _ hP hS ls (lv_sub hl [0, 1, 2, 3, 4, 5, 6] rfl)
            · skip
              refine lv_iload_n hx hb d_Mo_say_61 rfl (lv_at hl 4 rfl) ?_
              refine lv_bipush (v := 6) hx hb d_Mo_say_62 (by decide) ?_
              refine lv_icmp_ge (tgt := 89) hx hb d_Mo_say_64 (by decide) (fun c_64 => ?_) (fun c_64 => ?_)
              · skip
                refine lv_iload_n hx hb d_Mo_say_89 rfl (lv_at hl 4 rfl) ?_
                refine lv_bipush (v := 6) hx hb d_Mo_say_90 (by decide) ?_
                refine lv_icmp_ne (tgt := 134) hx hb d_Mo_say_92 (by decide) (fun c_92 => ?_) (fun c_92 => ?_)
                · skip
                  refine lv_iconst (v := 0) hx hb d_Mo_say_134 (by decide) ?_
                  refine lv_istore (lv' := [(6, .int 0), (5, .int (x ^^^ 1)), (0, .ref (base + adm 0 0)), (1, .int q), (2, .int x), (3, .int lt), (4, .int v)]) hx hb d_Mo_say_135 hl (by decide) rfl (fun ls hl => ?_)
                  exact tail 0 ((b2i_f (fun z => z.elim c_58 (fun z => z.elim (fun z => z.1 c_64) (fun z => c_92 z.1)))).symm) _ _ hP hS ls (lv_sub hl [0, 1, 2, 3, 4, 5, 6] rfl)
                · skip
                  refine lv_iload hx hb d_Mo_say_95 (lv_at hl 5 rfl) ?_
                  refine lv_iconst (v := 0) hx hb d_Mo_say_97 (by decide) ?_
                  refine lv_bipush (v := 11) hx hb d_Mo_say_98 (by decide) ?_
                  refine ms_P C0 hP hS (cs_S C0 (As := [.int v, .int 0, .int 11]) k_ml_Mo_60 k_st_Mo_in k_cd_Mo_in k_in_Mo z_Mo_in rfl d_Mo_say_100) (c_Mo_in hlt) hl.1 d_Mo_say_100 (Nat.le_of_ble_eq_true rfl) (⟨by decide, by decide⟩) (⟨by decide, by decide⟩) (fun k r x t hk hp => absurd hp.1 hk) (fun r_26 h_25 => ?_)
                  obtain ⟨-, rfl⟩ := h_25
                  refine lv_if_eq (tgt := 134) hx hb d_Mo_say_103 (by decide) (fun c_103 => ?_) (fun c_103 => ?_)
                  · skip
                    have c_103 := b2i_z.mp c_103
                    refine lv_iconst (v := 0) hx hb d_Mo_say_134 (by decide) ?_
                    refine lv_istore (lv' := [(6, .int 0), (5, .int (x ^^^ 1)), (0, .ref (base + adm 0 0)), (1, .int q), (2, .int x), (3, .int lt), (4, .int v)]) hx hb d_Mo_say_135 hl (by decide) rfl (fun ls hl => ?_)
                    exact tail 0 ((b2i_f (fun z => z.elim c_58 (fun z => z.elim (fun z => z.1 c_64) (fun z => c_103 z.2.1)))).symm) _ _ hP hS ls (lv_sub hl [0, 1, 2, 3, 4, 5, 6] rfl)
                  · skip
                    have c_103 := b2i_ne.mp c_103
                    refine lv_aload_n hx hb d_Mo_say_106 rfl (lv_at hl 1 rfl) ?_
                    refine mq_get C0 hP (kd := 0) (i := 0) (ci := 4) (by decide) (by decide) rfl rfl 9 (by decide) rfl k_fl_Mo_38 rfl d_Mo_say_107 ?_
                    refine lv_iload hx hb d_Mo_say_110 (lv_at hl 5 rfl) ?_
                    refine mq_iald C0 hP (kd := 10) (i := 0) (by decide) (by decide) rfl (vin_R c_103) d_Mo_say_112 ?_
                    refine W.eq (g2 := F0 m 113 ls [.int (σ 10 0 v.toNatClampNeg)]) rfl ?_
                    refine lv_iload_n hx hb d_Mo_say_113 rfl (lv_at hl 2 rfl) ?_
                    refine lv_icmp_ne (tgt := 134) hx hb d_Mo_say_114 (by decide) (fun c_114 => ?_) (fun c_114 => ?_)
                    · skip
                      refine lv_iconst (v := 0) hx hb d_Mo_say_134 (by decide) ?_
                      refine lv_istore (lv' := [(6, .int 0), (5, .int (x ^^^ 1)), (0, .ref (base + adm 0 0)), (1, .int q), (2, .int x), (3, .int lt), (4, .int v)]) hx hb d_Mo_say_135 hl (by decide) rfl (fun ls hl => ?_)
                      exact tail 0 ((b2i_f (fun z => z.elim c_58 (fun z => z.elim (fun z => z.1 c_64) (fun z => c_114 z.2.2.1)))).symm) _ _ hP hS ls (lv_sub hl [0, 1, 2, 3, 4, 5, 6] rfl)
                    · skip
                      refine lv_iload hx hb d_Mo_say_117 (lv_at hl 5 rfl) ?_
                      refine lv_iload_n hx hb d_Mo_say_119 rfl (lv_at hl 3 rfl) ?_
                      refine lv_icmp_eq (tgt := 134) hx hb d_Mo_say_120 (by decide) (fun c_120 => ?_) (fun c_120 => ?_)
                      · skip
                        refine lv_iconst (v := 0) hx hb d_Mo_say_134 (by decide) ?_
                        refine lv_istore (lv' := [(6, .int 0), (5, .int (x ^^^ 1)), (0, .ref (base + adm 0 0)), (1, .int q), (2, .int x), (3, .int lt), (4, .int v)]) hx hb d_Mo_say_135 hl (by decide) rfl (fun ls hl => ?_)
                        exact tail 0 ((b2i_f (fun z => z.elim c_58 (fun z => z.elim (fun z => z.1 c_64) (fun z => z.2.2.2.1 c_120)))).symm) _ _ hP hS ls (lv_sub hl [0, 1, 2, 3, 4, 5, 6] rfl)
                      · skip
                        refine lv_iload hx hb d_Mo_say_123 (lv_at hl 5 rfl) ?_
                        refine lv_iload hx hb d_Mo_say_125 (lv_at hl 0 rfl) ?_
                        refine lv_icmp_eq (tgt := 134) hx hb d_Mo_say_127 (by decide) (fun c_127 => ?_) (fun c_127 => ?_)
                        · skip
                          refine lv_iconst (v := 0) hx hb d_Mo_say_134 (by decide) ?_
                          refine lv_istore (lv' := [(6, .int 0), (5, .int (x ^^^ 1)), (0, .ref (base + adm 0 0)), (1, .int q), (2, .int x), (3, .int lt), (4, .int v)]) hx hb d_Mo_say_135 hl (by decide) rfl (fun ls hl => ?_)
                          exact tail 0 ((b2i_f (fun z => z.elim c_58 (fun z => z.elim (fun z => z.1 c_64) (fun z => z.2.2.2.2 c_127)))).symm) _ _ hP hS ls (lv_sub hl [0, 1, 2, 3, 4, 5, 6] rfl)
                        · skip
                          refine lv_iconst (v := 1) hx hb d_Mo_say_130 (by decide) ?_
                          refine lv_goto (tgt := 135) hx hb d_Mo_say_131 (by decide) ?_
                          refine lv_istore (lv' := [(6, .int 1), (5, .int (x ^^^ 1)), (0, .ref (base + adm 0 0)), (1, .int q), (2, .int x), (3, .int lt), (4, .int v)]) hx hb d_Mo_say_135 hl (by decide) rfl (fun ls hl => ?_)
                          exact tail 1 ((b2i_t (Or.inr (Or.inr ⟨c_92, c_103, c_114, c_120, c_127⟩))).symm) _ _ hP hS ls (lv_sub hl [0, 1, 2, 3, 4, 5, 6] rfl)
              · skip
                refine lv_iload hx hb d_Mo_say_67 (lv_at hl 5 rfl) ?_
                refine lv_iconst (v := 0) hx hb d_Mo_say_69 (by decide) ?_
                refine lv_bipush (v := 11) hx hb d_Mo_say_70 (by decide) ?_
                refine ms_P C0 hP hS (cs_S C0 (As := [.int v, .int 0, .int 11]) k_ml_Mo_60 k_st_Mo_in k_cd_Mo_in k_in_Mo z_Mo_in rfl d_Mo_say_72) (c_Mo_in hlt) hl.1 d_Mo_say_72 (Nat.le_of_ble_eq_true rfl) (⟨by decide, by decide⟩) (⟨by decide, by decide⟩) (fun k r x t hk hp => absurd hp.1 hk) (fun r_28 h_27 => ?_)
                obtain ⟨-, rfl⟩ := h_27
                refine lv_if_eq (tgt := 89) hx hb d_Mo_say_75 (by decide) (fun c_75 => ?_) (fun c_75 => ?_)
                · skip
                  have c_75 := b2i_z.mp c_75
                  refine lv_iload_n hx hb d_Mo_say_89 rfl (lv_at hl 4 rfl) ?_
                  refine lv_bipush (v := 6) hx hb d_Mo_say_90 (by decide) ?_
                  refine lv_icmp_ne (tgt := 134) hx hb d_Mo_say_92 (by decide) (fun c_92 => ?_) (fun c_92 => ?_)
                  · skip
                    refine lv_iconst (v := 0) hx hb d_Mo_say_134 (by decide) ?_
                    refine lv_istore (lv' := [(6, .int 0), (5, .int (x ^^^ 1)), (0, .ref (base + adm 0 0)), (1, .int q), (2, .int x), (3, .int lt), (4, .int v)]) hx hb d_Mo_say_135 hl (by decide) rfl (fun ls hl => ?_)
                    exact tail 0 ((b2i_f (fun z => z.elim c_58 (fun z => z.elim (fun z => c_75 z.2.1) (fun z => c_92 z.1)))).symm) _ _ hP hS ls (lv_sub hl [0, 1, 2, 3, 4, 5, 6] rfl)
                  · skip
                    refine lv_iload hx hb d_Mo_say_95 (lv_at hl 5 rfl) ?_
                    refine lv_iconst (v := 0) hx hb d_Mo_say_97 (by decide) ?_
                    refine lv_bipush (v := 11) hx hb d_Mo_say_98 (by decide) ?_
                    refine ms_P C0 hP hS (cs_S C0 (As := [.int v, .int 0, .int 11]) k_ml_Mo_60 k_st_Mo_in k_cd_Mo_in k_in_Mo z_Mo_in rfl d_Mo_say_100) (c_Mo_in hlt) hl.1 d_Mo_say_100 (Nat.le_of_ble_eq_true rfl) (⟨by decide, by decide⟩) (⟨by decide, by decide⟩) (fun k r x t hk hp => absurd hp.1 hk) (fun r_30 h_29 => ?_)
                    obtain ⟨-, rfl⟩ := h_29
                    refine lv_if_eq (tgt := 134) hx hb d_Mo_say_103 (by decide) (fun c_103 => ?_) (fun c_103 => ?_)
                    · skip
                      have c_103 := b2i_z.mp c_103
                      refine lv_iconst (v := 0) hx hb d_Mo_say_134 (by decide) ?_
                      refine lv_istore (lv' := [(6, .int 0), (5, .int (x ^^^ 1)), (0, .ref (base + adm 0 0)), (1, .int q), (2, .int x), (3, .int lt), (4, .int v)]) hx hb d_Mo_say_135 hl (by decide) rfl (fun ls hl => ?_)
                      exact tail 0 ((b2i_f (fun z => z.elim c_58 (fun z => z.elim (fun z => c_75 z.2.1) (fun z => c_103 z.2.1)))).symm) _ _ hP hS ls (lv_sub hl [0, 1, 2, 3, 4, 5, 6] rfl)
                    · skip
                      have c_103 := b2i_ne.mp c_103
                      refine lv_aload_n hx hb d_Mo_say_106 rfl (lv_at hl 1 rfl) ?_
                      refine mq_get C0 hP (kd := 0) (i := 0) (ci := 4) (by decide) (by decide) rfl rfl 9 (by decide) rfl k_fl_Mo_38 rfl d_Mo_say_107 ?_
                      refine lv_iload hx hb d_Mo_say_110 (lv_at hl 5 rfl) ?_
                      refine mq_iald C0 hP (kd := 10) (i := 0) (by decide) (by decide) rfl (vin_R c_103) d_Mo_say_112 ?_
                      refine W.eq (g2 := F0 m 113 ls [.int (σ 10 0 v.toNatClampNeg)]) rfl ?_
                      refine lv_iload_n hx hb d_Mo_say_113 rfl (lv_at hl 2 rfl) ?_
                      refine lv_icmp_ne (tgt := 134) hx hb d_Mo_say_114 (by decide) (fun c_114 => ?_) (fun c_114 => ?_)
                      · skip
                        refine lv_iconst (v := 0) hx hb d_Mo_say_134 (by decide) ?_
                        refine lv_istore (lv' := [(6, .int 0), (5, .int (x ^^^ 1)), (0, .ref (base + adm 0 0)), (1, .int q), (2, .int x), (3, .int lt), (4, .int v)]) hx hb d_Mo_say_135 hl (by decide) rfl (fun ls hl => ?_)
                        exact tail 0 ((b2i_f (fun z => z.elim c_58 (fun z => z.elim (fun z => c_75 z.2.1) (fun z => c_114 z.2.2.1)))).symm) _ _ hP hS ls (lv_sub hl [0, 1, 2, 3, 4, 5, 6] rfl)
                      · skip
                        refine lv_iload hx hb d_Mo_say_117 (lv_at hl 5 rfl) ?_
                        refine lv_iload_n hx hb d_Mo_say_119 rfl (lv_at hl 3 rfl) ?_
                        refine lv_icmp_eq (tgt := 134) hx hb d_Mo_say_120 (by decide) (fun c_120 => ?_) (fun c_120 => ?_)
                        · skip
                          refine lv_iconst (v := 0) hx hb d_Mo_say_134 (by decide) ?_
                          refine lv_istore (lv' := [(6, .int 0), (5, .int (x ^^^ 1)), (0, .ref (base + adm 0 0)), (1, .int q), (2, .int x), (3, .int lt), (4, .int v)]) hx hb d_Mo_say_135 hl (by decide) rfl (fun ls hl => ?_)
                          exact tail 0 ((b2i_f (fun z => z.elim c_58 (fun z => z.elim (fun z => c_75 z.2.1) (fun z => z.2.2.2.1 c_120)))).symm) _ _ hP hS ls (lv_sub hl [0, 1, 2, 3, 4, 5, 6] rfl)
                        · skip
                          refine lv_iload hx hb d_Mo_say_123 (lv_at hl 5 rfl) ?_
                          refine lv_iload hx hb d_Mo_say_125 (lv_at hl 0 rfl) ?_
                          refine lv_icmp_eq (tgt := 134) hx hb d_Mo_say_127 (by decide) (fun c_127 => ?_) (fun c_127 => ?_)
                          · skip
                            refine lv_iconst (v := 0) hx hb d_Mo_say_134 (by decide) ?_
                            refine lv_istore (lv' := [(6, .int 0), (5, .int (x ^^^ 1)), (0, .ref (base + adm 0 0)), (1, .int q), (2, .int x), (3, .int lt), (4, .int v)]) hx hb d_Mo_say_135 hl (by decide) rfl (fun ls hl => ?_)
                            exact tail 0 ((b2i_f (fun z => z.elim c_58 (fun z => z.elim (fun z => c_75 z.2.1) (fun z => z.2.2.2.2 c_127)))).symm) _ _ hP hS ls (lv_sub hl [0, 1, 2, 3, 4, 5, 6] rfl)
                          · skip
                            refine lv_iconst (v := 1) hx hb d_Mo_say_130 (by decide) ?_
                            refine lv_goto (tgt := 135) hx hb d_Mo_say_131 (by decide) ?_
                            refine lv_istore (lv' := [(6, .int 1), (5, .int (x ^^^ 1)), (0, .ref (base + adm 0 0)), (1, .int q), (2, .int x), (3, .int lt), (4, .int v)]) hx hb d_Mo_say_135 hl (by decide) rfl (fun ls hl => ?_)
                            exact tail 1 ((b2i_t (Or.inr (Or.inr ⟨c_92, c_103, c_114, c_120, c_127⟩))).symm) _ _ hP hS ls (lv_sub hl [0, 1, 2, 3, 4, 5, 6] rfl)
                · skip
                  have c_75 := b2i_ne.mp c_75
                  refine lv_aload_n hx hb d_Mo_say_78 rfl (lv_at hl 1 rfl) ?_
                  refine mq_get C0 hP (kd := 0) (i := 0) (ci := 4) (by decide) (by decide) rfl rfl 6 (by decide) rfl k_fl_Mo_29 rfl d_Mo_say_79 ?_
                  refine lv_iload hx hb d_Mo_say_82 (lv_at hl 5 rfl) ?_
                  refine mq_iald C0 hP (kd := 7) (i := 0) (by decide) (by decide) rfl (vin_R c_75) d_Mo_say_84 ?_
                  refine W.eq (g2 := F0 m 85 ls [.int (σ 7 0 v.toNatClampNeg)]) rfl ?_
                  refine lv_iload_n hx hb d_Mo_say_85 rfl (lv_at hl 2 rfl) ?_
                  refine lv_icmp_eq (tgt := 130) hx hb d_Mo_say_86 (by decide) (fun c_86 => ?_) (fun c_86 => ?_)
                  · skip
                    refine lv_iconst (v := 1) hx hb d_Mo_say_130 (by decide) ?_
                    refine lv_goto (tgt := 135) hx hb d_Mo_say_131 (by decide) ?_
                    refine lv_istore (lv' := [(6, .int 1), (5, .int (x ^^^ 1)), (0, .ref (base + adm 0 0)), (1, .int q), (2, .int x), (3, .int lt), (4, .int v)]) hx hb d_Mo_say_135 hl (by decide) rfl (fun ls hl => ?_)
                    exact tail 1 ((b2i_t (Or.inr (Or.inl ⟨c_64, c_75, c_86⟩))).symm) _ _ hP hS ls (lv_sub hl [0, 1, 2, 3, 4, 5, 6] rfl)
                  · skip
                    refine lv_iload_n hx hb d_Mo_say_89 rfl (lv_at hl 4 rfl) ?_
                    refine lv_bipush (v := 6) hx hb d_Mo_say_90 (by decide) ?_
                    refine lv_icmp_ne (tgt := 134) hx hb d_Mo_say_92 (by decide) (fun c_92 => ?_) (fun c_92 => ?_)
                    · skip
                      refine lv_iconst (v := 0) hx hb d_Mo_say_134 (by decide) ?_
                      refine lv_istore (lv' := [(6, .int 0), (5, .int (x ^^^ 1)), (0, .ref (base + adm 0 0)), (1, .int q), (2, .int x), (3, .int lt), (4, .int v)]) hx hb d_Mo_say_135 hl (by decide) rfl (fun ls hl => ?_)
                      exact tail 0 ((b2i_f (fun z => z.elim c_58 (fun z => z.elim (fun z => c_86 z.2.2) (fun z => c_92 z.1)))).symm) _ _ hP hS ls (lv_sub hl [0, 1, 2, 3, 4, 5, 6] rfl)
                    · skip
                      refine lv_iload hx hb d_Mo_say_95 (lv_at hl 5 rfl) ?_
                      refine lv_iconst (v := 0) hx hb d_Mo_say_97 (by decide) ?_
                      refine lv_bipush (v := 11) hx hb d_Mo_say_98 (by decide) ?_
                      refine ms_P C0 hP hS (cs_S C0 (As := [.int v, .int 0, .int 11]) k_ml_Mo_60 k_st_Mo_in k_cd_Mo_in k_in_Mo z_Mo_in rfl d_Mo_say_100) (c_Mo_in hlt) hl.1 d_Mo_say_100 (Nat.le_of_ble_eq_true rfl) (⟨by decide, by decide⟩) (⟨by decide, by decide⟩) (fun k r x t hk hp => absurd hp.1 hk) (fun r_32 h_31 => ?_)
                      obtain ⟨-, rfl⟩ := h_31
                      refine lv_if_eq (tgt := 134) hx hb d_Mo_say_103 (by decide) (fun c_103 => ?_) (fun c_103 => ?_)
                      · skip
                        have c_103 := b2i_z.mp c_103
                        refine lv_iconst (v := 0) hx hb d_Mo_say_134 (by decide) ?_
                        refine lv_istore (lv' := [(6, .int 0), (5, .int (x ^^^ 1)), (0, .ref (base + adm 0 0)), (1, .int q), (2, .int x), (3, .int lt), (4, .int v)]) hx hb d_Mo_say_135 hl (by decide) rfl (fun ls hl => ?_)
                        exact tail 0 ((b2i_f (fun z => z.elim c_58 (fun z => z.elim (fun z => c_86 z.2.2) (fun z => c_103 z.2.1)))).symm) _ _ hP hS ls (lv_sub hl [0, 1, 2, 3, 4, 5, 6] rfl)
                      · skip
                        have c_103 := b2i_ne.mp c_103
                        refine lv_aload_n hx hb d_Mo_say_106 rfl (lv_at hl 1 rfl) ?_
                        refine mq_get C0 hP (kd := 0) (i := 0) (ci := 4) (by decide) (by decide) rfl rfl 9 (by decide) rfl k_fl_Mo_38 rfl d_Mo_say_107 ?_
                        refine lv_iload hx hb d_Mo_say_110 (lv_at hl 5 rfl) ?_
                        refine mq_iald C0 hP (kd := 10) (i := 0) (by decide) (by decide) rfl (vin_R c_103) d_Mo_say_112 ?_
                        refine W.eq (g2 := F0 m 113 ls [.int (σ 10 0 v.toNatClampNeg)]) rfl ?_
                        refine lv_iload_n hx hb d_Mo_say_113 rfl (lv_at hl 2 rfl) ?_
                        refine lv_icmp_ne (tgt := 134) hx hb d_Mo_say_114 (by decide) (fun c_114 => ?_) (fun c_114 => ?_)
                        · skip
                          refine lv_iconst (v := 0) hx hb d_Mo_say_134 (by decide) ?_
                          refine lv_istore (lv' := [(6, .int 0), (5, .int (x ^^^ 1)), (0, .ref (base + adm 0 0)), (1, .int q), (2, .int x), (3, .int lt), (4, .int v)]) hx hb d_Mo_say_135 hl (by decide) rfl (fun ls hl => ?_)
                          exact tail 0 ((b2i_f (fun z => z.elim c_58 (fun z => z.elim (fun z => c_86 z.2.2) (fun z => c_114 z.2.2.1)))).symm) _ _ hP hS ls (lv_sub hl [0, 1, 2, 3, 4, 5, 6] rfl)
                        · skip
                          refine lv_iload hx hb d_Mo_say_117 (lv_at hl 5 rfl) ?_
                          refine lv_iload_n hx hb d_Mo_say_119 rfl (lv_at hl 3 rfl) ?_
                          refine lv_icmp_eq (tgt := 134) hx hb d_Mo_say_120 (by decide) (fun c_120 => ?_) (fun c_120 => ?_)
                          · skip
                            refine lv_iconst (v := 0) hx hb d_Mo_say_134 (by decide) ?_
                            refine lv_istore (lv' := [(6, .int 0), (5, .int (x ^^^ 1)), (0, .ref (base + adm 0 0)), (1, .int q), (2, .int x), (3, .int lt), (4, .int v)]) hx hb d_Mo_say_135 hl (by decide) rfl (fun ls hl => ?_)
                            exact tail 0 ((b2i_f (fun z => z.elim c_58 (fun z => z.elim (fun z => c_86 z.2.2) (fun z => z.2.2.2.1 c_120)))).symm) _ _ hP hS ls (lv_sub hl [0, 1, 2, 3, 4, 5, 6] rfl)
                          · skip
                            refine lv_iload hx hb d_Mo_say_123 (lv_at hl 5 rfl) ?_
                            refine lv_iload hx hb d_Mo_say_125 (lv_at hl 0 rfl) ?_
                            refine lv_icmp_eq (tgt := 134) hx hb d_Mo_say_127 (by decide) (fun c_127 => ?_) (fun c_127 => ?_)
                            · skip
                              refine lv_iconst (v := 0) hx hb d_Mo_say_134 (by decide) ?_
                              refine lv_istore (lv' := [(6, .int 0), (5, .int (x ^^^ 1)), (0, .ref (base + adm 0 0)), (1, .int q), (2, .int x), (3, .int lt), (4, .int v)]) hx hb d_Mo_say_135 hl (by decide) rfl (fun ls hl => ?_)
                              exact tail 0 ((b2i_f (fun z => z.elim c_58 (fun z => z.elim (fun z => c_86 z.2.2) (fun z => z.2.2.2.2 c_127)))).symm) _ _ hP hS ls (lv_sub hl [0, 1, 2, 3, 4, 5, 6] rfl)
                            · skip
                              refine lv_iconst (v := 1) hx hb d_Mo_say_130 (by decide) ?_
                              refine lv_goto (tgt := 135) hx hb d_Mo_say_131 (by decide) ?_
                              refine lv_istore (lv' := [(6, .int 1), (5, .int (x ^^^ 1)), (0, .ref (base + adm 0 0)), (1, .int q), (2, .int x), (3, .int lt), (4, .int v)]) hx hb d_Mo_say_135 hl (by decide) rfl (fun ls hl => ?_)
                              exact tail 1 ((b2i_t (Or.inr (Or.inr ⟨c_92, c_103, c_114, c_120, c_127⟩))).symm) _ _ hP hS ls (lv_sub hl [0, 1, 2, 3, 4, 5, 6] rfl)
          · skip
            exact mrI_v C0 hP hS (⟨by decide, by decide⟩) (⟨rfl, rfl, by unfold mSay; rw [if_pos c_7, if_pos c_17, if_pos c_27, if_neg c_47]; first | done | rfl⟩) d_Mo_say_50
