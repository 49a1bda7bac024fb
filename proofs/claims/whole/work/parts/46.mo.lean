/-! The model's open: laid by gen/m46.py. -/
abbrev mFr (σ : Mem) (c : Nat) : Prop := ¬ 0 ≤ σ 10 0 (2 * c) ∧ σ 10 0 (2 * c + 1) < 0
def mlfc (σ : Mem) : Nat := firstF (mFr σ) 6 0
def mCpy (σ : Mem) (c k n : Nat) : Mem := fun a i j => if a = 4 ∧ i = 0 ∧ 36 * c ≤ j ∧ j < 36 * c + n then σ 2 0 (36 * k + (j - 36 * c)) else σ a i j
theorem mCpy_0 {σ : Mem} {c k : Nat} : σ = mCpy σ c k 0 := by
  funext a i j
  unfold mCpy
  rw [if_neg (fun z => by omega)]
theorem mCpy_s {σ : Mem} {c k n : Nat} : up (mCpy σ c k n) 4 0 (36 * c + n) (σ 2 0 (36 * k + n)) = mCpy σ c k (n + 1) := by
  funext a i j
  unfold up mCpy
  by_cases h : a = 4 ∧ i = 0 ∧ j = 36 * c + n
  · obtain ⟨rfl, rfl, rfl⟩ := h
    rw [if_pos ⟨rfl, rfl, rfl⟩, if_pos (by omega), show 36 * c + n - 36 * c = n from by omega]
  · rw [if_neg h]
    by_cases h2 : a = 4 ∧ i = 0 ∧ 36 * c ≤ j ∧ j < 36 * c + n
    · rw [if_pos h2, if_pos (by omega)]
    · rw [if_neg h2, if_neg (fun z => h2 (by omega))]
theorem ix36a {c k : Nat} : nI c * 36 + nI k = nI (36 * c + k) := by rw [show (36 : Int32) = nI 36 from by decide, nI_mj]
def mBe (σ : Mem) (c : Nat) : Nat → Mem
  | 0 => σ
  | k + 1 => up (up (mBe σ c k) 11 0 (2 * c + k) 1) 12 0 (2 * c + k) 0
def mOp1 (σ : Mem) (c k : Nat) (p q : Int32) : Mem := up (up (up (mCpy (up σ 0 0 1 0) c k 36) 5 0 c (σ 3 0 k)) 10 0 (2 * c) p) 10 0 (2 * c + 1) q
def mOpen (σ : Mem) (p q k : Int32) : Int32 × Mem := if inR p 0 3 then (if inR q 0 3 then (if inR k 0 3 then (if σ 6 0 p.toNatClampNeg = 0 then mFail (up σ 0 0 1 0) 2 else if σ 6 0 q.toNatClampNeg = 0 then mFail (up σ 0 0 1 0) 2 else
  if σ 3 0 k.toNatClampNeg = 0 then mFail (up σ 0 0 1 0) 3 else if nI (mlfc σ) = 6 then mFail (up σ 0 0 1 0) 4 else (nI (mlfc σ), mBe (mOp1 σ (mlfc σ) k.toNatClampNeg p q) (mlfc σ) 2))
  else (0, up σ 0 0 1 1)) else (0, up σ 0 0 1 1)) else (0, up σ 0 0 1 1)
set_option maxHeartbeats 4000000 in
set_option maxRecDepth 100000 in
theorem c_Mo_open {S0 : State} {A0 : Array Value} {D : va_G} {ar : Nat → ClassId} {base : Nat} {σ : Mem} {l : Launch} (hlt : l.stackTraces = false) {p0 q0 k0 : Int32} :
    MX l y_Mo_open [Cond.code y_Mo_open b_Mo_open 6 (some .int)] (rmL 1) (PO S0 A0 D ar base σ [.ref (base + adm 0 0), .int p0, .int q0, .int k0]) (QO D ar base (fun k r σ' => k = 0 ∧ r = some (mOpen σ p0 q0 k0).1 ∧ σ' = (mOpen σ p0 q0 k0).2)) (inB base 16) := by
  refine mx_head hlt (by decide +kernel) (Nat.le_of_ble_eq_true rfl) ?_
  intro p ev s m below meth c ls C0 hP hl
  have C0 : Cx S0 A0 D ar base p l s m _ meth c R_Mo b_Mo_open 6 (some .int) := C0
  obtain ⟨hx, hb, -⟩ := id C0
  have hl : lv_has ls 6 [(0, .ref (base + adm 0 0)), (1, .int p0), (2, .int q0), (3, .int k0)] := hl
  have hS : va_S (inB base 16) s.heap s.heap [] := va_S.rf
  refine lv_aload_n hx hb d_Mo_open_0 rfl (lv_at hl 0 rfl) ?_
  refine lv_iload_n hx hb d_Mo_open_1 rfl (lv_at hl 1 rfl) ?_
  refine lv_iconst (v := 0) hx hb d_Mo_open_2 (by decide) ?_
  refine lv_iconst (v := 3) hx hb d_Mo_open_3 (by decide) ?_
  refine ms_P C0 hP hS (cs_S C0 (As := [.int p0, .int 0, .int 3]) k_ml_Mo_60 k_st_Mo_in k_cd_Mo_in k_in_Mo z_Mo_in rfl d_Mo_open_4) (c_Mo_in hlt) hl.1 d_Mo_open_4 (Nat.le_of_ble_eq_true rfl) (⟨by decide, by decide⟩) (⟨by decide, by decide⟩) (fun k r x t hk hp => absurd hp.1 hk) (fun r_2 h_1 => ?_)
  obtain ⟨-, rfl⟩ := h_1
  refine lv_if_eq (tgt := 32) hx hb d_Mo_open_7 (by decide) (fun c_7 => ?_) (fun c_7 => ?_)
  · skip
    have c_7 := b2i_z.mp c_7
    refine lv_iconst (v := 0) hx hb d_Mo_open_32 (by decide) ?_
    refine ms_I C0 hP hS (ms_V C0 hP (kd := 0) (i := 0) (ci := 4) (As := [.int 0]) (by decide) (by decide) rfl rfl k_ml_Mo_64 k_im_Mo_bad k_sl_Mo_Mo_bad k_cd_Mo_bad k_in_Mo z_Mo_bad rfl d_Mo_open_33) (c_Mo_bad hlt (P := False)) (fun k r σ h => h.1) ⟨rfl, rfl⟩ hl.1 d_Mo_open_33 (Nat.le_of_ble_eq_true rfl) (⟨by decide, by decide⟩) (⟨by decide, by decide⟩) (fun r_4 σ_5 H locs h_3 hP hS => ?_)
    obtain ⟨-, rfl, rfl⟩ := h_3
    replace hP : va_P D classes (wl base 16 (memo ar base (up σ 0 0 1 1))) H := hP
    refine lv_if_eq (tgt := 41) hx hb d_Mo_open_36 (by decide) (fun c_36 => ?_) (fun c_36 => ?_)
    · skip
      exact absurd c_36 (by decide)
    · skip
      refine lv_iconst (v := 0) hx hb d_Mo_open_39 (by decide) ?_
      exact mrI_i C0 hP hS (⟨by decide, by decide⟩) (⟨rfl, congrArg some (by unfold mOpen; rw [if_neg c_7]; first | done | rfl), by unfold mOpen; rw [if_neg c_7]; first | done | rfl⟩) d_Mo_open_40
  · skip
    have c_7 := b2i_ne.mp c_7
    refine lv_iload_n hx hb d_Mo_open_10 rfl (lv_at hl 2 rfl) ?_
    refine lv_iconst (v := 0) hx hb d_Mo_open_11 (by decide) ?_
    refine lv_iconst (v := 3) hx hb d_Mo_open_12 (by decide) ?_
    refine ms_P C0 hP hS (cs_S C0 (As := [.int q0, .int 0, .int 3]) k_ml_Mo_60 k_st_Mo_in k_cd_Mo_in k_in_Mo z_Mo_in rfl d_Mo_open_13) (c_Mo_in hlt) hl.1 d_Mo_open_13 (Nat.le_of_ble_eq_true rfl) (⟨by decide, by decide⟩) (⟨by decide, by decide⟩) (fun k r x t hk hp => absurd hp.1 hk) (fun r_7 h_6 => ?_)
    obtain ⟨-, rfl⟩ := h_6
    refine lv_if_eq (tgt := 32) hx hb d_Mo_open_16 (by decide) (fun c_16 => ?_) (fun c_16 => ?_)
    · skip
      have c_16 := b2i_z.mp c_16
      refine lv_iconst (v := 0) hx hb d_Mo_open_32 (by decide) ?_
      refine ms_I C0 hP hS (ms_V C0 hP (kd := 0) (i := 0) (ci := 4) (As := [.int 0]) (by decide) (by decide) rfl rfl k_ml_Mo_64 k_im_Mo_bad k_sl_Mo_Mo_bad k_cd_Mo_bad k_in_Mo z_Mo_bad rfl d_Mo_open_33) (c_Mo_bad hlt (P := False)) (fun k r σ h => h.1) ⟨rfl, rfl⟩ hl.1 d_Mo_open_33 (Nat.le_of_ble_eq_true rfl) (⟨by decide, by decide⟩) (⟨by decide, by decide⟩) (fun r_9 σ_10 H locs h_8 hP hS => ?_)
      obtain ⟨-, rfl, rfl⟩ := h_8
      replace hP : va_P D classes (wl base 16 (memo ar base (up σ 0 0 1 1))) H := hP
      refine lv_if_eq (tgt := 41) hx hb d_Mo_open_36 (by decide) (fun c_36 => ?_) (fun c_36 => ?_)
      · skip
        exact absurd c_36 (by decide)
      · skip
        refine lv_iconst (v := 0) hx hb d_Mo_open_39 (by decide) ?_
        exact mrI_i C0 hP hS (⟨by decide, by decide⟩) (⟨rfl, congrArg some (by unfold mOpen; rw [if_pos c_7, if_neg c_16]; first | done | rfl), by unfold mOpen; rw [if_pos c_7, if_neg c_16]; first | done | rfl⟩) d_Mo_open_40
    · skip
      have c_16 := b2i_ne.mp c_16
      refine lv_iload_n hx hb d_Mo_open_19 rfl (lv_at hl 3 rfl) ?_
      refine lv_iconst (v := 0) hx hb d_Mo_open_20 (by decide) ?_
      refine lv_iconst (v := 3) hx hb d_Mo_open_21 (by decide) ?_
      refine ms_P C0 hP hS (cs_S C0 (As := [.int k0, .int 0, .int 3]) k_ml_Mo_60 k_st_Mo_in k_cd_Mo_in k_in_Mo z_Mo_in rfl d_Mo_open_22) (c_Mo_in hlt) hl.1 d_Mo_open_22 (Nat.le_of_ble_eq_true rfl) (⟨by decide, by decide⟩) (⟨by decide, by decide⟩) (fun k r x t hk hp => absurd hp.1 hk) (fun r_12 h_11 => ?_)
      obtain ⟨-, rfl⟩ := h_11
      refine lv_if_eq (tgt := 32) hx hb d_Mo_open_25 (by decide) (fun c_25 => ?_) (fun c_25 => ?_)
      · skip
        have c_25 := b2i_z.mp c_25
        refine lv_iconst (v := 0) hx hb d_Mo_open_32 (by decide) ?_
        refine ms_I C0 hP hS (ms_V C0 hP (kd := 0) (i := 0) (ci := 4) (As := [.int 0]) (by decide) (by decide) rfl rfl k_ml_Mo_64 k_im_Mo_bad k_sl_Mo_Mo_bad k_cd_Mo_bad k_in_Mo z_Mo_bad rfl d_Mo_open_33) (c_Mo_bad hlt (P := False)) (fun k r σ h => h.1) ⟨rfl, rfl⟩ hl.1 d_Mo_open_33 (Nat.le_of_ble_eq_true rfl) (⟨by decide, by decide⟩) (⟨by decide, by decide⟩) (fun r_14 σ_15 H locs h_13 hP hS => ?_)
        obtain ⟨-, rfl, rfl⟩ := h_13
        replace hP : va_P D classes (wl base 16 (memo ar base (up σ 0 0 1 1))) H := hP
        refine lv_if_eq (tgt := 41) hx hb d_Mo_open_36 (by decide) (fun c_36 => ?_) (fun c_36 => ?_)
        · skip
          exact absurd c_36 (by decide)
        · skip
          refine lv_iconst (v := 0) hx hb d_Mo_open_39 (by decide) ?_
          exact mrI_i C0 hP hS (⟨by decide, by decide⟩) (⟨rfl, congrArg some (by unfold mOpen; rw [if_pos c_7, if_pos c_16, if_neg c_25]; first | done | rfl), by unfold mOpen; rw [if_pos c_7, if_pos c_16, if_neg c_25]; first | done | rfl⟩) d_Mo_open_40
      · skip
        have c_25 := b2i_ne.mp c_25
        refine lv_iconst (v := 1) hx hb d_Mo_open_28 (by decide) ?_
        refine lv_goto (tgt := 33) hx hb d_Mo_open_29 (by decide) ?_
        refine ms_I C0 hP hS (ms_V C0 hP (kd := 0) (i := 0) (ci := 4) (As := [.int 1]) (by decide) (by decide) rfl rfl k_ml_Mo_64 k_im_Mo_bad k_sl_Mo_Mo_bad k_cd_Mo_bad k_in_Mo z_Mo_bad rfl d_Mo_open_33) (c_Mo_bad hlt (P := True)) (fun k r σ h => h.1) ⟨rfl, rfl⟩ hl.1 d_Mo_open_33 (Nat.le_of_ble_eq_true rfl) (⟨by decide, by decide⟩) (⟨by decide, by decide⟩) (fun r_17 σ_18 H locs h_16 hP hS => ?_)
        obtain ⟨-, rfl, rfl⟩ := h_16
        replace hP : va_P D classes (wl base 16 (memo ar base (up σ 0 0 1 0))) H := hP
        refine lv_if_eq (tgt := 41) hx hb d_Mo_open_36 (by decide) (fun c_36 => ?_) (fun c_36 => ?_)
        · skip
          have hkb := nI_back (vin_R (n := 4) c_25)
          have hk4 := vin_lt (vin_R (n := 4) c_25)
          refine lv_aload_n hx hb d_Mo_open_41 rfl (lv_at hl 0 rfl) ?_
          refine mq_get C0 hP (kd := 0) (i := 0) (ci := 4) (by decide) (by decide) rfl rfl 5 (by decide) rfl k_fl_Mo_25 rfl d_Mo_open_42 ?_
          refine lv_iload_n hx hb d_Mo_open_45 rfl (lv_at hl 1 rfl) ?_
          refine mq_zald C0 hP (kd := 6) (i := 0) (by decide) (by decide) rfl (vin_R c_7) d_Mo_open_46 ?_
          refine W.eq (g2 := F0 m 47 ls [.int (σ 6 0 p0.toNatClampNeg)]) rfl ?_
          refine lv_if_eq (tgt := 59) hx hb d_Mo_open_47 (by decide) (fun c_47 => ?_) (fun c_47 => ?_)
          · skip
            refine lv_aload_n hx hb d_Mo_open_59 rfl (lv_at hl 0 rfl) ?_
            refine lv_iconst (v := 2) hx hb d_Mo_open_60 (by decide) ?_
            refine ms_I C0 hP hS (ms_V C0 hP (kd := 0) (i := 0) (ci := 4) (As := [.int 2]) (by decide) (by decide) rfl rfl k_ml_Mo_71 k_im_Mo_fail k_sl_Mo_Mo_fail k_cd_Mo_fail k_in_Mo z_Mo_fail rfl d_Mo_open_61) (c_Mo_fail hlt) (fun k r σ h => h.1) ⟨rfl, rfl⟩ hl.1 d_Mo_open_61 (Nat.le_of_ble_eq_true rfl) (⟨by decide, by decide⟩) (⟨by decide, by decide⟩) (fun r_20 σ_21 H locs h_19 hP hS => ?_)
            obtain ⟨-, rfl, rfl⟩ := h_19
            exact mrI_i C0 hP hS (⟨by decide, by decide⟩) (⟨rfl, congrArg some (by unfold mOpen; rw [if_pos c_7, if_pos c_16, if_pos c_25, if_pos c_47]; first | done | rfl), by unfold mOpen; rw [if_pos c_7, if_pos c_16, if_pos c_25, if_pos c_47]; first | done | rfl⟩) d_Mo_open_64
          · skip
            refine lv_aload_n hx hb d_Mo_open_50 rfl (lv_at hl 0 rfl) ?_
            refine mq_get C0 hP (kd := 0) (i := 0) (ci := 4) (by decide) (by decide) rfl rfl 5 (by decide) rfl k_fl_Mo_25 rfl d_Mo_open_51 ?_
            refine lv_iload_n hx hb d_Mo_open_54 rfl (lv_at hl 2 rfl) ?_
            refine mq_zald C0 hP (kd := 6) (i := 0) (by decide) (by decide) rfl (vin_R c_16) d_Mo_open_55 ?_
            refine W.eq (g2 := F0 m 56 ls [.int (σ 6 0 q0.toNatClampNeg)]) rfl ?_
            refine lv_if_ne (tgt := 65) hx hb d_Mo_open_56 (by decide) (fun c_56 => ?_) (fun c_56 => ?_)
            · skip
              refine lv_aload_n hx hb d_Mo_open_65 rfl (lv_at hl 0 rfl) ?_
              refine mq_get C0 hP (kd := 0) (i := 0) (ci := 4) (by decide) (by decide) rfl rfl 2 (by decide) rfl k_fl_Mo_16 rfl d_Mo_open_66 ?_
              refine lv_iload_n hx hb d_Mo_open_69 rfl (lv_at hl 3 rfl) ?_
              refine mq_iald C0 hP (kd := 3) (i := 0) (by decide) (by decide) rfl (vin_R c_25) d_Mo_open_70 ?_
              refine W.eq (g2 := F0 m 71 ls [.int (σ 3 0 k0.toNatClampNeg)]) rfl ?_
              refine lv_if_ne (tgt := 80) hx hb d_Mo_open_71 (by decide) (fun c_71 => ?_) (fun c_71 => ?_)
              · skip
                refine lv_iconst (v := 0) hx hb d_Mo_open_80 (by decide) ?_
                refine lv_istore (lv' := [(4, .int 0), (0, .ref (base + adm 0 0)), (1, .int p0), (2, .int q0), (3, .int k0)]) hx hb d_Mo_open_81 hl (by decide) rfl (fun ls hl => ?_)
                have loop : ∀ (n k : Nat), k ≤ 6 → 6 + 1 ≤ k + n → (∀ j, j < k → ¬ mFr σ j) → ∀ (H : Heap) (locs : List Loc), va_P D classes (wl base 16 (memo ar base (up σ 0 0 1 0))) H → va_S (inB base 16) s.heap H locs → ∀ ls : Array Slot, lv_has ls 6 [(4, .int (nI k)), (0, .ref (base + adm 0 0)), (1, .int p0), (2, .int q0), (3, .int k0)] → W p l ev (rmL 1) s m ([.ref (base + adm 0 0), .int p0, .int q0, .int k0] : List Value).toArray below meth c H locs 0 0 (MQX below (QO D ar base (fun k r σ' => k = 0 ∧ r = some (mOpen σ p0 q0 k0).1 ∧ σ' = (mOpen σ p0 q0 k0).2)) ([.ref (base + adm 0 0), .int p0, .int q0, .int k0] : List Value).toArray s (rmL 1).cells (rmL 1).slots (inB base 16)) (F0 m 83 ls []) := by
                  intro n
                  induction n with
                  | zero => intro k h1 h2; omega
                  | succ n ih =>
                    intro k hk1 hk2 hinv H locs hP hS ls hl
                    refine lv_iload hx hb d_Mo_open_83 (lv_at hl 0 rfl) ?_
                    refine lv_bipush (v := 6) hx hb d_Mo_open_85 (by decide) ?_
                    refine lv_icmp_ge (tgt := 122) hx hb d_Mo_open_87 (by decide) (fun c_87 => ?_) (fun c_87 => ?_)
                    · skip
                      have hkN : k = 6 := by have := ge_nI (N := 6) c_87; omega
                      have hbb : k = mlfc σ := (firstF_eq (P := mFr σ) (by omega) hinv (fun h => absurd h (by omega)) 6 0 rfl (Nat.zero_le _)).symm
                      obtain ⟨bb, rfl⟩ : ∃ bb, bb = k := ⟨_, rfl⟩
                      refine lv_iload hx hb d_Mo_open_122 (lv_at hl 0 rfl) ?_
                      refine lv_bipush (v := 6) hx hb d_Mo_open_124 (by decide) ?_
                      refine lv_icmp_ne (tgt := 135) hx hb d_Mo_open_126 (by decide) (fun c_126 => ?_) (fun c_126 => ?_)
                      · skip
                        have hb6 : bb < 6 := Nat.lt_of_le_of_ne (by omega) (fun z => c_126 (by rw [z]; decide))
                        refine lv_iconst (v := 0) hx hb d_Mo_open_135 (by decide) ?_
                        refine lv_istore (lv' := [(5, .int 0), (4, .int (nI bb)), (0, .ref (base + adm 0 0)), (1, .int p0), (2, .int q0), (3, .int k0)]) hx hb d_Mo_open_136 hl (by decide) rfl (fun ls hl => ?_)
                        have loop2 : ∀ (n k : Nat), k ≤ 36 → 36 + 1 ≤ k + n → ∀ (H : Heap) (locs : List Loc), va_P D classes (wl base 16 (memo ar base (mCpy (up σ 0 0 1 0) bb k0.toNatClampNeg k))) H → va_S (inB base 16) s.heap H locs → ∀ ls : Array Slot, lv_has ls 6 [(5, .int (nI k)), (4, .int (nI bb)), (0, .ref (base + adm 0 0)), (1, .int p0), (2, .int q0), (3, .int k0)] → W p l ev (rmL 1) s m ([.ref (base + adm 0 0), .int p0, .int q0, .int k0] : List Value).toArray below meth c H locs 0 0 (MQX below (QO D ar base (fun k r σ' => k = 0 ∧ r = some (mOpen σ p0 q0 k0).1 ∧ σ' = (mOpen σ p0 q0 k0).2)) ([.ref (base + adm 0 0), .int p0, .int q0, .int k0] : List Value).toArray s (rmL 1).cells (rmL 1).slots (inB base 16)) (F0 m 138 ls []) := by
                          intro n
                          induction n with
                          | zero => intro k h1 h2; omega
                          | succ n ih =>
                            intro k hk1 hk2 H locs hP hS ls hl
                            refine lv_iload hx hb d_Mo_open_138 (lv_at hl 0 rfl) ?_
                            refine lv_bipush (v := 36) hx hb d_Mo_open_140 (by decide) ?_
                            refine lv_icmp_ge (tgt := 176) hx hb d_Mo_open_142 (by decide) (fun c_142 => ?_) (fun c_142 => ?_)
                            · skip
                              have hkN : k = 36 := by have := ge_nI (N := 36) c_142; omega
                              subst hkN
                              refine lv_aload_n hx hb d_Mo_open_176 rfl (lv_at hl 2 rfl) ?_
                              refine mq_get C0 hP (kd := 0) (i := 0) (ci := 4) (by decide) (by decide) rfl rfl 4 (by decide) rfl k_fl_Mo_22 rfl d_Mo_open_177 ?_
                              refine lv_iload hx hb d_Mo_open_180 (lv_at hl 1 rfl) ?_
                              refine lv_aload_n hx hb d_Mo_open_182 rfl (lv_at hl 2 rfl) ?_
                              refine mq_get C0 hP (kd := 0) (i := 0) (ci := 4) (by decide) (by decide) rfl rfl 2 (by decide) rfl k_fl_Mo_16 rfl d_Mo_open_183 ?_
                              refine lv_iload_n hx hb d_Mo_open_186 rfl (lv_at hl 5 rfl) ?_
                              refine mq_iald C0 hP (kd := 3) (i := 0) (by decide) (by decide) rfl (vin_R c_25) d_Mo_open_187 ?_
                              refine W.eq (g2 := F0 m 188 ls [.int (σ 3 0 k0.toNatClampNeg), .int (nI bb), .ref (base + adm 5 0)]) (by rw [show (mCpy (up σ 0 0 1 0) bb k0.toNatClampNeg 36) 3 0 k0.toNatClampNeg = σ 3 0 k0.toNatClampNeg from by unfold mCpy; rw [if_neg (by omega)]; rfl]; first | done | rfl) ?_
                              refine mq_iast C0 hP hS (kd := 5) (i := 0) 5 (by decide) rfl (by decide) rfl (vin_nI (by omega)) (by rw [ast_fn]; rfl) d_Mo_open_188 (fun H locs hP hS => ?_)
                              rw [show (nI bb).toNatClampNeg = bb from nI_clamp (by omega)] at hP
                              refine lv_aload_n hx hb d_Mo_open_189 rfl (lv_at hl 2 rfl) ?_
                              refine mq_get C0 hP (kd := 0) (i := 0) (ci := 4) (by decide) (by decide) rfl rfl 9 (by decide) rfl k_fl_Mo_38 rfl d_Mo_open_190 ?_
                              refine lv_iconst (v := 2) hx hb d_Mo_open_193 (by decide) ?_
                              refine lv_iload hx hb d_Mo_open_194 (lv_at hl 1 rfl) ?_
                              refine lv_imul hx hb d_Mo_open_196 ?_
                              rw [show (2 * (nI bb) : Int32) = nI (2 * bb) from two_nI _]
                              refine lv_iload_n hx hb d_Mo_open_197 rfl (lv_at hl 3 rfl) ?_
                              refine mq_iast C0 hP hS (kd := 10) (i := 0) 10 (by decide) rfl (by decide) rfl (vin_nI (by omega)) (by rw [ast_fn]; rfl) d_Mo_open_198 (fun H locs hP hS => ?_)
                              rw [show (nI (2 * bb)).toNatClampNeg = (2 * bb) from nI_clamp (by omega)] at hP
                              refine lv_aload_n hx hb d_Mo_open_199 rfl (lv_at hl 2 rfl) ?_
                              refine mq_get C0 hP (kd := 0) (i := 0) (ci := 4) (by decide) (by decide) rfl rfl 9 (by decide) rfl k_fl_Mo_38 rfl d_Mo_open_200 ?_
                              refine lv_iconst (v := 2) hx hb d_Mo_open_203 (by decide) ?_
                              refine lv_iload hx hb d_Mo_open_204 (lv_at hl 1 rfl) ?_
                              refine lv_imul hx hb d_Mo_open_206 ?_
                              rw [show (2 * (nI bb) : Int32) = nI (2 * bb) from two_nI _]
                              refine lv_iconst (v := 1) hx hb d_Mo_open_207 (by decide) ?_
                              refine lv_iadd hx hb d_Mo_open_208 ?_
                              rw [show ((nI (2 * bb)) + 1 : Int32) = nI (2 * bb + 1) from nI_1 _]
                              refine lv_iload_n hx hb d_Mo_open_209 rfl (lv_at hl 4 rfl) ?_
                              refine mq_iast C0 hP hS (kd := 10) (i := 0) 10 (by decide) rfl (by decide) rfl (vin_nI (by omega)) (by rw [ast_fn]; rfl) d_Mo_open_210 (fun H locs hP hS => ?_)
                              rw [show (nI (2 * bb + 1)).toNatClampNeg = (2 * bb + 1) from nI_clamp (by omega)] at hP
                              refine lv_iconst (v := 2) hx hb d_Mo_open_211 (by decide) ?_
                              refine lv_iload hx hb d_Mo_open_212 (lv_at hl 1 rfl) ?_
                              refine lv_imul hx hb d_Mo_open_214 ?_
                              rw [show (2 * (nI bb) : Int32) = nI (2 * bb + 0) from two_nI _]
                              refine lv_istore (lv' := [(5, .int (nI (2 * bb + 0))), (4, .int (nI bb)), (0, .ref (base + adm 0 0)), (1, .int p0), (2, .int q0), (3, .int k0)]) hx hb d_Mo_open_215 hl (by decide) rfl (fun ls hl => ?_)
                              have loop3 : ∀ (n k : Nat), k ≤ 2 → 2 + 1 ≤ k + n → ∀ (H : Heap) (locs : List Loc), va_P D classes (wl base 16 (memo ar base (mBe (mOp1 σ bb k0.toNatClampNeg p0 q0) bb k))) H → va_S (inB base 16) s.heap H locs → ∀ ls : Array Slot, lv_has ls 6 [(5, .int (nI (2 * bb + k))), (4, .int (nI bb)), (0, .ref (base + adm 0 0)), (1, .int p0), (2, .int q0), (3, .int k0)] → W p l ev (rmL 1) s m ([.ref (base + adm 0 0), .int p0, .int q0, .int k0] : List Value).toArray below meth c H locs 0 0 (MQX below (QO D ar base (fun k r σ' => k = 0 ∧ r = some (mOpen σ p0 q0 k0).1 ∧ σ' = (mOpen σ p0 q0 k0).2)) ([.ref (base + adm 0 0), .int p0, .int q0, .int k0] : List Value).toArray s (rmL 1).cells (rmL 1).slots (inB base 16)) (F0 m 217 ls []) := by
                                intro n
                                induction n with
                                | zero => intro k h1 h2; omega
                                | succ n ih =>
                                  intro k hk1 hk2 H locs hP hS ls hl
                                  refine lv_iload hx hb d_Mo_open_217 (lv_at hl 0 rfl) ?_
                                  refine lv_iconst (v := 2) hx hb d_Mo_open_219 (by decide) ?_
                                  refine lv_iload hx hb d_Mo_open_220 (lv_at hl 1 rfl) ?_
                                  refine lv_imul hx hb d_Mo_open_222 ?_
                                  refine lv_iconst (v := 2) hx hb d_Mo_open_223 (by decide) ?_
                                  refine lv_iadd hx hb d_Mo_open_224 ?_
                                  rw [show ((2 * (nI bb)) + 2 : Int32) = nI (2 * bb + 2) from by rw [two_nI]; exact nI_aj (j := 2)]
                                  refine lv_icmp_ge (tgt := 250) hx hb d_Mo_open_225 (by decide) (fun c_225 => ?_) (fun c_225 => ?_)
                                  · skip
                                    have hkN : k = 2 := by have := (nI_leI (by omega) (by omega)).mp c_225; omega
                                    subst hkN
                                    refine lv_iload hx hb d_Mo_open_250 (lv_at hl 1 rfl) ?_
                                    exact mrI_i C0 hP hS (⟨by decide, by decide⟩) (⟨rfl, congrArg some (by unfold mOpen; rw [if_pos c_7, if_pos c_16, if_pos c_25, if_neg c_47, if_neg c_56, if_neg c_71, ← hbb, if_neg c_126]; first | done | rfl), by unfold mOpen; rw [if_pos c_7, if_pos c_16, if_pos c_25, if_neg c_47, if_neg c_56, if_neg c_71, ← hbb, if_neg c_126]; first | done | rfl⟩) d_Mo_open_252
                                  · skip
                                    have hkN : k < 2 := Nat.lt_of_not_le fun z => c_225 ((nI_leI (by omega) (by omega)).mpr (by omega))
                                    refine lv_aload_n hx hb d_Mo_open_228 rfl (lv_at hl 2 rfl) ?_
                                    refine mq_get C0 hP (kd := 0) (i := 0) (ci := 4) (by decide) (by decide) rfl rfl 10 (by decide) rfl k_fl_Mo_41 rfl d_Mo_open_229 ?_
                                    refine lv_iload hx hb d_Mo_open_232 (lv_at hl 0 rfl) ?_
                                    refine lv_iconst (v := 1) hx hb d_Mo_open_234 (by decide) ?_
                                    refine mq_iast C0 hP hS (kd := 11) (i := 0) 11 (by decide) rfl (by decide) rfl (vin_nI (by omega)) (by rw [ast_fn]; rfl) d_Mo_open_235 (fun H locs hP hS => ?_)
                                    rw [show (nI (2 * bb + k)).toNatClampNeg = (2 * bb + k) from nI_clamp (by omega)] at hP
                                    refine lv_aload_n hx hb d_Mo_open_236 rfl (lv_at hl 2 rfl) ?_
                                    refine mq_get C0 hP (kd := 0) (i := 0) (ci := 4) (by decide) (by decide) rfl rfl 11 (by decide) rfl k_fl_Mo_44 rfl d_Mo_open_237 ?_
                                    refine lv_iload hx hb d_Mo_open_240 (lv_at hl 0 rfl) ?_
                                    refine lv_iconst (v := 0) hx hb d_Mo_open_242 (by decide) ?_
                                    refine mq_iast C0 hP hS (kd := 12) (i := 0) 12 (by decide) rfl (by decide) rfl (vin_nI (by omega)) (by rw [ast_fn]; rfl) d_Mo_open_243 (fun H locs hP hS => ?_)
                                    rw [show (nI (2 * bb + k)).toNatClampNeg = (2 * bb + k) from nI_clamp (by omega)] at hP
                                    refine lv_iinc (v := nI (2 * bb + (k + 1))) (lv' := [(5, .int (nI (2 * bb + (k + 1)))), (4, .int (nI bb)), (0, .ref (base + adm 0 0)), (1, .int p0), (2, .int q0), (3, .int k0)]) hx hb d_Mo_open_244 hl (k := 0) rfl (by exact nI_1 _) (by decide) rfl (fun ls hl => ?_)
                                    refine lv_goto (tgt := 217) hx hb d_Mo_open_247 (by decide) ?_
                                    rw [show ((up (up (mBe (mOp1 σ bb k0.toNatClampNeg p0 q0) bb k) 11 0 (2 * bb + k) 1) 12 0 (2 * bb + k) 0) : Mem) = mBe (mOp1 σ bb k0.toNatClampNeg p0 q0) bb (k + 1) from rfl] at hP
                                    exact ih (k + 1) (by omega) (by omega) _ _ hP hS ls (lv_sub hl [0, 1, 2, 3, 4, 5] rfl)
                              rw [show ((up (up (up (mCpy (up σ 0 0 1 0) bb k0.toNatClampNeg 36) 5 0 bb (σ 3 0 k0.toNatClampNeg)) 10 0 (2 * bb) p0) 10 0 (2 * bb + 1) q0) : Mem) = mBe (mOp1 σ bb k0.toNatClampNeg p0 q0) bb 0 from rfl] at hP
                              exact loop3 (2 + 1) 0 (by omega) (by omega) _ _ hP hS ls (lv_sub hl [0, 1, 2, 3, 4, 5] rfl)
                            · skip
                              have hkN : k < 36 := lt_nI (N := 36) c_142
                              refine lv_aload_n hx hb d_Mo_open_145 rfl (lv_at hl 2 rfl) ?_
                              refine mq_get C0 hP (kd := 0) (i := 0) (ci := 4) (by decide) (by decide) rfl rfl 3 (by decide) rfl k_fl_Mo_19 rfl d_Mo_open_146 ?_
                              refine lv_iload hx hb d_Mo_open_149 (lv_at hl 1 rfl) ?_
                              refine lv_bipush (v := 36) hx hb d_Mo_open_151 (by decide) ?_
                              refine lv_imul hx hb d_Mo_open_153 ?_
                              refine lv_iload hx hb d_Mo_open_154 (lv_at hl 0 rfl) ?_
                              refine lv_iadd hx hb d_Mo_open_156 ?_
                              refine lv_aload_n hx hb d_Mo_open_157 rfl (lv_at hl 2 rfl) ?_
                              refine mq_get C0 hP (kd := 0) (i := 0) (ci := 4) (by decide) (by decide) rfl rfl 1 (by decide) rfl k_fl_Mo_13 rfl d_Mo_open_158 ?_
                              refine lv_iload_n hx hb d_Mo_open_161 rfl (lv_at hl 5 rfl) ?_
                              refine lv_bipush (v := 36) hx hb d_Mo_open_162 (by decide) ?_
                              refine lv_imul hx hb d_Mo_open_164 ?_
                              refine lv_iload hx hb d_Mo_open_165 (lv_at hl 0 rfl) ?_
                              refine lv_iadd hx hb d_Mo_open_167 ?_
                              refine W.eq (g2 := F0 m 168 ls [.int (nI (36 * k0.toNatClampNeg + k)), .ref (base + adm 2 0), .int (nI (36 * bb + k)), .ref (base + adm 4 0)]) (by rw [← ix36a, ← ix36a, ← hkb]; first | done | rfl) ?_
                              refine mq_iald C0 hP (kd := 2) (i := 0) (by decide) (by decide) rfl (vin_nI (by omega)) d_Mo_open_168 ?_
                              rw [show (nI (36 * k0.toNatClampNeg + k)).toNatClampNeg = (36 * k0.toNatClampNeg + k) from nI_clamp (by omega)]
                              refine W.eq (g2 := F0 m 169 ls [.int (σ 2 0 (36 * k0.toNatClampNeg + k)), .int (nI (36 * bb + k)), .ref (base + adm 4 0)]) (by rw [show (mCpy (up σ 0 0 1 0) bb k0.toNatClampNeg k) 2 0 (36 * k0.toNatClampNeg + k) = σ 2 0 (36 * k0.toNatClampNeg + k) from by unfold mCpy; rw [if_neg (by omega)]; rfl]; first | done | rfl) ?_
                              refine mq_iast C0 hP hS (kd := 4) (i := 0) 4 (by decide) rfl (by decide) rfl (vin_nI (by omega)) (by rw [ast_fn]; rfl) d_Mo_open_169 (fun H locs hP hS => ?_)
                              rw [show (nI (36 * bb + k)).toNatClampNeg = (36 * bb + k) from nI_clamp (by omega)] at hP
                              refine lv_iinc (v := nI (k + 1)) (lv' := [(5, .int (nI (k + 1))), (4, .int (nI bb)), (0, .ref (base + adm 0 0)), (1, .int p0), (2, .int q0), (3, .int k0)]) hx hb d_Mo_open_170 hl (k := 0) rfl (by exact nI_1 k) (by decide) rfl (fun ls hl => ?_)
                              refine lv_goto (tgt := 138) hx hb d_Mo_open_173 (by decide) ?_
                              rw [show ((up (mCpy (up σ 0 0 1 0) bb k0.toNatClampNeg k) 4 0 (36 * bb + k) (σ 2 0 (36 * k0.toNatClampNeg + k))) : Mem) = mCpy (up σ 0 0 1 0) bb k0.toNatClampNeg (k + 1) from by rw [← mCpy_s]; rfl] at hP
                              exact ih (k + 1) (by omega) (by omega) _ _ hP hS ls (lv_sub hl [0, 1, 2, 3, 4, 5] rfl)
                        rw [show ((up σ 0 0 1 0) : Mem) = mCpy (up σ 0 0 1 0) bb k0.toNatClampNeg 0 from mCpy_0] at hP
                        exact loop2 (36 + 1) 0 (by omega) (by omega) _ _ hP hS ls (lv_sub hl [0, 1, 2, 3, 4, 5] rfl)
                      · skip
                        refine lv_aload_n hx hb d_Mo_open_129 rfl (lv_at hl 1 rfl) ?_
                        refine lv_iconst (v := 4) hx hb d_Mo_open_130 (by decide) ?_
                        refine ms_I C0 hP hS (ms_V C0 hP (kd := 0) (i := 0) (ci := 4) (As := [.int 4]) (by decide) (by decide) rfl rfl k_ml_Mo_71 k_im_Mo_fail k_sl_Mo_Mo_fail k_cd_Mo_fail k_in_Mo z_Mo_fail rfl d_Mo_open_131) (c_Mo_fail hlt) (fun k r σ h => h.1) ⟨rfl, rfl⟩ hl.1 d_Mo_open_131 (Nat.le_of_ble_eq_true rfl) (⟨by decide, by decide⟩) (⟨by decide, by decide⟩) (fun r_23 σ_24 H locs h_22 hP hS => ?_)
                        obtain ⟨-, rfl, rfl⟩ := h_22
                        exact mrI_i C0 hP hS (⟨by decide, by decide⟩) (⟨rfl, congrArg some (by unfold mOpen; rw [if_pos c_7, if_pos c_16, if_pos c_25, if_neg c_47, if_neg c_56, if_neg c_71, ← hbb, if_pos c_126]; first | done | rfl), by unfold mOpen; rw [if_pos c_7, if_pos c_16, if_pos c_25, if_neg c_47, if_neg c_56, if_neg c_71, ← hbb, if_pos c_126]; first | done | rfl⟩) d_Mo_open_134
                    · skip
                      have hkN : k < 6 := lt_nI (N := 6) c_87
                      refine lv_aload_n hx hb d_Mo_open_90 rfl (lv_at hl 1 rfl) ?_
                      refine mq_get C0 hP (kd := 0) (i := 0) (ci := 4) (by decide) (by decide) rfl rfl 9 (by decide) rfl k_fl_Mo_38 rfl d_Mo_open_91 ?_
                      refine lv_iconst (v := 2) hx hb d_Mo_open_94 (by decide) ?_
                      refine lv_iload hx hb d_Mo_open_95 (lv_at hl 0 rfl) ?_
                      refine lv_imul hx hb d_Mo_open_97 ?_
                      rw [show (2 * (nI k) : Int32) = nI (2 * k) from two_nI _]
                      refine mq_iald C0 hP (kd := 10) (i := 0) (by decide) (by decide) rfl (vin_nI (by omega)) d_Mo_open_98 ?_
                      rw [show (nI (2 * k)).toNatClampNeg = (2 * k) from nI_clamp (by omega)]
                      refine W.eq (g2 := F0 m 99 ls [.int (σ 10 0 (2 * k))]) rfl ?_
                      refine lv_if_ge (tgt := 116) hx hb d_Mo_open_99 (by decide) (fun c_99 => ?_) (fun c_99 => ?_)
                      · skip
                        refine lv_iinc (v := nI (k + 1)) (lv' := [(4, .int (nI (k + 1))), (0, .ref (base + adm 0 0)), (1, .int p0), (2, .int q0), (3, .int k0)]) hx hb d_Mo_open_116 hl (k := 0) rfl (by exact nI_1 k) (by decide) rfl (fun ls hl => ?_)
                        refine lv_goto (tgt := 83) hx hb d_Mo_open_119 (by decide) ?_
                        rw [show ((up σ 0 0 1 0) : Mem) = up σ 0 0 1 0 from rfl] at hP
                        exact ih (k + 1) (by omega) (by omega) (lt_s hinv (fun z => z.1 c_99)) _ _ hP hS ls (lv_sub hl [0, 1, 2, 3, 4] rfl)
                      · skip
                        refine lv_aload_n hx hb d_Mo_open_102 rfl (lv_at hl 1 rfl) ?_
                        refine mq_get C0 hP (kd := 0) (i := 0) (ci := 4) (by decide) (by decide) rfl rfl 9 (by decide) rfl k_fl_Mo_38 rfl d_Mo_open_103 ?_
                        refine lv_iconst (v := 2) hx hb d_Mo_open_106 (by decide) ?_
                        refine lv_iload hx hb d_Mo_open_107 (lv_at hl 0 rfl) ?_
                        refine lv_imul hx hb d_Mo_open_109 ?_
                        rw [show (2 * (nI k) : Int32) = nI (2 * k) from two_nI _]
                        refine lv_iconst (v := 1) hx hb d_Mo_open_110 (by decide) ?_
                        refine lv_iadd hx hb d_Mo_open_111 ?_
                        rw [show ((nI (2 * k)) + 1 : Int32) = nI (2 * k + 1) from nI_1 _]
                        refine mq_iald C0 hP (kd := 10) (i := 0) (by decide) (by decide) rfl (vin_nI (by omega)) d_Mo_open_112 ?_
                        rw [show (nI (2 * k + 1)).toNatClampNeg = (2 * k + 1) from nI_clamp (by omega)]
                        refine W.eq (g2 := F0 m 113 ls [.int (σ 10 0 (2 * k + 1))]) rfl ?_
                        refine lv_if_lt (tgt := 122) hx hb d_Mo_open_113 (by decide) (fun c_113 => ?_) (fun c_113 => ?_)
                        · skip
                          have hbb : k = mlfc σ := (firstF_eq (P := mFr σ) (by omega) hinv (fun _ => ⟨c_99, c_113⟩) 6 0 rfl (Nat.zero_le _)).symm
                          obtain ⟨bb, rfl⟩ : ∃ bb, bb = k := ⟨_, rfl⟩
                          refine lv_iload hx hb d_Mo_open_122 (lv_at hl 0 rfl) ?_
                          refine lv_bipush (v := 6) hx hb d_Mo_open_124 (by decide) ?_
                          refine lv_icmp_ne (tgt := 135) hx hb d_Mo_open_126 (by decide) (fun c_126 => ?_) (fun c_126 => ?_)
                          · skip
                            have hb6 : bb < 6 := Nat.lt_of_le_of_ne (by omega) (fun z => c_126 (by rw [z]; decide))
                            refine lv_iconst (v := 0) hx hb d_Mo_open_135 (by decide) ?_
                            refine lv_istore (lv' := [(5, .int 0), (4, .int (nI bb)), (0, .ref (base + adm 0 0)), (1, .int p0), (2, .int q0), (3, .int k0)]) hx hb d_Mo_open_136 hl (by decide) rfl (fun ls hl => ?_)
                            have loop2 : ∀ (n k : Nat), k ≤ 36 → 36 + 1 ≤ k + n → ∀ (H : Heap) (locs : List Loc), va_P D classes (wl base 16 (memo ar base (mCpy (up σ 0 0 1 0) bb k0.toNatClampNeg k))) H → va_S (inB base 16) s.heap H locs → ∀ ls : Array Slot, lv_has ls 6 [(5, .int (nI k)), (4, .int (nI bb)), (0, .ref (base + adm 0 0)), (1, .int p0), (2, .int q0), (3, .int k0)] → W p l ev (rmL 1) s m ([.ref (base + adm 0 0), .int p0, .int q0, .int k0] : List Value).toArray below meth c H locs 0 0 (MQX below (QO D ar base (fun k r σ' => k = 0 ∧ r = some (mOpen σ p0 q0 k0).1 ∧ σ' = (mOpen σ p0 q0 k0).2)) ([.ref (base + adm 0 0), .int p0, .int q0, .int k0] : List Value).toArray s (rmL 1).cells (rmL 1).slots (inB base 16)) (F0 m 138 ls []) := by
                              intro n
                              induction n with
                              | zero => intro k h1 h2; omega
                              | succ n ih =>
                                intro k hk1 hk2 H locs hP hS ls hl
                                refine lv_iload hx hb d_Mo_open_138 (lv_at hl 0 rfl) ?_
                                refine lv_bipush (v := 36) hx hb d_Mo_open_140 (by decide) ?_
                                refine lv_icmp_ge (tgt := 176) hx hb d_Mo_open_142 (by decide) (fun c_142 => ?_) (fun c_142 => ?_)
                                · skip
                                  have hkN : k = 36 := by have := ge_nI (N := 36) c_142; omega
                                  subst hkN
                                  refine lv_aload_n hx hb d_Mo_open_176 rfl (lv_at hl 2 rfl) ?_
                                  refine mq_get C0 hP (kd := 0) (i := 0) (ci := 4) (by decide) (by decide) rfl rfl 4 (by decide) rfl k_fl_Mo_22 rfl d_Mo_open_177 ?_
                                  refine lv_iload hx hb d_Mo_open_180 (lv_at hl 1 rfl) ?_
                                  refine lv_aload_n hx hb d_Mo_open_182 rfl (lv_at hl 2 rfl) ?_
                                  refine mq_get C0 hP (kd := 0) (i := 0) (ci := 4) (by decide) (by decide) rfl rfl 2 (by decide) rfl k_fl_Mo_16 rfl d_Mo_open_183 ?_
                                  refine lv_iload_n hx hb d_Mo_open_186 rfl (lv_at hl 5 rfl) ?_
                                  refine mq_iald C0 hP (kd := 3) (i := 0) (by decide) (by decide) rfl (vin_R c_25) d_Mo_open_187 ?_
                                  refine W.eq (g2 := F0 m 188 ls [.int (σ 3 0 k0.toNatClampNeg), .int (nI bb), .ref (base + adm 5 0)]) (by rw [show (mCpy (up σ 0 0 1 0) bb k0.toNatClampNeg 36) 3 0 k0.toNatClampNeg = σ 3 0 k0.toNatClampNeg from by unfold mCpy; rw [if_neg (by omega)]; rfl]; first | done | rfl) ?_
                                  refine mq_iast C0 hP hS (kd := 5) (i := 0) 5 (by decide) rfl (by decide) rfl (vin_nI (by omega)) (by rw [ast_fn]; rfl) d_Mo_open_188 (fun H locs hP hS => ?_)
                                  rw [show (nI bb).toNatClampNeg = bb from nI_clamp (by omega)] at hP
                                  refine lv_aload_n hx hb d_Mo_open_189 rfl (lv_at hl 2 rfl) ?_
                                  refine mq_get C0 hP (kd := 0) (i := 0) (ci := 4) (by decide) (by decide) rfl rfl 9 (by decide) rfl k_fl_Mo_38 rfl d_Mo_open_190 ?_
                                  refine lv_iconst (v := 2) hx hb d_Mo_open_193 (by decide) ?_
                                  refine lv_iload hx hb d_Mo_open_194 (lv_at hl 1 rfl) ?_
                                  refine lv_imul hx hb d_Mo_open_196 ?_
                                  rw [show (2 * (nI bb) : Int32) = nI (2 * bb) from two_nI _]
                                  refine lv_iload_n hx hb d_Mo_open_197 rfl (lv_at hl 3 rfl) ?_
                                  refine mq_iast C0 hP hS (kd := 10) (i := 0) 10 (by decide) rfl (by decide) rfl (vin_nI (by omega)) (by rw [ast_fn]; rfl) d_Mo_open_198 (fun H locs hP hS => ?_)
                                  rw [show (nI (2 * bb)).toNatClampNeg = (2 * bb) from nI_clamp (by omega)] at hP
                                  refine lv_aload_n hx hb d_Mo_open_199 rfl (lv_at hl 2 rfl) ?_
                                  refine mq_get C0 hP (kd := 0) (i := 0) (ci := 4) (by decide) (by decide) rfl rfl 9 (by decide) rfl k_fl_Mo_38 rfl d_Mo_open_200 ?_
                                  refine lv_iconst (v := 2) hx hb d_Mo_open_203 (by decide) ?_
                                  refine lv_iload hx hb d_Mo_open_204 (lv_at hl 1 rfl) ?_
                                  refine lv_imul hx hb d_Mo_open_206 ?_
                                  rw [show (2 * (nI bb) : Int32) = nI (2 * bb) from two_nI _]
                                  refine lv_iconst (v := 1) hx hb d_Mo_open_207 (by decide) ?_
                                  refine lv_iadd hx hb d_Mo_open_208 ?_
                                  rw [show ((nI (2 * bb)) + 1 : Int32) = nI (2 * bb + 1) from nI_1 _]
                                  refine lv_iload_n hx hb d_Mo_open_209 rfl (lv_at hl 4 rfl) ?_
                                  refine mq_iast C0 hP hS (kd := 10) (i := 0) 10 (by decide) rfl (by decide) rfl (vin_nI (by omega)) (by rw [ast_fn]; rfl) d_Mo_open_210 (fun H locs hP hS => ?_)
                                  rw [show (nI (2 * bb + 1)).toNatClampNeg = (2 * bb + 1) from nI_clamp (by omega)] at hP
                                  refine lv_iconst (v := 2) hx hb d_Mo_open_211 (by decide) ?_
                                  refine lv_iload hx hb d_Mo_open_212 (lv_at hl 1 rfl) ?_
                                  refine lv_imul hx hb d_Mo_open_214 ?_
                                  rw [show (2 * (nI bb) : Int32) = nI (2 * bb + 0) from two_nI _]
                                  refine lv_istore (lv' := [(5, .int (nI (2 * bb + 0))), (4, .int (nI bb)), (0, .ref (base + adm 0 0)), (1, .int p0), (2, .int q0), (3, .int k0)]) hx hb d_Mo_open_215 hl (by decide) rfl (fun ls hl => ?_)
                                  have loop3 : ∀ (n k : Nat), k ≤ 2 → 2 + 1 ≤ k + n → ∀ (H : Heap) (locs : List Loc), va_P D classes (wl base 16 (memo ar base (mBe (mOp1 σ bb k0.toNatClampNeg p0 q0) bb k))) H → va_S (inB base 16) s.heap H locs → ∀ ls : Array Slot, lv_has ls 6 [(5, .int (nI (2 * bb + k))), (4, .int (nI bb)), (0, .ref (base + adm 0 0)), (1, .int p0), (2, .int q0), (3, .int k0)] → W p l ev (rmL 1) s m ([.ref (base + adm 0 0), .int p0, .int q0, .int k0] : List Value).toArray below meth c H locs 0 0 (MQX below (QO D ar base (fun k r σ' => k = 0 ∧ r = some (mOpen σ p0 q0 k0).1 ∧ σ' = (mOpen σ p0 q0 k0).2)) ([.ref (base + adm 0 0), .int p0, .int q0, .int k0] : List Value).toArray s (rmL 1).cells (rmL 1).slots (inB base 16)) (F0 m 217 ls []) := by
                                    intro n
                                    induction n with
                                    | zero => intro k h1 h2; omega
                                    | succ n ih =>
                                      intro k hk1 hk2 H locs hP hS ls hl
                                      refine lv_iload hx hb d_Mo_open_217 (lv_at hl 0 rfl) ?_
                                      refine lv_iconst (v := 2) hx hb d_Mo_open_219 (by decide) ?_
                                      refine lv_iload hx hb d_Mo_open_220 (lv_at hl 1 rfl) ?_
                                      refine lv_imul hx hb d_Mo_open_222 ?_
                                      refine lv_iconst (v := 2) hx hb d_Mo_open_223 (by decide) ?_
                                      refine lv_iadd hx hb d_Mo_open_224 ?_
                                      rw [show ((2 * (nI bb)) + 2 : Int32) = nI (2 * bb + 2) from by rw [two_nI]; exact nI_aj (j := 2)]
                                      refine lv_icmp_ge (tgt := 250) hx hb d_Mo_open_225 (by decide) (fun c_225 => ?_) (fun c_225 => ?_)
                                      · skip
                                        have hkN : k = 2 := by have := (nI_leI (by omega) (by omega)).mp c_225; omega
                                        subst hkN
                                        refine lv_iload hx hb d_Mo_open_250 (lv_at hl 1 rfl) ?_
                                        exact mrI_i C0 hP hS (⟨by decide, by decide⟩) (⟨rfl, congrArg some (by unfold mOpen; rw [if_pos c_7, if_pos c_16, if_pos c_25, if_neg c_47, if_neg c_56, if_neg c_71, ← hbb, if_neg c_126]; first | done | rfl), by unfold mOpen; rw [if_pos c_7, if_pos c_16, if_pos c_25, if_neg c_47, if_neg c_56, if_neg c_71, ← hbb, if_neg c_126]; first | done | rfl⟩) d_Mo_open_252
                                      · skip
                                        have hkN : k < 2 := Nat.lt_of_not_le fun z => c_225 ((nI_leI (by omega) (by omega)).mpr (by omega))
                                        refine lv_aload_n hx hb d_Mo_open_228 rfl (lv_at hl 2 rfl) ?_
                                        refine mq_get C0 hP (kd := 0) (i := 0) (ci := 4) (by decide) (by decide) rfl rfl 10 (by decide) rfl k_fl_Mo_41 rfl d_Mo_open_229 ?_
                                        refine lv_iload hx hb d_Mo_open_232 (lv_at hl 0 rfl) ?_
                                        refine lv_iconst (v := 1) hx hb d_Mo_open_234 (by decide) ?_
                                        refine mq_iast C0 hP hS (kd := 11) (i := 0) 11 (by decide) rfl (by decide) rfl (vin_nI (by omega)) (by rw [ast_fn]; rfl) d_Mo_open_235 (fun H locs hP hS => ?_)
                                        rw [show (nI (2 * bb + k)).toNatClampNeg = (2 * bb + k) from nI_clamp (by omega)] at hP
                                        refine lv_aload_n hx hb d_Mo_open_236 rfl (lv_at hl 2 rfl) ?_
                                        refine mq_get C0 hP (kd := 0) (i := 0) (ci := 4) (by decide) (by decide) rfl rfl 11 (by decide) rfl k_fl_Mo_44 rfl d_Mo_open_237 ?_
                                        refine lv_iload hx hb d_Mo_open_240 (lv_at hl 0 rfl) ?_
                                        refine lv_iconst (v := 0) hx hb d_Mo_open_242 (by decide) ?_
                                        refine mq_iast C0 hP hS (kd := 12) (i := 0) 12 (by decide) rfl (by decide) rfl (vin_nI (by omega)) (by rw [ast_fn]; rfl) d_Mo_open_243 (fun H locs hP hS => ?_)
                                        rw [show (nI (2 * bb + k)).toNatClampNeg = (2 * bb + k) from nI_clamp (by omega)] at hP
                                        refine lv_iinc (v := nI (2 * bb + (k + 1))) (lv' := [(5, .int (nI (2 * bb + (k + 1)))), (4, .int (nI bb)), (0, .ref (base + adm 0 0)), (1, .int p0), (2, .int q0), (3, .int k0)]) hx hb d_Mo_open_244 hl (k := 0) rfl (by exact nI_1 _) (by decide) rfl (fun ls hl => ?_)
                                        refine lv_goto (tgt := 217) hx hb d_Mo_open_247 (by decide) ?_
                                        rw [show ((up (up (mBe (mOp1 σ bb k0.toNatClampNeg p0 q0) bb k) 11 0 (2 * bb + k) 1) 12 0 (2 * bb + k) 0) : Mem) = mBe (mOp1 σ bb k0.toNatClampNeg p0 q0) bb (k + 1) from rfl] at hP
                                        exact ih (k + 1) (by omega) (by omega) _ _ hP hS ls (lv_sub hl [0, 1, 2, 3, 4, 5] rfl)
                                  rw [show ((up (up (up (mCpy (up σ 0 0 1 0) bb k0.toNatClampNeg 36) 5 0 bb (σ 3 0 k0.toNatClampNeg)) 10 0 (2 * bb) p0) 10 0 (2 * bb + 1) q0) : Mem) = mBe (mOp1 σ bb k0.toNatClampNeg p0 q0) bb 0 from rfl] at hP
                                  exact loop3 (2 + 1) 0 (by omega) (by omega) _ _ hP hS ls (lv_sub hl [0, 1, 2, 3, 4, 5] rfl)
                                · skip
                                  have hkN : k < 36 := lt_nI (N := 36) c_142
                                  refine lv_aload_n hx hb d_Mo_open_145 rfl (lv_at hl 2 rfl) ?_
                                  refine mq_get C0 hP (kd := 0) (i := 0) (ci := 4) (by decide) (by decide) rfl rfl 3 (by decide) rfl k_fl_Mo_19 rfl d_Mo_open_146 ?_
                                  refine lv_iload hx hb d_Mo_open_149 (lv_at hl 1 rfl) ?_
                                  refine lv_bipush (v := 36) hx hb d_Mo_open_151 (by decide) ?_
                                  refine lv_imul hx hb d_Mo_open_153 ?_
                                  refine lv_iload hx hb d_Mo_open_154 (lv_at hl 0 rfl) ?_
                                  refine lv_iadd hx hb d_Mo_open_156 ?_
                                  refine lv_aload_n hx hb d_Mo_open_157 rfl (lv_at hl 2 rfl) ?_
                                  refine mq_get C0 hP (kd := 0) (i := 0) (ci := 4) (by decide) (by decide) rfl rfl 1 (by decide) rfl k_fl_Mo_13 rfl d_Mo_open_158 ?_
                                  refine lv_iload_n hx hb d_Mo_open_161 rfl (lv_at hl 5 rfl) ?_
                                  refine lv_bipush (v := 36) hx hb d_Mo_open_162 (by decide) ?_
                                  refine lv_imul hx hb d_Mo_open_164 ?_
                                  refine lv_iload hx hb d_Mo_open_165 (lv_at hl 0 rfl) ?_
                                  refine lv_iadd hx hb d_Mo_open_167 ?_
                                  refine W.eq (g2 := F0 m 168 ls [.int (nI (36 * k0.toNatClampNeg + k)), .ref (base + adm 2 0), .int (nI (36 * bb + k)), .ref (base + adm 4 0)]) (by rw [← ix36a, ← ix36a, ← hkb]; first | done | rfl) ?_
                                  refine mq_iald C0 hP (kd := 2) (i := 0) (by decide) (by decide) rfl (vin_nI (by omega)) d_Mo_open_168 ?_
                                  rw [show (nI (36 * k0.toNatClampNeg + k)).toNatClampNeg = (36 * k0.toNatClampNeg + k) from nI_clamp (by omega)]
                                  refine W.eq (g2 := F0 m 169 ls [.int (σ 2 0 (36 * k0.toNatClampNeg + k)), .int (nI (36 * bb + k)), .ref (base + adm 4 0)]) (by rw [show (mCpy (up σ 0 0 1 0) bb k0.toNatClampNeg k) 2 0 (36 * k0.toNatClampNeg + k) = σ 2 0 (36 * k0.toNatClampNeg + k) from by unfold mCpy; rw [if_neg (by omega)]; rfl]; first | done | rfl) ?_
                                  refine mq_iast C0 hP hS (kd := 4) (i := 0) 4 (by decide) rfl (by decide) rfl (vin_nI (by omega)) (by rw [ast_fn]; rfl) d_Mo_open_169 (fun H locs hP hS => ?_)
                                  rw [show (nI (36 * bb + k)).toNatClampNeg = (36 * bb + k) from nI_clamp (by omega)] at hP
                                  refine lv_iinc (v := nI (k + 1)) (lv' := [(5, .int (nI (k + 1))), (4, .int (nI bb)), (0, .ref (base + adm 0 0)), (1, .int p0), (2, .int q0), (3, .int k0)]) hx hb d_Mo_open_170 hl (k := 0) rfl (by exact nI_1 k) (by decide) rfl (fun ls hl => ?_)
                                  refine lv_goto (tgt := 138) hx hb d_Mo_open_173 (by decide) ?_
                                  rw [show ((up (mCpy (up σ 0 0 1 0) bb k0.toNatClampNeg k) 4 0 (36 * bb + k) (σ 2 0 (36 * k0.toNatClampNeg + k))) : Mem) = mCpy (up σ 0 0 1 0) bb k0.toNatClampNeg (k + 1) from by rw [← mCpy_s]; rfl] at hP
                                  exact ih (k + 1) (by omega) (by omega) _ _ hP hS ls (lv_sub hl [0, 1, 2, 3, 4, 5] rfl)
                            rw [show ((up σ 0 0 1 0) : Mem) = mCpy (up σ 0 0 1 0) bb k0.toNatClampNeg 0 from mCpy_0] at hP
                            exact loop2 (36 + 1) 0 (by omega) (by omega) _ _ hP hS ls (lv_sub hl [0, 1, 2, 3, 4, 5] rfl)
                          · skip
                            refine lv_aload_n hx hb d_Mo_open_129 rfl (lv_at hl 1 rfl) ?_
                            refine lv_iconst (v := 4) hx hb d_Mo_open_130 (by decide) ?_
                            refine ms_I C0 hP hS (ms_V C0 hP (kd := 0) (i := 0) (ci := 4) (As := [.int 4]) (by decide) (by decide) rfl rfl k_ml_Mo_71 k_im_Mo_fail k_sl_Mo_Mo_fail k_cd_Mo_fail k_in_Mo z_Mo_fail rfl d_Mo_open_131) (c_Mo_fail hlt) (fun k r σ h => h.1) ⟨rfl, rfl⟩ hl.1 d_Mo_open_131 (Nat.le_of_ble_eq_true rfl) (⟨by decide, by decide⟩) (⟨by decide, by decide⟩) (fun r_26 σ_27 H locs h_25 hP hS => ?_)
                            obtain ⟨-, rfl, rfl⟩ := h_25
                            exact mrI_i C0 hP hS (⟨by decide, by decide⟩) (⟨rfl, congrArg some (by unfold mOpen; rw [if_pos c_7, if_pos c_16, if_pos c_25, if_neg c_47, if_neg c_56, if_neg c_71, ← hbb, if_pos c_126]; first | done | rfl), by unfold mOpen; rw [if_pos c_7, if_pos c_16, if_pos c_25, if_neg c_47, if_neg c_56, if_neg c_71, ← hbb, if_pos c_126]; first | done | rfl⟩) d_Mo_open_134
                        · skip
                          refine lv_iinc (v := nI (k + 1)) (lv' := [(4, .int (nI (k + 1))), (0, .ref (base + adm 0 0)), (1, .int p0), (2, .int q0), (3, .int k0)]) hx hb d_Mo_open_116 hl (k := 0) rfl (by exact nI_1 k) (by decide) rfl (fun ls hl => ?_)
                          refine lv_goto (tgt := 83) hx hb d_Mo_open_119 (by decide) ?_
                          rw [show ((up σ 0 0 1 0) : Mem) = up σ 0 0 1 0 from rfl] at hP
                          exact ih (k + 1) (by omega) (by omega) (lt_s hinv (fun z => c_113 z.2)) _ _ hP hS ls (lv_sub hl [0, 1, 2, 3, 4] rfl)
                rw [show ((up σ 0 0 1 0) : Mem) = up σ 0 0 1 0 from rfl] at hP
                exact loop (6 + 1) 0 (by omega) (by omega) (fun j hj => absurd hj (Nat.not_lt_zero j)) _ _ hP hS ls (lv_sub hl [0, 1, 2, 3, 4] rfl)
              · skip
                refine lv_aload_n hx hb d_Mo_open_74 rfl (lv_at hl 0 rfl) ?_
                refine lv_iconst (v := 3) hx hb d_Mo_open_75 (by decide) ?_
                refine ms_I C0 hP hS (ms_V C0 hP (kd := 0) (i := 0) (ci := 4) (As := [.int 3]) (by decide) (by decide) rfl rfl k_ml_Mo_71 k_im_Mo_fail k_sl_Mo_Mo_fail k_cd_Mo_fail k_in_Mo z_Mo_fail rfl d_Mo_open_76) (c_Mo_fail hlt) (fun k r σ h => h.1) ⟨rfl, rfl⟩ hl.1 d_Mo_open_76 (Nat.le_of_ble_eq_true rfl) (⟨by decide, by decide⟩) (⟨by decide, by decide⟩) (fun r_29 σ_30 H locs h_28 hP hS => ?_)
                obtain ⟨-, rfl, rfl⟩ := h_28
                exact mrI_i C0 hP hS (⟨by decide, by decide⟩) (⟨rfl, congrArg some (by unfold mOpen; rw [if_pos c_7, if_pos c_16, if_pos c_25, if_neg c_47, if_neg c_56, if_pos c_71]; first | done | rfl), by unfold mOpen; rw [if_pos c_7, if_pos c_16, if_pos c_25, if_neg c_47, if_neg c_56, if_pos c_71]; first | done | rfl⟩) d_Mo_open_79
            · skip
              refine lv_aload_n hx hb d_Mo_open_59 rfl (lv_at hl 0 rfl) ?_
              refine lv_iconst (v := 2) hx hb d_Mo_open_60 (by decide) ?_
              refine ms_I C0 hP hS (ms_V C0 hP (kd := 0) (i := 0) (ci := 4) (As := [.int 2]) (by decide) (by decide) rfl rfl k_ml_Mo_71 k_im_Mo_fail k_sl_Mo_Mo_fail k_cd_Mo_fail k_in_Mo z_Mo_fail rfl d_Mo_open_61) (c_Mo_fail hlt) (fun k r σ h => h.1) ⟨rfl, rfl⟩ hl.1 d_Mo_open_61 (Nat.le_of_ble_eq_true rfl) (⟨by decide, by decide⟩) (⟨by decide, by decide⟩) (fun r_32 σ_33 H locs h_31 hP hS => ?_)
              obtain ⟨-, rfl, rfl⟩ := h_31
              exact mrI_i C0 hP hS (⟨by decide, by decide⟩) (⟨rfl, congrArg some (by unfold mOpen; rw [if_pos c_7, if_pos c_16, if_pos c_25, if_neg c_47, if_pos c_56]; first | done | rfl), by unfold mOpen; rw [if_pos c_7, if_pos c_16, if_pos c_25, if_neg c_47, if_pos c_56]; first | done | rfl⟩) d_Mo_open_64
        · skip
          exact absurd rfl c_36
