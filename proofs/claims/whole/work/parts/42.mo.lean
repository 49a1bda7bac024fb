/-! The model's plain public methods: laid by gen/m42.py. -/
theorem NY_0 {σ : Mem} {q b : Int32} (h : (mNY σ q b).1 = 0) : vp_in q 4 ∧ vp_in b 12 ∧ (mNY σ q b).2 = up σ 0 0 1 0 := by
  unfold mNY at h ⊢
  by_cases h1 : inR q 0 3
  · rw [if_pos h1] at h ⊢
    by_cases h2 : inR b 0 11
    · rw [if_pos h2] at h ⊢
      by_cases h3 : σ 6 0 q.toNatClampNeg = 0
      · rw [if_pos h3] at h; exact absurd h (show ¬ (1 : Int32) = 0 by decide)
      · rw [if_neg h3] at h ⊢
        by_cases h4 : σ 7 0 b.toNatClampNeg = q
        · rw [if_pos h4]; exact ⟨vin_R h1, vin_R h2, rfl⟩
        · rw [if_neg h4] at h; exact absurd h (show ¬ (1 : Int32) = 0 by decide)
    · rw [if_neg h2] at h; exact absurd h (show ¬ (1 : Int32) = 0 by decide)
  · rw [if_neg h1] at h; exact absurd h (show ¬ (1 : Int32) = 0 by decide)
theorem NE_0 {σ : Mem} {q b : Int32} (h : (mNE σ q b).1 = 0) : vp_in q 4 ∧ vp_in b 12 ∧ (mNE σ q b).2 = up σ 0 0 1 0 := by
  unfold mNE at h ⊢
  by_cases h1 : inR q 0 3
  · rw [if_pos h1] at h ⊢
    by_cases h2 : inR b 0 11
    · rw [if_pos h2] at h ⊢
      by_cases h3 : σ 6 0 q.toNatClampNeg = 0
      · rw [if_pos h3] at h; exact absurd h (show ¬ (1 : Int32) = 0 by decide)
      · rw [if_neg h3] at h ⊢
        by_cases h4 : σ 10 0 b.toNatClampNeg = q
        · rw [if_pos h4]; exact ⟨vin_R h1, vin_R h2, rfl⟩
        · rw [if_neg h4] at h; exact absurd h (show ¬ (1 : Int32) = 0 by decide)
    · rw [if_neg h2] at h; exact absurd h (show ¬ (1 : Int32) = 0 by decide)
  · rw [if_neg h1] at h; exact absurd h (show ¬ (1 : Int32) = 0 by decide)
/-- the model's blocks have at most eight cells -/
def MC (σ : Mem) : Prop := ∀ b, b < 12 → ∃ n : Nat, n ≤ 8 ∧ σ 8 0 b = nI n
theorem nI_mj {a k j : Nat} : nI j * nI a + nI k = nI (a * j + k) := by rw [pk_mul, nI_aj, Nat.mul_comm]
theorem vin_cell {σ : Mem} {b i : Int32} (hm : MC σ) (hb : vp_in b 12) (h0 : ¬ i < 0) (h1 : i < σ 8 0 b.toNatClampNeg) : vp_in (b * 8 + i) 96 := by
  obtain ⟨n, hn, h2⟩ := hm _ (vin_lt hb)
  have hi : vp_in i 8 := by
    rw [h2, Int32.lt_iff_toInt_lt, nI_toInt (by omega)] at h1
    exact vin_rg h0 (by omega)
  obtain ⟨j, hj, rfl⟩ := vp_in_of hb (by decide)
  obtain ⟨k, hk, rfl⟩ := vp_in_of hi (by decide)
  rw [show (8 : Int32) = nI 8 from by decide, nI_mj]
  exact vin_nI (by omega)
def mFreeP (σ : Mem) (q b : Int32) : Mem := if (mNY σ q b).1 = 0 then mFree (up σ 0 0 1 0) b else (mNY σ q b).2
def mRead (σ : Mem) (q b i : Int32) : Int32 × Mem := if (mNY σ q b).1 = 0 then (if i < 0 then mFail (up σ 0 0 1 0) 3 else if i < σ 8 0 b.toNatClampNeg then (σ 9 0 (b * 8 + i).toNatClampNeg, up σ 0 0 1 0) else mFail (up σ 0 0 1 0) 3) else (0, (mNY σ q b).2)
def mWrite (σ : Mem) (q b i v : Int32) : Mem := if (mNY σ q b).1 = 0 then (if i < 0 then up (up σ 0 0 1 0) 0 0 1 3 else if i < σ 8 0 b.toNatClampNeg then up (up σ 0 0 1 0) 9 0 (b * 8 + i).toNatClampNeg v else up (up σ 0 0 1 0) 0 0 1 3) else (mNY σ q b).2
def mOfB (σ : Mem) (b x : Int32) : Int32 × Mem := if inR b 0 11 then (if inR x 0 1 then (if x = 0 then (σ 7 0 b.toNatClampNeg, up σ 0 0 1 0) else (σ 8 0 b.toNatClampNeg, up σ 0 0 1 0)) else (0, up σ 0 0 1 1)) else (0, up σ 0 0 1 1)
def mOfE (σ : Mem) (b x : Int32) : Int32 × Mem := if inR b 0 11 then (if inR x 0 2 then (if x = 0 then (σ 10 0 b.toNatClampNeg, up σ 0 0 1 0) else if x = 1 then (σ 11 0 b.toNatClampNeg, up σ 0 0 1 0) else (σ 12 0 b.toNatClampNeg, up σ 0 0 1 0)) else (0, up σ 0 0 1 1)) else (0, up σ 0 0 1 1)
def mStL (σ : Mem) : Nat → Nat → Int32 × Mem
  | 0, _ => mFail σ 1
  | n + 1, k => if σ 6 0 k = 0 then (nI k, up σ 6 0 k 1) else mStL σ n (k + 1)
def mStart (σ : Mem) : Int32 × Mem := mStL (up σ 0 0 1 0) 4 0
theorem mStL_s {σ : Mem} {k : Nat} (hk : k < 4) : mStL σ (4 - k) k = if σ 6 0 k = 0 then (nI k, up σ 6 0 k 1) else mStL σ (4 - (k + 1)) (k + 1) := by
  obtain ⟨n, hn⟩ : ∃ n, 4 - k = n + 1 := ⟨3 - k, by omega⟩
  have hn2 : 4 - (k + 1) = n := by omega
  rw [hn, hn2]
  rfl
abbrev mChP (σ : Mem) (q mask : Int32) (k : Nat) : Prop := ¬ (mask >>> (nI k &&& 31)) &&& 1 = 0 ∧ σ 10 0 k = q ∧ ¬ σ 12 0 k ≤ 0
def mChL (σ : Mem) (q mask : Int32) : Nat → Nat → Int32 × Mem
  | 0, _ => mFail σ 3
  | n + 1, k => if mChP σ q mask k then (nI k, σ) else mChL σ q mask n (k + 1)
theorem mChL_s {σ : Mem} {q mask : Int32} {k : Nat} (hk : k < 12) : mChL σ q mask (12 - k) k = if mChP σ q mask k then (nI k, σ) else mChL σ q mask (12 - (k + 1)) (k + 1) := by
  obtain ⟨n, hn⟩ : ∃ n, 12 - k = n + 1 := ⟨11 - k, by omega⟩
  have hn2 : 12 - (k + 1) = n := by omega
  rw [hn, hn2]
  rfl
def mChoose (σ : Mem) (q mask : Int32) : Int32 × Mem := if inR q 0 3 then (if inR mask 0 4095 then (if σ 6 0 q.toNatClampNeg = 0 then mFail (up σ 0 0 1 0) 2 else mChL (up σ 0 0 1 0) q mask 12 0) else (0, up σ 0 0 1 1)) else (0, up σ 0 0 1 1)
set_option maxHeartbeats 4000000 in
set_option maxRecDepth 100000 in
theorem c_Mo_free {S0 : State} {A0 : Array Value} {D : va_G} {ar : Nat → ClassId} {base : Nat} {σ : Mem} {l : Launch} (hlt : l.stackTraces = false) {q b : Int32} :
    MX l y_Mo_free [Cond.code y_Mo_free b_Mo_free 3 none] (rmL 2) (PO S0 A0 D ar base σ [.ref (base + adm 0 0), .int q, .int b]) (QO D ar base (fun k r σ' => k = 0 ∧ r = none ∧ σ' = mFreeP σ q b)) (inB base 16) := by
  refine mx_head hlt (by decide +kernel) (Nat.le_of_ble_eq_true rfl) ?_
  intro p ev s m below meth c ls C0 hP hl
  have C0 : Cx S0 A0 D ar base p l s m _ meth c R_Mo b_Mo_free 3 none := C0
  obtain ⟨hx, hb, -⟩ := id C0
  have hl : lv_has ls 3 [(0, .ref (base + adm 0 0)), (1, .int q), (2, .int b)] := hl
  have hS : va_S (inB base 16) s.heap s.heap [] := va_S.rf
  refine lv_aload_n hx hb d_Mo_free_0 rfl (lv_at hl 0 rfl) ?_
  refine lv_iload_n hx hb d_Mo_free_1 rfl (lv_at hl 1 rfl) ?_
  refine lv_iload_n hx hb d_Mo_free_2 rfl (lv_at hl 2 rfl) ?_
  refine ms_I C0 hP hS (ms_V C0 hP (kd := 0) (i := 0) (ci := 4) (As := [.int q, .int b]) (by decide) (by decide) rfl rfl k_ml_Mo_110 k_im_Mo_notYours k_sl_Mo_Mo_notYours k_cd_Mo_notYours k_in_Mo z_Mo_notYours rfl d_Mo_free_3) (c_Mo_notYours hlt) (fun k r σ h => h.1) ⟨rfl, rfl⟩ hl.1 d_Mo_free_3 (Nat.le_of_ble_eq_true rfl) (⟨by decide, by decide⟩) (⟨by decide, by decide⟩) (fun r_2 σ_3 H locs h_1 hP hS => ?_)
  obtain ⟨-, rfl, rfl⟩ := h_1
  refine lv_if_eq (tgt := 10) hx hb d_Mo_free_6 (by decide) (fun c_6 => ?_) (fun c_6 => ?_)
  · skip
    rw [(NY_0 c_6).2.2] at hP
    refine lv_aload_n hx hb d_Mo_free_10 rfl (lv_at hl 0 rfl) ?_
    refine lv_iload_n hx hb d_Mo_free_11 rfl (lv_at hl 2 rfl) ?_
    refine ms_I C0 hP hS (ms_V C0 hP (kd := 0) (i := 0) (ci := 4) (As := [.int b]) (by decide) (by decide) rfl rfl k_ml_Mo_94 k_im_Mo_freeBlock k_sl_Mo_Mo_freeBlock k_cd_Mo_freeBlock k_in_Mo z_Mo_freeBlock rfl d_Mo_free_12) (c_Mo_freeBlock hlt (NY_0 c_6).2.1) (fun k r σ h => h.1) ⟨rfl, rfl⟩ hl.1 d_Mo_free_12 (Nat.le_of_ble_eq_true rfl) (⟨by decide, by decide⟩) (⟨by decide, by decide⟩) (fun r_5 σ_6 H locs h_4 hP hS => ?_)
    obtain ⟨-, rfl, rfl⟩ := h_4
    exact mrI_v C0 hP hS (⟨by decide, by decide⟩) (⟨rfl, rfl, by unfold mFreeP; rw [if_pos c_6]; first | done | rfl⟩) d_Mo_free_15
  · skip
    exact mrI_v C0 hP hS (⟨by decide, by decide⟩) (⟨rfl, rfl, by unfold mFreeP; rw [if_neg c_6]; first | done | rfl⟩) d_Mo_free_9
set_option maxHeartbeats 4000000 in
set_option maxRecDepth 100000 in
theorem c_Mo_read {S0 : State} {A0 : Array Value} {D : va_G} {ar : Nat → ClassId} {base : Nat} {σ : Mem} {l : Launch} (hlt : l.stackTraces = false) {q b i : Int32} (hmc : MC σ) :
    MX l y_Mo_read [Cond.code y_Mo_read b_Mo_read 4 (some .int)] (rmL 2) (PO S0 A0 D ar base σ [.ref (base + adm 0 0), .int q, .int b, .int i]) (QO D ar base (fun k r σ' => k = 0 ∧ r = some (mRead σ q b i).1 ∧ σ' = (mRead σ q b i).2)) (inB base 16) := by
  refine mx_head hlt (by decide +kernel) (Nat.le_of_ble_eq_true rfl) ?_
  intro p ev s m below meth c ls C0 hP hl
  have C0 : Cx S0 A0 D ar base p l s m _ meth c R_Mo b_Mo_read 4 (some .int) := C0
  obtain ⟨hx, hb, -⟩ := id C0
  have hl : lv_has ls 4 [(0, .ref (base + adm 0 0)), (1, .int q), (2, .int b), (3, .int i)] := hl
  have hS : va_S (inB base 16) s.heap s.heap [] := va_S.rf
  refine lv_aload_n hx hb d_Mo_read_0 rfl (lv_at hl 0 rfl) ?_
  refine lv_iload_n hx hb d_Mo_read_1 rfl (lv_at hl 1 rfl) ?_
  refine lv_iload_n hx hb d_Mo_read_2 rfl (lv_at hl 2 rfl) ?_
  refine ms_I C0 hP hS (ms_V C0 hP (kd := 0) (i := 0) (ci := 4) (As := [.int q, .int b]) (by decide) (by decide) rfl rfl k_ml_Mo_110 k_im_Mo_notYours k_sl_Mo_Mo_notYours k_cd_Mo_notYours k_in_Mo z_Mo_notYours rfl d_Mo_read_3) (c_Mo_notYours hlt) (fun k r σ h => h.1) ⟨rfl, rfl⟩ hl.1 d_Mo_read_3 (Nat.le_of_ble_eq_true rfl) (⟨by decide, by decide⟩) (⟨by decide, by decide⟩) (fun r_2 σ_3 H locs h_1 hP hS => ?_)
  obtain ⟨-, rfl, rfl⟩ := h_1
  refine lv_if_eq (tgt := 11) hx hb d_Mo_read_6 (by decide) (fun c_6 => ?_) (fun c_6 => ?_)
  · skip
    rw [(NY_0 c_6).2.2] at hP
    refine lv_iload_n hx hb d_Mo_read_11 rfl (lv_at hl 3 rfl) ?_
    refine lv_if_lt (tgt := 25) hx hb d_Mo_read_12 (by decide) (fun c_12 => ?_) (fun c_12 => ?_)
    · skip
      refine lv_aload_n hx hb d_Mo_read_25 rfl (lv_at hl 0 rfl) ?_
      refine lv_iconst (v := 3) hx hb d_Mo_read_26 (by decide) ?_
      refine ms_I C0 hP hS (ms_V C0 hP (kd := 0) (i := 0) (ci := 4) (As := [.int 3]) (by decide) (by decide) rfl rfl k_ml_Mo_71 k_im_Mo_fail k_sl_Mo_Mo_fail k_cd_Mo_fail k_in_Mo z_Mo_fail rfl d_Mo_read_27) (c_Mo_fail hlt) (fun k r σ h => h.1) ⟨rfl, rfl⟩ hl.1 d_Mo_read_27 (Nat.le_of_ble_eq_true rfl) (⟨by decide, by decide⟩) (⟨by decide, by decide⟩) (fun r_5 σ_6 H locs h_4 hP hS => ?_)
      obtain ⟨-, rfl, rfl⟩ := h_4
      refine lv_goto (tgt := 44) hx hb d_Mo_read_30 (by decide) ?_
      exact mrI_i C0 hP hS (⟨by decide, by decide⟩) (⟨rfl, congrArg some (by unfold mRead; rw [if_pos c_6, if_pos c_12]; first | done | rfl), by unfold mRead; rw [if_pos c_6, if_pos c_12]; first | done | rfl⟩) d_Mo_read_44
    · skip
      refine lv_iload_n hx hb d_Mo_read_15 rfl (lv_at hl 3 rfl) ?_
      refine lv_aload_n hx hb d_Mo_read_16 rfl (lv_at hl 0 rfl) ?_
      refine mq_get C0 hP (kd := 0) (i := 0) (ci := 4) (by decide) (by decide) rfl rfl 7 (by decide) rfl k_fl_Mo_32 rfl d_Mo_read_17 ?_
      refine lv_iload_n hx hb d_Mo_read_20 rfl (lv_at hl 2 rfl) ?_
      refine mq_iald C0 hP (kd := 8) (i := 0) (by decide) (by decide) rfl ((NY_0 c_6).2.1) d_Mo_read_21 ?_
      refine W.eq (g2 := F0 m 22 ls [.int (σ 8 0 b.toNatClampNeg), .int i]) rfl ?_
      refine lv_icmp_lt (tgt := 33) hx hb d_Mo_read_22 (by decide) (fun c_22 => ?_) (fun c_22 => ?_)
      · skip
        refine lv_aload_n hx hb d_Mo_read_33 rfl (lv_at hl 0 rfl) ?_
        refine mq_get C0 hP (kd := 0) (i := 0) (ci := 4) (by decide) (by decide) rfl rfl 8 (by decide) rfl k_fl_Mo_35 rfl d_Mo_read_34 ?_
        refine lv_iload_n hx hb d_Mo_read_37 rfl (lv_at hl 2 rfl) ?_
        refine lv_bipush (v := 8) hx hb d_Mo_read_38 (by decide) ?_
        refine lv_imul hx hb d_Mo_read_40 ?_
        refine lv_iload_n hx hb d_Mo_read_41 rfl (lv_at hl 3 rfl) ?_
        refine lv_iadd hx hb d_Mo_read_42 ?_
        refine mq_iald C0 hP (kd := 9) (i := 0) (by decide) (by decide) rfl (vin_cell hmc (NY_0 c_6).2.1 c_12 c_22) d_Mo_read_43 ?_
        refine W.eq (g2 := F0 m 44 ls [.int (σ 9 0 (((b * 8) + i).toNatClampNeg))]) rfl ?_
        exact mrI_i C0 hP hS (⟨by decide, by decide⟩) (⟨rfl, congrArg some (by unfold mRead; rw [if_pos c_6, if_neg c_12, if_pos c_22]; first | done | rfl), by unfold mRead; rw [if_pos c_6, if_neg c_12, if_pos c_22]; first | done | rfl⟩) d_Mo_read_44
      · skip
        refine lv_aload_n hx hb d_Mo_read_25 rfl (lv_at hl 0 rfl) ?_
        refine lv_iconst (v := 3) hx hb d_Mo_read_26 (by decide) ?_
        refine ms_I C0 hP hS (ms_V C0 hP (kd := 0) (i := 0) (ci := 4) (As := [.int 3]) (by decide) (by decide) rfl rfl k_ml_Mo_71 k_im_Mo_fail k_sl_Mo_Mo_fail k_cd_Mo_fail k_in_Mo z_Mo_fail rfl d_Mo_read_27) (c_Mo_fail hlt) (fun k r σ h => h.1) ⟨rfl, rfl⟩ hl.1 d_Mo_read_27 (Nat.le_of_ble_eq_true rfl) (⟨by decide, by decide⟩) (⟨by decide, by decide⟩) (fun r_8 σ_9 H locs h_7 hP hS => ?_)
        obtain ⟨-, rfl, rfl⟩ := h_7
        refine lv_goto (tgt := 44) hx hb d_Mo_read_30 (by decide) ?_
        exact mrI_i C0 hP hS (⟨by decide, by decide⟩) (⟨rfl, congrArg some (by unfold mRead; rw [if_pos c_6, if_neg c_12, if_neg c_22]; first | done | rfl), by unfold mRead; rw [if_pos c_6, if_neg c_12, if_neg c_22]; first | done | rfl⟩) d_Mo_read_44
  · skip
    refine lv_iconst (v := 0) hx hb d_Mo_read_9 (by decide) ?_
    exact mrI_i C0 hP hS (⟨by decide, by decide⟩) (⟨rfl, congrArg some (by unfold mRead; rw [if_neg c_6]; first | done | rfl), by unfold mRead; rw [if_neg c_6]; first | done | rfl⟩) d_Mo_read_10
set_option maxHeartbeats 4000000 in
set_option maxRecDepth 100000 in
theorem c_Mo_write {S0 : State} {A0 : Array Value} {D : va_G} {ar : Nat → ClassId} {base : Nat} {σ : Mem} {l : Launch} (hlt : l.stackTraces = false) {q b i v : Int32} (hmc : MC σ) :
    MX l y_Mo_write [Cond.code y_Mo_write b_Mo_write 5 none] (rmL 2) (PO S0 A0 D ar base σ [.ref (base + adm 0 0), .int q, .int b, .int i, .int v]) (QO D ar base (fun k r σ' => k = 0 ∧ r = none ∧ σ' = mWrite σ q b i v)) (inB base 16) := by
  refine mx_head hlt (by decide +kernel) (Nat.le_of_ble_eq_true rfl) ?_
  intro p ev s m below meth c ls C0 hP hl
  have C0 : Cx S0 A0 D ar base p l s m _ meth c R_Mo b_Mo_write 5 none := C0
  obtain ⟨hx, hb, -⟩ := id C0
  have hl : lv_has ls 5 [(0, .ref (base + adm 0 0)), (1, .int q), (2, .int b), (3, .int i), (4, .int v)] := hl
  have hS : va_S (inB base 16) s.heap s.heap [] := va_S.rf
  refine lv_aload_n hx hb d_Mo_write_0 rfl (lv_at hl 0 rfl) ?_
  refine lv_iload_n hx hb d_Mo_write_1 rfl (lv_at hl 1 rfl) ?_
  refine lv_iload_n hx hb d_Mo_write_2 rfl (lv_at hl 2 rfl) ?_
  refine ms_I C0 hP hS (ms_V C0 hP (kd := 0) (i := 0) (ci := 4) (As := [.int q, .int b]) (by decide) (by decide) rfl rfl k_ml_Mo_110 k_im_Mo_notYours k_sl_Mo_Mo_notYours k_cd_Mo_notYours k_in_Mo z_Mo_notYours rfl d_Mo_write_3) (c_Mo_notYours hlt) (fun k r σ h => h.1) ⟨rfl, rfl⟩ hl.1 d_Mo_write_3 (Nat.le_of_ble_eq_true rfl) (⟨by decide, by decide⟩) (⟨by decide, by decide⟩) (fun r_2 σ_3 H locs h_1 hP hS => ?_)
  obtain ⟨-, rfl, rfl⟩ := h_1
  refine lv_if_eq (tgt := 10) hx hb d_Mo_write_6 (by decide) (fun c_6 => ?_) (fun c_6 => ?_)
  · skip
    rw [(NY_0 c_6).2.2] at hP
    refine lv_iload_n hx hb d_Mo_write_10 rfl (lv_at hl 3 rfl) ?_
    refine lv_if_lt (tgt := 24) hx hb d_Mo_write_11 (by decide) (fun c_11 => ?_) (fun c_11 => ?_)
    · skip
      refine lv_aload_n hx hb d_Mo_write_24 rfl (lv_at hl 0 rfl) ?_
      refine lv_iconst (v := 3) hx hb d_Mo_write_25 (by decide) ?_
      refine mq_put C0 hP hS (kd := 0) (i := 0) (ci := 4) 0 1 (by decide) rfl (by decide) rfl rfl t_Mo t_Mo_ok n_Mo 16 (by decide) rfl k_fl_Mo_56 rfl (by decide +kernel) (Nat.le_of_ble_eq_true rfl) (by simp [conto, up]) d_Mo_write_26 (fun H locs hP hS => ?_)
      refine lv_goto (tgt := 45) hx hb d_Mo_write_29 (by decide) ?_
      exact mrI_v C0 hP hS (⟨by decide, by decide⟩) (⟨rfl, rfl, by unfold mWrite; rw [if_pos c_6, if_pos c_11]; first | done | rfl⟩) d_Mo_write_45
    · skip
      refine lv_iload_n hx hb d_Mo_write_14 rfl (lv_at hl 3 rfl) ?_
      refine lv_aload_n hx hb d_Mo_write_15 rfl (lv_at hl 0 rfl) ?_
      refine mq_get C0 hP (kd := 0) (i := 0) (ci := 4) (by decide) (by decide) rfl rfl 7 (by decide) rfl k_fl_Mo_32 rfl d_Mo_write_16 ?_
      refine lv_iload_n hx hb d_Mo_write_19 rfl (lv_at hl 2 rfl) ?_
      refine mq_iald C0 hP (kd := 8) (i := 0) (by decide) (by decide) rfl ((NY_0 c_6).2.1) d_Mo_write_20 ?_
      refine W.eq (g2 := F0 m 21 ls [.int (σ 8 0 b.toNatClampNeg), .int i]) rfl ?_
      refine lv_icmp_lt (tgt := 32) hx hb d_Mo_write_21 (by decide) (fun c_21 => ?_) (fun c_21 => ?_)
      · skip
        refine lv_aload_n hx hb d_Mo_write_32 rfl (lv_at hl 0 rfl) ?_
        refine mq_get C0 hP (kd := 0) (i := 0) (ci := 4) (by decide) (by decide) rfl rfl 8 (by decide) rfl k_fl_Mo_35 rfl d_Mo_write_33 ?_
        refine lv_iload_n hx hb d_Mo_write_36 rfl (lv_at hl 2 rfl) ?_
        refine lv_bipush (v := 8) hx hb d_Mo_write_37 (by decide) ?_
        refine lv_imul hx hb d_Mo_write_39 ?_
        refine lv_iload_n hx hb d_Mo_write_40 rfl (lv_at hl 3 rfl) ?_
        refine lv_iadd hx hb d_Mo_write_41 ?_
        refine lv_iload hx hb d_Mo_write_42 (lv_at hl 4 rfl) ?_
        refine mq_iast C0 hP hS (kd := 9) (i := 0) 9 (by decide) rfl (by decide) rfl (vin_cell hmc (NY_0 c_6).2.1 c_11 c_21) (by rw [ast_fn]; rfl) d_Mo_write_44 (fun H locs hP hS => ?_)
        exact mrI_v C0 hP hS (⟨by decide, by decide⟩) (⟨rfl, rfl, by unfold mWrite; rw [if_pos c_6, if_neg c_11, if_pos c_21]; first | done | rfl⟩) d_Mo_write_45
      · skip
        refine lv_aload_n hx hb d_Mo_write_24 rfl (lv_at hl 0 rfl) ?_
        refine lv_iconst (v := 3) hx hb d_Mo_write_25 (by decide) ?_
        refine mq_put C0 hP hS (kd := 0) (i := 0) (ci := 4) 0 1 (by decide) rfl (by decide) rfl rfl t_Mo t_Mo_ok n_Mo 16 (by decide) rfl k_fl_Mo_56 rfl (by decide +kernel) (Nat.le_of_ble_eq_true rfl) (by simp [conto, up]) d_Mo_write_26 (fun H locs hP hS => ?_)
        refine lv_goto (tgt := 45) hx hb d_Mo_write_29 (by decide) ?_
        exact mrI_v C0 hP hS (⟨by decide, by decide⟩) (⟨rfl, rfl, by unfold mWrite; rw [if_pos c_6, if_neg c_11, if_neg c_21]; first | done | rfl⟩) d_Mo_write_45
  · skip
    exact mrI_v C0 hP hS (⟨by decide, by decide⟩) (⟨rfl, rfl, by unfold mWrite; rw [if_neg c_6]; first | done | rfl⟩) d_Mo_write_9
set_option maxHeartbeats 4000000 in
set_option maxRecDepth 100000 in
theorem c_Mo_ofBlock {S0 : State} {A0 : Array Value} {D : va_G} {ar : Nat → ClassId} {base : Nat} {σ : Mem} {l : Launch} (hlt : l.stackTraces = false) {b x : Int32} :
    MX l y_Mo_ofBlock [Cond.code y_Mo_ofBlock b_Mo_ofBlock 3 (some .int)] (rmL 1) (PO S0 A0 D ar base σ [.ref (base + adm 0 0), .int b, .int x]) (QO D ar base (fun k r σ' => k = 0 ∧ r = some (mOfB σ b x).1 ∧ σ' = (mOfB σ b x).2)) (inB base 16) := by
  refine mx_head hlt (by decide +kernel) (Nat.le_of_ble_eq_true rfl) ?_
  intro p ev s m below meth c ls C0 hP hl
  have C0 : Cx S0 A0 D ar base p l s m _ meth c R_Mo b_Mo_ofBlock 3 (some .int) := C0
  obtain ⟨hx, hb, -⟩ := id C0
  have hl : lv_has ls 3 [(0, .ref (base + adm 0 0)), (1, .int b), (2, .int x)] := hl
  have hS : va_S (inB base 16) s.heap s.heap [] := va_S.rf
  refine lv_aload_n hx hb d_Mo_ofBlock_0 rfl (lv_at hl 0 rfl) ?_
  refine lv_iload_n hx hb d_Mo_ofBlock_1 rfl (lv_at hl 1 rfl) ?_
  refine lv_iconst (v := 0) hx hb d_Mo_ofBlock_2 (by decide) ?_
  refine lv_bipush (v := 11) hx hb d_Mo_ofBlock_3 (by decide) ?_
  refine ms_P C0 hP hS (cs_S C0 (As := [.int b, .int 0, .int 11]) k_ml_Mo_60 k_st_Mo_in k_cd_Mo_in k_in_Mo z_Mo_in rfl d_Mo_ofBlock_5) (c_Mo_in hlt) hl.1 d_Mo_ofBlock_5 (Nat.le_of_ble_eq_true rfl) (⟨by decide, by decide⟩) (⟨by decide, by decide⟩) (fun k r x t hk hp => absurd hp.1 hk) (fun r_2 h_1 => ?_)
  obtain ⟨-, rfl⟩ := h_1
  refine lv_if_eq (tgt := 24) hx hb d_Mo_ofBlock_8 (by decide) (fun c_8 => ?_) (fun c_8 => ?_)
  · skip
    have c_8 := b2i_z.mp c_8
    refine lv_iconst (v := 0) hx hb d_Mo_ofBlock_24 (by decide) ?_
    refine ms_I C0 hP hS (ms_V C0 hP (kd := 0) (i := 0) (ci := 4) (As := [.int 0]) (by decide) (by decide) rfl rfl k_ml_Mo_64 k_im_Mo_bad k_sl_Mo_Mo_bad k_cd_Mo_bad k_in_Mo z_Mo_bad rfl d_Mo_ofBlock_25) (c_Mo_bad hlt (P := False)) (fun k r σ h => h.1) ⟨rfl, rfl⟩ hl.1 d_Mo_ofBlock_25 (Nat.le_of_ble_eq_true rfl) (⟨by decide, by decide⟩) (⟨by decide, by decide⟩) (fun r_4 σ_5 H locs h_3 hP hS => ?_)
    obtain ⟨-, rfl, rfl⟩ := h_3
    replace hP : va_P D classes (wl base 16 (memo ar base (up σ 0 0 1 1))) H := hP
    refine lv_if_eq (tgt := 33) hx hb d_Mo_ofBlock_28 (by decide) (fun c_28 => ?_) (fun c_28 => ?_)
    · skip
      exact absurd c_28 (by decide)
    · skip
      refine lv_iconst (v := 0) hx hb d_Mo_ofBlock_31 (by decide) ?_
      exact mrI_i C0 hP hS (⟨by decide, by decide⟩) (⟨rfl, congrArg some (by unfold mOfB; rw [if_neg c_8]; first | done | rfl), by unfold mOfB; rw [if_neg c_8]; first | done | rfl⟩) d_Mo_ofBlock_32
  · skip
    have c_8 := b2i_ne.mp c_8
    refine lv_iload_n hx hb d_Mo_ofBlock_11 rfl (lv_at hl 2 rfl) ?_
    refine lv_iconst (v := 0) hx hb d_Mo_ofBlock_12 (by decide) ?_
    refine lv_iconst (v := 1) hx hb d_Mo_ofBlock_13 (by decide) ?_
    refine ms_P C0 hP hS (cs_S C0 (As := [.int x, .int 0, .int 1]) k_ml_Mo_60 k_st_Mo_in k_cd_Mo_in k_in_Mo z_Mo_in rfl d_Mo_ofBlock_14) (c_Mo_in hlt) hl.1 d_Mo_ofBlock_14 (Nat.le_of_ble_eq_true rfl) (⟨by decide, by decide⟩) (⟨by decide, by decide⟩) (fun k r x t hk hp => absurd hp.1 hk) (fun r_7 h_6 => ?_)
    obtain ⟨-, rfl⟩ := h_6
    refine lv_if_eq (tgt := 24) hx hb d_Mo_ofBlock_17 (by decide) (fun c_17 => ?_) (fun c_17 => ?_)
    · skip
      have c_17 := b2i_z.mp c_17
      refine lv_iconst (v := 0) hx hb d_Mo_ofBlock_24 (by decide) ?_
      refine ms_I C0 hP hS (ms_V C0 hP (kd := 0) (i := 0) (ci := 4) (As := [.int 0]) (by decide) (by decide) rfl rfl k_ml_Mo_64 k_im_Mo_bad k_sl_Mo_Mo_bad k_cd_Mo_bad k_in_Mo z_Mo_bad rfl d_Mo_ofBlock_25) (c_Mo_bad hlt (P := False)) (fun k r σ h => h.1) ⟨rfl, rfl⟩ hl.1 d_Mo_ofBlock_25 (Nat.le_of_ble_eq_true rfl) (⟨by decide, by decide⟩) (⟨by decide, by decide⟩) (fun r_9 σ_10 H locs h_8 hP hS => ?_)
      obtain ⟨-, rfl, rfl⟩ := h_8
      replace hP : va_P D classes (wl base 16 (memo ar base (up σ 0 0 1 1))) H := hP
      refine lv_if_eq (tgt := 33) hx hb d_Mo_ofBlock_28 (by decide) (fun c_28 => ?_) (fun c_28 => ?_)
      · skip
        exact absurd c_28 (by decide)
      · skip
        refine lv_iconst (v := 0) hx hb d_Mo_ofBlock_31 (by decide) ?_
        exact mrI_i C0 hP hS (⟨by decide, by decide⟩) (⟨rfl, congrArg some (by unfold mOfB; rw [if_pos c_8, if_neg c_17]; first | done | rfl), by unfold mOfB; rw [if_pos c_8, if_neg c_17]; first | done | rfl⟩) d_Mo_ofBlock_32
    · skip
      have c_17 := b2i_ne.mp c_17
      refine lv_iconst (v := 1) hx hb d_Mo_ofBlock_20 (by decide) ?_
      refine lv_goto (tgt := 25) hx hb d_Mo_ofBlock_21 (by decide) ?_
      refine ms_I C0 hP hS (ms_V C0 hP (kd := 0) (i := 0) (ci := 4) (As := [.int 1]) (by decide) (by decide) rfl rfl k_ml_Mo_64 k_im_Mo_bad k_sl_Mo_Mo_bad k_cd_Mo_bad k_in_Mo z_Mo_bad rfl d_Mo_ofBlock_25) (c_Mo_bad hlt (P := True)) (fun k r σ h => h.1) ⟨rfl, rfl⟩ hl.1 d_Mo_ofBlock_25 (Nat.le_of_ble_eq_true rfl) (⟨by decide, by decide⟩) (⟨by decide, by decide⟩) (fun r_12 σ_13 H locs h_11 hP hS => ?_)
      obtain ⟨-, rfl, rfl⟩ := h_11
      replace hP : va_P D classes (wl base 16 (memo ar base (up σ 0 0 1 0))) H := hP
      refine lv_if_eq (tgt := 33) hx hb d_Mo_ofBlock_28 (by decide) (fun c_28 => ?_) (fun c_28 => ?_)
      · skip
        refine lv_iload_n hx hb d_Mo_ofBlock_33 rfl (lv_at hl 2 rfl) ?_
        refine lv_if_ne (tgt := 46) hx hb d_Mo_ofBlock_34 (by decide) (fun c_34 => ?_) (fun c_34 => ?_)
        · skip
          refine lv_aload_n hx hb d_Mo_ofBlock_46 rfl (lv_at hl 0 rfl) ?_
          refine mq_get C0 hP (kd := 0) (i := 0) (ci := 4) (by decide) (by decide) rfl rfl 7 (by decide) rfl k_fl_Mo_32 rfl d_Mo_ofBlock_47 ?_
          refine lv_iload_n hx hb d_Mo_ofBlock_50 rfl (lv_at hl 1 rfl) ?_
          refine mq_iald C0 hP (kd := 8) (i := 0) (by decide) (by decide) rfl (vin_R c_8) d_Mo_ofBlock_51 ?_
          refine W.eq (g2 := F0 m 52 ls [.int (σ 8 0 b.toNatClampNeg)]) rfl ?_
          exact mrI_i C0 hP hS (⟨by decide, by decide⟩) (⟨rfl, congrArg some (by unfold mOfB; rw [if_pos c_8, if_pos c_17, if_neg c_34]; first | done | rfl), by unfold mOfB; rw [if_pos c_8, if_pos c_17, if_neg c_34]; first | done | rfl⟩) d_Mo_ofBlock_52
        · skip
          refine lv_aload_n hx hb d_Mo_ofBlock_37 rfl (lv_at hl 0 rfl) ?_
          refine mq_get C0 hP (kd := 0) (i := 0) (ci := 4) (by decide) (by decide) rfl rfl 6 (by decide) rfl k_fl_Mo_29 rfl d_Mo_ofBlock_38 ?_
          refine lv_iload_n hx hb d_Mo_ofBlock_41 rfl (lv_at hl 1 rfl) ?_
          refine mq_iald C0 hP (kd := 7) (i := 0) (by decide) (by decide) rfl (vin_R c_8) d_Mo_ofBlock_42 ?_
          refine W.eq (g2 := F0 m 43 ls [.int (σ 7 0 b.toNatClampNeg)]) rfl ?_
          refine lv_goto (tgt := 52) hx hb d_Mo_ofBlock_43 (by decide) ?_
          exact mrI_i C0 hP hS (⟨by decide, by decide⟩) (⟨rfl, congrArg some (by unfold mOfB; rw [if_pos c_8, if_pos c_17, if_pos c_34]; first | done | rfl), by unfold mOfB; rw [if_pos c_8, if_pos c_17, if_pos c_34]; first | done | rfl⟩) d_Mo_ofBlock_52
      · skip
        exact absurd rfl c_28
set_option maxHeartbeats 4000000 in
set_option maxRecDepth 100000 in
theorem c_Mo_ofEnd {S0 : State} {A0 : Array Value} {D : va_G} {ar : Nat → ClassId} {base : Nat} {σ : Mem} {l : Launch} (hlt : l.stackTraces = false) {b x : Int32} :
    MX l y_Mo_ofEnd [Cond.code y_Mo_ofEnd b_Mo_ofEnd 3 (some .int)] (rmL 1) (PO S0 A0 D ar base σ [.ref (base + adm 0 0), .int b, .int x]) (QO D ar base (fun k r σ' => k = 0 ∧ r = some (mOfE σ b x).1 ∧ σ' = (mOfE σ b x).2)) (inB base 16) := by
  refine mx_head hlt (by decide +kernel) (Nat.le_of_ble_eq_true rfl) ?_
  intro p ev s m below meth c ls C0 hP hl
  have C0 : Cx S0 A0 D ar base p l s m _ meth c R_Mo b_Mo_ofEnd 3 (some .int) := C0
  obtain ⟨hx, hb, -⟩ := id C0
  have hl : lv_has ls 3 [(0, .ref (base + adm 0 0)), (1, .int b), (2, .int x)] := hl
  have hS : va_S (inB base 16) s.heap s.heap [] := va_S.rf
  refine lv_aload_n hx hb d_Mo_ofEnd_0 rfl (lv_at hl 0 rfl) ?_
  refine lv_iload_n hx hb d_Mo_ofEnd_1 rfl (lv_at hl 1 rfl) ?_
  refine lv_iconst (v := 0) hx hb d_Mo_ofEnd_2 (by decide) ?_
  refine lv_bipush (v := 11) hx hb d_Mo_ofEnd_3 (by decide) ?_
  refine ms_P C0 hP hS (cs_S C0 (As := [.int b, .int 0, .int 11]) k_ml_Mo_60 k_st_Mo_in k_cd_Mo_in k_in_Mo z_Mo_in rfl d_Mo_ofEnd_5) (c_Mo_in hlt) hl.1 d_Mo_ofEnd_5 (Nat.le_of_ble_eq_true rfl) (⟨by decide, by decide⟩) (⟨by decide, by decide⟩) (fun k r x t hk hp => absurd hp.1 hk) (fun r_2 h_1 => ?_)
  obtain ⟨-, rfl⟩ := h_1
  refine lv_if_eq (tgt := 24) hx hb d_Mo_ofEnd_8 (by decide) (fun c_8 => ?_) (fun c_8 => ?_)
  · skip
    have c_8 := b2i_z.mp c_8
    refine lv_iconst (v := 0) hx hb d_Mo_ofEnd_24 (by decide) ?_
    refine ms_I C0 hP hS (ms_V C0 hP (kd := 0) (i := 0) (ci := 4) (As := [.int 0]) (by decide) (by decide) rfl rfl k_ml_Mo_64 k_im_Mo_bad k_sl_Mo_Mo_bad k_cd_Mo_bad k_in_Mo z_Mo_bad rfl d_Mo_ofEnd_25) (c_Mo_bad hlt (P := False)) (fun k r σ h => h.1) ⟨rfl, rfl⟩ hl.1 d_Mo_ofEnd_25 (Nat.le_of_ble_eq_true rfl) (⟨by decide, by decide⟩) (⟨by decide, by decide⟩) (fun r_4 σ_5 H locs h_3 hP hS => ?_)
    obtain ⟨-, rfl, rfl⟩ := h_3
    replace hP : va_P D classes (wl base 16 (memo ar base (up σ 0 0 1 1))) H := hP
    refine lv_if_eq (tgt := 33) hx hb d_Mo_ofEnd_28 (by decide) (fun c_28 => ?_) (fun c_28 => ?_)
    · skip
      exact absurd c_28 (by decide)
    · skip
      refine lv_iconst (v := 0) hx hb d_Mo_ofEnd_31 (by decide) ?_
      exact mrI_i C0 hP hS (⟨by decide, by decide⟩) (⟨rfl, congrArg some (by unfold mOfE; rw [if_neg c_8]; first | done | rfl), by unfold mOfE; rw [if_neg c_8]; first | done | rfl⟩) d_Mo_ofEnd_32
  · skip
    have c_8 := b2i_ne.mp c_8
    refine lv_iload_n hx hb d_Mo_ofEnd_11 rfl (lv_at hl 2 rfl) ?_
    refine lv_iconst (v := 0) hx hb d_Mo_ofEnd_12 (by decide) ?_
    refine lv_iconst (v := 2) hx hb d_Mo_ofEnd_13 (by decide) ?_
    refine ms_P C0 hP hS (cs_S C0 (As := [.int x, .int 0, .int 2]) k_ml_Mo_60 k_st_Mo_in k_cd_Mo_in k_in_Mo z_Mo_in rfl d_Mo_ofEnd_14) (c_Mo_in hlt) hl.1 d_Mo_ofEnd_14 (Nat.le_of_ble_eq_true rfl) (⟨by decide, by decide⟩) (⟨by decide, by decide⟩) (fun k r x t hk hp => absurd hp.1 hk) (fun r_7 h_6 => ?_)
    obtain ⟨-, rfl⟩ := h_6
    refine lv_if_eq (tgt := 24) hx hb d_Mo_ofEnd_17 (by decide) (fun c_17 => ?_) (fun c_17 => ?_)
    · skip
      have c_17 := b2i_z.mp c_17
      refine lv_iconst (v := 0) hx hb d_Mo_ofEnd_24 (by decide) ?_
      refine ms_I C0 hP hS (ms_V C0 hP (kd := 0) (i := 0) (ci := 4) (As := [.int 0]) (by decide) (by decide) rfl rfl k_ml_Mo_64 k_im_Mo_bad k_sl_Mo_Mo_bad k_cd_Mo_bad k_in_Mo z_Mo_bad rfl d_Mo_ofEnd_25) (c_Mo_bad hlt (P := False)) (fun k r σ h => h.1) ⟨rfl, rfl⟩ hl.1 d_Mo_ofEnd_25 (Nat.le_of_ble_eq_true rfl) (⟨by decide, by decide⟩) (⟨by decide, by decide⟩) (fun r_9 σ_10 H locs h_8 hP hS => ?_)
      obtain ⟨-, rfl, rfl⟩ := h_8
      replace hP : va_P D classes (wl base 16 (memo ar base (up σ 0 0 1 1))) H := hP
      refine lv_if_eq (tgt := 33) hx hb d_Mo_ofEnd_28 (by decide) (fun c_28 => ?_) (fun c_28 => ?_)
      · skip
        exact absurd c_28 (by decide)
      · skip
        refine lv_iconst (v := 0) hx hb d_Mo_ofEnd_31 (by decide) ?_
        exact mrI_i C0 hP hS (⟨by decide, by decide⟩) (⟨rfl, congrArg some (by unfold mOfE; rw [if_pos c_8, if_neg c_17]; first | done | rfl), by unfold mOfE; rw [if_pos c_8, if_neg c_17]; first | done | rfl⟩) d_Mo_ofEnd_32
    · skip
      have c_17 := b2i_ne.mp c_17
      refine lv_iconst (v := 1) hx hb d_Mo_ofEnd_20 (by decide) ?_
      refine lv_goto (tgt := 25) hx hb d_Mo_ofEnd_21 (by decide) ?_
      refine ms_I C0 hP hS (ms_V C0 hP (kd := 0) (i := 0) (ci := 4) (As := [.int 1]) (by decide) (by decide) rfl rfl k_ml_Mo_64 k_im_Mo_bad k_sl_Mo_Mo_bad k_cd_Mo_bad k_in_Mo z_Mo_bad rfl d_Mo_ofEnd_25) (c_Mo_bad hlt (P := True)) (fun k r σ h => h.1) ⟨rfl, rfl⟩ hl.1 d_Mo_ofEnd_25 (Nat.le_of_ble_eq_true rfl) (⟨by decide, by decide⟩) (⟨by decide, by decide⟩) (fun r_12 σ_13 H locs h_11 hP hS => ?_)
      obtain ⟨-, rfl, rfl⟩ := h_11
      replace hP : va_P D classes (wl base 16 (memo ar base (up σ 0 0 1 0))) H := hP
      refine lv_if_eq (tgt := 33) hx hb d_Mo_ofEnd_28 (by decide) (fun c_28 => ?_) (fun c_28 => ?_)
      · skip
        refine lv_iload_n hx hb d_Mo_ofEnd_33 rfl (lv_at hl 2 rfl) ?_
        refine lv_if_ne (tgt := 46) hx hb d_Mo_ofEnd_34 (by decide) (fun c_34 => ?_) (fun c_34 => ?_)
        · skip
          refine lv_iload_n hx hb d_Mo_ofEnd_46 rfl (lv_at hl 2 rfl) ?_
          refine lv_iconst (v := 1) hx hb d_Mo_ofEnd_47 (by decide) ?_
          refine lv_icmp_ne (tgt := 60) hx hb d_Mo_ofEnd_48 (by decide) (fun c_48 => ?_) (fun c_48 => ?_)
          · skip
            refine lv_aload_n hx hb d_Mo_ofEnd_60 rfl (lv_at hl 0 rfl) ?_
            refine mq_get C0 hP (kd := 0) (i := 0) (ci := 4) (by decide) (by decide) rfl rfl 11 (by decide) rfl k_fl_Mo_44 rfl d_Mo_ofEnd_61 ?_
            refine lv_iload_n hx hb d_Mo_ofEnd_64 rfl (lv_at hl 1 rfl) ?_
            refine mq_iald C0 hP (kd := 12) (i := 0) (by decide) (by decide) rfl (vin_R c_8) d_Mo_ofEnd_65 ?_
            refine W.eq (g2 := F0 m 66 ls [.int (σ 12 0 b.toNatClampNeg)]) rfl ?_
            exact mrI_i C0 hP hS (⟨by decide, by decide⟩) (⟨rfl, congrArg some (by unfold mOfE; rw [if_pos c_8, if_pos c_17, if_neg c_34, if_neg c_48]; first | done | rfl), by unfold mOfE; rw [if_pos c_8, if_pos c_17, if_neg c_34, if_neg c_48]; first | done | rfl⟩) d_Mo_ofEnd_66
          · skip
            refine lv_aload_n hx hb d_Mo_ofEnd_51 rfl (lv_at hl 0 rfl) ?_
            refine mq_get C0 hP (kd := 0) (i := 0) (ci := 4) (by decide) (by decide) rfl rfl 10 (by decide) rfl k_fl_Mo_41 rfl d_Mo_ofEnd_52 ?_
            refine lv_iload_n hx hb d_Mo_ofEnd_55 rfl (lv_at hl 1 rfl) ?_
            refine mq_iald C0 hP (kd := 11) (i := 0) (by decide) (by decide) rfl (vin_R c_8) d_Mo_ofEnd_56 ?_
            refine W.eq (g2 := F0 m 57 ls [.int (σ 11 0 b.toNatClampNeg)]) rfl ?_
            refine lv_goto (tgt := 66) hx hb d_Mo_ofEnd_57 (by decide) ?_
            exact mrI_i C0 hP hS (⟨by decide, by decide⟩) (⟨rfl, congrArg some (by unfold mOfE; rw [if_pos c_8, if_pos c_17, if_neg c_34, if_pos c_48]; first | done | rfl), by unfold mOfE; rw [if_pos c_8, if_pos c_17, if_neg c_34, if_pos c_48]; first | done | rfl⟩) d_Mo_ofEnd_66
        · skip
          refine lv_aload_n hx hb d_Mo_ofEnd_37 rfl (lv_at hl 0 rfl) ?_
          refine mq_get C0 hP (kd := 0) (i := 0) (ci := 4) (by decide) (by decide) rfl rfl 9 (by decide) rfl k_fl_Mo_38 rfl d_Mo_ofEnd_38 ?_
          refine lv_iload_n hx hb d_Mo_ofEnd_41 rfl (lv_at hl 1 rfl) ?_
          refine mq_iald C0 hP (kd := 10) (i := 0) (by decide) (by decide) rfl (vin_R c_8) d_Mo_ofEnd_42 ?_
          refine W.eq (g2 := F0 m 43 ls [.int (σ 10 0 b.toNatClampNeg)]) rfl ?_
          refine lv_goto (tgt := 66) hx hb d_Mo_ofEnd_43 (by decide) ?_
          exact mrI_i C0 hP hS (⟨by decide, by decide⟩) (⟨rfl, congrArg some (by unfold mOfE; rw [if_pos c_8, if_pos c_17, if_pos c_34]; first | done | rfl), by unfold mOfE; rw [if_pos c_8, if_pos c_17, if_pos c_34]; first | done | rfl⟩) d_Mo_ofEnd_66
      · skip
        exact absurd rfl c_28
set_option maxHeartbeats 4000000 in
set_option maxRecDepth 100000 in
theorem c_Mo_start {S0 : State} {A0 : Array Value} {D : va_G} {ar : Nat → ClassId} {base : Nat} {σ : Mem} {l : Launch} (hlt : l.stackTraces = false)  :
    MX l y_Mo_start [Cond.code y_Mo_start b_Mo_start 2 (some .int)] (rmL 1) (PO S0 A0 D ar base σ [.ref (base + adm 0 0)]) (QO D ar base (fun k r σ' => k = 0 ∧ r = some (mStart σ).1 ∧ σ' = (mStart σ).2)) (inB base 16) := by
  refine mx_head hlt (by decide +kernel) (Nat.le_of_ble_eq_true rfl) ?_
  intro p ev s m below meth c ls C0 hP hl
  have C0 : Cx S0 A0 D ar base p l s m _ meth c R_Mo b_Mo_start 2 (some .int) := C0
  obtain ⟨hx, hb, -⟩ := id C0
  have hl : lv_has ls 2 [(0, .ref (base + adm 0 0))] := hl
  have hS : va_S (inB base 16) s.heap s.heap [] := va_S.rf
  refine lv_aload_n hx hb d_Mo_start_0 rfl (lv_at hl 0 rfl) ?_
  refine lv_iconst (v := 0) hx hb d_Mo_start_1 (by decide) ?_
  refine mq_put C0 hP hS (kd := 0) (i := 0) (ci := 4) 0 1 (by decide) rfl (by decide) rfl rfl t_Mo t_Mo_ok n_Mo 16 (by decide) rfl k_fl_Mo_56 rfl (by decide +kernel) (Nat.le_of_ble_eq_true rfl) (by simp [conto, up]) d_Mo_start_2 (fun H locs hP hS => ?_)
  refine lv_iconst (v := 0) hx hb d_Mo_start_5 (by decide) ?_
  refine lv_istore_n (lv' := [(1, .int 0), (0, .ref (base + adm 0 0))]) hx hb d_Mo_start_6 rfl hl (by decide) rfl (fun ls hl => ?_)
  have loop : ∀ (n k : Nat), k ≤ 4 → 4 + 1 ≤ k + n → mStL (up σ 0 0 1 0) (4 - k) k = mStart σ → ∀ (H : Heap) (locs : List Loc), va_P D classes (wl base 16 (memo ar base (up σ 0 0 1 0))) H → va_S (inB base 16) s.heap H locs → ∀ ls : Array Slot, lv_has ls 2 [(1, .int (nI k)), (0, .ref (base + adm 0 0))] → W p l ev (rmL 1) s m ([.ref (base + adm 0 0)] : List Value).toArray below meth c H locs 0 0 (MQX below (QO D ar base (fun k r σ' => k = 0 ∧ r = some (mStart σ).1 ∧ σ' = (mStart σ).2)) ([.ref (base + adm 0 0)] : List Value).toArray s (rmL 1).cells (rmL 1).slots (inB base 16)) (F0 m 7 ls []) := by
    intro n
    induction n with
    | zero => intro k h1 h2; omega
    | succ n ih =>
      intro k hk1 hk2 hinv H locs hP hS ls hl
      refine lv_iload_n hx hb d_Mo_start_7 rfl (lv_at hl 0 rfl) ?_
      refine lv_iconst (v := 4) hx hb d_Mo_start_8 (by decide) ?_
      refine lv_icmp_ge (tgt := 39) hx hb d_Mo_start_9 (by decide) (fun c_9 => ?_) (fun c_9 => ?_)
      · skip
        have hkN : k = 4 := by have := ge_nI (N := 4) c_9; omega
        subst hkN
        refine lv_aload_n hx hb d_Mo_start_39 rfl (lv_at hl 1 rfl) ?_
        refine lv_iconst (v := 1) hx hb d_Mo_start_40 (by decide) ?_
        refine ms_I C0 hP hS (ms_V C0 hP (kd := 0) (i := 0) (ci := 4) (As := [.int 1]) (by decide) (by decide) rfl rfl k_ml_Mo_71 k_im_Mo_fail k_sl_Mo_Mo_fail k_cd_Mo_fail k_in_Mo z_Mo_fail rfl d_Mo_start_41) (c_Mo_fail hlt) (fun k r σ h => h.1) ⟨rfl, rfl⟩ hl.1 d_Mo_start_41 (Nat.le_of_ble_eq_true rfl) (⟨by decide, by decide⟩) (⟨by decide, by decide⟩) (fun r_2 σ_3 H locs h_1 hP hS => ?_)
        obtain ⟨-, rfl, rfl⟩ := h_1
        exact mrI_i C0 hP hS (⟨by decide, by decide⟩) (⟨rfl, congrArg some (by rw [← hinv]; first | done | rfl), by rw [← hinv]; first | done | rfl⟩) d_Mo_start_44
      · skip
        have hkN : k < 4 := lt_nI (N := 4) c_9
        refine lv_aload_n hx hb d_Mo_start_12 rfl (lv_at hl 1 rfl) ?_
        refine mq_get C0 hP (kd := 0) (i := 0) (ci := 4) (by decide) (by decide) rfl rfl 5 (by decide) rfl k_fl_Mo_25 rfl d_Mo_start_13 ?_
        refine lv_iload_n hx hb d_Mo_start_16 rfl (lv_at hl 0 rfl) ?_
        refine mq_zald C0 hP (kd := 6) (i := 0) (by decide) (by decide) rfl (vin_nI hkN) d_Mo_start_17 ?_
        rw [show (nI k).toNatClampNeg = k from nI_clamp (by omega)]
        refine W.eq (g2 := F0 m 18 ls [.int (σ 6 0 k)]) rfl ?_
        refine lv_if_eq (tgt := 24) hx hb d_Mo_start_18 (by decide) (fun c_18 => ?_) (fun c_18 => ?_)
        · skip
          refine lv_aload_n hx hb d_Mo_start_24 rfl (lv_at hl 1 rfl) ?_
          refine mq_get C0 hP (kd := 0) (i := 0) (ci := 4) (by decide) (by decide) rfl rfl 5 (by decide) rfl k_fl_Mo_25 rfl d_Mo_start_25 ?_
          refine lv_iload_n hx hb d_Mo_start_28 rfl (lv_at hl 0 rfl) ?_
          refine lv_iconst (v := 1) hx hb d_Mo_start_29 (by decide) ?_
          refine mq_zast C0 hP hS (kd := 6) (i := 0) 6 (by decide) rfl (by decide) rfl (vin_nI hkN) (by rw [ast_fn]; rfl) d_Mo_start_30 (fun H locs hP hS => ?_)
          rw [show (nI k).toNatClampNeg = k from nI_clamp (by omega)] at hP
          refine lv_iload_n hx hb d_Mo_start_31 rfl (lv_at hl 0 rfl) ?_
          exact mrI_i C0 hP hS (⟨by decide, by decide⟩) (⟨rfl, congrArg some (by rw [← hinv, mStL_s hkN]; rw [show (up σ 0 0 1 0) 6 0 k = σ 6 0 k from rfl, if_pos c_18]; first | done | rfl), by rw [← hinv, mStL_s hkN]; rw [show (up σ 0 0 1 0) 6 0 k = σ 6 0 k from rfl, if_pos c_18]; first | done | rfl⟩) d_Mo_start_32
        · skip
          refine lv_goto (tgt := 33) hx hb d_Mo_start_21 (by decide) ?_
          refine lv_iinc (v := nI (k + 1)) (lv' := [(1, .int (nI (k + 1))), (0, .ref (base + adm 0 0))]) hx hb d_Mo_start_33 hl (k := 0) rfl (by exact nI_1 k) (by decide) rfl (fun ls hl => ?_)
          refine lv_goto (tgt := 7) hx hb d_Mo_start_36 (by decide) ?_
          rw [show ((up σ 0 0 1 0) : Mem) = up σ 0 0 1 0 from rfl] at hP
          exact ih (k + 1) (by omega) (by omega) (by rw [← hinv, mStL_s hkN]; exact (if_neg c_18).symm) _ _ hP hS ls (lv_sub hl [0, 1] rfl)
  rw [show ((up σ 0 0 1 0) : Mem) = up σ 0 0 1 0 from rfl] at hP
  exact loop (4 + 1) 0 (by omega) (by omega) (rfl) _ _ hP hS ls (lv_sub hl [0, 1] rfl)
set_option maxHeartbeats 4000000 in
set_option maxRecDepth 100000 in
theorem c_Mo_choose {S0 : State} {A0 : Array Value} {D : va_G} {ar : Nat → ClassId} {base : Nat} {σ : Mem} {l : Launch} (hlt : l.stackTraces = false) {q mask : Int32} :
    MX l y_Mo_choose [Cond.code y_Mo_choose b_Mo_choose 4 (some .int)] (rmL 1) (PO S0 A0 D ar base σ [.ref (base + adm 0 0), .int q, .int mask]) (QO D ar base (fun k r σ' => k = 0 ∧ r = some (mChoose σ q mask).1 ∧ σ' = (mChoose σ q mask).2)) (inB base 16) := by
  refine mx_head hlt (by decide +kernel) (Nat.le_of_ble_eq_true rfl) ?_
  intro p ev s m below meth c ls C0 hP hl
  have C0 : Cx S0 A0 D ar base p l s m _ meth c R_Mo b_Mo_choose 4 (some .int) := C0
  obtain ⟨hx, hb, -⟩ := id C0
  have hl : lv_has ls 4 [(0, .ref (base + adm 0 0)), (1, .int q), (2, .int mask)] := hl
  have hS : va_S (inB base 16) s.heap s.heap [] := va_S.rf
  refine lv_aload_n hx hb d_Mo_choose_0 rfl (lv_at hl 0 rfl) ?_
  refine lv_iload_n hx hb d_Mo_choose_1 rfl (lv_at hl 1 rfl) ?_
  refine lv_iconst (v := 0) hx hb d_Mo_choose_2 (by decide) ?_
  refine lv_iconst (v := 3) hx hb d_Mo_choose_3 (by decide) ?_
  refine ms_P C0 hP hS (cs_S C0 (As := [.int q, .int 0, .int 3]) k_ml_Mo_60 k_st_Mo_in k_cd_Mo_in k_in_Mo z_Mo_in rfl d_Mo_choose_4) (c_Mo_in hlt) hl.1 d_Mo_choose_4 (Nat.le_of_ble_eq_true rfl) (⟨by decide, by decide⟩) (⟨by decide, by decide⟩) (fun k r x t hk hp => absurd hp.1 hk) (fun r_2 h_1 => ?_)
  obtain ⟨-, rfl⟩ := h_1
  refine lv_if_eq (tgt := 25) hx hb d_Mo_choose_7 (by decide) (fun c_7 => ?_) (fun c_7 => ?_)
  · skip
    have c_7 := b2i_z.mp c_7
    refine lv_iconst (v := 0) hx hb d_Mo_choose_25 (by decide) ?_
    refine ms_I C0 hP hS (ms_V C0 hP (kd := 0) (i := 0) (ci := 4) (As := [.int 0]) (by decide) (by decide) rfl rfl k_ml_Mo_64 k_im_Mo_bad k_sl_Mo_Mo_bad k_cd_Mo_bad k_in_Mo z_Mo_bad rfl d_Mo_choose_26) (c_Mo_bad hlt (P := False)) (fun k r σ h => h.1) ⟨rfl, rfl⟩ hl.1 d_Mo_choose_26 (Nat.le_of_ble_eq_true rfl) (⟨by decide, by decide⟩) (⟨by decide, by decide⟩) (fun r_4 σ_5 H locs h_3 hP hS => ?_)
    obtain ⟨-, rfl, rfl⟩ := h_3
    replace hP : va_P D classes (wl base 16 (memo ar base (up σ 0 0 1 1))) H := hP
    refine lv_if_eq (tgt := 34) hx hb d_Mo_choose_29 (by decide) (fun c_29 => ?_) (fun c_29 => ?_)
    · skip
      exact absurd c_29 (by decide)
    · skip
      refine lv_iconst (v := 0) hx hb d_Mo_choose_32 (by decide) ?_
      exact mrI_i C0 hP hS (⟨by decide, by decide⟩) (⟨rfl, congrArg some (by unfold mChoose; rw [if_neg c_7]; first | done | rfl), by unfold mChoose; rw [if_neg c_7]; first | done | rfl⟩) d_Mo_choose_33
  · skip
    have c_7 := b2i_ne.mp c_7
    refine lv_iload_n hx hb d_Mo_choose_10 rfl (lv_at hl 2 rfl) ?_
    refine lv_iconst (v := 0) hx hb d_Mo_choose_11 (by decide) ?_
    refine lv_sipush (v := 4095) hx hb d_Mo_choose_12 (by decide) ?_
    refine ms_P C0 hP hS (cs_S C0 (As := [.int mask, .int 0, .int 4095]) k_ml_Mo_60 k_st_Mo_in k_cd_Mo_in k_in_Mo z_Mo_in rfl d_Mo_choose_15) (c_Mo_in hlt) hl.1 d_Mo_choose_15 (Nat.le_of_ble_eq_true rfl) (⟨by decide, by decide⟩) (⟨by decide, by decide⟩) (fun k r x t hk hp => absurd hp.1 hk) (fun r_7 h_6 => ?_)
    obtain ⟨-, rfl⟩ := h_6
    refine lv_if_eq (tgt := 25) hx hb d_Mo_choose_18 (by decide) (fun c_18 => ?_) (fun c_18 => ?_)
    · skip
      have c_18 := b2i_z.mp c_18
      refine lv_iconst (v := 0) hx hb d_Mo_choose_25 (by decide) ?_
      refine ms_I C0 hP hS (ms_V C0 hP (kd := 0) (i := 0) (ci := 4) (As := [.int 0]) (by decide) (by decide) rfl rfl k_ml_Mo_64 k_im_Mo_bad k_sl_Mo_Mo_bad k_cd_Mo_bad k_in_Mo z_Mo_bad rfl d_Mo_choose_26) (c_Mo_bad hlt (P := False)) (fun k r σ h => h.1) ⟨rfl, rfl⟩ hl.1 d_Mo_choose_26 (Nat.le_of_ble_eq_true rfl) (⟨by decide, by decide⟩) (⟨by decide, by decide⟩) (fun r_9 σ_10 H locs h_8 hP hS => ?_)
      obtain ⟨-, rfl, rfl⟩ := h_8
      replace hP : va_P D classes (wl base 16 (memo ar base (up σ 0 0 1 1))) H := hP
      refine lv_if_eq (tgt := 34) hx hb d_Mo_choose_29 (by decide) (fun c_29 => ?_) (fun c_29 => ?_)
      · skip
        exact absurd c_29 (by decide)
      · skip
        refine lv_iconst (v := 0) hx hb d_Mo_choose_32 (by decide) ?_
        exact mrI_i C0 hP hS (⟨by decide, by decide⟩) (⟨rfl, congrArg some (by unfold mChoose; rw [if_pos c_7, if_neg c_18]; first | done | rfl), by unfold mChoose; rw [if_pos c_7, if_neg c_18]; first | done | rfl⟩) d_Mo_choose_33
    · skip
      have c_18 := b2i_ne.mp c_18
      refine lv_iconst (v := 1) hx hb d_Mo_choose_21 (by decide) ?_
      refine lv_goto (tgt := 26) hx hb d_Mo_choose_22 (by decide) ?_
      refine ms_I C0 hP hS (ms_V C0 hP (kd := 0) (i := 0) (ci := 4) (As := [.int 1]) (by decide) (by decide) rfl rfl k_ml_Mo_64 k_im_Mo_bad k_sl_Mo_Mo_bad k_cd_Mo_bad k_in_Mo z_Mo_bad rfl d_Mo_choose_26) (c_Mo_bad hlt (P := True)) (fun k r σ h => h.1) ⟨rfl, rfl⟩ hl.1 d_Mo_choose_26 (Nat.le_of_ble_eq_true rfl) (⟨by decide, by decide⟩) (⟨by decide, by decide⟩) (fun r_12 σ_13 H locs h_11 hP hS => ?_)
      obtain ⟨-, rfl, rfl⟩ := h_11
      replace hP : va_P D classes (wl base 16 (memo ar base (up σ 0 0 1 0))) H := hP
      refine lv_if_eq (tgt := 34) hx hb d_Mo_choose_29 (by decide) (fun c_29 => ?_) (fun c_29 => ?_)
      · skip
        refine lv_aload_n hx hb d_Mo_choose_34 rfl (lv_at hl 0 rfl) ?_
        refine mq_get C0 hP (kd := 0) (i := 0) (ci := 4) (by decide) (by decide) rfl rfl 5 (by decide) rfl k_fl_Mo_25 rfl d_Mo_choose_35 ?_
        refine lv_iload_n hx hb d_Mo_choose_38 rfl (lv_at hl 1 rfl) ?_
        refine mq_zald C0 hP (kd := 6) (i := 0) (by decide) (by decide) rfl (vin_R c_7) d_Mo_choose_39 ?_
        refine W.eq (g2 := F0 m 40 ls [.int (σ 6 0 q.toNatClampNeg)]) rfl ?_
        refine lv_if_ne (tgt := 49) hx hb d_Mo_choose_40 (by decide) (fun c_40 => ?_) (fun c_40 => ?_)
        · skip
          refine lv_iconst (v := 0) hx hb d_Mo_choose_49 (by decide) ?_
          refine lv_istore_n (lv' := [(3, .int 0), (0, .ref (base + adm 0 0)), (1, .int q), (2, .int mask)]) hx hb d_Mo_choose_50 rfl hl (by decide) rfl (fun ls hl => ?_)
          have loop : ∀ (n k : Nat), k ≤ 12 → 12 + 1 ≤ k + n → mChL (up σ 0 0 1 0) q mask (12 - k) k = mChL (up σ 0 0 1 0) q mask 12 0 → ∀ (H : Heap) (locs : List Loc), va_P D classes (wl base 16 (memo ar base (up σ 0 0 1 0))) H → va_S (inB base 16) s.heap H locs → ∀ ls : Array Slot, lv_has ls 4 [(3, .int (nI k)), (0, .ref (base + adm 0 0)), (1, .int q), (2, .int mask)] → W p l ev (rmL 1) s m ([.ref (base + adm 0 0), .int q, .int mask] : List Value).toArray below meth c H locs 0 0 (MQX below (QO D ar base (fun k r σ' => k = 0 ∧ r = some (mChoose σ q mask).1 ∧ σ' = (mChoose σ q mask).2)) ([.ref (base + adm 0 0), .int q, .int mask] : List Value).toArray s (rmL 1).cells (rmL 1).slots (inB base 16)) (F0 m 51 ls []) := by
            intro n
            induction n with
            | zero => intro k h1 h2; omega
            | succ n ih =>
              intro k hk1 hk2 hinv H locs hP hS ls hl
              refine lv_iload_n hx hb d_Mo_choose_51 rfl (lv_at hl 0 rfl) ?_
              refine lv_bipush (v := 12) hx hb d_Mo_choose_52 (by decide) ?_
              refine lv_icmp_ge (tgt := 92) hx hb d_Mo_choose_54 (by decide) (fun c_54 => ?_) (fun c_54 => ?_)
              · skip
                have hkN : k = 12 := by have := ge_nI (N := 12) c_54; omega
                subst hkN
                refine lv_aload_n hx hb d_Mo_choose_92 rfl (lv_at hl 1 rfl) ?_
                refine lv_iconst (v := 3) hx hb d_Mo_choose_93 (by decide) ?_
                refine ms_I C0 hP hS (ms_V C0 hP (kd := 0) (i := 0) (ci := 4) (As := [.int 3]) (by decide) (by decide) rfl rfl k_ml_Mo_71 k_im_Mo_fail k_sl_Mo_Mo_fail k_cd_Mo_fail k_in_Mo z_Mo_fail rfl d_Mo_choose_94) (c_Mo_fail hlt) (fun k r σ h => h.1) ⟨rfl, rfl⟩ hl.1 d_Mo_choose_94 (Nat.le_of_ble_eq_true rfl) (⟨by decide, by decide⟩) (⟨by decide, by decide⟩) (fun r_15 σ_16 H locs h_14 hP hS => ?_)
                obtain ⟨-, rfl, rfl⟩ := h_14
                exact mrI_i C0 hP hS (⟨by decide, by decide⟩) (⟨rfl, congrArg some (by unfold mChoose; rw [if_pos c_7, if_pos c_18, if_neg c_40, ← hinv]; first | done | rfl), by unfold mChoose; rw [if_pos c_7, if_pos c_18, if_neg c_40, ← hinv]; first | done | rfl⟩) d_Mo_choose_97
              · skip
                have hkN : k < 12 := lt_nI (N := 12) c_54
                refine lv_iload_n hx hb d_Mo_choose_57 rfl (lv_at hl 3 rfl) ?_
                refine lv_iload_n hx hb d_Mo_choose_58 rfl (lv_at hl 0 rfl) ?_
                refine lv_ishr hx hb d_Mo_choose_59 ?_
                refine lv_iconst (v := 1) hx hb d_Mo_choose_60 (by decide) ?_
                refine lv_iand hx hb d_Mo_choose_61 ?_
                refine lv_if_eq (tgt := 86) hx hb d_Mo_choose_62 (by decide) (fun c_62 => ?_) (fun c_62 => ?_)
                · skip
                  refine lv_iinc (v := nI (k + 1)) (lv' := [(3, .int (nI (k + 1))), (0, .ref (base + adm 0 0)), (1, .int q), (2, .int mask)]) hx hb d_Mo_choose_86 hl (k := 0) rfl (by exact nI_1 k) (by decide) rfl (fun ls hl => ?_)
                  refine lv_goto (tgt := 51) hx hb d_Mo_choose_89 (by decide) ?_
                  rw [show ((up σ 0 0 1 0) : Mem) = up σ 0 0 1 0 from rfl] at hP
                  exact ih (k + 1) (by omega) (by omega) (by rw [← hinv, mChL_s hkN]; exact (if_neg (fun h => h.1 c_62)).symm) _ _ hP hS ls (lv_sub hl [0, 1, 2, 3] rfl)
                · skip
                  refine lv_aload_n hx hb d_Mo_choose_65 rfl (lv_at hl 1 rfl) ?_
                  refine mq_get C0 hP (kd := 0) (i := 0) (ci := 4) (by decide) (by decide) rfl rfl 9 (by decide) rfl k_fl_Mo_38 rfl d_Mo_choose_66 ?_
                  refine lv_iload_n hx hb d_Mo_choose_69 rfl (lv_at hl 0 rfl) ?_
                  refine mq_iald C0 hP (kd := 10) (i := 0) (by decide) (by decide) rfl (vin_nI hkN) d_Mo_choose_70 ?_
                  rw [show (nI k).toNatClampNeg = k from nI_clamp (by omega)]
                  refine W.eq (g2 := F0 m 71 ls [.int (σ 10 0 k)]) rfl ?_
                  refine lv_iload_n hx hb d_Mo_choose_71 rfl (lv_at hl 2 rfl) ?_
                  refine lv_icmp_ne (tgt := 86) hx hb d_Mo_choose_72 (by decide) (fun c_72 => ?_) (fun c_72 => ?_)
                  · skip
                    refine lv_iinc (v := nI (k + 1)) (lv' := [(3, .int (nI (k + 1))), (0, .ref (base + adm 0 0)), (1, .int q), (2, .int mask)]) hx hb d_Mo_choose_86 hl (k := 0) rfl (by exact nI_1 k) (by decide) rfl (fun ls hl => ?_)
                    refine lv_goto (tgt := 51) hx hb d_Mo_choose_89 (by decide) ?_
                    rw [show ((up σ 0 0 1 0) : Mem) = up σ 0 0 1 0 from rfl] at hP
                    exact ih (k + 1) (by omega) (by omega) (by rw [← hinv, mChL_s hkN]; exact (if_neg (fun h => c_72 h.2.1)).symm) _ _ hP hS ls (lv_sub hl [0, 1, 2, 3] rfl)
                  · skip
                    refine lv_aload_n hx hb d_Mo_choose_75 rfl (lv_at hl 1 rfl) ?_
                    refine mq_get C0 hP (kd := 0) (i := 0) (ci := 4) (by decide) (by decide) rfl rfl 11 (by decide) rfl k_fl_Mo_44 rfl d_Mo_choose_76 ?_
                    refine lv_iload_n hx hb d_Mo_choose_79 rfl (lv_at hl 0 rfl) ?_
                    refine mq_iald C0 hP (kd := 12) (i := 0) (by decide) (by decide) rfl (vin_nI hkN) d_Mo_choose_80 ?_
                    rw [show (nI k).toNatClampNeg = k from nI_clamp (by omega)]
                    refine W.eq (g2 := F0 m 81 ls [.int (σ 12 0 k)]) rfl ?_
                    refine lv_if_le (tgt := 86) hx hb d_Mo_choose_81 (by decide) (fun c_81 => ?_) (fun c_81 => ?_)
                    · skip
                      refine lv_iinc (v := nI (k + 1)) (lv' := [(3, .int (nI (k + 1))), (0, .ref (base + adm 0 0)), (1, .int q), (2, .int mask)]) hx hb d_Mo_choose_86 hl (k := 0) rfl (by exact nI_1 k) (by decide) rfl (fun ls hl => ?_)
                      refine lv_goto (tgt := 51) hx hb d_Mo_choose_89 (by decide) ?_
                      rw [show ((up σ 0 0 1 0) : Mem) = up σ 0 0 1 0 from rfl] at hP
                      exact ih (k + 1) (by omega) (by omega) (by rw [← hinv, mChL_s hkN]; exact (if_neg (fun h => h.2.2 c_81)).symm) _ _ hP hS ls (lv_sub hl [0, 1, 2, 3] rfl)
                    · skip
                      refine lv_iload_n hx hb d_Mo_choose_84 rfl (lv_at hl 0 rfl) ?_
                      exact mrI_i C0 hP hS (⟨by decide, by decide⟩) (⟨rfl, congrArg some (by unfold mChoose; rw [if_pos c_7, if_pos c_18, if_neg c_40, ← hinv, mChL_s hkN, if_pos (show mChP (up σ 0 0 1 0) q mask k from ⟨c_62, c_72, c_81⟩)]; first | done | rfl), by unfold mChoose; rw [if_pos c_7, if_pos c_18, if_neg c_40, ← hinv, mChL_s hkN, if_pos (show mChP (up σ 0 0 1 0) q mask k from ⟨c_62, c_72, c_81⟩)]; first | done | rfl⟩) d_Mo_choose_85
          rw [show ((up σ 0 0 1 0) : Mem) = up σ 0 0 1 0 from rfl] at hP
          exact loop (12 + 1) 0 (by omega) (by omega) (rfl) _ _ hP hS ls (lv_sub hl [0, 1, 2, 3] rfl)
        · skip
          refine lv_aload_n hx hb d_Mo_choose_43 rfl (lv_at hl 0 rfl) ?_
          refine lv_iconst (v := 2) hx hb d_Mo_choose_44 (by decide) ?_
          refine ms_I C0 hP hS (ms_V C0 hP (kd := 0) (i := 0) (ci := 4) (As := [.int 2]) (by decide) (by decide) rfl rfl k_ml_Mo_71 k_im_Mo_fail k_sl_Mo_Mo_fail k_cd_Mo_fail k_in_Mo z_Mo_fail rfl d_Mo_choose_45) (c_Mo_fail hlt) (fun k r σ h => h.1) ⟨rfl, rfl⟩ hl.1 d_Mo_choose_45 (Nat.le_of_ble_eq_true rfl) (⟨by decide, by decide⟩) (⟨by decide, by decide⟩) (fun r_18 σ_19 H locs h_17 hP hS => ?_)
          obtain ⟨-, rfl, rfl⟩ := h_17
          exact mrI_i C0 hP hS (⟨by decide, by decide⟩) (⟨rfl, congrArg some (by unfold mChoose; rw [if_pos c_7, if_pos c_18, if_pos c_40]; first | done | rfl), by unfold mChoose; rw [if_pos c_7, if_pos c_18, if_pos c_40]; first | done | rfl⟩) d_Mo_choose_48
      · skip
        exact absurd rfl c_29
