/-! The model's block and type: laid by gen/m43.py. -/
def mlfb (σ : Mem) : Nat := firstF (fun b => σ 7 0 b < 0) 12 0
def mfill (σ : Mem) (b k : Nat) : Mem := fun a i j => if a = 9 ∧ i = 0 ∧ 8 * b ≤ j ∧ j < 8 * b + k then 0 else σ a i j
theorem mfill_0 {σ : Mem} {b : Nat} : σ = mfill σ b 0 := by
  funext a i j
  unfold mfill
  rw [if_neg (fun z => by omega)]
theorem mfill_s {σ : Mem} {b k : Nat} : up (mfill σ b k) 9 0 (8 * b + k) 0 = mfill σ b (k + 1) := by
  funext a i j
  unfold up mfill
  by_cases h : a = 9 ∧ i = 0 ∧ j = 8 * b + k
  · rw [if_pos h, if_pos (by omega)]
  · rw [if_neg h]
    by_cases h2 : a = 9 ∧ i = 0 ∧ 8 * b ≤ j ∧ j < 8 * b + k
    · rw [if_pos h2, if_pos (by omega)]
    · rw [if_neg h2, if_neg (fun z => h2 (by omega))]
def mbM (σ : Mem) (b : Nat) (q n : Int32) : Mem := up (up (up σ 0 0 1 0) 7 0 b q) 8 0 b n
def mBlock (σ : Mem) (q n : Int32) : Int32 × Mem := if inR q 0 3 then (if inR n 1 8 then (if σ 6 0 q.toNatClampNeg = 0 then mFail (up σ 0 0 1 0) 2 else
  if nI (mlfb σ) = 12 then mFail (up σ 0 0 1 0) 3 else if mCells (up σ 0 0 1 0) 12 + n ≤ 48 then (nI (mlfb σ), mfill (mbM σ (mlfb σ) q n) (mlfb σ) 8) else mFail (up σ 0 0 1 0) 3) else (0, up σ 0 0 1 1)) else (0, up σ 0 0 1 1)
theorem mb_ix {b k : Nat} : nI b * 8 + nI k = nI (8 * b + k) := by rw [show (8 : Int32) = nI 8 from by decide, nI_mj]
abbrev mOk (x : Int64) (k : Nat) : Prop := ∀ j, j < k → byt x j = 0 ∨ inR (byt x j) 33 126
def mtP (σ : Mem) (c : Int32) : Mem := up (up σ 1 0 (σ 0 0 0).toNatClampNeg c) 0 0 0 (σ 0 0 0 + 1)
def mtM (x : Int64) (σ : Mem) : Nat → Mem
  | 0 => σ
  | k + 1 => if byt x k = 0 then mtM x σ k else mtP (mtM x σ k) (byt x k)
theorem mtM_len {x : Int64} {σ : Mem} {n : Nat} (h : σ 0 0 0 = nI n) : ∀ k, mtM x σ k 0 0 0 = nI (n + tyN x k) := by
  intro k
  induction k with
  | zero => exact h
  | succ k ih =>
    unfold mtM tyN
    split
    · exact ih
    · show mtM x σ k 0 0 0 + 1 = _
      rw [ih, nI_1]
      rfl
def mType (σ : Mem) (x : Int64) : Int32 × Mem := if ¬ mOk x 8 then (0, up σ 0 0 1 1) else if σ 0 0 0 + nI (tyN x 8) ≤ 36 then (mtM x (up σ 0 0 1 0) 8 0 0 0, mtM x (up σ 0 0 1 0) 8) else mFail (up σ 0 0 1 0) 2
theorem mOk_s {x : Int64} {k : Nat} (h : mOk x k) (h2 : byt x k = 0 ∨ inR (byt x k) 33 126) : mOk x (k + 1) := lt_s h h2
theorem mOk_p {x : Int64} {k : Nat} (h : mOk x (k + 1)) : mOk x k := fun j hj => h j (by omega)
theorem mOk_b {x : Int64} {k : Nat} (h2 : byt x k = 0 ∨ inR (byt x k) 33 126) : b2i (mOk x k) = b2i (mOk x (k + 1)) := by
  by_cases h : mOk x k
  · rw [b2i_t h, b2i_t (mOk_s h h2)]
  · rw [b2i_f h, b2i_f (fun z => h (mOk_p z))]
theorem mOk_n {x : Int64} {k : Nat} (h1 : ¬ byt x k = 0) (h2 : ¬ inR (byt x k) 33 126) : (0 : Int32) = b2i (mOk x (k + 1)) := (b2i_f (fun z => (z k (Nat.lt_succ_self k)).elim h1 h2)).symm
set_option maxHeartbeats 4000000 in
set_option maxRecDepth 100000 in
theorem c_Mo_block {S0 : State} {A0 : Array Value} {D : va_G} {ar : Nat → ClassId} {base : Nat} {σ : Mem} {l : Launch} (hlt : l.stackTraces = false) {q nn : Int32} :
    MX l y_Mo_block [Cond.code y_Mo_block b_Mo_block 5 (some .int)] (rmL 1) (PO S0 A0 D ar base σ [.ref (base + adm 0 0), .int q, .int nn]) (QO D ar base (fun k r σ' => k = 0 ∧ r = some (mBlock σ q nn).1 ∧ σ' = (mBlock σ q nn).2)) (inB base 16) := by
  refine mx_head hlt (by decide +kernel) (Nat.le_of_ble_eq_true rfl) ?_
  intro p ev s m below meth c ls C0 hP hl
  have C0 : Cx S0 A0 D ar base p l s m _ meth c R_Mo b_Mo_block 5 (some .int) := C0
  obtain ⟨hx, hb, -⟩ := id C0
  have hl : lv_has ls 5 [(0, .ref (base + adm 0 0)), (1, .int q), (2, .int nn)] := hl
  have hS : va_S (inB base 16) s.heap s.heap [] := va_S.rf
  refine lv_aload_n hx hb d_Mo_block_0 rfl (lv_at hl 0 rfl) ?_
  refine lv_iload_n hx hb d_Mo_block_1 rfl (lv_at hl 1 rfl) ?_
  refine lv_iconst (v := 0) hx hb d_Mo_block_2 (by decide) ?_
  refine lv_iconst (v := 3) hx hb d_Mo_block_3 (by decide) ?_
  refine ms_P C0 hP hS (cs_S C0 (As := [.int q, .int 0, .int 3]) k_ml_Mo_60 k_st_Mo_in k_cd_Mo_in k_in_Mo z_Mo_in rfl d_Mo_block_4) (c_Mo_in hlt) hl.1 d_Mo_block_4 (Nat.le_of_ble_eq_true rfl) (⟨by decide, by decide⟩) (⟨by decide, by decide⟩) (fun k r x t hk hp => absurd hp.1 hk) (fun r_2 h_1 => ?_)
  obtain ⟨-, rfl⟩ := h_1
  refine lv_if_eq (tgt := 24) hx hb d_Mo_block_7 (by decide) (fun c_7 => ?_) (fun c_7 => ?_)
  · skip
    have c_7 := b2i_z.mp c_7
    refine lv_iconst (v := 0) hx hb d_Mo_block_24 (by decide) ?_
    refine ms_I C0 hP hS (ms_V C0 hP (kd := 0) (i := 0) (ci := 4) (As := [.int 0]) (by decide) (by decide) rfl rfl k_ml_Mo_64 k_im_Mo_bad k_sl_Mo_Mo_bad k_cd_Mo_bad k_in_Mo z_Mo_bad rfl d_Mo_block_25) (c_Mo_bad hlt (P := False)) (fun k r σ h => h.1) ⟨rfl, rfl⟩ hl.1 d_Mo_block_25 (Nat.le_of_ble_eq_true rfl) (⟨by decide, by decide⟩) (⟨by decide, by decide⟩) (fun r_4 σ_5 H locs h_3 hP hS => ?_)
    obtain ⟨-, rfl, rfl⟩ := h_3
    replace hP : va_P D classes (wl base 16 (memo ar base (up σ 0 0 1 1))) H := hP
    refine lv_if_eq (tgt := 33) hx hb d_Mo_block_28 (by decide) (fun c_28 => ?_) (fun c_28 => ?_)
    · skip
      exact absurd c_28 (by decide)
    · skip
      refine lv_iconst (v := 0) hx hb d_Mo_block_31 (by decide) ?_
      exact mrI_i C0 hP hS (⟨by decide, by decide⟩) (⟨rfl, congrArg some (by unfold mBlock; rw [if_neg c_7]; first | done | rfl), by unfold mBlock; rw [if_neg c_7]; first | done | rfl⟩) d_Mo_block_32
  · skip
    have c_7 := b2i_ne.mp c_7
    refine lv_iload_n hx hb d_Mo_block_10 rfl (lv_at hl 2 rfl) ?_
    refine lv_iconst (v := 1) hx hb d_Mo_block_11 (by decide) ?_
    refine lv_bipush (v := 8) hx hb d_Mo_block_12 (by decide) ?_
    refine ms_P C0 hP hS (cs_S C0 (As := [.int nn, .int 1, .int 8]) k_ml_Mo_60 k_st_Mo_in k_cd_Mo_in k_in_Mo z_Mo_in rfl d_Mo_block_14) (c_Mo_in hlt) hl.1 d_Mo_block_14 (Nat.le_of_ble_eq_true rfl) (⟨by decide, by decide⟩) (⟨by decide, by decide⟩) (fun k r x t hk hp => absurd hp.1 hk) (fun r_7 h_6 => ?_)
    obtain ⟨-, rfl⟩ := h_6
    refine lv_if_eq (tgt := 24) hx hb d_Mo_block_17 (by decide) (fun c_17 => ?_) (fun c_17 => ?_)
    · skip
      have c_17 := b2i_z.mp c_17
      refine lv_iconst (v := 0) hx hb d_Mo_block_24 (by decide) ?_
      refine ms_I C0 hP hS (ms_V C0 hP (kd := 0) (i := 0) (ci := 4) (As := [.int 0]) (by decide) (by decide) rfl rfl k_ml_Mo_64 k_im_Mo_bad k_sl_Mo_Mo_bad k_cd_Mo_bad k_in_Mo z_Mo_bad rfl d_Mo_block_25) (c_Mo_bad hlt (P := False)) (fun k r σ h => h.1) ⟨rfl, rfl⟩ hl.1 d_Mo_block_25 (Nat.le_of_ble_eq_true rfl) (⟨by decide, by decide⟩) (⟨by decide, by decide⟩) (fun r_9 σ_10 H locs h_8 hP hS => ?_)
      obtain ⟨-, rfl, rfl⟩ := h_8
      replace hP : va_P D classes (wl base 16 (memo ar base (up σ 0 0 1 1))) H := hP
      refine lv_if_eq (tgt := 33) hx hb d_Mo_block_28 (by decide) (fun c_28 => ?_) (fun c_28 => ?_)
      · skip
        exact absurd c_28 (by decide)
      · skip
        refine lv_iconst (v := 0) hx hb d_Mo_block_31 (by decide) ?_
        exact mrI_i C0 hP hS (⟨by decide, by decide⟩) (⟨rfl, congrArg some (by unfold mBlock; rw [if_pos c_7, if_neg c_17]; first | done | rfl), by unfold mBlock; rw [if_pos c_7, if_neg c_17]; first | done | rfl⟩) d_Mo_block_32
    · skip
      have c_17 := b2i_ne.mp c_17
      refine lv_iconst (v := 1) hx hb d_Mo_block_20 (by decide) ?_
      refine lv_goto (tgt := 25) hx hb d_Mo_block_21 (by decide) ?_
      refine ms_I C0 hP hS (ms_V C0 hP (kd := 0) (i := 0) (ci := 4) (As := [.int 1]) (by decide) (by decide) rfl rfl k_ml_Mo_64 k_im_Mo_bad k_sl_Mo_Mo_bad k_cd_Mo_bad k_in_Mo z_Mo_bad rfl d_Mo_block_25) (c_Mo_bad hlt (P := True)) (fun k r σ h => h.1) ⟨rfl, rfl⟩ hl.1 d_Mo_block_25 (Nat.le_of_ble_eq_true rfl) (⟨by decide, by decide⟩) (⟨by decide, by decide⟩) (fun r_12 σ_13 H locs h_11 hP hS => ?_)
      obtain ⟨-, rfl, rfl⟩ := h_11
      replace hP : va_P D classes (wl base 16 (memo ar base (up σ 0 0 1 0))) H := hP
      refine lv_if_eq (tgt := 33) hx hb d_Mo_block_28 (by decide) (fun c_28 => ?_) (fun c_28 => ?_)
      · skip
        refine lv_aload_n hx hb d_Mo_block_33 rfl (lv_at hl 0 rfl) ?_
        refine mq_get C0 hP (kd := 0) (i := 0) (ci := 4) (by decide) (by decide) rfl rfl 5 (by decide) rfl k_fl_Mo_25 rfl d_Mo_block_34 ?_
        refine lv_iload_n hx hb d_Mo_block_37 rfl (lv_at hl 1 rfl) ?_
        refine mq_zald C0 hP (kd := 6) (i := 0) (by decide) (by decide) rfl (vin_R c_7) d_Mo_block_38 ?_
        refine W.eq (g2 := F0 m 39 ls [.int (σ 6 0 q.toNatClampNeg)]) rfl ?_
        refine lv_if_ne (tgt := 48) hx hb d_Mo_block_39 (by decide) (fun c_39 => ?_) (fun c_39 => ?_)
        · skip
          refine lv_iconst (v := 0) hx hb d_Mo_block_48 (by decide) ?_
          refine lv_istore_n (lv' := [(3, .int 0), (0, .ref (base + adm 0 0)), (1, .int q), (2, .int nn)]) hx hb d_Mo_block_49 rfl hl (by decide) rfl (fun ls hl => ?_)
          have loop : ∀ (n k : Nat), k ≤ 12 → 12 + 1 ≤ k + n → (∀ j, j < k → ¬ σ 7 0 j < 0) → ∀ (H : Heap) (locs : List Loc), va_P D classes (wl base 16 (memo ar base (up σ 0 0 1 0))) H → va_S (inB base 16) s.heap H locs → ∀ ls : Array Slot, lv_has ls 5 [(3, .int (nI k)), (0, .ref (base + adm 0 0)), (1, .int q), (2, .int nn)] → W p l ev (rmL 1) s m ([.ref (base + adm 0 0), .int q, .int nn] : List Value).toArray below meth c H locs 0 0 (MQX below (QO D ar base (fun k r σ' => k = 0 ∧ r = some (mBlock σ q nn).1 ∧ σ' = (mBlock σ q nn).2)) ([.ref (base + adm 0 0), .int q, .int nn] : List Value).toArray s (rmL 1).cells (rmL 1).slots (inB base 16)) (F0 m 50 ls []) := by
            intro n
            induction n with
            | zero => intro k h1 h2; omega
            | succ n ih =>
              intro k hk1 hk2 hinv H locs hP hS ls hl
              refine lv_iload_n hx hb d_Mo_block_50 rfl (lv_at hl 0 rfl) ?_
              refine lv_bipush (v := 12) hx hb d_Mo_block_51 (by decide) ?_
              refine lv_icmp_ge (tgt := 71) hx hb d_Mo_block_53 (by decide) (fun c_53 => ?_) (fun c_53 => ?_)
              · skip
                have hkN : k = 12 := by have := ge_nI (N := 12) c_53; omega
                have hbb : k = mlfb σ := (firstF_eq (P := fun b => σ 7 0 b < 0) (by omega) hinv (fun h => absurd h (by omega)) 12 0 rfl (Nat.zero_le _)).symm
                skip
                obtain ⟨bb, rfl⟩ : ∃ bb, bb = k := ⟨_, rfl⟩
                refine lv_iload_n hx hb d_Mo_block_71 rfl (lv_at hl 0 rfl) ?_
                refine lv_bipush (v := 12) hx hb d_Mo_block_72 (by decide) ?_
                refine lv_icmp_eq (tgt := 88) hx hb d_Mo_block_74 (by decide) (fun c_74 => ?_) (fun c_74 => ?_)
                · skip
                  refine lv_aload_n hx hb d_Mo_block_88 rfl (lv_at hl 1 rfl) ?_
                  refine lv_iconst (v := 3) hx hb d_Mo_block_89 (by decide) ?_
                  refine ms_I C0 hP hS (ms_V C0 hP (kd := 0) (i := 0) (ci := 4) (As := [.int 3]) (by decide) (by decide) rfl rfl k_ml_Mo_71 k_im_Mo_fail k_sl_Mo_Mo_fail k_cd_Mo_fail k_in_Mo z_Mo_fail rfl d_Mo_block_90) (c_Mo_fail hlt) (fun k r σ h => h.1) ⟨rfl, rfl⟩ hl.1 d_Mo_block_90 (Nat.le_of_ble_eq_true rfl) (⟨by decide, by decide⟩) (⟨by decide, by decide⟩) (fun r_15 σ_16 H locs h_14 hP hS => ?_)
                  obtain ⟨-, rfl, rfl⟩ := h_14
                  exact mrI_i C0 hP hS (⟨by decide, by decide⟩) (⟨rfl, congrArg some (by unfold mBlock; rw [if_pos c_7, if_pos c_17, if_neg c_39, ← hbb, if_pos c_74]; first | done | rfl), by unfold mBlock; rw [if_pos c_7, if_pos c_17, if_neg c_39, ← hbb, if_pos c_74]; first | done | rfl⟩) d_Mo_block_93
                · skip
                  have hb12 : bb < 12 := Nat.lt_of_le_of_ne (by omega) (fun z => c_74 (by rw [z]; decide))
                  refine lv_aload_n hx hb d_Mo_block_77 rfl (lv_at hl 1 rfl) ?_
                  refine ms_P C0 hP hS (ms_V C0 hP (kd := 0) (i := 0) (ci := 4) (As := []) (by decide) (by decide) rfl rfl k_ml_Mo_107 k_im_Mo_allCells k_sl_Mo_Mo_allCells k_cd_Mo_allCells k_in_Mo z_Mo_allCells rfl d_Mo_block_78) (c_Mo_allCells hlt) hl.1 d_Mo_block_78 (Nat.le_of_ble_eq_true rfl) (⟨by decide, by decide⟩) (⟨by decide, by decide⟩) (fun k r x t hk hp => absurd hp.1 hk) (fun r_18 h_17 => ?_)
                  obtain ⟨-, rfl⟩ := h_17
                  refine lv_iload_n hx hb d_Mo_block_81 rfl (lv_at hl 3 rfl) ?_
                  refine lv_iadd hx hb d_Mo_block_82 ?_
                  refine lv_bipush (v := 48) hx hb d_Mo_block_83 (by decide) ?_
                  refine lv_icmp_le (tgt := 94) hx hb d_Mo_block_85 (by decide) (fun c_85 => ?_) (fun c_85 => ?_)
                  · skip
                    refine lv_aload_n hx hb d_Mo_block_94 rfl (lv_at hl 1 rfl) ?_
                    refine mq_get C0 hP (kd := 0) (i := 0) (ci := 4) (by decide) (by decide) rfl rfl 6 (by decide) rfl k_fl_Mo_29 rfl d_Mo_block_95 ?_
                    refine lv_iload_n hx hb d_Mo_block_98 rfl (lv_at hl 0 rfl) ?_
                    refine lv_iload_n hx hb d_Mo_block_99 rfl (lv_at hl 2 rfl) ?_
                    refine mq_iast C0 hP hS (kd := 7) (i := 0) 7 (by decide) rfl (by decide) rfl (vin_nI hb12) (by rw [ast_fn]; rfl) d_Mo_block_100 (fun H locs hP hS => ?_)
                    rw [show (nI bb).toNatClampNeg = bb from nI_clamp (by omega)] at hP
                    refine lv_aload_n hx hb d_Mo_block_101 rfl (lv_at hl 1 rfl) ?_
                    refine mq_get C0 hP (kd := 0) (i := 0) (ci := 4) (by decide) (by decide) rfl rfl 7 (by decide) rfl k_fl_Mo_32 rfl d_Mo_block_102 ?_
                    refine lv_iload_n hx hb d_Mo_block_105 rfl (lv_at hl 0 rfl) ?_
                    refine lv_iload_n hx hb d_Mo_block_106 rfl (lv_at hl 3 rfl) ?_
                    refine mq_iast C0 hP hS (kd := 8) (i := 0) 8 (by decide) rfl (by decide) rfl (vin_nI hb12) (by rw [ast_fn]; rfl) d_Mo_block_107 (fun H locs hP hS => ?_)
                    rw [show (nI bb).toNatClampNeg = bb from nI_clamp (by omega)] at hP
                    refine lv_iconst (v := 0) hx hb d_Mo_block_108 (by decide) ?_
                    refine lv_istore (lv' := [(4, .int 0), (3, .int (nI bb)), (0, .ref (base + adm 0 0)), (1, .int q), (2, .int nn)]) hx hb d_Mo_block_109 hl (by decide) rfl (fun ls hl => ?_)
                    have loop2 : ∀ (n k : Nat), k ≤ 8 → 8 + 1 ≤ k + n → ∀ (H : Heap) (locs : List Loc), va_P D classes (wl base 16 (memo ar base (mfill (mbM σ bb q nn) bb k))) H → va_S (inB base 16) s.heap H locs → ∀ ls : Array Slot, lv_has ls 5 [(4, .int (nI k)), (3, .int (nI bb)), (0, .ref (base + adm 0 0)), (1, .int q), (2, .int nn)] → W p l ev (rmL 1) s m ([.ref (base + adm 0 0), .int q, .int nn] : List Value).toArray below meth c H locs 0 0 (MQX below (QO D ar base (fun k r σ' => k = 0 ∧ r = some (mBlock σ q nn).1 ∧ σ' = (mBlock σ q nn).2)) ([.ref (base + adm 0 0), .int q, .int nn] : List Value).toArray s (rmL 1).cells (rmL 1).slots (inB base 16)) (F0 m 111 ls []) := by
                      intro n
                      induction n with
                      | zero => intro k h1 h2; omega
                      | succ n ih =>
                        intro k hk1 hk2 H locs hP hS ls hl
                        refine lv_iload hx hb d_Mo_block_111 (lv_at hl 0 rfl) ?_
                        refine lv_bipush (v := 8) hx hb d_Mo_block_113 (by decide) ?_
                        refine lv_icmp_ge (tgt := 137) hx hb d_Mo_block_115 (by decide) (fun c_115 => ?_) (fun c_115 => ?_)
                        · skip
                          have hkN : k = 8 := by have := ge_nI (N := 8) c_115; omega
                          subst hkN
                          refine lv_iload_n hx hb d_Mo_block_137 rfl (lv_at hl 1 rfl) ?_
                          exact mrI_i C0 hP hS (⟨by decide, by decide⟩) (⟨rfl, congrArg some (by unfold mBlock; rw [if_pos c_7, if_pos c_17, if_neg c_39, ← hbb, if_neg c_74, if_pos c_85]; first | done | rfl), by unfold mBlock; rw [if_pos c_7, if_pos c_17, if_neg c_39, ← hbb, if_neg c_74, if_pos c_85]; first | done | rfl⟩) d_Mo_block_138
                        · skip
                          have hkN : k < 8 := lt_nI (N := 8) c_115
                          refine lv_aload_n hx hb d_Mo_block_118 rfl (lv_at hl 2 rfl) ?_
                          refine mq_get C0 hP (kd := 0) (i := 0) (ci := 4) (by decide) (by decide) rfl rfl 8 (by decide) rfl k_fl_Mo_35 rfl d_Mo_block_119 ?_
                          refine lv_iload_n hx hb d_Mo_block_122 rfl (lv_at hl 1 rfl) ?_
                          refine lv_bipush (v := 8) hx hb d_Mo_block_123 (by decide) ?_
                          refine lv_imul hx hb d_Mo_block_125 ?_
                          refine lv_iload hx hb d_Mo_block_126 (lv_at hl 0 rfl) ?_
                          refine lv_iadd hx hb d_Mo_block_128 ?_
                          refine lv_iconst (v := 0) hx hb d_Mo_block_129 (by decide) ?_
                          refine W.eq (g2 := F0 m 130 ls [.int 0, .int (nI (8 * bb + k)), .ref (base + adm 9 0)]) (by rw [← mb_ix]; rfl) ?_
                          refine mq_iast C0 hP hS (kd := 9) (i := 0) 9 (by decide) rfl (by decide) rfl (vin_nI (by omega)) (by rw [ast_fn]; rfl) d_Mo_block_130 (fun H locs hP hS => ?_)
                          rw [show (nI (8 * bb + k)).toNatClampNeg = (8 * bb + k) from nI_clamp (by omega)] at hP
                          refine lv_iinc (v := nI (k + 1)) (lv' := [(4, .int (nI (k + 1))), (3, .int (nI bb)), (0, .ref (base + adm 0 0)), (1, .int q), (2, .int nn)]) hx hb d_Mo_block_131 hl (k := 0) rfl (by exact nI_1 k) (by decide) rfl (fun ls hl => ?_)
                          refine lv_goto (tgt := 111) hx hb d_Mo_block_134 (by decide) ?_
                          rw [show ((up (mfill (mbM σ bb q nn) bb k) 9 0 (8 * bb + k) 0) : Mem) = mfill (mbM σ bb q nn) bb (k + 1) from mfill_s] at hP
                          exact ih (k + 1) (by omega) (by omega) _ _ hP hS ls (lv_sub hl [0, 1, 2, 3, 4] rfl)
                    rw [show ((up (up (up σ 0 0 1 0) 7 0 bb q) 8 0 bb nn) : Mem) = mfill (mbM σ bb q nn) bb 0 from mfill_0] at hP
                    exact loop2 (8 + 1) 0 (by omega) (by omega) _ _ hP hS ls (lv_sub hl [0, 1, 2, 3, 4] rfl)
                  · skip
                    refine lv_aload_n hx hb d_Mo_block_88 rfl (lv_at hl 1 rfl) ?_
                    refine lv_iconst (v := 3) hx hb d_Mo_block_89 (by decide) ?_
                    refine ms_I C0 hP hS (ms_V C0 hP (kd := 0) (i := 0) (ci := 4) (As := [.int 3]) (by decide) (by decide) rfl rfl k_ml_Mo_71 k_im_Mo_fail k_sl_Mo_Mo_fail k_cd_Mo_fail k_in_Mo z_Mo_fail rfl d_Mo_block_90) (c_Mo_fail hlt) (fun k r σ h => h.1) ⟨rfl, rfl⟩ hl.1 d_Mo_block_90 (Nat.le_of_ble_eq_true rfl) (⟨by decide, by decide⟩) (⟨by decide, by decide⟩) (fun r_20 σ_21 H locs h_19 hP hS => ?_)
                    obtain ⟨-, rfl, rfl⟩ := h_19
                    exact mrI_i C0 hP hS (⟨by decide, by decide⟩) (⟨rfl, congrArg some (by unfold mBlock; rw [if_pos c_7, if_pos c_17, if_neg c_39, ← hbb, if_neg c_74, if_neg c_85]; first | done | rfl), by unfold mBlock; rw [if_pos c_7, if_pos c_17, if_neg c_39, ← hbb, if_neg c_74, if_neg c_85]; first | done | rfl⟩) d_Mo_block_93
              · skip
                have hkN : k < 12 := lt_nI (N := 12) c_53
                refine lv_aload_n hx hb d_Mo_block_56 rfl (lv_at hl 1 rfl) ?_
                refine mq_get C0 hP (kd := 0) (i := 0) (ci := 4) (by decide) (by decide) rfl rfl 6 (by decide) rfl k_fl_Mo_29 rfl d_Mo_block_57 ?_
                refine lv_iload_n hx hb d_Mo_block_60 rfl (lv_at hl 0 rfl) ?_
                refine mq_iald C0 hP (kd := 7) (i := 0) (by decide) (by decide) rfl (vin_nI hkN) d_Mo_block_61 ?_
                rw [show (nI k).toNatClampNeg = k from nI_clamp (by omega)]
                refine W.eq (g2 := F0 m 62 ls [.int (σ 7 0 k)]) rfl ?_
                refine lv_if_lt (tgt := 71) hx hb d_Mo_block_62 (by decide) (fun c_62 => ?_) (fun c_62 => ?_)
                · skip
                  have hbb : k = mlfb σ := (firstF_eq (P := fun b => σ 7 0 b < 0) (by omega) hinv (fun _ => c_62) 12 0 rfl (Nat.zero_le _)).symm
                  skip
                  obtain ⟨bb, rfl⟩ : ∃ bb, bb = k := ⟨_, rfl⟩
                  refine lv_iload_n hx hb d_Mo_block_71 rfl (lv_at hl 0 rfl) ?_
                  refine lv_bipush (v := 12) hx hb d_Mo_block_72 (by decide) ?_
                  refine lv_icmp_eq (tgt := 88) hx hb d_Mo_block_74 (by decide) (fun c_74 => ?_) (fun c_74 => ?_)
                  · skip
                    refine lv_aload_n hx hb d_Mo_block_88 rfl (lv_at hl 1 rfl) ?_
                    refine lv_iconst (v := 3) hx hb d_Mo_block_89 (by decide) ?_
                    refine ms_I C0 hP hS (ms_V C0 hP (kd := 0) (i := 0) (ci := 4) (As := [.int 3]) (by decide) (by decide) rfl rfl k_ml_Mo_71 k_im_Mo_fail k_sl_Mo_Mo_fail k_cd_Mo_fail k_in_Mo z_Mo_fail rfl d_Mo_block_90) (c_Mo_fail hlt) (fun k r σ h => h.1) ⟨rfl, rfl⟩ hl.1 d_Mo_block_90 (Nat.le_of_ble_eq_true rfl) (⟨by decide, by decide⟩) (⟨by decide, by decide⟩) (fun r_23 σ_24 H locs h_22 hP hS => ?_)
                    obtain ⟨-, rfl, rfl⟩ := h_22
                    exact mrI_i C0 hP hS (⟨by decide, by decide⟩) (⟨rfl, congrArg some (by unfold mBlock; rw [if_pos c_7, if_pos c_17, if_neg c_39, ← hbb, if_pos c_74]; first | done | rfl), by unfold mBlock; rw [if_pos c_7, if_pos c_17, if_neg c_39, ← hbb, if_pos c_74]; first | done | rfl⟩) d_Mo_block_93
                  · skip
                    have hb12 : bb < 12 := Nat.lt_of_le_of_ne (by omega) (fun z => c_74 (by rw [z]; decide))
                    refine lv_aload_n hx hb d_Mo_block_77 rfl (lv_at hl 1 rfl) ?_
                    refine ms_P C0 hP hS (ms_V C0 hP (kd := 0) (i := 0) (ci := 4) (As := []) (by decide) (by decide) rfl rfl k_ml_Mo_107 k_im_Mo_allCells k_sl_Mo_Mo_allCells k_cd_Mo_allCells k_in_Mo z_Mo_allCells rfl d_Mo_block_78) (c_Mo_allCells hlt) hl.1 d_Mo_block_78 (Nat.le_of_ble_eq_true rfl) (⟨by decide, by decide⟩) (⟨by decide, by decide⟩) (fun k r x t hk hp => absurd hp.1 hk) (fun r_26 h_25 => ?_)
                    obtain ⟨-, rfl⟩ := h_25
                    refine lv_iload_n hx hb d_Mo_block_81 rfl (lv_at hl 3 rfl) ?_
                    refine lv_iadd hx hb d_Mo_block_82 ?_
                    refine lv_bipush (v := 48) hx hb d_Mo_block_83 (by decide) ?_
                    refine lv_icmp_le (tgt := 94) hx hb d_Mo_block_85 (by decide) (fun c_85 => ?_) (fun c_85 => ?_)
                    · skip
                      refine lv_aload_n hx hb d_Mo_block_94 rfl (lv_at hl 1 rfl) ?_
                      refine mq_get C0 hP (kd := 0) (i := 0) (ci := 4) (by decide) (by decide) rfl rfl 6 (by decide) rfl k_fl_Mo_29 rfl d_Mo_block_95 ?_
                      refine lv_iload_n hx hb d_Mo_block_98 rfl (lv_at hl 0 rfl) ?_
                      refine lv_iload_n hx hb d_Mo_block_99 rfl (lv_at hl 2 rfl) ?_
                      refine mq_iast C0 hP hS (kd := 7) (i := 0) 7 (by decide) rfl (by decide) rfl (vin_nI hb12) (by rw [ast_fn]; rfl) d_Mo_block_100 (fun H locs hP hS => ?_)
                      rw [show (nI bb).toNatClampNeg = bb from nI_clamp (by omega)] at hP
                      refine lv_aload_n hx hb d_Mo_block_101 rfl (lv_at hl 1 rfl) ?_
                      refine mq_get C0 hP (kd := 0) (i := 0) (ci := 4) (by decide) (by decide) rfl rfl 7 (by decide) rfl k_fl_Mo_32 rfl d_Mo_block_102 ?_
                      refine lv_iload_n hx hb d_Mo_block_105 rfl (lv_at hl 0 rfl) ?_
                      refine lv_iload_n hx hb d_Mo_block_106 rfl (lv_at hl 3 rfl) ?_
                      refine mq_iast C0 hP hS (kd := 8) (i := 0) 8 (by decide) rfl (by decide) rfl (vin_nI hb12) (by rw [ast_fn]; rfl) d_Mo_block_107 (fun H locs hP hS => ?_)
                      rw [show (nI bb).toNatClampNeg = bb from nI_clamp (by omega)] at hP
                      refine lv_iconst (v := 0) hx hb d_Mo_block_108 (by decide) ?_
                      refine lv_istore (lv' := [(4, .int 0), (3, .int (nI bb)), (0, .ref (base + adm 0 0)), (1, .int q), (2, .int nn)]) hx hb d_Mo_block_109 hl (by decide) rfl (fun ls hl => ?_)
                      have loop2 : ∀ (n k : Nat), k ≤ 8 → 8 + 1 ≤ k + n → ∀ (H : Heap) (locs : List Loc), va_P D classes (wl base 16 (memo ar base (mfill (mbM σ bb q nn) bb k))) H → va_S (inB base 16) s.heap H locs → ∀ ls : Array Slot, lv_has ls 5 [(4, .int (nI k)), (3, .int (nI bb)), (0, .ref (base + adm 0 0)), (1, .int q), (2, .int nn)] → W p l ev (rmL 1) s m ([.ref (base + adm 0 0), .int q, .int nn] : List Value).toArray below meth c H locs 0 0 (MQX below (QO D ar base (fun k r σ' => k = 0 ∧ r = some (mBlock σ q nn).1 ∧ σ' = (mBlock σ q nn).2)) ([.ref (base + adm 0 0), .int q, .int nn] : List Value).toArray s (rmL 1).cells (rmL 1).slots (inB base 16)) (F0 m 111 ls []) := by
                        intro n
                        induction n with
                        | zero => intro k h1 h2; omega
                        | succ n ih =>
                          intro k hk1 hk2 H locs hP hS ls hl
                          refine lv_iload hx hb d_Mo_block_111 (lv_at hl 0 rfl) ?_
                          refine lv_bipush (v := 8) hx hb d_Mo_block_113 (by decide) ?_
                          refine lv_icmp_ge (tgt := 137) hx hb d_Mo_block_115 (by decide) (fun c_115 => ?_) (fun c_115 => ?_)
                          · skip
                            have hkN : k = 8 := by have := ge_nI (N := 8) c_115; omega
                            subst hkN
                            refine lv_iload_n hx hb d_Mo_block_137 rfl (lv_at hl 1 rfl) ?_
                            exact mrI_i C0 hP hS (⟨by decide, by decide⟩) (⟨rfl, congrArg some (by unfold mBlock; rw [if_pos c_7, if_pos c_17, if_neg c_39, ← hbb, if_neg c_74, if_pos c_85]; first | done | rfl), by unfold mBlock; rw [if_pos c_7, if_pos c_17, if_neg c_39, ← hbb, if_neg c_74, if_pos c_85]; first | done | rfl⟩) d_Mo_block_138
                          · skip
                            have hkN : k < 8 := lt_nI (N := 8) c_115
                            refine lv_aload_n hx hb d_Mo_block_118 rfl (lv_at hl 2 rfl) ?_
                            refine mq_get C0 hP (kd := 0) (i := 0) (ci := 4) (by decide) (by decide) rfl rfl 8 (by decide) rfl k_fl_Mo_35 rfl d_Mo_block_119 ?_
                            refine lv_iload_n hx hb d_Mo_block_122 rfl (lv_at hl 1 rfl) ?_
                            refine lv_bipush (v := 8) hx hb d_Mo_block_123 (by decide) ?_
                            refine lv_imul hx hb d_Mo_block_125 ?_
                            refine lv_iload hx hb d_Mo_block_126 (lv_at hl 0 rfl) ?_
                            refine lv_iadd hx hb d_Mo_block_128 ?_
                            refine lv_iconst (v := 0) hx hb d_Mo_block_129 (by decide) ?_
                            refine W.eq (g2 := F0 m 130 ls [.int 0, .int (nI (8 * bb + k)), .ref (base + adm 9 0)]) (by rw [← mb_ix]; rfl) ?_
                            refine mq_iast C0 hP hS (kd := 9) (i := 0) 9 (by decide) rfl (by decide) rfl (vin_nI (by omega)) (by rw [ast_fn]; rfl) d_Mo_block_130 (fun H locs hP hS => ?_)
                            rw [show (nI (8 * bb + k)).toNatClampNeg = (8 * bb + k) from nI_clamp (by omega)] at hP
                            refine lv_iinc (v := nI (k + 1)) (lv' := [(4, .int (nI (k + 1))), (3, .int (nI bb)), (0, .ref (base + adm 0 0)), (1, .int q), (2, .int nn)]) hx hb d_Mo_block_131 hl (k := 0) rfl (by exact nI_1 k) (by decide) rfl (fun ls hl => ?_)
                            refine lv_goto (tgt := 111) hx hb d_Mo_block_134 (by decide) ?_
                            rw [show ((up (mfill (mbM σ bb q nn) bb k) 9 0 (8 * bb + k) 0) : Mem) = mfill (mbM σ bb q nn) bb (k + 1) from mfill_s] at hP
                            exact ih (k + 1) (by omega) (by omega) _ _ hP hS ls (lv_sub hl [0, 1, 2, 3, 4] rfl)
                      rw [show ((up (up (up σ 0 0 1 0) 7 0 bb q) 8 0 bb nn) : Mem) = mfill (mbM σ bb q nn) bb 0 from mfill_0] at hP
                      exact loop2 (8 + 1) 0 (by omega) (by omega) _ _ hP hS ls (lv_sub hl [0, 1, 2, 3, 4] rfl)
                    · skip
                      refine lv_aload_n hx hb d_Mo_block_88 rfl (lv_at hl 1 rfl) ?_
                      refine lv_iconst (v := 3) hx hb d_Mo_block_89 (by decide) ?_
                      refine ms_I C0 hP hS (ms_V C0 hP (kd := 0) (i := 0) (ci := 4) (As := [.int 3]) (by decide) (by decide) rfl rfl k_ml_Mo_71 k_im_Mo_fail k_sl_Mo_Mo_fail k_cd_Mo_fail k_in_Mo z_Mo_fail rfl d_Mo_block_90) (c_Mo_fail hlt) (fun k r σ h => h.1) ⟨rfl, rfl⟩ hl.1 d_Mo_block_90 (Nat.le_of_ble_eq_true rfl) (⟨by decide, by decide⟩) (⟨by decide, by decide⟩) (fun r_28 σ_29 H locs h_27 hP hS => ?_)
                      obtain ⟨-, rfl, rfl⟩ := h_27
                      exact mrI_i C0 hP hS (⟨by decide, by decide⟩) (⟨rfl, congrArg some (by unfold mBlock; rw [if_pos c_7, if_pos c_17, if_neg c_39, ← hbb, if_neg c_74, if_neg c_85]; first | done | rfl), by unfold mBlock; rw [if_pos c_7, if_pos c_17, if_neg c_39, ← hbb, if_neg c_74, if_neg c_85]; first | done | rfl⟩) d_Mo_block_93
                · skip
                  refine lv_iinc (v := nI (k + 1)) (lv' := [(3, .int (nI (k + 1))), (0, .ref (base + adm 0 0)), (1, .int q), (2, .int nn)]) hx hb d_Mo_block_65 hl (k := 0) rfl (by exact nI_1 k) (by decide) rfl (fun ls hl => ?_)
                  refine lv_goto (tgt := 50) hx hb d_Mo_block_68 (by decide) ?_
                  rw [show ((up σ 0 0 1 0) : Mem) = up σ 0 0 1 0 from rfl] at hP
                  exact ih (k + 1) (by omega) (by omega) (lt_s hinv c_62) _ _ hP hS ls (lv_sub hl [0, 1, 2, 3] rfl)
          rw [show ((up σ 0 0 1 0) : Mem) = up σ 0 0 1 0 from rfl] at hP
          exact loop (12 + 1) 0 (by omega) (by omega) (fun j hj => absurd hj (Nat.not_lt_zero j)) _ _ hP hS ls (lv_sub hl [0, 1, 2, 3] rfl)
        · skip
          refine lv_aload_n hx hb d_Mo_block_42 rfl (lv_at hl 0 rfl) ?_
          refine lv_iconst (v := 2) hx hb d_Mo_block_43 (by decide) ?_
          refine ms_I C0 hP hS (ms_V C0 hP (kd := 0) (i := 0) (ci := 4) (As := [.int 2]) (by decide) (by decide) rfl rfl k_ml_Mo_71 k_im_Mo_fail k_sl_Mo_Mo_fail k_cd_Mo_fail k_in_Mo z_Mo_fail rfl d_Mo_block_44) (c_Mo_fail hlt) (fun k r σ h => h.1) ⟨rfl, rfl⟩ hl.1 d_Mo_block_44 (Nat.le_of_ble_eq_true rfl) (⟨by decide, by decide⟩) (⟨by decide, by decide⟩) (fun r_31 σ_32 H locs h_30 hP hS => ?_)
          obtain ⟨-, rfl, rfl⟩ := h_30
          exact mrI_i C0 hP hS (⟨by decide, by decide⟩) (⟨rfl, congrArg some (by unfold mBlock; rw [if_pos c_7, if_pos c_17, if_pos c_39]; first | done | rfl), by unfold mBlock; rw [if_pos c_7, if_pos c_17, if_pos c_39]; first | done | rfl⟩) d_Mo_block_47
      · skip
        exact absurd rfl c_28
set_option maxHeartbeats 4000000 in
set_option maxRecDepth 100000 in
theorem c_Mo_type {S0 : State} {A0 : Array Value} {D : va_G} {ar : Nat → ClassId} {base : Nat} {σ : Mem} {l : Launch} (hlt : l.stackTraces = false) {x : Int64} (htw : TW σ) :
    MX l y_Mo_type [Cond.code y_Mo_type b_Mo_type 7 (some .int)] (rmL 1) (PO S0 A0 D ar base σ [.ref (base + adm 0 0), .long x]) (QO D ar base (fun k r σ' => k = 0 ∧ r = some (mType σ x).1 ∧ σ' = (mType σ x).2)) (inB base 16) := by
  refine mx_head hlt (by decide +kernel) (Nat.le_of_ble_eq_true rfl) ?_
  intro p ev s m below meth c ls C0 hP hl
  have C0 : Cx S0 A0 D ar base p l s m _ meth c R_Mo b_Mo_type 7 (some .int) := C0
  obtain ⟨hx, hb, -⟩ := id C0
  have hl : lv_has ls 7 [(0, .ref (base + adm 0 0)), (1, .long x)] := hl
  have hS : va_S (inB base 16) s.heap s.heap [] := va_S.rf
  refine lv_iconst (v := 0) hx hb d_Mo_type_0 (by decide) ?_
  refine lv_istore_n (lv' := [(3, .int 0), (0, .ref (base + adm 0 0)), (1, .long x)]) hx hb d_Mo_type_1 rfl hl (by decide) rfl (fun ls hl => ?_)
  refine lv_iconst (v := 1) hx hb d_Mo_type_2 (by decide) ?_
  refine lv_istore (lv' := [(4, .int 1), (3, .int 0), (0, .ref (base + adm 0 0)), (1, .long x)]) hx hb d_Mo_type_3 hl (by decide) rfl (fun ls hl => ?_)
  refine lv_bipush (v := 56) hx hb d_Mo_type_5 (by decide) ?_
  rw [show (56 : Int32) = sh 0 from by decide]
  refine lv_istore (lv' := [(5, .int (sh 0)), (4, .int 1), (3, .int 0), (0, .ref (base + adm 0 0)), (1, .long x)]) hx hb d_Mo_type_7 hl (by decide) rfl (fun ls hl => ?_)
  have loop : ∀ (n k : Nat), k ≤ 8 → 8 + 1 ≤ k + n → ∀ (a : Nat) (z0 : Int32), a = tyN x k ∧ z0 = b2i (mOk x k) → ∀ (H : Heap) (locs : List Loc), va_P D classes (wl base 16 (memo ar base σ)) H → va_S (inB base 16) s.heap H locs → ∀ ls : Array Slot, lv_has ls 7 [(5, .int (sh k)), (4, .int z0), (3, .int (nI a)), (0, .ref (base + adm 0 0)), (1, .long x)] → W p l ev (rmL 1) s m ([.ref (base + adm 0 0), .long x] : List Value).toArray below meth c H locs 0 0 (MQX below (QO D ar base (fun k r σ' => k = 0 ∧ r = some (mType σ x).1 ∧ σ' = (mType σ x).2)) ([.ref (base + adm 0 0), .long x] : List Value).toArray s (rmL 1).cells (rmL 1).slots (inB base 16)) (F0 m 9 ls []) := by
    intro n
    induction n with
    | zero => intro k h1 h2; omega
    | succ n ih =>
      intro k hk1 hk2 a z0 hinv H locs hP hS ls hl
      refine lv_iload hx hb d_Mo_type_9 (lv_at hl 0 rfl) ?_
      refine lv_if_lt (tgt := 59) hx hb d_Mo_type_11 (by decide) (fun c_11 => ?_) (fun c_11 => ?_)
      · skip
        have hkN : k = 8 := by have := ((by decide : ∀ k, k < 9 → (sh k < 0 ↔ 8 ≤ k)) k (by omega)).mp c_11; omega
        subst hkN
        refine lv_aload_n hx hb d_Mo_type_59 rfl (lv_at hl 3 rfl) ?_
        refine lv_iload hx hb d_Mo_type_60 (lv_at hl 1 rfl) ?_
        obtain ⟨ha, hzz⟩ := hinv
        subst ha
        subst hzz
        refine ms_I C0 hP hS (ms_V C0 hP (kd := 0) (i := 0) (ci := 4) (As := [.int (b2i (mOk x 8))]) (by decide) (by decide) rfl rfl k_ml_Mo_64 k_im_Mo_bad k_sl_Mo_Mo_bad k_cd_Mo_bad k_in_Mo z_Mo_bad rfl d_Mo_type_62) (c_Mo_bad hlt (P := (mOk x 8))) (fun k r σ h => h.1) ⟨rfl, rfl⟩ hl.1 d_Mo_type_62 (Nat.le_of_ble_eq_true rfl) (⟨by decide, by decide⟩) (⟨by decide, by decide⟩) (fun r_2 σ_3 H locs h_1 hP hS => ?_)
        obtain ⟨-, rfl, rfl⟩ := h_1
        refine lv_if_eq (tgt := 70) hx hb d_Mo_type_65 (by decide) (fun c_65 => ?_) (fun c_65 => ?_)
        · skip
          have c_65 := b2i_z.mp c_65
          rw [b2i_f c_65] at hP
          refine lv_aload_n hx hb d_Mo_type_70 rfl (lv_at hl 3 rfl) ?_
          refine mq_get C0 hP (kd := 0) (i := 0) (ci := 4) (by decide) (by decide) rfl rfl 15 (by decide) rfl k_fl_Mo_68 rfl d_Mo_type_71 ?_
          refine W.eq (g2 := F0 m 74 ls [.int (σ 0 0 0)]) rfl ?_
          refine lv_iload_n hx hb d_Mo_type_74 rfl (lv_at hl 2 rfl) ?_
          refine lv_iadd hx hb d_Mo_type_75 ?_
          refine lv_bipush (v := 36) hx hb d_Mo_type_76 (by decide) ?_
          refine lv_icmp_le (tgt := 87) hx hb d_Mo_type_78 (by decide) (fun c_78 => ?_) (fun c_78 => ?_)
          · skip
            obtain ⟨n0, hn36, hn0⟩ := htw
            have hsum : n0 + tyN x 8 ≤ 36 := (ty_sum hn36 (tyN_le 8)).mp (by rw [← hn0]; exact c_78)
            refine lv_bipush (v := 56) hx hb d_Mo_type_87 (by decide) ?_
            rw [show (56 : Int32) = sh 0 from by decide]
            refine lv_istore (lv' := [(5, .int (sh 0)), (4, .int (b2i (mOk x 8))), (3, .int (nI (tyN x 8))), (0, .ref (base + adm 0 0)), (1, .long x)]) hx hb d_Mo_type_89 hl (by decide) rfl (fun ls hl => ?_)
            have loop2 : ∀ (n k : Nat), k ≤ 8 → 8 + 1 ≤ k + n → ∀ (H : Heap) (locs : List Loc), va_P D classes (wl base 16 (memo ar base (mtM x (up σ 0 0 1 0) k))) H → va_S (inB base 16) s.heap H locs → ∀ ls : Array Slot, lv_has ls 7 [(5, .int (sh k)), (0, .ref (base + adm 0 0)), (1, .long x)] → W p l ev (rmL 1) s m ([.ref (base + adm 0 0), .long x] : List Value).toArray below meth c H locs 0 0 (MQX below (QO D ar base (fun k r σ' => k = 0 ∧ r = some (mType σ x).1 ∧ σ' = (mType σ x).2)) ([.ref (base + adm 0 0), .long x] : List Value).toArray s (rmL 1).cells (rmL 1).slots (inB base 16)) (F0 m 91 ls []) := by
              intro n
              induction n with
              | zero => intro k h1 h2; omega
              | succ n ih =>
                intro k hk1 hk2 H locs hP hS ls hl
                refine lv_iload hx hb d_Mo_type_91 (lv_at hl 0 rfl) ?_
                refine lv_if_lt (tgt := 142) hx hb d_Mo_type_93 (by decide) (fun c_93 => ?_) (fun c_93 => ?_)
                · skip
                  have hkN : k = 8 := by have := ((by decide : ∀ k, k < 9 → (sh k < 0 ↔ 8 ≤ k)) k (by omega)).mp c_93; omega
                  subst hkN
                  refine lv_aload_n hx hb d_Mo_type_142 rfl (lv_at hl 1 rfl) ?_
                  refine mq_get C0 hP (kd := 0) (i := 0) (ci := 4) (by decide) (by decide) rfl rfl 15 (by decide) rfl k_fl_Mo_68 rfl d_Mo_type_143 ?_
                  exact mrI_i C0 hP hS (⟨by decide, by decide⟩) (⟨rfl, congrArg some (by unfold mType; rw [if_neg c_65, if_pos c_78]; first | done | rfl), by unfold mType; rw [if_neg c_65, if_pos c_78]; first | done | rfl⟩) d_Mo_type_146
                · skip
                  have hkN : k < 8 := Nat.lt_of_not_le fun z => c_93 (((by decide : ∀ k, k < 9 → (sh k < 0 ↔ 8 ≤ k)) k (by omega)).mpr z)
                  refine lv_lload_n hx hb d_Mo_type_96 rfl (lv_at hl 2 rfl) ?_
                  refine lv_iload hx hb d_Mo_type_97 (lv_at hl 0 rfl) ?_
                  refine lv_lushr hx hb d_Mo_type_99 rfl ?_
                  refine lv_l2i hx hb d_Mo_type_100 rfl ?_
                  refine lv_sipush (v := 255) hx hb d_Mo_type_101 (by decide) ?_
                  refine lv_iand hx hb d_Mo_type_104 ?_
                  rw [show ((((x.toUInt64 >>> ((sh k).toInt64.toUInt64 &&& Int64.toUInt64 63)).toInt64).toInt32) &&& 255 : Int32) = byt x k from rfl]
                  refine lv_istore (lv' := [(6, .int (byt x k)), (5, .int (sh k)), (0, .ref (base + adm 0 0)), (1, .long x)]) hx hb d_Mo_type_105 hl (by decide) rfl (fun ls hl => ?_)
                  refine lv_iload hx hb d_Mo_type_107 (lv_at hl 0 rfl) ?_
                  refine lv_if_ne (tgt := 115) hx hb d_Mo_type_109 (by decide) (fun c_109 => ?_) (fun c_109 => ?_)
                  · skip
                    have hlen : mtM x (up σ 0 0 1 0) k 0 0 0 = nI (n0 + tyN x k) := mtM_len (σ := up σ 0 0 1 0) hn0 k
                    have hvt : vp_in (mtM x (up σ 0 0 1 0) k 0 0 0) 36 := by rw [hlen]; have h9 := tyN_lt hkN c_109; exact vin_nI (by omega)
                    refine lv_aload_n hx hb d_Mo_type_115 rfl (lv_at hl 2 rfl) ?_
                    refine mq_get C0 hP (kd := 0) (i := 0) (ci := 4) (by decide) (by decide) rfl rfl 0 (by decide) rfl k_fl_Mo_7 rfl d_Mo_type_116 ?_
                    refine lv_aload_n hx hb d_Mo_type_119 rfl (lv_at hl 2 rfl) ?_
                    refine mq_get C0 hP (kd := 0) (i := 0) (ci := 4) (by decide) (by decide) rfl rfl 15 (by decide) rfl k_fl_Mo_68 rfl d_Mo_type_120 ?_
                    refine lv_iload hx hb d_Mo_type_123 (lv_at hl 0 rfl) ?_
                    refine mq_iast C0 hP hS (kd := 1) (i := 0) 1 (by decide) rfl (by decide) rfl (hvt) (by rw [ast_fn]; rfl) d_Mo_type_125 (fun H locs hP hS => ?_)
                    refine lv_aload_n hx hb d_Mo_type_126 rfl (lv_at hl 2 rfl) ?_
                    refine lv_dup hx hb d_Mo_type_127 rfl ?_
                    refine mq_get C0 hP (kd := 0) (i := 0) (ci := 4) (by decide) (by decide) rfl rfl 15 (by decide) rfl k_fl_Mo_68 rfl d_Mo_type_128 ?_
                    refine W.eq (g2 := F0 m 131 ls [.int ((mtM x (up σ 0 0 1 0) k) 0 0 0), .ref (base + adm 0 0)]) rfl ?_
                    refine lv_iconst (v := 1) hx hb d_Mo_type_131 (by decide) ?_
                    refine lv_iadd hx hb d_Mo_type_132 ?_
                    refine mq_put C0 hP hS (kd := 0) (i := 0) (ci := 4) 0 0 (by decide) rfl (by decide) rfl rfl t_Mo t_Mo_ok n_Mo 15 (by decide) rfl k_fl_Mo_68 rfl (by decide +kernel) (Nat.le_of_ble_eq_true rfl) (by simp [conto, up]) d_Mo_type_133 (fun H locs hP hS => ?_)
                    refine lv_iinc (v := sh (k + 1)) (lv' := [(5, .int (sh (k + 1))), (6, .int (byt x k)), (0, .ref (base + adm 0 0)), (1, .long x)]) hx hb d_Mo_type_136 hl (k := 1) rfl (by exact (by decide : ∀ k, k < 9 → sh k + (-8) = sh (k + 1)) k (by omega)) (by decide) rfl (fun ls hl => ?_)
                    refine lv_goto (tgt := 91) hx hb d_Mo_type_139 (by decide) ?_
                    rw [show ((up (up (mtM x (up σ 0 0 1 0) k) 1 0 (((mtM x (up σ 0 0 1 0) k) 0 0 0).toNatClampNeg) (byt x k)) 0 0 0 (((mtM x (up σ 0 0 1 0) k) 0 0 0) + 1)) : Mem) = mtM x (up σ 0 0 1 0) (k + 1) from by show _ = mtM x (up σ 0 0 1 0) (k + 1); rw [mtM, if_neg c_109]; rfl] at hP
                    exact ih (k + 1) (by omega) (by omega) _ _ hP hS ls (lv_sub hl [0, 2, 3] rfl)
                  · skip
                    refine lv_goto (tgt := 136) hx hb d_Mo_type_112 (by decide) ?_
                    refine lv_iinc (v := sh (k + 1)) (lv' := [(5, .int (sh (k + 1))), (6, .int (byt x k)), (0, .ref (base + adm 0 0)), (1, .long x)]) hx hb d_Mo_type_136 hl (k := 1) rfl (by exact (by decide : ∀ k, k < 9 → sh k + (-8) = sh (k + 1)) k (by omega)) (by decide) rfl (fun ls hl => ?_)
                    refine lv_goto (tgt := 91) hx hb d_Mo_type_139 (by decide) ?_
                    rw [show ((mtM x (up σ 0 0 1 0) k) : Mem) = mtM x (up σ 0 0 1 0) (k + 1) from (if_pos c_109).symm] at hP
                    exact ih (k + 1) (by omega) (by omega) _ _ hP hS ls (lv_sub hl [0, 2, 3] rfl)
            rw [show ((up σ 0 0 1 0) : Mem) = mtM x (up σ 0 0 1 0) 0 from rfl] at hP
            exact loop2 (8 + 1) 0 (by omega) (by omega) _ _ hP hS ls (lv_sub hl [0, 3, 4] rfl)
          · skip
            refine lv_aload_n hx hb d_Mo_type_81 rfl (lv_at hl 3 rfl) ?_
            refine lv_iconst (v := 2) hx hb d_Mo_type_82 (by decide) ?_
            refine ms_I C0 hP hS (ms_V C0 hP (kd := 0) (i := 0) (ci := 4) (As := [.int 2]) (by decide) (by decide) rfl rfl k_ml_Mo_71 k_im_Mo_fail k_sl_Mo_Mo_fail k_cd_Mo_fail k_in_Mo z_Mo_fail rfl d_Mo_type_83) (c_Mo_fail hlt) (fun k r σ h => h.1) ⟨rfl, rfl⟩ hl.1 d_Mo_type_83 (Nat.le_of_ble_eq_true rfl) (⟨by decide, by decide⟩) (⟨by decide, by decide⟩) (fun r_5 σ_6 H locs h_4 hP hS => ?_)
            obtain ⟨-, rfl, rfl⟩ := h_4
            exact mrI_i C0 hP hS (⟨by decide, by decide⟩) (⟨rfl, congrArg some (by unfold mType; rw [if_neg c_65, if_neg c_78]; first | done | rfl), by unfold mType; rw [if_neg c_65, if_neg c_78]; first | done | rfl⟩) d_Mo_type_86
        · skip
          have c_65 := b2i_ne.mp c_65
          refine lv_iconst (v := 0) hx hb d_Mo_type_68 (by decide) ?_
          exact mrI_i C0 hP hS (⟨by decide, by decide⟩) (⟨rfl, congrArg some (by unfold mType; rw [if_pos c_65]), by unfold mType; rw [if_pos c_65, b2i_t c_65]⟩) d_Mo_type_69
      · skip
        have hkN : k < 8 := Nat.lt_of_not_le fun z => c_11 (((by decide : ∀ k, k < 9 → (sh k < 0 ↔ 8 ≤ k)) k (by omega)).mpr z)
        refine lv_lload_n hx hb d_Mo_type_14 rfl (lv_at hl 4 rfl) ?_
        refine lv_iload hx hb d_Mo_type_15 (lv_at hl 0 rfl) ?_
        refine lv_lushr hx hb d_Mo_type_17 rfl ?_
        refine lv_l2i hx hb d_Mo_type_18 rfl ?_
        refine lv_sipush (v := 255) hx hb d_Mo_type_19 (by decide) ?_
        refine lv_iand hx hb d_Mo_type_22 ?_
        rw [show ((((x.toUInt64 >>> ((sh k).toInt64.toUInt64 &&& Int64.toUInt64 63)).toInt64).toInt32) &&& 255 : Int32) = byt x k from rfl]
        refine lv_istore (lv' := [(6, .int (byt x k)), (5, .int (sh k)), (4, .int z0), (3, .int (nI a)), (0, .ref (base + adm 0 0)), (1, .long x)]) hx hb d_Mo_type_23 hl (by decide) rfl (fun ls hl => ?_)
        refine lv_iload hx hb d_Mo_type_25 (lv_at hl 0 rfl) ?_
        refine lv_if_eq (tgt := 33) hx hb d_Mo_type_27 (by decide) (fun c_27 => ?_) (fun c_27 => ?_)
        · skip
          refine lv_iload hx hb d_Mo_type_33 (lv_at hl 0 rfl) ?_
          refine lv_if_eq (tgt := 53) hx hb d_Mo_type_35 (by decide) (fun c_35 => ?_) (fun c_35 => ?_)
          · skip
            refine lv_iinc (v := sh (k + 1)) (lv' := [(5, .int (sh (k + 1))), (6, .int (byt x k)), (4, .int z0), (3, .int (nI a)), (0, .ref (base + adm 0 0)), (1, .long x)]) hx hb d_Mo_type_53 hl (k := 1) rfl (by exact (by decide : ∀ k, k < 9 → sh k + (-8) = sh (k + 1)) k (by omega)) (by decide) rfl (fun ls hl => ?_)
            refine lv_goto (tgt := 9) hx hb d_Mo_type_56 (by decide) ?_
            exact ih (k + 1) (by omega) (by omega) a z0 (⟨by rw [hinv.1]; exact (if_pos c_27).symm, hinv.2.trans (mOk_b (Or.inl c_35))⟩) _ _ hP hS ls (lv_sub hl [0, 2, 3, 4, 5] rfl)
          · skip
            refine lv_iload hx hb d_Mo_type_38 (lv_at hl 0 rfl) ?_
            refine lv_bipush (v := 33) hx hb d_Mo_type_40 (by decide) ?_
            refine lv_bipush (v := 126) hx hb d_Mo_type_42 (by decide) ?_
            refine ms_P C0 hP hS (cs_S C0 (As := [.int (byt x k), .int 33, .int 126]) k_ml_Mo_60 k_st_Mo_in k_cd_Mo_in k_in_Mo z_Mo_in rfl d_Mo_type_44) (c_Mo_in hlt) hl.1 d_Mo_type_44 (Nat.le_of_ble_eq_true rfl) (⟨by decide, by decide⟩) (⟨by decide, by decide⟩) (fun k r x t hk hp => absurd hp.1 hk) (fun r_8 h_7 => ?_)
            obtain ⟨-, rfl⟩ := h_7
            refine lv_if_ne (tgt := 53) hx hb d_Mo_type_47 (by decide) (fun c_47 => ?_) (fun c_47 => ?_)
            · skip
              have c_47 := b2i_ne.mp c_47
              refine lv_iinc (v := sh (k + 1)) (lv' := [(5, .int (sh (k + 1))), (6, .int (byt x k)), (4, .int z0), (3, .int (nI a)), (0, .ref (base + adm 0 0)), (1, .long x)]) hx hb d_Mo_type_53 hl (k := 1) rfl (by exact (by decide : ∀ k, k < 9 → sh k + (-8) = sh (k + 1)) k (by omega)) (by decide) rfl (fun ls hl => ?_)
              refine lv_goto (tgt := 9) hx hb d_Mo_type_56 (by decide) ?_
              exact ih (k + 1) (by omega) (by omega) a z0 (⟨by rw [hinv.1]; exact (if_pos c_27).symm, hinv.2.trans (mOk_b (Or.inr c_47))⟩) _ _ hP hS ls (lv_sub hl [0, 2, 3, 4, 5] rfl)
            · skip
              have c_47 := b2i_z.mp c_47
              refine lv_iconst (v := 0) hx hb d_Mo_type_50 (by decide) ?_
              refine lv_istore (lv' := [(4, .int 0), (6, .int (byt x k)), (5, .int (sh k)), (3, .int (nI a)), (0, .ref (base + adm 0 0)), (1, .long x)]) hx hb d_Mo_type_51 hl (by decide) rfl (fun ls hl => ?_)
              refine lv_iinc (v := sh (k + 1)) (lv' := [(5, .int (sh (k + 1))), (4, .int 0), (6, .int (byt x k)), (3, .int (nI a)), (0, .ref (base + adm 0 0)), (1, .long x)]) hx hb d_Mo_type_53 hl (k := 2) rfl (by exact (by decide : ∀ k, k < 9 → sh k + (-8) = sh (k + 1)) k (by omega)) (by decide) rfl (fun ls hl => ?_)
              refine lv_goto (tgt := 9) hx hb d_Mo_type_56 (by decide) ?_
              exact ih (k + 1) (by omega) (by omega) a 0 (⟨by rw [hinv.1]; exact (if_pos c_27).symm, mOk_n c_35 c_47⟩) _ _ hP hS ls (lv_sub hl [0, 1, 3, 4, 5] rfl)
        · skip
          refine lv_iinc (v := nI (a + 1)) (lv' := [(3, .int (nI (a + 1))), (6, .int (byt x k)), (5, .int (sh k)), (4, .int z0), (0, .ref (base + adm 0 0)), (1, .long x)]) hx hb d_Mo_type_30 hl (k := 3) rfl (by exact nI_1 a) (by decide) rfl (fun ls hl => ?_)
          refine lv_iload hx hb d_Mo_type_33 (lv_at hl 1 rfl) ?_
          refine lv_if_eq (tgt := 53) hx hb d_Mo_type_35 (by decide) (fun c_35 => ?_) (fun c_35 => ?_)
          · skip
            refine lv_iinc (v := sh (k + 1)) (lv' := [(5, .int (sh (k + 1))), (3, .int (nI (a + 1))), (6, .int (byt x k)), (4, .int z0), (0, .ref (base + adm 0 0)), (1, .long x)]) hx hb d_Mo_type_53 hl (k := 2) rfl (by exact (by decide : ∀ k, k < 9 → sh k + (-8) = sh (k + 1)) k (by omega)) (by decide) rfl (fun ls hl => ?_)
            refine lv_goto (tgt := 9) hx hb d_Mo_type_56 (by decide) ?_
            exact ih (k + 1) (by omega) (by omega) (a + 1) z0 (⟨by rw [hinv.1]; exact (if_neg c_27).symm, hinv.2.trans (mOk_b (Or.inl c_35))⟩) _ _ hP hS ls (lv_sub hl [0, 3, 1, 4, 5] rfl)
          · skip
            refine lv_iload hx hb d_Mo_type_38 (lv_at hl 1 rfl) ?_
            refine lv_bipush (v := 33) hx hb d_Mo_type_40 (by decide) ?_
            refine lv_bipush (v := 126) hx hb d_Mo_type_42 (by decide) ?_
            refine ms_P C0 hP hS (cs_S C0 (As := [.int (byt x k), .int 33, .int 126]) k_ml_Mo_60 k_st_Mo_in k_cd_Mo_in k_in_Mo z_Mo_in rfl d_Mo_type_44) (c_Mo_in hlt) hl.1 d_Mo_type_44 (Nat.le_of_ble_eq_true rfl) (⟨by decide, by decide⟩) (⟨by decide, by decide⟩) (fun k r x t hk hp => absurd hp.1 hk) (fun r_10 h_9 => ?_)
            obtain ⟨-, rfl⟩ := h_9
            refine lv_if_ne (tgt := 53) hx hb d_Mo_type_47 (by decide) (fun c_47 => ?_) (fun c_47 => ?_)
            · skip
              have c_47 := b2i_ne.mp c_47
              refine lv_iinc (v := sh (k + 1)) (lv' := [(5, .int (sh (k + 1))), (3, .int (nI (a + 1))), (6, .int (byt x k)), (4, .int z0), (0, .ref (base + adm 0 0)), (1, .long x)]) hx hb d_Mo_type_53 hl (k := 2) rfl (by exact (by decide : ∀ k, k < 9 → sh k + (-8) = sh (k + 1)) k (by omega)) (by decide) rfl (fun ls hl => ?_)
              refine lv_goto (tgt := 9) hx hb d_Mo_type_56 (by decide) ?_
              exact ih (k + 1) (by omega) (by omega) (a + 1) z0 (⟨by rw [hinv.1]; exact (if_neg c_27).symm, hinv.2.trans (mOk_b (Or.inr c_47))⟩) _ _ hP hS ls (lv_sub hl [0, 3, 1, 4, 5] rfl)
            · skip
              have c_47 := b2i_z.mp c_47
              refine lv_iconst (v := 0) hx hb d_Mo_type_50 (by decide) ?_
              refine lv_istore (lv' := [(4, .int 0), (3, .int (nI (a + 1))), (6, .int (byt x k)), (5, .int (sh k)), (0, .ref (base + adm 0 0)), (1, .long x)]) hx hb d_Mo_type_51 hl (by decide) rfl (fun ls hl => ?_)
              refine lv_iinc (v := sh (k + 1)) (lv' := [(5, .int (sh (k + 1))), (4, .int 0), (3, .int (nI (a + 1))), (6, .int (byt x k)), (0, .ref (base + adm 0 0)), (1, .long x)]) hx hb d_Mo_type_53 hl (k := 3) rfl (by exact (by decide : ∀ k, k < 9 → sh k + (-8) = sh (k + 1)) k (by omega)) (by decide) rfl (fun ls hl => ?_)
              refine lv_goto (tgt := 9) hx hb d_Mo_type_56 (by decide) ?_
              exact ih (k + 1) (by omega) (by omega) (a + 1) 0 (⟨by rw [hinv.1]; exact (if_neg c_27).symm, mOk_n c_35 c_47⟩) _ _ hP hS ls (lv_sub hl [0, 1, 2, 4, 5] rfl)
  exact loop (8 + 1) 0 (by omega) (by omega) 0 1 (⟨rfl, (b2i_t (fun j hj => absurd hj (Nat.not_lt_zero j))).symm⟩) _ _ hP hS ls (lv_sub hl [0, 1, 2, 3, 4] rfl)
