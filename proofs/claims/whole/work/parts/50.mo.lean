/-! The model's close and kill: laid by gen/m50.py. -/
theorem NE_own {σ : Mem} {q b : Int32} (h : (mNE σ q b).1 = 0) : σ 10 0 b.toNatClampNeg = q ∧ ¬ q < 0 := by
  unfold mNE at h
  by_cases h1 : inR q 0 3
  · rw [if_pos h1] at h
    by_cases h2 : inR b 0 11
    · rw [if_pos h2] at h
      by_cases h3 : σ 6 0 q.toNatClampNeg = 0
      · rw [if_pos h3] at h; exact absurd h (show ¬ (1 : Int32) = 0 by decide)
      · rw [if_neg h3] at h
        by_cases h4 : σ 10 0 b.toNatClampNeg = q
        · exact ⟨h4, h1.1⟩
        · rw [if_neg h4] at h; exact absurd h (show ¬ (1 : Int32) = 0 by decide)
    · rw [if_neg h2] at h; exact absurd h (show ¬ (1 : Int32) = 0 by decide)
  · rw [if_neg h1] at h; exact absurd h (show ¬ (1 : Int32) = 0 by decide)
def mCloM (σ : Mem) (x : Int32) : Mem := mClr (mCl (up (up σ 0 0 1 0) 0 0 7 0) x)
def mClose (σ : Mem) (q x : Int32) : Int32 × Mem := if (mNE σ q x).1 = 0 then (mCloM σ x 0 0 7, mCloM σ x) else (0, (mNE σ q x).2)
def mkB (q : Int32) : Nat → Nat → Mem → Mem
  | 0, _, τ => τ
  | n + 1, k, τ => if τ 7 0 k = q then mkB q n (k + 1) (mFree τ (nI k)) else mkB q n (k + 1) τ
def mkE (q : Int32) : Nat → Nat → Mem → Mem
  | 0, _, τ => τ
  | n + 1, k, τ => if τ 10 0 k = q then mkE q n (k + 1) (mCl τ (nI k)) else mkE q n (k + 1) τ
theorem mkB_s {q : Int32} {τ : Mem} {k : Nat} (hk : k < 12) : mkB q (12 - k) k τ = if τ 7 0 k = q then mkB q (12 - (k + 1)) (k + 1) (mFree τ (nI k)) else mkB q (12 - (k + 1)) (k + 1) τ := by
  obtain ⟨n, hn⟩ : ∃ n, 12 - k = n + 1 := ⟨11 - k, by omega⟩
  have hn2 : 12 - (k + 1) = n := by omega
  rw [hn, hn2]
  rfl
theorem mkE_s {q : Int32} {τ : Mem} {k : Nat} (hk : k < 12) : mkE q (12 - k) k τ = if τ 10 0 k = q then mkE q (12 - (k + 1)) (k + 1) (mCl τ (nI k)) else mkE q (12 - (k + 1)) (k + 1) τ := by
  obtain ⟨n, hn⟩ : ∃ n, 12 - k = n + 1 := ⟨11 - k, by omega⟩
  have hn2 : 12 - (k + 1) = n := by omega
  rw [hn, hn2]
  rfl
def mK0 (σ : Mem) (q : Int32) : Mem := up (up (up (up σ 0 0 1 0) 6 0 q.toNatClampNeg 0) 0 0 5 (σ 0 0 5 + 1)) 0 0 7 0
def mKilM (σ : Mem) (q : Int32) : Mem := mClr (mkE q 12 0 (mkB q 12 0 (mK0 σ q)))
def mKill (σ : Mem) (q : Int32) : Int32 × Mem := if ¬ inR q 0 3 then (0, up σ 0 0 1 1) else if σ 6 0 q.toNatClampNeg = 0 then mFail (up σ 0 0 1 0) 2 else (mKilM σ q 0 0 7, mKilM σ q)
set_option maxHeartbeats 4000000 in
set_option maxRecDepth 100000 in
theorem c_Mo_close {S0 : State} {A0 : Array Value} {D : va_G} {ar : Nat → ClassId} {base : Nat} {σ : Mem} {l : Launch} (hlt : l.stackTraces = false) {q x : Int32} (hj0 : J σ) :
    MX l y_Mo_close [Cond.code y_Mo_close b_Mo_close 3 (some .int)] (rmL 2) (PO S0 A0 D ar base σ [.ref (base + adm 0 0), .int q, .int x]) (QO D ar base (fun k r σ' => k = 0 ∧ r = some (mClose σ q x).1 ∧ σ' = (mClose σ q x).2)) (inB base 16) := by
  refine mx_head hlt (by decide +kernel) (Nat.le_of_ble_eq_true rfl) ?_
  intro p ev s m below meth c ls C0 hP hl
  have C0 : Cx S0 A0 D ar base p l s m _ meth c R_Mo b_Mo_close 3 (some .int) := C0
  obtain ⟨hx, hb, -⟩ := id C0
  have hl : lv_has ls 3 [(0, .ref (base + adm 0 0)), (1, .int q), (2, .int x)] := hl
  have hS : va_S (inB base 16) s.heap s.heap [] := va_S.rf
  refine lv_aload_n hx hb d_Mo_close_0 rfl (lv_at hl 0 rfl) ?_
  refine lv_iload_n hx hb d_Mo_close_1 rfl (lv_at hl 1 rfl) ?_
  refine lv_iload_n hx hb d_Mo_close_2 rfl (lv_at hl 2 rfl) ?_
  refine ms_I C0 hP hS (ms_V C0 hP (kd := 0) (i := 0) (ci := 4) (As := [.int q, .int x]) (by decide) (by decide) rfl rfl k_ml_Mo_114 k_im_Mo_notYourEnd k_sl_Mo_Mo_notYourEnd k_cd_Mo_notYourEnd k_in_Mo z_Mo_notYourEnd rfl d_Mo_close_3) (c_Mo_notYourEnd hlt) (fun k r σ h => h.1) ⟨rfl, rfl⟩ hl.1 d_Mo_close_3 (Nat.le_of_ble_eq_true rfl) (⟨by decide, by decide⟩) (⟨by decide, by decide⟩) (fun r_2 σ_3 H locs h_1 hP hS => ?_)
  obtain ⟨-, rfl, rfl⟩ := h_1
  refine lv_if_eq (tgt := 11) hx hb d_Mo_close_6 (by decide) (fun c_6 => ?_) (fun c_6 => ?_)
  · skip
    rw [(NE_0 c_6).2.2] at hP
    have hx12 := (NE_0 c_6).2.1
    have hop : ¬ σ 10 0 x.toNatClampNeg < 0 := by rw [(NE_own c_6).1]; exact (NE_own c_6).2
    refine lv_aload_n hx hb d_Mo_close_11 rfl (lv_at hl 0 rfl) ?_
    refine lv_iconst (v := 0) hx hb d_Mo_close_12 (by decide) ?_
    refine mq_put C0 hP hS (kd := 0) (i := 0) (ci := 4) 0 7 (by decide) rfl (by decide) rfl rfl t_Mo t_Mo_ok n_Mo 22 (by decide) rfl k_fl_Mo_85 rfl (by decide +kernel) (Nat.le_of_ble_eq_true rfl) (by simp [conto, up]) d_Mo_close_13 (fun H locs hP hS => ?_)
    refine lv_aload_n hx hb d_Mo_close_16 rfl (lv_at hl 0 rfl) ?_
    refine lv_iload_n hx hb d_Mo_close_17 rfl (lv_at hl 2 rfl) ?_
    refine ms_I C0 hP hS (ms_V C0 hP (kd := 0) (i := 0) (ci := 4) (As := [.int x]) (by decide) (by decide) rfl rfl k_ml_Mo_98 k_im_Mo_closeEnd k_sl_Mo_Mo_closeEnd k_cd_Mo_closeEnd k_in_Mo z_Mo_closeEnd rfl d_Mo_close_18) (c_Mo_closeEnd hlt hx12 (J_tc (J_up (by omega) (J_up (by omega) hj0)) hx12 hop)) (fun k r σ h => h.1) ⟨rfl, rfl⟩ hl.1 d_Mo_close_18 (Nat.le_of_ble_eq_true rfl) (⟨by decide, by decide⟩) (⟨by decide, by decide⟩) (fun r_5 σ_6 H locs h_4 hP hS => ?_)
    obtain ⟨-, rfl, rfl⟩ := h_4
    refine lv_aload_n hx hb d_Mo_close_21 rfl (lv_at hl 0 rfl) ?_
    refine ms_I C0 hP hS (ms_V C0 hP (kd := 0) (i := 0) (ci := 4) (As := []) (by decide) (by decide) rfl rfl k_ml_Mo_104 k_im_Mo_clear k_sl_Mo_Mo_clear k_cd_Mo_clear k_in_Mo z_Mo_clear rfl d_Mo_close_22) (c_Mo_clear hlt (J_cl (J_up (by omega) (J_up (by omega) hj0)) hx12 hop)) (fun k r σ h => h.1) ⟨rfl, rfl⟩ hl.1 d_Mo_close_22 (Nat.le_of_ble_eq_true rfl) (⟨by decide, by decide⟩) (⟨by decide, by decide⟩) (fun r_8 σ_9 H locs h_7 hP hS => ?_)
    obtain ⟨-, rfl, rfl⟩ := h_7
    refine lv_aload_n hx hb d_Mo_close_25 rfl (lv_at hl 0 rfl) ?_
    refine mq_get C0 hP (kd := 0) (i := 0) (ci := 4) (by decide) (by decide) rfl rfl 22 (by decide) rfl k_fl_Mo_85 rfl d_Mo_close_26 ?_
    exact mrI_i C0 hP hS (⟨by decide, by decide⟩) (⟨rfl, congrArg some (by unfold mClose; rw [if_pos c_6]; first | done | rfl), by unfold mClose; rw [if_pos c_6]; first | done | rfl⟩) d_Mo_close_29
  · skip
    refine lv_iconst (v := 0) hx hb d_Mo_close_9 (by decide) ?_
    exact mrI_i C0 hP hS (⟨by decide, by decide⟩) (⟨rfl, congrArg some (by unfold mClose; rw [if_neg c_6]; first | done | rfl), by unfold mClose; rw [if_neg c_6]; first | done | rfl⟩) d_Mo_close_10
set_option maxHeartbeats 4000000 in
set_option maxRecDepth 100000 in
theorem c_Mo_kill {S0 : State} {A0 : Array Value} {D : va_G} {ar : Nat → ClassId} {base : Nat} {σ : Mem} {l : Launch} (hlt : l.stackTraces = false) {q : Int32} (hj0 : J σ) :
    MX l y_Mo_kill [Cond.code y_Mo_kill b_Mo_kill 3 (some .int)] (rmL 2) (PO S0 A0 D ar base σ [.ref (base + adm 0 0), .int q]) (QO D ar base (fun k r σ' => k = 0 ∧ r = some (mKill σ q).1 ∧ σ' = (mKill σ q).2)) (inB base 16) := by
  refine mx_head hlt (by decide +kernel) (Nat.le_of_ble_eq_true rfl) ?_
  intro p ev s m below meth c ls C0 hP hl
  have C0 : Cx S0 A0 D ar base p l s m _ meth c R_Mo b_Mo_kill 3 (some .int) := C0
  obtain ⟨hx, hb, -⟩ := id C0
  have hl : lv_has ls 3 [(0, .ref (base + adm 0 0)), (1, .int q)] := hl
  have hS : va_S (inB base 16) s.heap s.heap [] := va_S.rf
  refine lv_aload_n hx hb d_Mo_kill_0 rfl (lv_at hl 0 rfl) ?_
  refine lv_iload_n hx hb d_Mo_kill_1 rfl (lv_at hl 1 rfl) ?_
  refine lv_iconst (v := 0) hx hb d_Mo_kill_2 (by decide) ?_
  refine lv_iconst (v := 3) hx hb d_Mo_kill_3 (by decide) ?_
  refine ms_P C0 hP hS (cs_S C0 (As := [.int q, .int 0, .int 3]) k_ml_Mo_60 k_st_Mo_in k_cd_Mo_in k_in_Mo z_Mo_in rfl d_Mo_kill_4) (c_Mo_in hlt) hl.1 d_Mo_kill_4 (Nat.le_of_ble_eq_true rfl) (⟨by decide, by decide⟩) (⟨by decide, by decide⟩) (fun k r x t hk hp => absurd hp.1 hk) (fun r_2 h_1 => ?_)
  obtain ⟨-, rfl⟩ := h_1
  refine ms_I C0 hP hS (ms_V C0 hP (kd := 0) (i := 0) (ci := 4) (As := [.int (b2i (inR q 0 3))]) (by decide) (by decide) rfl rfl k_ml_Mo_64 k_im_Mo_bad k_sl_Mo_Mo_bad k_cd_Mo_bad k_in_Mo z_Mo_bad rfl d_Mo_kill_7) (c_Mo_bad hlt (P := (inR q 0 3))) (fun k r σ h => h.1) ⟨rfl, rfl⟩ hl.1 d_Mo_kill_7 (Nat.le_of_ble_eq_true rfl) (⟨by decide, by decide⟩) (⟨by decide, by decide⟩) (fun r_4 σ_5 H locs h_3 hP hS => ?_)
  obtain ⟨-, rfl, rfl⟩ := h_3
  refine lv_if_eq (tgt := 15) hx hb d_Mo_kill_10 (by decide) (fun c_10 => ?_) (fun c_10 => ?_)
  · skip
    have c_10 := b2i_z.mp c_10
    rw [b2i_f c_10] at hP
    have hin : inR q 0 3 := Classical.not_not.mp c_10
    refine lv_aload_n hx hb d_Mo_kill_15 rfl (lv_at hl 0 rfl) ?_
    refine mq_get C0 hP (kd := 0) (i := 0) (ci := 4) (by decide) (by decide) rfl rfl 5 (by decide) rfl k_fl_Mo_25 rfl d_Mo_kill_16 ?_
    refine lv_iload_n hx hb d_Mo_kill_19 rfl (lv_at hl 1 rfl) ?_
    refine mq_zald C0 hP (kd := 6) (i := 0) (by decide) (by decide) rfl (vin_R hin) d_Mo_kill_20 ?_
    refine W.eq (g2 := F0 m 21 ls [.int (σ 6 0 q.toNatClampNeg)]) rfl ?_
    refine lv_if_ne (tgt := 30) hx hb d_Mo_kill_21 (by decide) (fun c_21 => ?_) (fun c_21 => ?_)
    · skip
      refine lv_aload_n hx hb d_Mo_kill_30 rfl (lv_at hl 0 rfl) ?_
      refine mq_get C0 hP (kd := 0) (i := 0) (ci := 4) (by decide) (by decide) rfl rfl 5 (by decide) rfl k_fl_Mo_25 rfl d_Mo_kill_31 ?_
      refine lv_iload_n hx hb d_Mo_kill_34 rfl (lv_at hl 1 rfl) ?_
      refine lv_iconst (v := 0) hx hb d_Mo_kill_35 (by decide) ?_
      refine mq_zast C0 hP hS (kd := 6) (i := 0) 6 (by decide) rfl (by decide) rfl (vin_R hin) (by rw [ast_fn]; rfl) d_Mo_kill_36 (fun H locs hP hS => ?_)
      refine lv_aload_n hx hb d_Mo_kill_37 rfl (lv_at hl 0 rfl) ?_
      refine lv_dup hx hb d_Mo_kill_38 rfl ?_
      refine mq_get C0 hP (kd := 0) (i := 0) (ci := 4) (by decide) (by decide) rfl rfl 20 (by decide) rfl k_fl_Mo_101 rfl d_Mo_kill_39 ?_
      refine W.eq (g2 := F0 m 42 ls [.int (σ 0 0 5), .ref (base + adm 0 0)]) rfl ?_
      refine lv_iconst (v := 1) hx hb d_Mo_kill_42 (by decide) ?_
      refine lv_iadd hx hb d_Mo_kill_43 ?_
      refine mq_put C0 hP hS (kd := 0) (i := 0) (ci := 4) 0 5 (by decide) rfl (by decide) rfl rfl t_Mo t_Mo_ok n_Mo 20 (by decide) rfl k_fl_Mo_101 rfl (by decide +kernel) (Nat.le_of_ble_eq_true rfl) (by simp [conto, up]) d_Mo_kill_44 (fun H locs hP hS => ?_)
      refine lv_aload_n hx hb d_Mo_kill_47 rfl (lv_at hl 0 rfl) ?_
      refine lv_iconst (v := 0) hx hb d_Mo_kill_48 (by decide) ?_
      refine mq_put C0 hP hS (kd := 0) (i := 0) (ci := 4) 0 7 (by decide) rfl (by decide) rfl rfl t_Mo t_Mo_ok n_Mo 22 (by decide) rfl k_fl_Mo_85 rfl (by decide +kernel) (Nat.le_of_ble_eq_true rfl) (by simp [conto, up]) d_Mo_kill_49 (fun H locs hP hS => ?_)
      refine lv_iconst (v := 0) hx hb d_Mo_kill_52 (by decide) ?_
      refine lv_istore_n (lv' := [(2, .int 0), (0, .ref (base + adm 0 0)), (1, .int q)]) hx hb d_Mo_kill_53 rfl hl (by decide) rfl (fun ls hl => ?_)
      have loop : ∀ (n k : Nat), k ≤ 12 → 12 + 1 ≤ k + n → ∀ (τ : Mem), J τ ∧ mkB q (12 - k) k τ = mkB q 12 0 (mK0 σ q) → ∀ (H : Heap) (locs : List Loc), va_P D classes (wl base 16 (memo ar base τ)) H → va_S (inB base 16) s.heap H locs → ∀ ls : Array Slot, lv_has ls 3 [(2, .int (nI k)), (0, .ref (base + adm 0 0)), (1, .int q)] → W p l ev (rmL 2) s m ([.ref (base + adm 0 0), .int q] : List Value).toArray below meth c H locs 0 0 (MQX below (QO D ar base (fun k r σ' => k = 0 ∧ r = some (mKill σ q).1 ∧ σ' = (mKill σ q).2)) ([.ref (base + adm 0 0), .int q] : List Value).toArray s (rmL 2).cells (rmL 2).slots (inB base 16)) (F0 m 54 ls []) := by
        intro n
        induction n with
        | zero => intro k h1 h2; omega
        | succ n ih =>
          intro k hk1 hk2 τ hinv H locs hP hS ls hl
          refine lv_iload_n hx hb d_Mo_kill_54 rfl (lv_at hl 0 rfl) ?_
          refine lv_bipush (v := 12) hx hb d_Mo_kill_55 (by decide) ?_
          refine lv_icmp_ge (tgt := 81) hx hb d_Mo_kill_57 (by decide) (fun c_57 => ?_) (fun c_57 => ?_)
          · skip
            have hkN : k = 12 := by have := ge_nI (N := 12) c_57; omega
            subst hkN
            refine lv_iconst (v := 0) hx hb d_Mo_kill_81 (by decide) ?_
            refine lv_istore_n (lv' := [(2, .int 0), (0, .ref (base + adm 0 0)), (1, .int q)]) hx hb d_Mo_kill_82 rfl hl (by decide) rfl (fun ls hl => ?_)
            have loop2 : ∀ (n k : Nat), k ≤ 12 → 12 + 1 ≤ k + n → ∀ (τ' : Mem), J τ' ∧ mkE q (12 - k) k τ' = mkE q 12 0 (mkB q 12 0 (mK0 σ q)) → ∀ (H : Heap) (locs : List Loc), va_P D classes (wl base 16 (memo ar base τ')) H → va_S (inB base 16) s.heap H locs → ∀ ls : Array Slot, lv_has ls 3 [(2, .int (nI k)), (0, .ref (base + adm 0 0)), (1, .int q)] → W p l ev (rmL 2) s m ([.ref (base + adm 0 0), .int q] : List Value).toArray below meth c H locs 0 0 (MQX below (QO D ar base (fun k r σ' => k = 0 ∧ r = some (mKill σ q).1 ∧ σ' = (mKill σ q).2)) ([.ref (base + adm 0 0), .int q] : List Value).toArray s (rmL 2).cells (rmL 2).slots (inB base 16)) (F0 m 83 ls []) := by
              intro n
              induction n with
              | zero => intro k h1 h2; omega
              | succ n ih =>
                intro k hk1 hk2 τ' hinv H locs hP hS ls hl
                refine lv_iload_n hx hb d_Mo_kill_83 rfl (lv_at hl 0 rfl) ?_
                refine lv_bipush (v := 12) hx hb d_Mo_kill_84 (by decide) ?_
                refine lv_icmp_ge (tgt := 110) hx hb d_Mo_kill_86 (by decide) (fun c_86 => ?_) (fun c_86 => ?_)
                · skip
                  have hkN : k = 12 := by have := ge_nI (N := 12) c_86; omega
                  subst hkN
                  refine lv_aload_n hx hb d_Mo_kill_110 rfl (lv_at hl 1 rfl) ?_
                  refine ms_I C0 hP hS (ms_V C0 hP (kd := 0) (i := 0) (ci := 4) (As := []) (by decide) (by decide) rfl rfl k_ml_Mo_104 k_im_Mo_clear k_sl_Mo_Mo_clear k_cd_Mo_clear k_in_Mo z_Mo_clear rfl d_Mo_kill_111) (c_Mo_clear hlt hinv.1) (fun k r σ h => h.1) ⟨rfl, rfl⟩ hl.1 d_Mo_kill_111 (Nat.le_of_ble_eq_true rfl) (⟨by decide, by decide⟩) (⟨by decide, by decide⟩) (fun r_7 σ_8 H locs h_6 hP hS => ?_)
                  obtain ⟨-, rfl, rfl⟩ := h_6
                  refine lv_aload_n hx hb d_Mo_kill_114 rfl (lv_at hl 1 rfl) ?_
                  refine mq_get C0 hP (kd := 0) (i := 0) (ci := 4) (by decide) (by decide) rfl rfl 22 (by decide) rfl k_fl_Mo_85 rfl d_Mo_kill_115 ?_
                  exact mrI_i C0 hP hS (⟨by decide, by decide⟩) (⟨rfl, congrArg some (by unfold mKill; rw [if_neg c_10, if_neg c_21]; unfold mKilM; rw [← hinv.2]; first | done | rfl), by unfold mKill; rw [if_neg c_10, if_neg c_21]; unfold mKilM; rw [← hinv.2]; first | done | rfl⟩) d_Mo_kill_118
                · skip
                  have hkN : k < 12 := lt_nI (N := 12) c_86
                  refine lv_aload_n hx hb d_Mo_kill_89 rfl (lv_at hl 1 rfl) ?_
                  refine mq_get C0 hP (kd := 0) (i := 0) (ci := 4) (by decide) (by decide) rfl rfl 9 (by decide) rfl k_fl_Mo_38 rfl d_Mo_kill_90 ?_
                  refine lv_iload_n hx hb d_Mo_kill_93 rfl (lv_at hl 0 rfl) ?_
                  refine mq_iald C0 hP (kd := 10) (i := 0) (by decide) (by decide) rfl (vin_nI hkN) d_Mo_kill_94 ?_
                  rw [show (nI k).toNatClampNeg = k from nI_clamp (by omega)]
                  refine lv_iload_n hx hb d_Mo_kill_95 rfl (lv_at hl 2 rfl) ?_
                  refine lv_icmp_ne (tgt := 104) hx hb d_Mo_kill_96 (by decide) (fun c_96 => ?_) (fun c_96 => ?_)
                  · skip
                    refine lv_iinc (v := nI (k + 1)) (lv' := [(2, .int (nI (k + 1))), (0, .ref (base + adm 0 0)), (1, .int q)]) hx hb d_Mo_kill_104 hl (k := 0) rfl (by exact nI_1 k) (by decide) rfl (fun ls hl => ?_)
                    refine lv_goto (tgt := 83) hx hb d_Mo_kill_107 (by decide) ?_
                    exact ih (k + 1) (by omega) (by omega) _ (⟨hinv.1, by rw [← hinv.2, mkE_s (k := k) hkN, if_neg c_96]⟩) _ _ hP hS ls (lv_sub hl [0, 1, 2] rfl)
                  · skip
                    refine lv_aload_n hx hb d_Mo_kill_99 rfl (lv_at hl 1 rfl) ?_
                    refine lv_iload_n hx hb d_Mo_kill_100 rfl (lv_at hl 0 rfl) ?_
                    refine ms_I C0 hP hS (ms_V C0 hP (kd := 0) (i := 0) (ci := 4) (As := [.int (nI k)]) (by decide) (by decide) rfl rfl k_ml_Mo_98 k_im_Mo_closeEnd k_sl_Mo_Mo_closeEnd k_cd_Mo_closeEnd k_in_Mo z_Mo_closeEnd rfl d_Mo_kill_101) (c_Mo_closeEnd hlt (vin_nI hkN) (J_tc hinv.1 (vin_nI hkN) (show ¬ τ' 10 0 (nI k).toNatClampNeg < 0 by rw [nI_clamp (by omega), c_96]; exact hin.1))) (fun k r σ h => h.1) ⟨rfl, rfl⟩ hl.1 d_Mo_kill_101 (Nat.le_of_ble_eq_true rfl) (⟨by decide, by decide⟩) (⟨by decide, by decide⟩) (fun r_10 σ_11 H locs h_9 hP hS => ?_)
                    obtain ⟨-, rfl, rfl⟩ := h_9
                    refine lv_iinc (v := nI (k + 1)) (lv' := [(2, .int (nI (k + 1))), (0, .ref (base + adm 0 0)), (1, .int q)]) hx hb d_Mo_kill_104 hl (k := 0) rfl (by exact nI_1 k) (by decide) rfl (fun ls hl => ?_)
                    refine lv_goto (tgt := 83) hx hb d_Mo_kill_107 (by decide) ?_
                    exact ih (k + 1) (by omega) (by omega) _ (⟨J_cl hinv.1 (vin_nI hkN) (show ¬ τ' 10 0 (nI k).toNatClampNeg < 0 by rw [nI_clamp (by omega), c_96]; exact hin.1), by rw [← hinv.2, mkE_s (k := k) hkN, if_pos c_96]⟩) _ _ hP hS ls (lv_sub hl [0, 1, 2] rfl)
            exact loop2 (12 + 1) 0 (by omega) (by omega) _ (⟨hinv.1, by rw [← hinv.2]; rfl⟩) _ _ hP hS ls (lv_sub hl [0, 1, 2] rfl)
          · skip
            have hkN : k < 12 := lt_nI (N := 12) c_57
            refine lv_aload_n hx hb d_Mo_kill_60 rfl (lv_at hl 1 rfl) ?_
            refine mq_get C0 hP (kd := 0) (i := 0) (ci := 4) (by decide) (by decide) rfl rfl 6 (by decide) rfl k_fl_Mo_29 rfl d_Mo_kill_61 ?_
            refine lv_iload_n hx hb d_Mo_kill_64 rfl (lv_at hl 0 rfl) ?_
            refine mq_iald C0 hP (kd := 7) (i := 0) (by decide) (by decide) rfl (vin_nI hkN) d_Mo_kill_65 ?_
            rw [show (nI k).toNatClampNeg = k from nI_clamp (by omega)]
            refine lv_iload_n hx hb d_Mo_kill_66 rfl (lv_at hl 2 rfl) ?_
            refine lv_icmp_ne (tgt := 75) hx hb d_Mo_kill_67 (by decide) (fun c_67 => ?_) (fun c_67 => ?_)
            · skip
              refine lv_iinc (v := nI (k + 1)) (lv' := [(2, .int (nI (k + 1))), (0, .ref (base + adm 0 0)), (1, .int q)]) hx hb d_Mo_kill_75 hl (k := 0) rfl (by exact nI_1 k) (by decide) rfl (fun ls hl => ?_)
              refine lv_goto (tgt := 54) hx hb d_Mo_kill_78 (by decide) ?_
              exact ih (k + 1) (by omega) (by omega) _ (⟨hinv.1, by rw [← hinv.2, mkB_s (k := k) hkN, if_neg c_67]⟩) _ _ hP hS ls (lv_sub hl [0, 1, 2] rfl)
            · skip
              refine lv_aload_n hx hb d_Mo_kill_70 rfl (lv_at hl 1 rfl) ?_
              refine lv_iload_n hx hb d_Mo_kill_71 rfl (lv_at hl 0 rfl) ?_
              refine ms_I C0 hP hS (ms_V C0 hP (kd := 0) (i := 0) (ci := 4) (As := [.int (nI k)]) (by decide) (by decide) rfl rfl k_ml_Mo_94 k_im_Mo_freeBlock k_sl_Mo_Mo_freeBlock k_cd_Mo_freeBlock k_in_Mo z_Mo_freeBlock rfl d_Mo_kill_72) (c_Mo_freeBlock hlt (vin_nI hkN)) (fun k r σ h => h.1) ⟨rfl, rfl⟩ hl.1 d_Mo_kill_72 (Nat.le_of_ble_eq_true rfl) (⟨by decide, by decide⟩) (⟨by decide, by decide⟩) (fun r_13 σ_14 H locs h_12 hP hS => ?_)
              obtain ⟨-, rfl, rfl⟩ := h_12
              refine lv_iinc (v := nI (k + 1)) (lv' := [(2, .int (nI (k + 1))), (0, .ref (base + adm 0 0)), (1, .int q)]) hx hb d_Mo_kill_75 hl (k := 0) rfl (by exact nI_1 k) (by decide) rfl (fun ls hl => ?_)
              refine lv_goto (tgt := 54) hx hb d_Mo_kill_78 (by decide) ?_
              exact ih (k + 1) (by omega) (by omega) _ (⟨J_free hinv.1, by rw [← hinv.2, mkB_s (k := k) hkN, if_pos c_67]⟩) _ _ hP hS ls (lv_sub hl [0, 1, 2] rfl)
      exact loop (12 + 1) 0 (by omega) (by omega) _ (⟨J_up (by omega) (J_up (by omega) (J_up (by omega) (J_up (by omega) hj0))), rfl⟩) _ _ hP hS ls (lv_sub hl [0, 1, 2] rfl)
    · skip
      refine lv_aload_n hx hb d_Mo_kill_24 rfl (lv_at hl 0 rfl) ?_
      refine lv_iconst (v := 2) hx hb d_Mo_kill_25 (by decide) ?_
      refine ms_I C0 hP hS (ms_V C0 hP (kd := 0) (i := 0) (ci := 4) (As := [.int 2]) (by decide) (by decide) rfl rfl k_ml_Mo_71 k_im_Mo_fail k_sl_Mo_Mo_fail k_cd_Mo_fail k_in_Mo z_Mo_fail rfl d_Mo_kill_26) (c_Mo_fail hlt) (fun k r σ h => h.1) ⟨rfl, rfl⟩ hl.1 d_Mo_kill_26 (Nat.le_of_ble_eq_true rfl) (⟨by decide, by decide⟩) (⟨by decide, by decide⟩) (fun r_16 σ_17 H locs h_15 hP hS => ?_)
      obtain ⟨-, rfl, rfl⟩ := h_15
      exact mrI_i C0 hP hS (⟨by decide, by decide⟩) (⟨rfl, congrArg some (by unfold mKill; rw [if_neg c_10, if_pos c_21]; first | done | rfl), by unfold mKill; rw [if_neg c_10, if_pos c_21]; first | done | rfl⟩) d_Mo_kill_29
  · skip
    have c_10 := b2i_ne.mp c_10
    refine lv_iconst (v := 0) hx hb d_Mo_kill_13 (by decide) ?_
    exact mrI_i C0 hP hS (⟨by decide, by decide⟩) (⟨rfl, congrArg some (by unfold mKill; rw [if_pos c_10]), by unfold mKill; rw [if_pos c_10, b2i_t c_10]⟩) d_Mo_kill_14
