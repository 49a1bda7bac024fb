/-! The model's contract: laid by gen/m48.py. -/
def mCt (σ τ : Mem) (c : Nat) : Nat → Mem
  | 0 => τ
  | i + 1 => up (up (up (up (mCt σ τ c i) 2 0 (36 * c + 4 * i) (σ 1 0 (5 * i) - 48)) 2 0 (36 * c + 4 * i + 1) (mLet (σ 1 0 (5 * i + 1)))) 2 0 (36 * c + 4 * i + 2) (if σ 1 0 (5 * i + 2) = 33 then 0 else 1)) 2 0 (36 * c + 4 * i + 3) (σ 1 0 (5 * i + 3) - 48)
theorem mCt_k {σ τ : Mem} {c K a b : Nat} (h : K ≠ 2) : ∀ i, mCt σ τ c i K a b = τ K a b := by
  intro i
  induction i with
  | zero => rfl
  | succ i ih =>
    unfold mCt
    rw [upK (fun z => h z.1), upK (fun z => h z.1), upK (fun z => h z.1), upK (fun z => h z.1)]
    exact ih
def mCon (σ : Mem) (k : Int32) : Int32 × Mem := if ¬ inR k 0 3 then (0, up σ 0 0 1 1) else if mRR (up σ 0 0 1 0) ≤ 0 then (0, up (up (up σ 0 0 1 0) 0 0 0 0) 0 0 1 1) else
  (mRR (up σ 0 0 1 0), up (mCt σ (up (up (up σ 0 0 1 0) 0 0 0 0) 0 0 1 0) k.toNatClampNeg (mRR (up σ 0 0 1 0)).toNatClampNeg) 3 0 k.toNatClampNeg (mRR (up σ 0 0 1 0)))
theorem mRR_at {σ : Mem} (ht : TW σ) (h : ¬ mRR σ ≤ 0) : ∃ n : Nat, n ≤ 7 ∧ 5 * n ≤ txN σ + 1 ∧ mRR σ = nI n := by
  have h2 := ht.at.2
  unfold mRR at h ⊢
  by_cases h3 : nI (txN σ) < 4
  · rw [if_pos h3] at h; exact absurd (by decide) h
  · rw [if_neg h3] at h ⊢
    by_cases h4 : nI (txN σ % 5) = 4
    · rw [if_pos h4] at h ⊢
      by_cases h5 : ∀ k, k < mRn σ → mRk σ (mRn σ) k
      · rw [if_pos h5]; exact ⟨mRn σ, by unfold mRn; omega, by unfold mRn; omega, rfl⟩
      · rw [if_neg h5] at h; exact absurd (by decide) h
    · rw [if_neg h4] at h; exact absurd (by decide) h
set_option maxHeartbeats 4000000 in
set_option maxRecDepth 100000 in
theorem c_Mo_contract {S0 : State} {A0 : Array Value} {D : va_G} {ar : Nat → ClassId} {base : Nat} {σ : Mem} {l : Launch} (hlt : l.stackTraces = false) {k0 : Int32} (htw : TW σ) :
    MX l y_Mo_contract [Cond.code y_Mo_contract b_Mo_contract 6 (some .int)] (rmL 3) (PO S0 A0 D ar base σ [.ref (base + adm 0 0), .int k0]) (QO D ar base (fun k r σ' => k = 0 ∧ r = some (mCon σ k0).1 ∧ σ' = (mCon σ k0).2)) (inB base 16) := by
  refine mx_head hlt (by decide +kernel) (Nat.le_of_ble_eq_true rfl) ?_
  intro p ev s m below meth c ls C0 hP hl
  have C0 : Cx S0 A0 D ar base p l s m _ meth c R_Mo b_Mo_contract 6 (some .int) := C0
  obtain ⟨hx, hb, -⟩ := id C0
  have hl : lv_has ls 6 [(0, .ref (base + adm 0 0)), (1, .int k0)] := hl
  have hS : va_S (inB base 16) s.heap s.heap [] := va_S.rf
  refine lv_aload_n hx hb d_Mo_contract_0 rfl (lv_at hl 0 rfl) ?_
  refine lv_iload_n hx hb d_Mo_contract_1 rfl (lv_at hl 1 rfl) ?_
  refine lv_iconst (v := 0) hx hb d_Mo_contract_2 (by decide) ?_
  refine lv_iconst (v := 3) hx hb d_Mo_contract_3 (by decide) ?_
  refine ms_P C0 hP hS (cs_S C0 (As := [.int k0, .int 0, .int 3]) k_ml_Mo_60 k_st_Mo_in k_cd_Mo_in k_in_Mo z_Mo_in rfl d_Mo_contract_4) (c_Mo_in hlt) hl.1 d_Mo_contract_4 (Nat.le_of_ble_eq_true rfl) (⟨by decide, by decide⟩) (⟨by decide, by decide⟩) (fun k r x t hk hp => absurd hp.1 hk) (fun r_2 h_1 => ?_)
  obtain ⟨-, rfl⟩ := h_1
  refine ms_I C0 hP hS (ms_V C0 hP (kd := 0) (i := 0) (ci := 4) (As := [.int (b2i (inR k0 0 3))]) (by decide) (by decide) rfl rfl k_ml_Mo_64 k_im_Mo_bad k_sl_Mo_Mo_bad k_cd_Mo_bad k_in_Mo z_Mo_bad rfl d_Mo_contract_7) (c_Mo_bad hlt (P := (inR k0 0 3))) (fun k r σ h => h.1) ⟨rfl, rfl⟩ hl.1 d_Mo_contract_7 (Nat.le_of_ble_eq_true rfl) (⟨by decide, by decide⟩) (⟨by decide, by decide⟩) (fun r_4 σ_5 H locs h_3 hP hS => ?_)
  obtain ⟨-, rfl, rfl⟩ := h_3
  refine lv_if_eq (tgt := 15) hx hb d_Mo_contract_10 (by decide) (fun c_10 => ?_) (fun c_10 => ?_)
  · skip
    have c_10 := b2i_z.mp c_10
    rw [b2i_f c_10] at hP
    have hin : inR k0 0 3 := Classical.not_not.mp c_10
    have hkb := nI_back (vin_R (n := 4) hin)
    have hk4 := vin_lt (vin_R (n := 4) hin)
    refine lv_aload_n hx hb d_Mo_contract_15 rfl (lv_at hl 0 rfl) ?_
    refine ms_P C0 hP hS (ms_V C0 hP (kd := 0) (i := 0) (ci := 4) (As := []) (by decide) (by decide) rfl rfl k_ml_Mo_78 k_im_Mo_readRules k_sl_Mo_Mo_readRules k_cd_Mo_readRules k_in_Mo z_Mo_readRules rfl d_Mo_contract_16) (c_Mo_readRules hlt (show TW (up σ 0 0 1 0) from htw)) hl.1 d_Mo_contract_16 (Nat.le_of_ble_eq_true rfl) (⟨by decide, by decide⟩) (⟨by decide, by decide⟩) (fun k r x t hk hp => absurd hp.1 hk) (fun r_7 h_6 => ?_)
    obtain ⟨-, rfl⟩ := h_6
    refine lv_istore_n (lv' := [(2, .int (mRR (up σ 0 0 1 0))), (0, .ref (base + adm 0 0)), (1, .int k0)]) hx hb d_Mo_contract_19 rfl hl (by decide) rfl (fun ls hl => ?_)
    refine lv_aload_n hx hb d_Mo_contract_20 rfl (lv_at hl 1 rfl) ?_
    refine lv_iconst (v := 0) hx hb d_Mo_contract_21 (by decide) ?_
    refine mq_put C0 hP hS (kd := 0) (i := 0) (ci := 4) 0 0 (by decide) rfl (by decide) rfl rfl t_Mo t_Mo_ok n_Mo 15 (by decide) rfl k_fl_Mo_68 rfl (by decide +kernel) (Nat.le_of_ble_eq_true rfl) (by simp [conto, up]) d_Mo_contract_22 (fun H locs hP hS => ?_)
    refine lv_aload_n hx hb d_Mo_contract_25 rfl (lv_at hl 1 rfl) ?_
    refine lv_iload_n hx hb d_Mo_contract_26 rfl (lv_at hl 0 rfl) ?_
    refine lv_if_le (tgt := 34) hx hb d_Mo_contract_27 (by decide) (fun c_27 => ?_) (fun c_27 => ?_)
    · skip
      refine lv_iconst (v := 0) hx hb d_Mo_contract_34 (by decide) ?_
      refine ms_I C0 hP hS (ms_V C0 hP (kd := 0) (i := 0) (ci := 4) (As := [.int 0]) (by decide) (by decide) rfl rfl k_ml_Mo_64 k_im_Mo_bad k_sl_Mo_Mo_bad k_cd_Mo_bad k_in_Mo z_Mo_bad rfl d_Mo_contract_35) (c_Mo_bad hlt (P := False)) (fun k r σ h => h.1) ⟨rfl, rfl⟩ hl.1 d_Mo_contract_35 (Nat.le_of_ble_eq_true rfl) (⟨by decide, by decide⟩) (⟨by decide, by decide⟩) (fun r_9 σ_10 H locs h_8 hP hS => ?_)
      obtain ⟨-, rfl, rfl⟩ := h_8
      replace hP : va_P D classes (wl base 16 (memo ar base (up (up (up σ 0 0 1 0) 0 0 0 0) 0 0 1 1))) H := hP
      refine lv_if_eq (tgt := 43) hx hb d_Mo_contract_38 (by decide) (fun c_38 => ?_) (fun c_38 => ?_)
      · skip
        exact absurd c_38 (by decide)
      · skip
        refine lv_iconst (v := 0) hx hb d_Mo_contract_41 (by decide) ?_
        exact mrI_i C0 hP hS (⟨by decide, by decide⟩) (⟨rfl, congrArg some (by unfold mCon; rw [if_neg c_10, if_pos c_27]; first | done | rfl), by unfold mCon; rw [if_neg c_10, if_pos c_27]; first | done | rfl⟩) d_Mo_contract_42
    · skip
      obtain ⟨nn, hn7, hn5, hnn⟩ := mRR_at (show TW (up σ 0 0 1 0) from htw) c_27
      have ht36 := htw.at.2
      refine lv_iconst (v := 1) hx hb d_Mo_contract_30 (by decide) ?_
      refine lv_goto (tgt := 35) hx hb d_Mo_contract_31 (by decide) ?_
      refine ms_I C0 hP hS (ms_V C0 hP (kd := 0) (i := 0) (ci := 4) (As := [.int 1]) (by decide) (by decide) rfl rfl k_ml_Mo_64 k_im_Mo_bad k_sl_Mo_Mo_bad k_cd_Mo_bad k_in_Mo z_Mo_bad rfl d_Mo_contract_35) (c_Mo_bad hlt (P := True)) (fun k r σ h => h.1) ⟨rfl, rfl⟩ hl.1 d_Mo_contract_35 (Nat.le_of_ble_eq_true rfl) (⟨by decide, by decide⟩) (⟨by decide, by decide⟩) (fun r_12 σ_13 H locs h_11 hP hS => ?_)
      obtain ⟨-, rfl, rfl⟩ := h_11
      replace hP : va_P D classes (wl base 16 (memo ar base (up (up (up σ 0 0 1 0) 0 0 0 0) 0 0 1 0))) H := hP
      refine lv_if_eq (tgt := 43) hx hb d_Mo_contract_38 (by decide) (fun c_38 => ?_) (fun c_38 => ?_)
      · skip
        have hl : lv_has ls 6 [(2, .int (nI nn)), (0, .ref (base + adm 0 0)), (1, .int k0)] := by rw [← hnn]; exact hl
        refine lv_iconst (v := 0) hx hb d_Mo_contract_43 (by decide) ?_
        refine lv_istore_n (lv' := [(3, .int 0), (2, .int (nI nn)), (0, .ref (base + adm 0 0)), (1, .int k0)]) hx hb d_Mo_contract_44 rfl hl (by decide) rfl (fun ls hl => ?_)
        have loop : ∀ (n k : Nat), k ≤ nn → nn + 1 ≤ k + n → ∀ (H : Heap) (locs : List Loc), va_P D classes (wl base 16 (memo ar base (mCt σ (up (up (up σ 0 0 1 0) 0 0 0 0) 0 0 1 0) k0.toNatClampNeg k))) H → va_S (inB base 16) s.heap H locs → ∀ ls : Array Slot, lv_has ls 6 [(3, .int (nI k)), (2, .int (nI nn)), (0, .ref (base + adm 0 0)), (1, .int k0)] → W p l ev (rmL 3) s m ([.ref (base + adm 0 0), .int k0] : List Value).toArray below meth c H locs 0 0 (MQX below (QO D ar base (fun k r σ' => k = 0 ∧ r = some (mCon σ k0).1 ∧ σ' = (mCon σ k0).2)) ([.ref (base + adm 0 0), .int k0] : List Value).toArray s (rmL 3).cells (rmL 3).slots (inB base 16)) (F0 m 45 ls []) := by
          intro n
          induction n with
          | zero => intro k h1 h2; omega
          | succ n ih =>
            intro k hk1 hk2 H locs hP hS ls hl
            refine lv_iload_n hx hb d_Mo_contract_45 rfl (lv_at hl 0 rfl) ?_
            refine lv_iload_n hx hb d_Mo_contract_46 rfl (lv_at hl 1 rfl) ?_
            refine lv_icmp_ge (tgt := 158) hx hb d_Mo_contract_47 (by decide) (fun c_47 => ?_) (fun c_47 => ?_)
            · skip
              have hkN : k = nn := by have := (nI_leI (by omega) (by omega)).mp c_47; omega
              refine lv_aload_n hx hb d_Mo_contract_158 rfl (lv_at hl 2 rfl) ?_
              refine mq_get C0 hP (kd := 0) (i := 0) (ci := 4) (by decide) (by decide) rfl rfl 2 (by decide) rfl k_fl_Mo_16 rfl d_Mo_contract_159 ?_
              refine lv_iload_n hx hb d_Mo_contract_162 rfl (lv_at hl 3 rfl) ?_
              refine lv_iload_n hx hb d_Mo_contract_163 rfl (lv_at hl 1 rfl) ?_
              refine mq_iast C0 hP hS (kd := 3) (i := 0) 3 (by decide) rfl (by decide) rfl (vin_R hin) (by rw [ast_fn]; rfl) d_Mo_contract_164 (fun H locs hP hS => ?_)
              refine lv_iload_n hx hb d_Mo_contract_165 rfl (lv_at hl 1 rfl) ?_
              exact mrI_i C0 hP hS (⟨by decide, by decide⟩) (⟨rfl, congrArg some (by unfold mCon; rw [if_neg c_10, if_neg c_27, hnn]), by unfold mCon; rw [if_neg c_10, if_neg c_27, hnn, nI_clamp (by omega), hkN]⟩) d_Mo_contract_166
            · skip
              have hkN : k < nn := Nat.lt_of_not_le fun y => c_47 ((nI_leI (by omega) (by omega)).mpr y)
              have htx : txN (up σ 0 0 1 0) = txN σ := rfl
              refine lv_iload_n hx hb d_Mo_contract_50 rfl (lv_at hl 3 rfl) ?_
              refine lv_bipush (v := 36) hx hb d_Mo_contract_51 (by decide) ?_
              refine lv_imul hx hb d_Mo_contract_53 ?_
              refine lv_iload_n hx hb d_Mo_contract_54 rfl (lv_at hl 0 rfl) ?_
              refine lv_iconst (v := 4) hx hb d_Mo_contract_55 (by decide) ?_
              refine lv_imul hx hb d_Mo_contract_56 ?_
              refine lv_iadd hx hb d_Mo_contract_57 ?_
              rw [show ((k0 * 36) + ((nI k) * 4) : Int32) = nI (36 * k0.toNatClampNeg + 4 * k) from (congrArg (fun y => y * 36 + nI k * 4) hkb).trans ix36]
              refine lv_istore (lv' := [(4, .int (nI (36 * k0.toNatClampNeg + 4 * k))), (3, .int (nI k)), (2, .int (nI nn)), (0, .ref (base + adm 0 0)), (1, .int k0)]) hx hb d_Mo_contract_58 hl (by decide) rfl (fun ls hl => ?_)
              refine lv_iload_n hx hb d_Mo_contract_60 rfl (lv_at hl 1 rfl) ?_
              refine lv_iconst (v := 5) hx hb d_Mo_contract_61 (by decide) ?_
              refine lv_imul hx hb d_Mo_contract_62 ?_
              rw [show ((nI k) * 5 : Int32) = nI (5 * k) from ix5]
              refine lv_istore (lv' := [(5, .int (nI (5 * k))), (4, .int (nI (36 * k0.toNatClampNeg + 4 * k))), (3, .int (nI k)), (2, .int (nI nn)), (0, .ref (base + adm 0 0)), (1, .int k0)]) hx hb d_Mo_contract_63 hl (by decide) rfl (fun ls hl => ?_)
              refine lv_aload_n hx hb d_Mo_contract_65 rfl (lv_at hl 4 rfl) ?_
              refine mq_get C0 hP (kd := 0) (i := 0) (ci := 4) (by decide) (by decide) rfl rfl 1 (by decide) rfl k_fl_Mo_13 rfl d_Mo_contract_66 ?_
              refine lv_iload hx hb d_Mo_contract_69 (lv_at hl 1 rfl) ?_
              refine lv_aload_n hx hb d_Mo_contract_71 rfl (lv_at hl 4 rfl) ?_
              refine mq_get C0 hP (kd := 0) (i := 0) (ci := 4) (by decide) (by decide) rfl rfl 0 (by decide) rfl k_fl_Mo_7 rfl d_Mo_contract_72 ?_
              refine lv_iload hx hb d_Mo_contract_75 (lv_at hl 0 rfl) ?_
              refine mq_iald C0 hP (kd := 1) (i := 0) (by decide) (by decide) rfl (vin_nI (by omega)) d_Mo_contract_77 ?_
              rw [show (nI (5 * k)).toNatClampNeg = (5 * k) from nI_clamp (by omega)]
              rw [show ((mCt σ (up (up (up σ 0 0 1 0) 0 0 0 0) 0 0 1 0) k0.toNatClampNeg k) 1 0 (5 * k) : Int32) = σ 1 0 (5 * k) from mCt_k (by decide) k]
              refine lv_bipush (v := 48) hx hb d_Mo_contract_78 (by decide) ?_
              refine lv_isub hx hb d_Mo_contract_80 ?_
              refine mq_iast C0 hP hS (kd := 2) (i := 0) 2 (by decide) rfl (by decide) rfl (vin_nI (by omega)) (by rw [ast_fn]; rfl) d_Mo_contract_81 (fun H locs hP hS => ?_)
              rw [show (nI (36 * k0.toNatClampNeg + 4 * k)).toNatClampNeg = (36 * k0.toNatClampNeg + 4 * k) from nI_clamp (by omega)] at hP
              refine lv_aload_n hx hb d_Mo_contract_82 rfl (lv_at hl 4 rfl) ?_
              refine mq_get C0 hP (kd := 0) (i := 0) (ci := 4) (by decide) (by decide) rfl rfl 1 (by decide) rfl k_fl_Mo_13 rfl d_Mo_contract_83 ?_
              refine lv_iload hx hb d_Mo_contract_86 (lv_at hl 1 rfl) ?_
              refine lv_iconst (v := 1) hx hb d_Mo_contract_88 (by decide) ?_
              refine lv_iadd hx hb d_Mo_contract_89 ?_
              rw [show ((nI (36 * k0.toNatClampNeg + 4 * k)) + 1 : Int32) = nI (36 * k0.toNatClampNeg + 4 * k + 1) from nI_aj (j := 1)]
              refine lv_aload_n hx hb d_Mo_contract_90 rfl (lv_at hl 4 rfl) ?_
              refine mq_get C0 hP (kd := 0) (i := 0) (ci := 4) (by decide) (by decide) rfl rfl 0 (by decide) rfl k_fl_Mo_7 rfl d_Mo_contract_91 ?_
              refine lv_iload hx hb d_Mo_contract_94 (lv_at hl 0 rfl) ?_
              refine lv_iconst (v := 1) hx hb d_Mo_contract_96 (by decide) ?_
              refine lv_iadd hx hb d_Mo_contract_97 ?_
              rw [show ((nI (5 * k)) + 1 : Int32) = nI (5 * k + 1) from nI_aj (j := 1)]
              refine mq_iald C0 hP (kd := 1) (i := 0) (by decide) (by decide) rfl (vin_nI (by omega)) d_Mo_contract_98 ?_
              rw [show (nI (5 * k + 1)).toNatClampNeg = (5 * k + 1) from nI_clamp (by omega)]
              refine W.eq (g2 := F0 m 99 ls [.int ((mCt σ (up (up (up σ 0 0 1 0) 0 0 0 0) 0 0 1 0) k0.toNatClampNeg k) 1 0 (5 * k + 1)), .int (nI (36 * k0.toNatClampNeg + 4 * k + 1)), .ref (base + adm 2 0)]) rfl ?_
              rw [show ((mCt σ (up (up (up σ 0 0 1 0) 0 0 0 0) 0 0 1 0) k0.toNatClampNeg k) 1 0 (5 * k + 1) : Int32) = σ 1 0 (5 * k + 1) from mCt_k (by decide) k]
              refine ms_P C0 hP hS (cs_S C0 (As := [.int (σ 1 0 (5 * k + 1))]) k_ml_Mo_75 k_st_Mo_letterOf k_cd_Mo_letterOf k_in_Mo z_Mo_letterOf rfl d_Mo_contract_99) (c_Mo_letterOf hlt) hl.1 d_Mo_contract_99 (Nat.le_of_ble_eq_true rfl) (⟨by decide, by decide⟩) (⟨by decide, by decide⟩) (fun k r x t hk hp => absurd hp.1 hk) (fun r_15 h_14 => ?_)
              obtain ⟨-, rfl⟩ := h_14
              refine mq_iast C0 hP hS (kd := 2) (i := 0) 2 (by decide) rfl (by decide) rfl (vin_nI (by omega)) (by rw [ast_fn]; rfl) d_Mo_contract_102 (fun H locs hP hS => ?_)
              rw [show (nI (36 * k0.toNatClampNeg + 4 * k + 1)).toNatClampNeg = (36 * k0.toNatClampNeg + 4 * k + 1) from nI_clamp (by omega)] at hP
              refine lv_aload_n hx hb d_Mo_contract_103 rfl (lv_at hl 4 rfl) ?_
              refine mq_get C0 hP (kd := 0) (i := 0) (ci := 4) (by decide) (by decide) rfl rfl 1 (by decide) rfl k_fl_Mo_13 rfl d_Mo_contract_104 ?_
              refine lv_iload hx hb d_Mo_contract_107 (lv_at hl 1 rfl) ?_
              refine lv_iconst (v := 2) hx hb d_Mo_contract_109 (by decide) ?_
              refine lv_iadd hx hb d_Mo_contract_110 ?_
              rw [show ((nI (36 * k0.toNatClampNeg + 4 * k)) + 2 : Int32) = nI (36 * k0.toNatClampNeg + 4 * k + 2) from nI_aj (j := 2)]
              refine lv_aload_n hx hb d_Mo_contract_111 rfl (lv_at hl 4 rfl) ?_
              refine mq_get C0 hP (kd := 0) (i := 0) (ci := 4) (by decide) (by decide) rfl rfl 0 (by decide) rfl k_fl_Mo_7 rfl d_Mo_contract_112 ?_
              refine lv_iload hx hb d_Mo_contract_115 (lv_at hl 0 rfl) ?_
              refine lv_iconst (v := 2) hx hb d_Mo_contract_117 (by decide) ?_
              refine lv_iadd hx hb d_Mo_contract_118 ?_
              rw [show ((nI (5 * k)) + 2 : Int32) = nI (5 * k + 2) from nI_aj (j := 2)]
              refine mq_iald C0 hP (kd := 1) (i := 0) (by decide) (by decide) rfl (vin_nI (by omega)) d_Mo_contract_119 ?_
              rw [show (nI (5 * k + 2)).toNatClampNeg = (5 * k + 2) from nI_clamp (by omega)]
              refine W.eq (g2 := F0 m 120 ls [.int ((mCt σ (up (up (up σ 0 0 1 0) 0 0 0 0) 0 0 1 0) k0.toNatClampNeg k) 1 0 (5 * k + 2)), .int (nI (36 * k0.toNatClampNeg + 4 * k + 2)), .ref (base + adm 2 0)]) rfl ?_
              rw [show ((mCt σ (up (up (up σ 0 0 1 0) 0 0 0 0) 0 0 1 0) k0.toNatClampNeg k) 1 0 (5 * k + 2) : Int32) = σ 1 0 (5 * k + 2) from mCt_k (by decide) k]
              refine lv_bipush (v := 33) hx hb d_Mo_contract_120 (by decide) ?_
              refine lv_icmp_ne (tgt := 129) hx hb d_Mo_contract_122 (by decide) (fun c_122 => ?_) (fun c_122 => ?_)
              · skip
                refine lv_iconst (v := 1) hx hb d_Mo_contract_129 (by decide) ?_
                refine mq_iast C0 hP hS (kd := 2) (i := 0) 2 (by decide) rfl (by decide) rfl (vin_nI (by omega)) (by rw [ast_fn]; rfl) d_Mo_contract_130 (fun H locs hP hS => ?_)
                rw [show (nI (36 * k0.toNatClampNeg + 4 * k + 2)).toNatClampNeg = (36 * k0.toNatClampNeg + 4 * k + 2) from nI_clamp (by omega)] at hP
                refine lv_aload_n hx hb d_Mo_contract_131 rfl (lv_at hl 4 rfl) ?_
                refine mq_get C0 hP (kd := 0) (i := 0) (ci := 4) (by decide) (by decide) rfl rfl 1 (by decide) rfl k_fl_Mo_13 rfl d_Mo_contract_132 ?_
                refine lv_iload hx hb d_Mo_contract_135 (lv_at hl 1 rfl) ?_
                refine lv_iconst (v := 3) hx hb d_Mo_contract_137 (by decide) ?_
                refine lv_iadd hx hb d_Mo_contract_138 ?_
                rw [show ((nI (36 * k0.toNatClampNeg + 4 * k)) + 3 : Int32) = nI (36 * k0.toNatClampNeg + 4 * k + 3) from nI_aj (j := 3)]
                refine lv_aload_n hx hb d_Mo_contract_139 rfl (lv_at hl 4 rfl) ?_
                refine mq_get C0 hP (kd := 0) (i := 0) (ci := 4) (by decide) (by decide) rfl rfl 0 (by decide) rfl k_fl_Mo_7 rfl d_Mo_contract_140 ?_
                refine lv_iload hx hb d_Mo_contract_143 (lv_at hl 0 rfl) ?_
                refine lv_iconst (v := 3) hx hb d_Mo_contract_145 (by decide) ?_
                refine lv_iadd hx hb d_Mo_contract_146 ?_
                rw [show ((nI (5 * k)) + 3 : Int32) = nI (5 * k + 3) from nI_aj (j := 3)]
                refine mq_iald C0 hP (kd := 1) (i := 0) (by decide) (by decide) rfl (vin_nI (by omega)) d_Mo_contract_147 ?_
                rw [show (nI (5 * k + 3)).toNatClampNeg = (5 * k + 3) from nI_clamp (by omega)]
                refine W.eq (g2 := F0 m 148 ls [.int ((mCt σ (up (up (up σ 0 0 1 0) 0 0 0 0) 0 0 1 0) k0.toNatClampNeg k) 1 0 (5 * k + 3)), .int (nI (36 * k0.toNatClampNeg + 4 * k + 3)), .ref (base + adm 2 0)]) rfl ?_
                rw [show ((mCt σ (up (up (up σ 0 0 1 0) 0 0 0 0) 0 0 1 0) k0.toNatClampNeg k) 1 0 (5 * k + 3) : Int32) = σ 1 0 (5 * k + 3) from mCt_k (by decide) k]
                refine lv_bipush (v := 48) hx hb d_Mo_contract_148 (by decide) ?_
                refine lv_isub hx hb d_Mo_contract_150 ?_
                refine mq_iast C0 hP hS (kd := 2) (i := 0) 2 (by decide) rfl (by decide) rfl (vin_nI (by omega)) (by rw [ast_fn]; rfl) d_Mo_contract_151 (fun H locs hP hS => ?_)
                rw [show (nI (36 * k0.toNatClampNeg + 4 * k + 3)).toNatClampNeg = (36 * k0.toNatClampNeg + 4 * k + 3) from nI_clamp (by omega)] at hP
                refine lv_iinc (v := nI (k + 1)) (lv' := [(3, .int (nI (k + 1))), (5, .int (nI (5 * k))), (4, .int (nI (36 * k0.toNatClampNeg + 4 * k))), (2, .int (nI nn)), (0, .ref (base + adm 0 0)), (1, .int k0)]) hx hb d_Mo_contract_152 hl (k := 2) rfl (by exact nI_1 k) (by decide) rfl (fun ls hl => ?_)
                refine lv_goto (tgt := 45) hx hb d_Mo_contract_155 (by decide) ?_
                rw [show ((up (up (up (up (mCt σ (up (up (up σ 0 0 1 0) 0 0 0 0) 0 0 1 0) k0.toNatClampNeg k) 2 0 (36 * k0.toNatClampNeg + 4 * k) ((σ 1 0 (5 * k)) - 48)) 2 0 (36 * k0.toNatClampNeg + 4 * k + 1) (mLet (σ 1 0 (5 * k + 1)))) 2 0 (36 * k0.toNatClampNeg + 4 * k + 2) 1) 2 0 (36 * k0.toNatClampNeg + 4 * k + 3) ((σ 1 0 (5 * k + 3)) - 48)) : Mem) = mCt σ (up (up (up σ 0 0 1 0) 0 0 0 0) 0 0 1 0) k0.toNatClampNeg (k + 1) from by show _ = mCt σ (up (up (up σ 0 0 1 0) 0 0 0 0) 0 0 1 0) k0.toNatClampNeg (k + 1); rw [mCt, if_neg c_122]] at hP
                exact ih (k + 1) (by omega) (by omega) _ _ hP hS ls (lv_sub hl [0, 3, 4, 5] rfl)
              · skip
                refine lv_iconst (v := 0) hx hb d_Mo_contract_125 (by decide) ?_
                refine lv_goto (tgt := 130) hx hb d_Mo_contract_126 (by decide) ?_
                refine mq_iast C0 hP hS (kd := 2) (i := 0) 2 (by decide) rfl (by decide) rfl (vin_nI (by omega)) (by rw [ast_fn]; rfl) d_Mo_contract_130 (fun H locs hP hS => ?_)
                rw [show (nI (36 * k0.toNatClampNeg + 4 * k + 2)).toNatClampNeg = (36 * k0.toNatClampNeg + 4 * k + 2) from nI_clamp (by omega)] at hP
                refine lv_aload_n hx hb d_Mo_contract_131 rfl (lv_at hl 4 rfl) ?_
                refine mq_get C0 hP (kd := 0) (i := 0) (ci := 4) (by decide) (by decide) rfl rfl 1 (by decide) rfl k_fl_Mo_13 rfl d_Mo_contract_132 ?_
                refine lv_iload hx hb d_Mo_contract_135 (lv_at hl 1 rfl) ?_
                refine lv_iconst (v := 3) hx hb d_Mo_contract_137 (by decide) ?_
                refine lv_iadd hx hb d_Mo_contract_138 ?_
                rw [show ((nI (36 * k0.toNatClampNeg + 4 * k)) + 3 : Int32) = nI (36 * k0.toNatClampNeg + 4 * k + 3) from nI_aj (j := 3)]
                refine lv_aload_n hx hb d_Mo_contract_139 rfl (lv_at hl 4 rfl) ?_
                refine mq_get C0 hP (kd := 0) (i := 0) (ci := 4) (by decide) (by decide) rfl rfl 0 (by decide) rfl k_fl_Mo_7 rfl d_Mo_contract_140 ?_
                refine lv_iload hx hb d_Mo_contract_143 (lv_at hl 0 rfl) ?_
                refine lv_iconst (v := 3) hx hb d_Mo_contract_145 (by decide) ?_
                refine lv_iadd hx hb d_Mo_contract_146 ?_
                rw [show ((nI (5 * k)) + 3 : Int32) = nI (5 * k + 3) from nI_aj (j := 3)]
                refine mq_iald C0 hP (kd := 1) (i := 0) (by decide) (by decide) rfl (vin_nI (by omega)) d_Mo_contract_147 ?_
                rw [show (nI (5 * k + 3)).toNatClampNeg = (5 * k + 3) from nI_clamp (by omega)]
                refine W.eq (g2 := F0 m 148 ls [.int ((mCt σ (up (up (up σ 0 0 1 0) 0 0 0 0) 0 0 1 0) k0.toNatClampNeg k) 1 0 (5 * k + 3)), .int (nI (36 * k0.toNatClampNeg + 4 * k + 3)), .ref (base + adm 2 0)]) rfl ?_
                rw [show ((mCt σ (up (up (up σ 0 0 1 0) 0 0 0 0) 0 0 1 0) k0.toNatClampNeg k) 1 0 (5 * k + 3) : Int32) = σ 1 0 (5 * k + 3) from mCt_k (by decide) k]
                refine lv_bipush (v := 48) hx hb d_Mo_contract_148 (by decide) ?_
                refine lv_isub hx hb d_Mo_contract_150 ?_
                refine mq_iast C0 hP hS (kd := 2) (i := 0) 2 (by decide) rfl (by decide) rfl (vin_nI (by omega)) (by rw [ast_fn]; rfl) d_Mo_contract_151 (fun H locs hP hS => ?_)
                rw [show (nI (36 * k0.toNatClampNeg + 4 * k + 3)).toNatClampNeg = (36 * k0.toNatClampNeg + 4 * k + 3) from nI_clamp (by omega)] at hP
                refine lv_iinc (v := nI (k + 1)) (lv' := [(3, .int (nI (k + 1))), (5, .int (nI (5 * k))), (4, .int (nI (36 * k0.toNatClampNeg + 4 * k))), (2, .int (nI nn)), (0, .ref (base + adm 0 0)), (1, .int k0)]) hx hb d_Mo_contract_152 hl (k := 2) rfl (by exact nI_1 k) (by decide) rfl (fun ls hl => ?_)
                refine lv_goto (tgt := 45) hx hb d_Mo_contract_155 (by decide) ?_
                rw [show ((up (up (up (up (mCt σ (up (up (up σ 0 0 1 0) 0 0 0 0) 0 0 1 0) k0.toNatClampNeg k) 2 0 (36 * k0.toNatClampNeg + 4 * k) ((σ 1 0 (5 * k)) - 48)) 2 0 (36 * k0.toNatClampNeg + 4 * k + 1) (mLet (σ 1 0 (5 * k + 1)))) 2 0 (36 * k0.toNatClampNeg + 4 * k + 2) 0) 2 0 (36 * k0.toNatClampNeg + 4 * k + 3) ((σ 1 0 (5 * k + 3)) - 48)) : Mem) = mCt σ (up (up (up σ 0 0 1 0) 0 0 0 0) 0 0 1 0) k0.toNatClampNeg (k + 1) from by show _ = mCt σ (up (up (up σ 0 0 1 0) 0 0 0 0) 0 0 1 0) k0.toNatClampNeg (k + 1); rw [mCt, if_pos c_122]] at hP
                exact ih (k + 1) (by omega) (by omega) _ _ hP hS ls (lv_sub hl [0, 3, 4, 5] rfl)
        rw [show ((up (up (up σ 0 0 1 0) 0 0 0 0) 0 0 1 0) : Mem) = mCt σ (up (up (up σ 0 0 1 0) 0 0 0 0) 0 0 1 0) k0.toNatClampNeg 0 from rfl] at hP
        exact loop (nn + 1) 0 (by omega) (by omega) _ _ hP hS ls (lv_sub hl [0, 1, 2, 3] rfl)
      · skip
        exact absurd rfl c_38
  · skip
    have c_10 := b2i_ne.mp c_10
    refine lv_iconst (v := 0) hx hb d_Mo_contract_13 (by decide) ?_
    exact mrI_i C0 hP hS (⟨by decide, by decide⟩) (⟨rfl, congrArg some (by unfold mCon; rw [if_pos c_10]), by unfold mCon; rw [if_pos c_10, b2i_t c_10]⟩) d_Mo_contract_14
