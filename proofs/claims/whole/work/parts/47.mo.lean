/-! The model reads the text's rules: laid by gen/m47.py. -/
abbrev mSame (σ : Mem) (j k : Nat) : Prop := σ 1 0 (5 * j) = σ 1 0 (5 * k) ∧ σ 1 0 (5 * j + 1) = σ 1 0 (5 * k + 1)
abbrev mRu (σ : Mem) (n k : Nat) : Prop := inR (σ 1 0 (5 * k)) 49 54 ∧ ¬ mLet (σ 1 0 (5 * k + 1)) < 0 ∧ (σ 1 0 (5 * k + 2) = 33 ∨ σ 1 0 (5 * k + 2) = 63) ∧ inR (σ 1 0 (5 * k + 3)) 48 54 ∧ (nI k = nI n - 1 ∨ σ 1 0 (5 * k + 4) = 44)
abbrev mRk (σ : Mem) (n k : Nat) : Prop := mRu σ n k ∧ ∀ j, j < k → ¬ mSame σ j k
def mRn (σ : Mem) : Nat := (txN σ + 1) / 5
def mRR (σ : Mem) : Int32 := if nI (txN σ) < 4 then 0 else if nI (txN σ % 5) = 4 then (if ∀ k, k < mRn σ → mRk σ (mRn σ) k then nI (mRn σ) else 0) else 0
theorem div5 {n : Nat} (h : n ≤ 36) : (nI n + 1) / 5 = nI ((n + 1) / 5) := (by decide +kernel : ∀ n, n < 37 → (nI n + 1) / 5 = nI ((n + 1) / 5)) n (by omega)
theorem mod4 {n : Nat} (h : n ≤ 36) (h2 : nI (n % 5) = 4) : n % 5 = 4 := (by decide +kernel : ∀ n, n < 37 → nI (n % 5) = 4 → n % 5 = 4) n (by omega) h2
theorem ix5 {k : Nat} : nI k * 5 = nI (5 * k) := by rw [show (5 : Int32) = nI 5 from by decide, pk_mul, Nat.mul_comm]
theorem last4 {n k s0 : Nat} (h : 5 * n = s0 + 1) (hs : s0 ≤ 36) (hk : k < n) (hne : ¬ nI k = nI n - 1) : 5 * k + 4 < 36 := by
  rcases Nat.lt_or_ge (k + 1) n with y | y
  · omega
  · exact absurd (show nI k = nI n - 1 from by rw [show n = k + 1 from by omega]; exact (nI_pred k).symm) hne
theorem b2i_and {P0 : Prop} [Decidable P0] {σ : Mem} {k ii : Nat} (h : ¬ mSame σ k ii) : b2i (P0 ∧ ∀ j, j < k → ¬ mSame σ j ii) = b2i (P0 ∧ ∀ j, j < k + 1 → ¬ mSame σ j ii) := by
  by_cases h1 : P0 ∧ ∀ j, j < k → ¬ mSame σ j ii
  · rw [b2i_t h1, b2i_t ⟨h1.1, lt_s h1.2 h⟩]
  · rw [b2i_f h1, b2i_f (fun z => h1 ⟨z.1, fun j hj => z.2 j (by omega)⟩)]
set_option maxHeartbeats 4000000 in
set_option maxRecDepth 100000 in
theorem c_Mo_readRules {S0 : State} {A0 : Array Value} {D : va_G} {ar : Nat → ClassId} {base : Nat} {σ : Mem} {l : Launch} (hlt : l.stackTraces = false) (htw : TW σ) :
    MX l y_Mo_readRules [Cond.code y_Mo_readRules b_Mo_readRules 6 (some .int)] (rmL 2) (PO S0 A0 D ar base σ [.ref (base + adm 0 0)]) (QP (fun k r => k = 0 ∧ r = some (mRR σ))) (fun _ => False) := by
  refine mx_head hlt (by decide +kernel) (Nat.le_of_ble_eq_true rfl) ?_
  intro p ev s m below meth c ls C0 hP hl
  have C0 : Cx S0 A0 D ar base p l s m _ meth c R_Mo b_Mo_readRules 6 (some .int) := C0
  obtain ⟨hx, hb, -⟩ := id C0
  have hl : lv_has ls 6 [(0, .ref (base + adm 0 0))] := hl
  have ht := htw.at
  refine lv_aload_n hx hb d_Mo_readRules_0 rfl (lv_at hl 0 rfl) ?_
  refine mq_get C0 hP (kd := 0) (i := 0) (ci := 4) (by decide) (by decide) rfl rfl 15 (by decide) rfl k_fl_Mo_68 rfl d_Mo_readRules_1 ?_
  rw [show (σ 0 0 0 : Int32) = nI (txN σ) from ht.1]
  refine lv_iconst (v := 1) hx hb d_Mo_readRules_4 (by decide) ?_
  refine lv_iadd hx hb d_Mo_readRules_5 ?_
  refine lv_iconst (v := 5) hx hb d_Mo_readRules_6 (by decide) ?_
  refine lv_idiv hx hb d_Mo_readRules_7 (by decide) ?_
  rw [show (((nI (txN σ)) + 1) / 5 : Int32) = nI (mRn σ) from div5 ht.2]
  refine lv_istore_n (lv' := [(1, .int (nI (mRn σ))), (0, .ref (base + adm 0 0))]) hx hb d_Mo_readRules_8 rfl hl (by decide) rfl (fun ls hl => ?_)
  refine lv_aload_n hx hb d_Mo_readRules_9 rfl (lv_at hl 1 rfl) ?_
  refine mq_get C0 hP (kd := 0) (i := 0) (ci := 4) (by decide) (by decide) rfl rfl 15 (by decide) rfl k_fl_Mo_68 rfl d_Mo_readRules_10 ?_
  rw [show (σ 0 0 0 : Int32) = nI (txN σ) from ht.1]
  refine lv_iconst (v := 4) hx hb d_Mo_readRules_13 (by decide) ?_
  refine lv_icmp_lt (tgt := 27) hx hb d_Mo_readRules_14 (by decide) (fun c_14 => ?_) (fun c_14 => ?_)
  · skip
    refine lv_iconst (v := 0) hx hb d_Mo_readRules_27 (by decide) ?_
    exact rP_i C0 (⟨by decide, by decide⟩) (⟨rfl, congrArg some (by unfold mRR; rw [if_pos c_14])⟩) d_Mo_readRules_28
  · skip
    refine lv_aload_n hx hb d_Mo_readRules_17 rfl (lv_at hl 1 rfl) ?_
    refine mq_get C0 hP (kd := 0) (i := 0) (ci := 4) (by decide) (by decide) rfl rfl 15 (by decide) rfl k_fl_Mo_68 rfl d_Mo_readRules_18 ?_
    rw [show (σ 0 0 0 : Int32) = nI (txN σ) from ht.1]
    refine lv_iconst (v := 5) hx hb d_Mo_readRules_21 (by decide) ?_
    refine lv_irem hx hb d_Mo_readRules_22 (by decide) ?_
    rw [show ((nI (txN σ)) - (nI (txN σ)) / 5 * 5 : Int32) = nI (txN σ % 5) from rem5 ht.2]
    refine lv_iconst (v := 4) hx hb d_Mo_readRules_23 (by decide) ?_
    refine lv_icmp_eq (tgt := 29) hx hb d_Mo_readRules_24 (by decide) (fun c_24 => ?_) (fun c_24 => ?_)
    · skip
      refine lv_iconst (v := 0) hx hb d_Mo_readRules_29 (by decide) ?_
      refine lv_istore_n (lv' := [(2, .int 0), (1, .int (nI (mRn σ))), (0, .ref (base + adm 0 0))]) hx hb d_Mo_readRules_30 rfl hl (by decide) rfl (fun ls hl => ?_)
      have h54 := mod4 ht.2 c_24
      have hNN : 5 * mRn σ = txN σ + 1 ∧ mRn σ ≤ 7 := by unfold mRn; omega
      have inner : ∀ ii : Nat, ii < mRn σ → ∀ (P0 : Prop) [Decidable P0], (∀ ls : Array Slot, lv_has ls 6 [(4, .int (b2i (P0 ∧ ∀ j, j < ii → ¬ mSame σ j ii))), (0, .ref (base + adm 0 0)), (1, .int (nI (mRn σ))), (2, .int (nI ii)), (3, .int (nI (5 * ii)))] → W p l ev (rmL 2) s m ([.ref (base + adm 0 0)] : List Value).toArray below meth c s.heap [] 0 0 (MQX below (QP (fun k r => k = 0 ∧ r = some (mRR σ))) ([.ref (base + adm 0 0)] : List Value).toArray s (rmL 2).cells (rmL 2).slots (fun _ => False)) (F0 m 199 ls [])) → ∀ (n k : Nat), k ≤ ii → ii + 1 ≤ k + n → ∀ z : Int32, z = b2i (P0 ∧ ∀ j, j < k → ¬ mSame σ j ii) → ∀ ls : Array Slot, lv_has ls 6 [(5, .int (nI k)), (4, .int z), (0, .ref (base + adm 0 0)), (1, .int (nI (mRn σ))), (2, .int (nI ii)), (3, .int (nI (5 * ii)))] → W p l ev (rmL 2) s m ([.ref (base + adm 0 0)] : List Value).toArray below meth c s.heap [] 0 0 (MQX below (QP (fun k r => k = 0 ∧ r = some (mRR σ))) ([.ref (base + adm 0 0)] : List Value).toArray s (rmL 2).cells (rmL 2).slots (fun _ => False)) (F0 m 144 ls []) := by
        intro ii hii P0 _ cont n
        induction n with
        | zero => intro k h1 h2; omega
        | succ n ih =>
          intro k hk1 hk2 z hz ls hl
          refine lv_iload hx hb d_Mo_readRules_144 (lv_at hl 0 rfl) ?_
          refine lv_iload_n hx hb d_Mo_readRules_146 rfl (lv_at hl 4 rfl) ?_
          refine lv_icmp_ge (tgt := 199) hx hb d_Mo_readRules_147 (by decide) (fun c_147 => ?_) (fun c_147 => ?_)
          · skip
            have hkN : k = ii := by have := (nI_leI (by omega) (by omega)).mp c_147; omega
            rw [hkN] at hz
            subst hz
            exact cont ls (lv_sub hl [1, 2, 3, 4, 5] rfl)
          · skip
            have hkN : k < ii := Nat.lt_of_not_le fun y => c_147 ((nI_leI (by omega) (by omega)).mpr y)
            refine lv_aload_n hx hb d_Mo_readRules_150 rfl (lv_at hl 2 rfl) ?_
            refine mq_get C0 hP (kd := 0) (i := 0) (ci := 4) (by decide) (by decide) rfl rfl 0 (by decide) rfl k_fl_Mo_7 rfl d_Mo_readRules_151 ?_
            refine lv_iload hx hb d_Mo_readRules_154 (lv_at hl 0 rfl) ?_
            refine lv_iconst (v := 5) hx hb d_Mo_readRules_156 (by decide) ?_
            refine lv_imul hx hb d_Mo_readRules_157 ?_
            rw [show ((nI k) * 5 : Int32) = nI (5 * k) from ix5]
            refine mq_iald C0 hP (kd := 1) (i := 0) (by decide) (by decide) rfl (vin_nI (by omega)) d_Mo_readRules_158 ?_
            rw [show (nI (5 * k)).toNatClampNeg = (5 * k) from nI_clamp (by omega)]
            refine lv_aload_n hx hb d_Mo_readRules_159 rfl (lv_at hl 2 rfl) ?_
            refine mq_get C0 hP (kd := 0) (i := 0) (ci := 4) (by decide) (by decide) rfl rfl 0 (by decide) rfl k_fl_Mo_7 rfl d_Mo_readRules_160 ?_
            refine lv_iload_n hx hb d_Mo_readRules_163 rfl (lv_at hl 5 rfl) ?_
            refine mq_iald C0 hP (kd := 1) (i := 0) (by decide) (by decide) rfl (vin_nI (by omega)) d_Mo_readRules_164 ?_
            rw [show (nI (5 * ii)).toNatClampNeg = (5 * ii) from nI_clamp (by omega)]
            refine lv_icmp_ne (tgt := 193) hx hb d_Mo_readRules_165 (by decide) (fun c_165 => ?_) (fun c_165 => ?_)
            · skip
              refine lv_iinc (v := nI (k + 1)) (lv' := [(5, .int (nI (k + 1))), (4, .int z), (0, .ref (base + adm 0 0)), (1, .int (nI (mRn σ))), (2, .int (nI ii)), (3, .int (nI (5 * ii)))]) hx hb d_Mo_readRules_193 hl (k := 0) rfl (by exact nI_1 k) (by decide) rfl (fun ls hl => ?_)
              refine lv_goto (tgt := 144) hx hb d_Mo_readRules_196 (by decide) ?_
              exact ih (k + 1) (by omega) (by omega) z (hz.trans (b2i_and (fun y => c_165 y.1))) ls (lv_sub hl [0, 1, 2, 3, 4, 5] rfl)
            · skip
              refine lv_aload_n hx hb d_Mo_readRules_168 rfl (lv_at hl 2 rfl) ?_
              refine mq_get C0 hP (kd := 0) (i := 0) (ci := 4) (by decide) (by decide) rfl rfl 0 (by decide) rfl k_fl_Mo_7 rfl d_Mo_readRules_169 ?_
              refine lv_iload hx hb d_Mo_readRules_172 (lv_at hl 0 rfl) ?_
              refine lv_iconst (v := 5) hx hb d_Mo_readRules_174 (by decide) ?_
              refine lv_imul hx hb d_Mo_readRules_175 ?_
              rw [show ((nI k) * 5 : Int32) = nI (5 * k) from ix5]
              refine lv_iconst (v := 1) hx hb d_Mo_readRules_176 (by decide) ?_
              refine lv_iadd hx hb d_Mo_readRules_177 ?_
              rw [show ((nI (5 * k)) + 1 : Int32) = nI (5 * k + 1) from nI_1 _]
              refine mq_iald C0 hP (kd := 1) (i := 0) (by decide) (by decide) rfl (vin_nI (by omega)) d_Mo_readRules_178 ?_
              rw [show (nI (5 * k + 1)).toNatClampNeg = (5 * k + 1) from nI_clamp (by omega)]
              refine lv_aload_n hx hb d_Mo_readRules_179 rfl (lv_at hl 2 rfl) ?_
              refine mq_get C0 hP (kd := 0) (i := 0) (ci := 4) (by decide) (by decide) rfl rfl 0 (by decide) rfl k_fl_Mo_7 rfl d_Mo_readRules_180 ?_
              refine lv_iload_n hx hb d_Mo_readRules_183 rfl (lv_at hl 5 rfl) ?_
              refine lv_iconst (v := 1) hx hb d_Mo_readRules_184 (by decide) ?_
              refine lv_iadd hx hb d_Mo_readRules_185 ?_
              rw [show ((nI (5 * ii)) + 1 : Int32) = nI (5 * ii + 1) from nI_1 _]
              refine mq_iald C0 hP (kd := 1) (i := 0) (by decide) (by decide) rfl (vin_nI (by omega)) d_Mo_readRules_186 ?_
              rw [show (nI (5 * ii + 1)).toNatClampNeg = (5 * ii + 1) from nI_clamp (by omega)]
              refine lv_icmp_ne (tgt := 193) hx hb d_Mo_readRules_187 (by decide) (fun c_187 => ?_) (fun c_187 => ?_)
              · skip
                refine lv_iinc (v := nI (k + 1)) (lv' := [(5, .int (nI (k + 1))), (4, .int z), (0, .ref (base + adm 0 0)), (1, .int (nI (mRn σ))), (2, .int (nI ii)), (3, .int (nI (5 * ii)))]) hx hb d_Mo_readRules_193 hl (k := 0) rfl (by exact nI_1 k) (by decide) rfl (fun ls hl => ?_)
                refine lv_goto (tgt := 144) hx hb d_Mo_readRules_196 (by decide) ?_
                exact ih (k + 1) (by omega) (by omega) z (hz.trans (b2i_and (fun y => c_187 y.2))) ls (lv_sub hl [0, 1, 2, 3, 4, 5] rfl)
              · skip
                refine lv_iconst (v := 0) hx hb d_Mo_readRules_190 (by decide) ?_
                refine lv_istore (lv' := [(4, .int 0), (5, .int (nI k)), (0, .ref (base + adm 0 0)), (1, .int (nI (mRn σ))), (2, .int (nI ii)), (3, .int (nI (5 * ii)))]) hx hb d_Mo_readRules_191 hl (by decide) rfl (fun ls hl => ?_)
                refine lv_iinc (v := nI (k + 1)) (lv' := [(5, .int (nI (k + 1))), (4, .int 0), (0, .ref (base + adm 0 0)), (1, .int (nI (mRn σ))), (2, .int (nI ii)), (3, .int (nI (5 * ii)))]) hx hb d_Mo_readRules_193 hl (k := 1) rfl (by exact nI_1 k) (by decide) rfl (fun ls hl => ?_)
                refine lv_goto (tgt := 144) hx hb d_Mo_readRules_196 (by decide) ?_
                exact ih (k + 1) (by omega) (by omega) 0 ((b2i_f (fun y => y.2 k (Nat.lt_succ_self k) ⟨c_165, c_187⟩)).symm) ls (lv_sub hl [0, 1, 2, 3, 4, 5] rfl)
      have loop : ∀ (n k : Nat), k ≤ mRn σ → mRn σ + 1 ≤ k + n → (∀ j, j < k → mRk σ (mRn σ) j) → ∀ ls : Array Slot, lv_has ls 6 [(2, .int (nI k)), (1, .int (nI (mRn σ))), (0, .ref (base + adm 0 0))] → W p l ev (rmL 2) s m ([.ref (base + adm 0 0)] : List Value).toArray below meth c s.heap [] 0 0 (MQX below (QP (fun k r => k = 0 ∧ r = some (mRR σ))) ([.ref (base + adm 0 0)] : List Value).toArray s (rmL 2).cells (rmL 2).slots (fun _ => False)) (F0 m 31 ls []) := by
        intro n
        induction n with
        | zero => intro k h1 h2; omega
        | succ n ih =>
          intro k hk1 hk2 hinv ls hl
          refine lv_iload_n hx hb d_Mo_readRules_31 rfl (lv_at hl 0 rfl) ?_
          refine lv_iload_n hx hb d_Mo_readRules_32 rfl (lv_at hl 1 rfl) ?_
          refine lv_icmp_ge (tgt := 212) hx hb d_Mo_readRules_33 (by decide) (fun c_33 => ?_) (fun c_33 => ?_)
          · skip
            have hkN : k = mRn σ := by have := (nI_leI (by omega) (by omega)).mp c_33; omega
            refine lv_iload_n hx hb d_Mo_readRules_212 rfl (lv_at hl 1 rfl) ?_
            exact rP_i C0 (⟨by decide, by decide⟩) (⟨rfl, congrArg some (by unfold mRR; rw [if_neg c_14, if_pos c_24, if_pos (by rw [← hkN]; exact (hkN ▸ hinv))])⟩) d_Mo_readRules_213
          · skip
            have hkN : k < mRn σ := Nat.lt_of_not_le fun y => c_33 ((nI_leI (by omega) (by omega)).mpr y)
            refine lv_iload_n hx hb d_Mo_readRules_36 rfl (lv_at hl 0 rfl) ?_
            refine lv_iconst (v := 5) hx hb d_Mo_readRules_37 (by decide) ?_
            refine lv_imul hx hb d_Mo_readRules_38 ?_
            rw [show ((nI k) * 5 : Int32) = nI (5 * k) from ix5]
            refine lv_istore_n (lv' := [(3, .int (nI (5 * k))), (2, .int (nI k)), (1, .int (nI (mRn σ))), (0, .ref (base + adm 0 0))]) hx hb d_Mo_readRules_39 rfl hl (by decide) rfl (fun ls hl => ?_)
            refine lv_aload_n hx hb d_Mo_readRules_40 rfl (lv_at hl 3 rfl) ?_
            refine mq_get C0 hP (kd := 0) (i := 0) (ci := 4) (by decide) (by decide) rfl rfl 0 (by decide) rfl k_fl_Mo_7 rfl d_Mo_readRules_41 ?_
            refine lv_iload_n hx hb d_Mo_readRules_44 rfl (lv_at hl 0 rfl) ?_
            refine mq_iald C0 hP (kd := 1) (i := 0) (by decide) (by decide) rfl (vin_nI (by omega)) d_Mo_readRules_45 ?_
            rw [show (nI (5 * k)).toNatClampNeg = (5 * k) from nI_clamp (by omega)]
            refine lv_bipush (v := 49) hx hb d_Mo_readRules_46 (by decide) ?_
            refine lv_bipush (v := 54) hx hb d_Mo_readRules_48 (by decide) ?_
            refine ms_PP C0 hP (cs_S C0 (As := [.int (σ 1 0 (5 * k)), .int 49, .int 54]) k_ml_Mo_60 k_st_Mo_in k_cd_Mo_in k_in_Mo z_Mo_in rfl d_Mo_readRules_50) (c_Mo_in hlt) hl.1 d_Mo_readRules_50 (Nat.le_of_ble_eq_true rfl) (⟨by decide, by decide⟩) (⟨by decide, by decide⟩) (fun k r hk hp => absurd hp.1 hk) (fun r_2 h_1 => ?_)
            obtain ⟨-, rfl⟩ := h_1
            refine lv_if_eq (tgt := 138) hx hb d_Mo_readRules_53 (by decide) (fun c_53 => ?_) (fun c_53 => ?_)
            · skip
              have c_53 := b2i_z.mp c_53
              refine lv_iconst (v := 0) hx hb d_Mo_readRules_138 (by decide) ?_
              refine lv_istore (lv' := [(4, .int 0), (3, .int (nI (5 * k))), (2, .int (nI k)), (1, .int (nI (mRn σ))), (0, .ref (base + adm 0 0))]) hx hb d_Mo_readRules_139 hl (by decide) rfl (fun ls hl => ?_)
              refine lv_iconst (v := 0) hx hb d_Mo_readRules_141 (by decide) ?_
              refine lv_istore (lv' := [(5, .int 0), (4, .int 0), (3, .int (nI (5 * k))), (2, .int (nI k)), (1, .int (nI (mRn σ))), (0, .ref (base + adm 0 0))]) hx hb d_Mo_readRules_142 hl (by decide) rfl (fun ls hl => ?_)
              refine inner k hkN (mRu σ (mRn σ) k) (fun ls hl => ?_) (k + 1) 0 (by omega) (by omega) 0 ((b2i_f (fun y => c_53 y.1.1)).symm) ls (lv_sub hl [0, 1, 5, 4, 3, 2] rfl)
              refine lv_iload hx hb d_Mo_readRules_199 (lv_at hl 0 rfl) ?_
              refine lv_if_ne (tgt := 206) hx hb d_Mo_readRules_201 (by decide) (fun c_201 => ?_) (fun c_201 => ?_)
              · skip
                have c_201 := b2i_ne.mp c_201
                refine lv_iinc (v := nI (k + 1)) (lv' := [(2, .int (nI (k + 1))), (4, .int (b2i (mRk σ (mRn σ) k))), (0, .ref (base + adm 0 0)), (1, .int (nI (mRn σ))), (3, .int (nI (5 * k)))]) hx hb d_Mo_readRules_206 hl (k := 3) rfl (by exact nI_1 k) (by decide) rfl (fun ls hl => ?_)
                refine lv_goto (tgt := 31) hx hb d_Mo_readRules_209 (by decide) ?_
                exact ih (k + 1) (by omega) (by omega) (lt_s hinv c_201) ls (lv_sub hl [0, 3, 2] rfl)
              · skip
                have c_201 := b2i_z.mp c_201
                refine lv_iconst (v := 0) hx hb d_Mo_readRules_204 (by decide) ?_
                exact rP_i C0 (⟨by decide, by decide⟩) (⟨rfl, congrArg some (by unfold mRR; rw [if_neg c_14, if_pos c_24, if_neg (fun y => c_201 (y k hkN))])⟩) d_Mo_readRules_205
            · skip
              have c_53 := b2i_ne.mp c_53
              refine lv_aload_n hx hb d_Mo_readRules_56 rfl (lv_at hl 3 rfl) ?_
              refine mq_get C0 hP (kd := 0) (i := 0) (ci := 4) (by decide) (by decide) rfl rfl 0 (by decide) rfl k_fl_Mo_7 rfl d_Mo_readRules_57 ?_
              refine lv_iload_n hx hb d_Mo_readRules_60 rfl (lv_at hl 0 rfl) ?_
              refine lv_iconst (v := 1) hx hb d_Mo_readRules_61 (by decide) ?_
              refine lv_iadd hx hb d_Mo_readRules_62 ?_
              rw [show ((nI (5 * k)) + 1 : Int32) = nI (5 * k + 1) from nI_aj (j := 1)]
              refine mq_iald C0 hP (kd := 1) (i := 0) (by decide) (by decide) rfl (vin_nI (by omega)) d_Mo_readRules_63 ?_
              rw [show (nI (5 * k + 1)).toNatClampNeg = (5 * k + 1) from nI_clamp (by omega)]
              refine ms_PP C0 hP (cs_S C0 (As := [.int (σ 1 0 (5 * k + 1))]) k_ml_Mo_75 k_st_Mo_letterOf k_cd_Mo_letterOf k_in_Mo z_Mo_letterOf rfl d_Mo_readRules_64) (c_Mo_letterOf hlt) hl.1 d_Mo_readRules_64 (Nat.le_of_ble_eq_true rfl) (⟨by decide, by decide⟩) (⟨by decide, by decide⟩) (fun k r hk hp => absurd hp.1 hk) (fun r_4 h_3 => ?_)
              obtain ⟨-, rfl⟩ := h_3
              refine lv_if_lt (tgt := 138) hx hb d_Mo_readRules_67 (by decide) (fun c_67 => ?_) (fun c_67 => ?_)
              · skip
                refine lv_iconst (v := 0) hx hb d_Mo_readRules_138 (by decide) ?_
                refine lv_istore (lv' := [(4, .int 0), (3, .int (nI (5 * k))), (2, .int (nI k)), (1, .int (nI (mRn σ))), (0, .ref (base + adm 0 0))]) hx hb d_Mo_readRules_139 hl (by decide) rfl (fun ls hl => ?_)
                refine lv_iconst (v := 0) hx hb d_Mo_readRules_141 (by decide) ?_
                refine lv_istore (lv' := [(5, .int 0), (4, .int 0), (3, .int (nI (5 * k))), (2, .int (nI k)), (1, .int (nI (mRn σ))), (0, .ref (base + adm 0 0))]) hx hb d_Mo_readRules_142 hl (by decide) rfl (fun ls hl => ?_)
                refine inner k hkN (mRu σ (mRn σ) k) (fun ls hl => ?_) (k + 1) 0 (by omega) (by omega) 0 ((b2i_f (fun y => y.1.2.1 c_67)).symm) ls (lv_sub hl [0, 1, 5, 4, 3, 2] rfl)
                refine lv_iload hx hb d_Mo_readRules_199 (lv_at hl 0 rfl) ?_
                refine lv_if_ne (tgt := 206) hx hb d_Mo_readRules_201 (by decide) (fun c_201 => ?_) (fun c_201 => ?_)
                · skip
                  have c_201 := b2i_ne.mp c_201
                  refine lv_iinc (v := nI (k + 1)) (lv' := [(2, .int (nI (k + 1))), (4, .int (b2i (mRk σ (mRn σ) k))), (0, .ref (base + adm 0 0)), (1, .int (nI (mRn σ))), (3, .int (nI (5 * k)))]) hx hb d_Mo_readRules_206 hl (k := 3) rfl (by exact nI_1 k) (by decide) rfl (fun ls hl => ?_)
                  refine lv_goto (tgt := 31) hx hb d_Mo_readRules_209 (by decide) ?_
                  exact ih (k + 1) (by omega) (by omega) (lt_s hinv c_201) ls (lv_sub hl [0, 3, 2] rfl)
                · skip
                  have c_201 := b2i_z.mp c_201
                  refine lv_iconst (v := 0) hx hb d_Mo_readRules_204 (by decide) ?_
                  exact rP_i C0 (⟨by decide, by decide⟩) (⟨rfl, congrArg some (by unfold mRR; rw [if_neg c_14, if_pos c_24, if_neg (fun y => c_201 (y k hkN))])⟩) d_Mo_readRules_205
              · skip
                refine lv_aload_n hx hb d_Mo_readRules_70 rfl (lv_at hl 3 rfl) ?_
                refine mq_get C0 hP (kd := 0) (i := 0) (ci := 4) (by decide) (by decide) rfl rfl 0 (by decide) rfl k_fl_Mo_7 rfl d_Mo_readRules_71 ?_
                refine lv_iload_n hx hb d_Mo_readRules_74 rfl (lv_at hl 0 rfl) ?_
                refine lv_iconst (v := 2) hx hb d_Mo_readRules_75 (by decide) ?_
                refine lv_iadd hx hb d_Mo_readRules_76 ?_
                rw [show ((nI (5 * k)) + 2 : Int32) = nI (5 * k + 2) from nI_aj (j := 2)]
                refine mq_iald C0 hP (kd := 1) (i := 0) (by decide) (by decide) rfl (vin_nI (by omega)) d_Mo_readRules_77 ?_
                rw [show (nI (5 * k + 2)).toNatClampNeg = (5 * k + 2) from nI_clamp (by omega)]
                refine lv_bipush (v := 33) hx hb d_Mo_readRules_78 (by decide) ?_
                refine lv_icmp_eq (tgt := 96) hx hb d_Mo_readRules_80 (by decide) (fun c_80 => ?_) (fun c_80 => ?_)
                · skip
                  refine lv_aload_n hx hb d_Mo_readRules_96 rfl (lv_at hl 3 rfl) ?_
                  refine mq_get C0 hP (kd := 0) (i := 0) (ci := 4) (by decide) (by decide) rfl rfl 0 (by decide) rfl k_fl_Mo_7 rfl d_Mo_readRules_97 ?_
                  refine lv_iload_n hx hb d_Mo_readRules_100 rfl (lv_at hl 0 rfl) ?_
                  refine lv_iconst (v := 3) hx hb d_Mo_readRules_101 (by decide) ?_
                  refine lv_iadd hx hb d_Mo_readRules_102 ?_
                  rw [show ((nI (5 * k)) + 3 : Int32) = nI (5 * k + 3) from nI_aj (j := 3)]
                  refine mq_iald C0 hP (kd := 1) (i := 0) (by decide) (by decide) rfl (vin_nI (by omega)) d_Mo_readRules_103 ?_
                  rw [show (nI (5 * k + 3)).toNatClampNeg = (5 * k + 3) from nI_clamp (by omega)]
                  refine lv_bipush (v := 48) hx hb d_Mo_readRules_104 (by decide) ?_
                  refine lv_bipush (v := 54) hx hb d_Mo_readRules_106 (by decide) ?_
                  refine ms_PP C0 hP (cs_S C0 (As := [.int (σ 1 0 (5 * k + 3)), .int 48, .int 54]) k_ml_Mo_60 k_st_Mo_in k_cd_Mo_in k_in_Mo z_Mo_in rfl d_Mo_readRules_108) (c_Mo_in hlt) hl.1 d_Mo_readRules_108 (Nat.le_of_ble_eq_true rfl) (⟨by decide, by decide⟩) (⟨by decide, by decide⟩) (fun k r hk hp => absurd hp.1 hk) (fun r_6 h_5 => ?_)
                  obtain ⟨-, rfl⟩ := h_5
                  refine lv_if_eq (tgt := 138) hx hb d_Mo_readRules_111 (by decide) (fun c_111 => ?_) (fun c_111 => ?_)
                  · skip
                    have c_111 := b2i_z.mp c_111
                    refine lv_iconst (v := 0) hx hb d_Mo_readRules_138 (by decide) ?_
                    refine lv_istore (lv' := [(4, .int 0), (3, .int (nI (5 * k))), (2, .int (nI k)), (1, .int (nI (mRn σ))), (0, .ref (base + adm 0 0))]) hx hb d_Mo_readRules_139 hl (by decide) rfl (fun ls hl => ?_)
                    refine lv_iconst (v := 0) hx hb d_Mo_readRules_141 (by decide) ?_
                    refine lv_istore (lv' := [(5, .int 0), (4, .int 0), (3, .int (nI (5 * k))), (2, .int (nI k)), (1, .int (nI (mRn σ))), (0, .ref (base + adm 0 0))]) hx hb d_Mo_readRules_142 hl (by decide) rfl (fun ls hl => ?_)
                    refine inner k hkN (mRu σ (mRn σ) k) (fun ls hl => ?_) (k + 1) 0 (by omega) (by omega) 0 ((b2i_f (fun y => c_111 y.1.2.2.2.1)).symm) ls (lv_sub hl [0, 1, 5, 4, 3, 2] rfl)
                    refine lv_iload hx hb d_Mo_readRules_199 (lv_at hl 0 rfl) ?_
                    refine lv_if_ne (tgt := 206) hx hb d_Mo_readRules_201 (by decide) (fun c_201 => ?_) (fun c_201 => ?_)
                    · skip
                      have c_201 := b2i_ne.mp c_201
                      refine lv_iinc (v := nI (k + 1)) (lv' := [(2, .int (nI (k + 1))), (4, .int (b2i (mRk σ (mRn σ) k))), (0, .ref (base + adm 0 0)), (1, .int (nI (mRn σ))), (3, .int (nI (5 * k)))]) hx hb d_Mo_readRules_206 hl (k := 3) rfl (by exact nI_1 k) (by decide) rfl (fun ls hl => ?_)
                      refine lv_goto (tgt := 31) hx hb d_Mo_readRules_209 (by decide) ?_
                      exact ih (k + 1) (by omega) (by omega) (lt_s hinv c_201) ls (lv_sub hl [0, 3, 2] rfl)
                    · skip
                      have c_201 := b2i_z.mp c_201
                      refine lv_iconst (v := 0) hx hb d_Mo_readRules_204 (by decide) ?_
                      exact rP_i C0 (⟨by decide, by decide⟩) (⟨rfl, congrArg some (by unfold mRR; rw [if_neg c_14, if_pos c_24, if_neg (fun y => c_201 (y k hkN))])⟩) d_Mo_readRules_205
                  · skip
                    have c_111 := b2i_ne.mp c_111
                    refine lv_iload_n hx hb d_Mo_readRules_114 rfl (lv_at hl 1 rfl) ?_
                    refine lv_iload_n hx hb d_Mo_readRules_115 rfl (lv_at hl 2 rfl) ?_
                    refine lv_iconst (v := 1) hx hb d_Mo_readRules_116 (by decide) ?_
                    refine lv_isub hx hb d_Mo_readRules_117 ?_
                    refine lv_icmp_eq (tgt := 134) hx hb d_Mo_readRules_118 (by decide) (fun c_118 => ?_) (fun c_118 => ?_)
                    · skip
                      refine lv_iconst (v := 1) hx hb d_Mo_readRules_134 (by decide) ?_
                      refine lv_goto (tgt := 139) hx hb d_Mo_readRules_135 (by decide) ?_
                      refine lv_istore (lv' := [(4, .int 1), (3, .int (nI (5 * k))), (2, .int (nI k)), (1, .int (nI (mRn σ))), (0, .ref (base + adm 0 0))]) hx hb d_Mo_readRules_139 hl (by decide) rfl (fun ls hl => ?_)
                      refine lv_iconst (v := 0) hx hb d_Mo_readRules_141 (by decide) ?_
                      refine lv_istore (lv' := [(5, .int 0), (4, .int 1), (3, .int (nI (5 * k))), (2, .int (nI k)), (1, .int (nI (mRn σ))), (0, .ref (base + adm 0 0))]) hx hb d_Mo_readRules_142 hl (by decide) rfl (fun ls hl => ?_)
                      refine inner k hkN (mRu σ (mRn σ) k) (fun ls hl => ?_) (k + 1) 0 (by omega) (by omega) 1 ((b2i_t ⟨⟨c_53, c_67, Or.inl c_80, c_111, Or.inl c_118⟩, fun j hj => absurd hj (Nat.not_lt_zero j)⟩).symm) ls (lv_sub hl [0, 1, 5, 4, 3, 2] rfl)
                      refine lv_iload hx hb d_Mo_readRules_199 (lv_at hl 0 rfl) ?_
                      refine lv_if_ne (tgt := 206) hx hb d_Mo_readRules_201 (by decide) (fun c_201 => ?_) (fun c_201 => ?_)
                      · skip
                        have c_201 := b2i_ne.mp c_201
                        refine lv_iinc (v := nI (k + 1)) (lv' := [(2, .int (nI (k + 1))), (4, .int (b2i (mRk σ (mRn σ) k))), (0, .ref (base + adm 0 0)), (1, .int (nI (mRn σ))), (3, .int (nI (5 * k)))]) hx hb d_Mo_readRules_206 hl (k := 3) rfl (by exact nI_1 k) (by decide) rfl (fun ls hl => ?_)
                        refine lv_goto (tgt := 31) hx hb d_Mo_readRules_209 (by decide) ?_
                        exact ih (k + 1) (by omega) (by omega) (lt_s hinv c_201) ls (lv_sub hl [0, 3, 2] rfl)
                      · skip
                        have c_201 := b2i_z.mp c_201
                        refine lv_iconst (v := 0) hx hb d_Mo_readRules_204 (by decide) ?_
                        exact rP_i C0 (⟨by decide, by decide⟩) (⟨rfl, congrArg some (by unfold mRR; rw [if_neg c_14, if_pos c_24, if_neg (fun y => c_201 (y k hkN))])⟩) d_Mo_readRules_205
                    · skip
                      have hk4 : 5 * k + 4 < 36 := last4 hNN.1 ht.2 hkN c_118
                      refine lv_aload_n hx hb d_Mo_readRules_121 rfl (lv_at hl 3 rfl) ?_
                      refine mq_get C0 hP (kd := 0) (i := 0) (ci := 4) (by decide) (by decide) rfl rfl 0 (by decide) rfl k_fl_Mo_7 rfl d_Mo_readRules_122 ?_
                      refine lv_iload_n hx hb d_Mo_readRules_125 rfl (lv_at hl 0 rfl) ?_
                      refine lv_iconst (v := 4) hx hb d_Mo_readRules_126 (by decide) ?_
                      refine lv_iadd hx hb d_Mo_readRules_127 ?_
                      rw [show ((nI (5 * k)) + 4 : Int32) = nI (5 * k + 4) from nI_aj (j := 4)]
                      refine mq_iald C0 hP (kd := 1) (i := 0) (by decide) (by decide) rfl (vin_nI hk4) d_Mo_readRules_128 ?_
                      rw [show (nI (5 * k + 4)).toNatClampNeg = (5 * k + 4) from nI_clamp (by omega)]
                      refine lv_bipush (v := 44) hx hb d_Mo_readRules_129 (by decide) ?_
                      refine lv_icmp_ne (tgt := 138) hx hb d_Mo_readRules_131 (by decide) (fun c_131 => ?_) (fun c_131 => ?_)
                      · skip
                        refine lv_iconst (v := 0) hx hb d_Mo_readRules_138 (by decide) ?_
                        refine lv_istore (lv' := [(4, .int 0), (3, .int (nI (5 * k))), (2, .int (nI k)), (1, .int (nI (mRn σ))), (0, .ref (base + adm 0 0))]) hx hb d_Mo_readRules_139 hl (by decide) rfl (fun ls hl => ?_)
                        refine lv_iconst (v := 0) hx hb d_Mo_readRules_141 (by decide) ?_
                        refine lv_istore (lv' := [(5, .int 0), (4, .int 0), (3, .int (nI (5 * k))), (2, .int (nI k)), (1, .int (nI (mRn σ))), (0, .ref (base + adm 0 0))]) hx hb d_Mo_readRules_142 hl (by decide) rfl (fun ls hl => ?_)
                        refine inner k hkN (mRu σ (mRn σ) k) (fun ls hl => ?_) (k + 1) 0 (by omega) (by omega) 0 ((b2i_f (fun y => y.1.2.2.2.2.elim c_118 c_131)).symm) ls (lv_sub hl [0, 1, 5, 4, 3, 2] rfl)
                        refine lv_iload hx hb d_Mo_readRules_199 (lv_at hl 0 rfl) ?_
                        refine lv_if_ne (tgt := 206) hx hb d_Mo_readRules_201 (by decide) (fun c_201 => ?_) (fun c_201 => ?_)
                        · skip
                          have c_201 := b2i_ne.mp c_201
                          refine lv_iinc (v := nI (k + 1)) (lv' := [(2, .int (nI (k + 1))), (4, .int (b2i (mRk σ (mRn σ) k))), (0, .ref (base + adm 0 0)), (1, .int (nI (mRn σ))), (3, .int (nI (5 * k)))]) hx hb d_Mo_readRules_206 hl (k := 3) rfl (by exact nI_1 k) (by decide) rfl (fun ls hl => ?_)
                          refine lv_goto (tgt := 31) hx hb d_Mo_readRules_209 (by decide) ?_
                          exact ih (k + 1) (by omega) (by omega) (lt_s hinv c_201) ls (lv_sub hl [0, 3, 2] rfl)
                        · skip
                          have c_201 := b2i_z.mp c_201
                          refine lv_iconst (v := 0) hx hb d_Mo_readRules_204 (by decide) ?_
                          exact rP_i C0 (⟨by decide, by decide⟩) (⟨rfl, congrArg some (by unfold mRR; rw [if_neg c_14, if_pos c_24, if_neg (fun y => c_201 (y k hkN))])⟩) d_Mo_readRules_205
                      · skip
                        refine lv_iconst (v := 1) hx hb d_Mo_readRules_134 (by decide) ?_
                        refine lv_goto (tgt := 139) hx hb d_Mo_readRules_135 (by decide) ?_
                        refine lv_istore (lv' := [(4, .int 1), (3, .int (nI (5 * k))), (2, .int (nI k)), (1, .int (nI (mRn σ))), (0, .ref (base + adm 0 0))]) hx hb d_Mo_readRules_139 hl (by decide) rfl (fun ls hl => ?_)
                        refine lv_iconst (v := 0) hx hb d_Mo_readRules_141 (by decide) ?_
                        refine lv_istore (lv' := [(5, .int 0), (4, .int 1), (3, .int (nI (5 * k))), (2, .int (nI k)), (1, .int (nI (mRn σ))), (0, .ref (base + adm 0 0))]) hx hb d_Mo_readRules_142 hl (by decide) rfl (fun ls hl => ?_)
                        refine inner k hkN (mRu σ (mRn σ) k) (fun ls hl => ?_) (k + 1) 0 (by omega) (by omega) 1 ((b2i_t ⟨⟨c_53, c_67, Or.inl c_80, c_111, Or.inr c_131⟩, fun j hj => absurd hj (Nat.not_lt_zero j)⟩).symm) ls (lv_sub hl [0, 1, 5, 4, 3, 2] rfl)
                        refine lv_iload hx hb d_Mo_readRules_199 (lv_at hl 0 rfl) ?_
                        refine lv_if_ne (tgt := 206) hx hb d_Mo_readRules_201 (by decide) (fun c_201 => ?_) (fun c_201 => ?_)
                        · skip
                          have c_201 := b2i_ne.mp c_201
                          refine lv_iinc (v := nI (k + 1)) (lv' := [(2, .int (nI (k + 1))), (4, .int (b2i (mRk σ (mRn σ) k))), (0, .ref (base + adm 0 0)), (1, .int (nI (mRn σ))), (3, .int (nI (5 * k)))]) hx hb d_Mo_readRules_206 hl (k := 3) rfl (by exact nI_1 k) (by decide) rfl (fun ls hl => ?_)
                          refine lv_goto (tgt := 31) hx hb d_Mo_readRules_209 (by decide) ?_
                          exact ih (k + 1) (by omega) (by omega) (lt_s hinv c_201) ls (lv_sub hl [0, 3, 2] rfl)
                        · skip
                          have c_201 := b2i_z.mp c_201
                          refine lv_iconst (v := 0) hx hb d_Mo_readRules_204 (by decide) ?_
                          exact rP_i C0 (⟨by decide, by decide⟩) (⟨rfl, congrArg some (by unfold mRR; rw [if_neg c_14, if_pos c_24, if_neg (fun y => c_201 (y k hkN))])⟩) d_Mo_readRules_205
                · skip
                  refine lv_aload_n hx hb d_Mo_readRules_83 rfl (lv_at hl 3 rfl) ?_
                  refine mq_get C0 hP (kd := 0) (i := 0) (ci := 4) (by decide) (by decide) rfl rfl 0 (by decide) rfl k_fl_Mo_7 rfl d_Mo_readRules_84 ?_
                  refine lv_iload_n hx hb d_Mo_readRules_87 rfl (lv_at hl 0 rfl) ?_
                  refine lv_iconst (v := 2) hx hb d_Mo_readRules_88 (by decide) ?_
                  refine lv_iadd hx hb d_Mo_readRules_89 ?_
                  rw [show ((nI (5 * k)) + 2 : Int32) = nI (5 * k + 2) from nI_aj (j := 2)]
                  refine mq_iald C0 hP (kd := 1) (i := 0) (by decide) (by decide) rfl (vin_nI (by omega)) d_Mo_readRules_90 ?_
                  rw [show (nI (5 * k + 2)).toNatClampNeg = (5 * k + 2) from nI_clamp (by omega)]
                  refine lv_bipush (v := 63) hx hb d_Mo_readRules_91 (by decide) ?_
                  refine lv_icmp_ne (tgt := 138) hx hb d_Mo_readRules_93 (by decide) (fun c_93 => ?_) (fun c_93 => ?_)
                  · skip
                    refine lv_iconst (v := 0) hx hb d_Mo_readRules_138 (by decide) ?_
                    refine lv_istore (lv' := [(4, .int 0), (3, .int (nI (5 * k))), (2, .int (nI k)), (1, .int (nI (mRn σ))), (0, .ref (base + adm 0 0))]) hx hb d_Mo_readRules_139 hl (by decide) rfl (fun ls hl => ?_)
                    refine lv_iconst (v := 0) hx hb d_Mo_readRules_141 (by decide) ?_
                    refine lv_istore (lv' := [(5, .int 0), (4, .int 0), (3, .int (nI (5 * k))), (2, .int (nI k)), (1, .int (nI (mRn σ))), (0, .ref (base + adm 0 0))]) hx hb d_Mo_readRules_142 hl (by decide) rfl (fun ls hl => ?_)
                    refine inner k hkN (mRu σ (mRn σ) k) (fun ls hl => ?_) (k + 1) 0 (by omega) (by omega) 0 ((b2i_f (fun y => y.1.2.2.1.elim c_80 c_93)).symm) ls (lv_sub hl [0, 1, 5, 4, 3, 2] rfl)
                    refine lv_iload hx hb d_Mo_readRules_199 (lv_at hl 0 rfl) ?_
                    refine lv_if_ne (tgt := 206) hx hb d_Mo_readRules_201 (by decide) (fun c_201 => ?_) (fun c_201 => ?_)
                    · skip
                      have c_201 := b2i_ne.mp c_201
                      refine lv_iinc (v := nI (k + 1)) (lv' := [(2, .int (nI (k + 1))), (4, .int (b2i (mRk σ (mRn σ) k))), (0, .ref (base + adm 0 0)), (1, .int (nI (mRn σ))), (3, .int (nI (5 * k)))]) hx hb d_Mo_readRules_206 hl (k := 3) rfl (by exact nI_1 k) (by decide) rfl (fun ls hl => ?_)
                      refine lv_goto (tgt := 31) hx hb d_Mo_readRules_209 (by decide) ?_
                      exact ih (k + 1) (by omega) (by omega) (lt_s hinv c_201) ls (lv_sub hl [0, 3, 2] rfl)
                    · skip
                      have c_201 := b2i_z.mp c_201
                      refine lv_iconst (v := 0) hx hb d_Mo_readRules_204 (by decide) ?_
                      exact rP_i C0 (⟨by decide, by decide⟩) (⟨rfl, congrArg some (by unfold mRR; rw [if_neg c_14, if_pos c_24, if_neg (fun y => c_201 (y k hkN))])⟩) d_Mo_readRules_205
                  · skip
                    refine lv_aload_n hx hb d_Mo_readRules_96 rfl (lv_at hl 3 rfl) ?_
                    refine mq_get C0 hP (kd := 0) (i := 0) (ci := 4) (by decide) (by decide) rfl rfl 0 (by decide) rfl k_fl_Mo_7 rfl d_Mo_readRules_97 ?_
                    refine lv_iload_n hx hb d_Mo_readRules_100 rfl (lv_at hl 0 rfl) ?_
                    refine lv_iconst (v := 3) hx hb d_Mo_readRules_101 (by decide) ?_
                    refine lv_iadd hx hb d_Mo_readRules_102 ?_
                    rw [show ((nI (5 * k)) + 3 : Int32) = nI (5 * k + 3) from nI_aj (j := 3)]
                    refine mq_iald C0 hP (kd := 1) (i := 0) (by decide) (by decide) rfl (vin_nI (by omega)) d_Mo_readRules_103 ?_
                    rw [show (nI (5 * k + 3)).toNatClampNeg = (5 * k + 3) from nI_clamp (by omega)]
                    refine lv_bipush (v := 48) hx hb d_Mo_readRules_104 (by decide) ?_
                    refine lv_bipush (v := 54) hx hb d_Mo_readRules_106 (by decide) ?_
                    refine ms_PP C0 hP (cs_S C0 (As := [.int (σ 1 0 (5 * k + 3)), .int 48, .int 54]) k_ml_Mo_60 k_st_Mo_in k_cd_Mo_in k_in_Mo z_Mo_in rfl d_Mo_readRules_108) (c_Mo_in hlt) hl.1 d_Mo_readRules_108 (Nat.le_of_ble_eq_true rfl) (⟨by decide, by decide⟩) (⟨by decide, by decide⟩) (fun k r hk hp => absurd hp.1 hk) (fun r_8 h_7 => ?_)
                    obtain ⟨-, rfl⟩ := h_7
                    refine lv_if_eq (tgt := 138) hx hb d_Mo_readRules_111 (by decide) (fun c_111 => ?_) (fun c_111 => ?_)
                    · skip
                      have c_111 := b2i_z.mp c_111
                      refine lv_iconst (v := 0) hx hb d_Mo_readRules_138 (by decide) ?_
                      refine lv_istore (lv' := [(4, .int 0), (3, .int (nI (5 * k))), (2, .int (nI k)), (1, .int (nI (mRn σ))), (0, .ref (base + adm 0 0))]) hx hb d_Mo_readRules_139 hl (by decide) rfl (fun ls hl => ?_)
                      refine lv_iconst (v := 0) hx hb d_Mo_readRules_141 (by decide) ?_
                      refine lv_istore (lv' := [(5, .int 0), (4, .int 0), (3, .int (nI (5 * k))), (2, .int (nI k)), (1, .int (nI (mRn σ))), (0, .ref (base + adm 0 0))]) hx hb d_Mo_readRules_142 hl (by decide) rfl (fun ls hl => ?_)
                      refine inner k hkN (mRu σ (mRn σ) k) (fun ls hl => ?_) (k + 1) 0 (by omega) (by omega) 0 ((b2i_f (fun y => c_111 y.1.2.2.2.1)).symm) ls (lv_sub hl [0, 1, 5, 4, 3, 2] rfl)
                      refine lv_iload hx hb d_Mo_readRules_199 (lv_at hl 0 rfl) ?_
                      refine lv_if_ne (tgt := 206) hx hb d_Mo_readRules_201 (by decide) (fun c_201 => ?_) (fun c_201 => ?_)
                      · skip
                        have c_201 := b2i_ne.mp c_201
                        refine lv_iinc (v := nI (k + 1)) (lv' := [(2, .int (nI (k + 1))), (4, .int (b2i (mRk σ (mRn σ) k))), (0, .ref (base + adm 0 0)), (1, .int (nI (mRn σ))), (3, .int (nI (5 * k)))]) hx hb d_Mo_readRules_206 hl (k := 3) rfl (by exact nI_1 k) (by decide) rfl (fun ls hl => ?_)
                        refine lv_goto (tgt := 31) hx hb d_Mo_readRules_209 (by decide) ?_
                        exact ih (k + 1) (by omega) (by omega) (lt_s hinv c_201) ls (lv_sub hl [0, 3, 2] rfl)
                      · skip
                        have c_201 := b2i_z.mp c_201
                        refine lv_iconst (v := 0) hx hb d_Mo_readRules_204 (by decide) ?_
                        exact rP_i C0 (⟨by decide, by decide⟩) (⟨rfl, congrArg some (by unfold mRR; rw [if_neg c_14, if_pos c_24, if_neg (fun y => c_201 (y k hkN))])⟩) d_Mo_readRules_205
                    · skip
                      have c_111 := b2i_ne.mp c_111
                      refine lv_iload_n hx hb d_Mo_readRules_114 rfl (lv_at hl 1 rfl) ?_
                      refine lv_iload_n hx hb d_Mo_readRules_115 rfl (lv_at hl 2 rfl) ?_
                      refine lv_iconst (v := 1) hx hb d_Mo_readRules_116 (by decide) ?_
                      refine lv_isub hx hb d_Mo_readRules_117 ?_
                      refine lv_icmp_eq (tgt := 134) hx hb d_Mo_readRules_118 (by decide) (fun c_118 => ?_) (fun c_118 => ?_)
                      · skip
                        refine lv_iconst (v := 1) hx hb d_Mo_readRules_134 (by decide) ?_
                        refine lv_goto (tgt := 139) hx hb d_Mo_readRules_135 (by decide) ?_
                        refine lv_istore (lv' := [(4, .int 1), (3, .int (nI (5 * k))), (2, .int (nI k)), (1, .int (nI (mRn σ))), (0, .ref (base + adm 0 0))]) hx hb d_Mo_readRules_139 hl (by decide) rfl (fun ls hl => ?_)
                        refine lv_iconst (v := 0) hx hb d_Mo_readRules_141 (by decide) ?_
                        refine lv_istore (lv' := [(5, .int 0), (4, .int 1), (3, .int (nI (5 * k))), (2, .int (nI k)), (1, .int (nI (mRn σ))), (0, .ref (base + adm 0 0))]) hx hb d_Mo_readRules_142 hl (by decide) rfl (fun ls hl => ?_)
                        refine inner k hkN (mRu σ (mRn σ) k) (fun ls hl => ?_) (k + 1) 0 (by omega) (by omega) 1 ((b2i_t ⟨⟨c_53, c_67, Or.inr c_93, c_111, Or.inl c_118⟩, fun j hj => absurd hj (Nat.not_lt_zero j)⟩).symm) ls (lv_sub hl [0, 1, 5, 4, 3, 2] rfl)
                        refine lv_iload hx hb d_Mo_readRules_199 (lv_at hl 0 rfl) ?_
                        refine lv_if_ne (tgt := 206) hx hb d_Mo_readRules_201 (by decide) (fun c_201 => ?_) (fun c_201 => ?_)
                        · skip
                          have c_201 := b2i_ne.mp c_201
                          refine lv_iinc (v := nI (k + 1)) (lv' := [(2, .int (nI (k + 1))), (4, .int (b2i (mRk σ (mRn σ) k))), (0, .ref (base + adm 0 0)), (1, .int (nI (mRn σ))), (3, .int (nI (5 * k)))]) hx hb d_Mo_readRules_206 hl (k := 3) rfl (by exact nI_1 k) (by decide) rfl (fun ls hl => ?_)
                          refine lv_goto (tgt := 31) hx hb d_Mo_readRules_209 (by decide) ?_
                          exact ih (k + 1) (by omega) (by omega) (lt_s hinv c_201) ls (lv_sub hl [0, 3, 2] rfl)
                        · skip
                          have c_201 := b2i_z.mp c_201
                          refine lv_iconst (v := 0) hx hb d_Mo_readRules_204 (by decide) ?_
                          exact rP_i C0 (⟨by decide, by decide⟩) (⟨rfl, congrArg some (by unfold mRR; rw [if_neg c_14, if_pos c_24, if_neg (fun y => c_201 (y k hkN))])⟩) d_Mo_readRules_205
                      · skip
                        have hk4 : 5 * k + 4 < 36 := last4 hNN.1 ht.2 hkN c_118
                        refine lv_aload_n hx hb d_Mo_readRules_121 rfl (lv_at hl 3 rfl) ?_
                        refine mq_get C0 hP (kd := 0) (i := 0) (ci := 4) (by decide) (by decide) rfl rfl 0 (by decide) rfl k_fl_Mo_7 rfl d_Mo_readRules_122 ?_
                        refine lv_iload_n hx hb d_Mo_readRules_125 rfl (lv_at hl 0 rfl) ?_
                        refine lv_iconst (v := 4) hx hb d_Mo_readRules_126 (by decide) ?_
                        refine lv_iadd hx hb d_Mo_readRules_127 ?_
                        rw [show ((nI (5 * k)) + 4 : Int32) = nI (5 * k + 4) from nI_aj (j := 4)]
                        refine mq_iald C0 hP (kd := 1) (i := 0) (by decide) (by decide) rfl (vin_nI hk4) d_Mo_readRules_128 ?_
                        rw [show (nI (5 * k + 4)).toNatClampNeg = (5 * k + 4) from nI_clamp (by omega)]
                        refine lv_bipush (v := 44) hx hb d_Mo_readRules_129 (by decide) ?_
                        refine lv_icmp_ne (tgt := 138) hx hb d_Mo_readRules_131 (by decide) (fun c_131 => ?_) (fun c_131 => ?_)
                        · skip
                          refine lv_iconst (v := 0) hx hb d_Mo_readRules_138 (by decide) ?_
                          refine lv_istore (lv' := [(4, .int 0), (3, .int (nI (5 * k))), (2, .int (nI k)), (1, .int (nI (mRn σ))), (0, .ref (base + adm 0 0))]) hx hb d_Mo_readRules_139 hl (by decide) rfl (fun ls hl => ?_)
                          refine lv_iconst (v := 0) hx hb d_Mo_readRules_141 (by decide) ?_
                          refine lv_istore (lv' := [(5, .int 0), (4, .int 0), (3, .int (nI (5 * k))), (2, .int (nI k)), (1, .int (nI (mRn σ))), (0, .ref (base + adm 0 0))]) hx hb d_Mo_readRules_142 hl (by decide) rfl (fun ls hl => ?_)
                          refine inner k hkN (mRu σ (mRn σ) k) (fun ls hl => ?_) (k + 1) 0 (by omega) (by omega) 0 ((b2i_f (fun y => y.1.2.2.2.2.elim c_118 c_131)).symm) ls (lv_sub hl [0, 1, 5, 4, 3, 2] rfl)
                          refine lv_iload hx hb d_Mo_readRules_199 (lv_at hl 0 rfl) ?_
                          refine lv_if_ne (tgt := 206) hx hb d_Mo_readRules_201 (by decide) (fun c_201 => ?_) (fun c_201 => ?_)
                          · skip
                            have c_201 := b2i_ne.mp c_201
                            refine lv_iinc (v := nI (k + 1)) (lv' := [(2, .int (nI (k + 1))), (4, .int (b2i (mRk σ (mRn σ) k))), (0, .ref (base + adm 0 0)), (1, .int (nI (mRn σ))), (3, .int (nI (5 * k)))]) hx hb d_Mo_readRules_206 hl (k := 3) rfl (by exact nI_1 k) (by decide) rfl (fun ls hl => ?_)
                            refine lv_goto (tgt := 31) hx hb d_Mo_readRules_209 (by decide) ?_
                            exact ih (k + 1) (by omega) (by omega) (lt_s hinv c_201) ls (lv_sub hl [0, 3, 2] rfl)
                          · skip
                            have c_201 := b2i_z.mp c_201
                            refine lv_iconst (v := 0) hx hb d_Mo_readRules_204 (by decide) ?_
                            exact rP_i C0 (⟨by decide, by decide⟩) (⟨rfl, congrArg some (by unfold mRR; rw [if_neg c_14, if_pos c_24, if_neg (fun y => c_201 (y k hkN))])⟩) d_Mo_readRules_205
                        · skip
                          refine lv_iconst (v := 1) hx hb d_Mo_readRules_134 (by decide) ?_
                          refine lv_goto (tgt := 139) hx hb d_Mo_readRules_135 (by decide) ?_
                          refine lv_istore (lv' := [(4, .int 1), (3, .int (nI (5 * k))), (2, .int (nI k)), (1, .int (nI (mRn σ))), (0, .ref (base + adm 0 0))]) hx hb d_Mo_readRules_139 hl (by decide) rfl (fun ls hl => ?_)
                          refine lv_iconst (v := 0) hx hb d_Mo_readRules_141 (by decide) ?_
                          refine lv_istore (lv' := [(5, .int 0), (4, .int 1), (3, .int (nI (5 * k))), (2, .int (nI k)), (1, .int (nI (mRn σ))), (0, .ref (base + adm 0 0))]) hx hb d_Mo_readRules_142 hl (by decide) rfl (fun ls hl => ?_)
                          refine inner k hkN (mRu σ (mRn σ) k) (fun ls hl => ?_) (k + 1) 0 (by omega) (by omega) 1 ((b2i_t ⟨⟨c_53, c_67, Or.inr c_93, c_111, Or.inr c_131⟩, fun j hj => absurd hj (Nat.not_lt_zero j)⟩).symm) ls (lv_sub hl [0, 1, 5, 4, 3, 2] rfl)
                          refine lv_iload hx hb d_Mo_readRules_199 (lv_at hl 0 rfl) ?_
                          refine lv_if_ne (tgt := 206) hx hb d_Mo_readRules_201 (by decide) (fun c_201 => ?_) (fun c_201 => ?_)
                          · skip
                            have c_201 := b2i_ne.mp c_201
                            refine lv_iinc (v := nI (k + 1)) (lv' := [(2, .int (nI (k + 1))), (4, .int (b2i (mRk σ (mRn σ) k))), (0, .ref (base + adm 0 0)), (1, .int (nI (mRn σ))), (3, .int (nI (5 * k)))]) hx hb d_Mo_readRules_206 hl (k := 3) rfl (by exact nI_1 k) (by decide) rfl (fun ls hl => ?_)
                            refine lv_goto (tgt := 31) hx hb d_Mo_readRules_209 (by decide) ?_
                            exact ih (k + 1) (by omega) (by omega) (lt_s hinv c_201) ls (lv_sub hl [0, 3, 2] rfl)
                          · skip
                            have c_201 := b2i_z.mp c_201
                            refine lv_iconst (v := 0) hx hb d_Mo_readRules_204 (by decide) ?_
                            exact rP_i C0 (⟨by decide, by decide⟩) (⟨rfl, congrArg some (by unfold mRR; rw [if_neg c_14, if_pos c_24, if_neg (fun y => c_201 (y k hkN))])⟩) d_Mo_readRules_205
      exact loop (mRn σ + 1) 0 (by omega) (by omega) (fun j hj => absurd hj (Nat.not_lt_zero j)) ls (lv_sub hl [0, 1, 2] rfl)
    · skip
      refine lv_iconst (v := 0) hx hb d_Mo_readRules_27 (by decide) ?_
      exact rP_i C0 (⟨by decide, by decide⟩) (⟨rfl, congrArg some (by unfold mRR; rw [if_neg c_14, if_neg c_24])⟩) d_Mo_readRules_28
