/-! The model's small methods: laid by gen/m41.py. -/
abbrev inR (x lo hi : Int32) : Prop := ¬ x < lo ∧ ¬ hi < x
def mFail (σ : Mem) (k : Int32) : Int32 × Mem := (0, up σ 0 0 1 k)
def mFree (σ : Mem) (b : Int32) : Mem := up (up (up σ 7 0 b.toNatClampNeg (-1)) 8 0 b.toNatClampNeg 0) 0 0 7 (σ 0 0 7 + 1)
def mCl (σ : Mem) (x : Int32) : Mem := up (up (up (up σ 10 0 x.toNatClampNeg (-1)) 0 0 7 (σ 0 0 7 + 1)) 15 0 (σ 0 0 6).toNatClampNeg x) 0 0 6 (σ 0 0 6 + 1)
abbrev mCells (σ : Mem) : Nat → Int32 := bx_sum (fun j => σ 8 0 j)
def mLet (x : Int32) : Int32 := if inR x 97 99 then x - 97 else if inR x 65 67 then 3 + x - 65 else if x = 69 then 6 else -1
def mNY (σ : Mem) (q b : Int32) : Int32 × Mem := if inR q 0 3 then (if inR b 0 11 then (if σ 6 0 q.toNatClampNeg = 0 then (1, up (up σ 0 0 1 0) 0 0 1 2) else if σ 7 0 b.toNatClampNeg = q then (0, up σ 0 0 1 0) else (1, up (up σ 0 0 1 0) 0 0 1 2)) else (1, up σ 0 0 1 1)) else (1, up σ 0 0 1 1)
def mNE (σ : Mem) (q b : Int32) : Int32 × Mem := if inR q 0 3 then (if inR b 0 11 then (if σ 6 0 q.toNatClampNeg = 0 then (1, up (up σ 0 0 1 0) 0 0 1 2) else if σ 10 0 b.toNatClampNeg = q then (0, up σ 0 0 1 0) else (1, up (up σ 0 0 1 0) 0 0 1 2)) else (1, up σ 0 0 1 1)) else (1, up σ 0 0 1 1)
theorem vin_R {x hi : Int32} {n : Nat} (h : inR x 0 hi) (hh : hi.toInt + 1 = n := by decide) : vp_in x n := by
  refine vin_rg h.1 ?_
  have h2 := h.2
  rw [Int32.lt_iff_toInt_lt] at h2
  omega
set_option maxHeartbeats 4000000 in
set_option maxRecDepth 100000 in
theorem c_Mo_thrown {S0 : State} {A0 : Array Value} {D : va_G} {ar : Nat → ClassId} {base : Nat} {σ : Mem} {l : Launch} (hlt : l.stackTraces = false)  :
    MX l y_Mo_thrown [Cond.code y_Mo_thrown b_Mo_thrown 1 (some .int)] (rmL 0) (PO S0 A0 D ar base σ [.ref (base + adm 0 0)]) (QP (fun k r => k = 0 ∧ r = some (σ 0 0 1))) (fun _ => False) := by
  refine mx_head hlt (by decide +kernel) (Nat.le_of_ble_eq_true rfl) ?_
  intro p ev s m below meth c ls C0 hP hl
  have C0 : Cx S0 A0 D ar base p l s m _ meth c R_Mo b_Mo_thrown 1 (some .int) := C0
  obtain ⟨hx, hb, -⟩ := id C0
  have hl : lv_has ls 1 [(0, .ref (base + adm 0 0))] := hl
  refine lv_aload_n hx hb d_Mo_thrown_0 rfl (lv_at hl 0 rfl) ?_
  refine mq_get C0 hP (kd := 0) (i := 0) (ci := 4) (by decide) (by decide) rfl rfl 16 (by decide) rfl k_fl_Mo_56 rfl d_Mo_thrown_1 ?_
  exact rP_i C0 (⟨by decide, by decide⟩) (⟨rfl, rfl⟩) d_Mo_thrown_4
set_option maxHeartbeats 4000000 in
set_option maxRecDepth 100000 in
theorem c_Mo_in {S0 : State} {A0 : Array Value} {D : va_G} {ar : Nat → ClassId} {base : Nat} {σ : Mem} {l : Launch} (hlt : l.stackTraces = false) {x lo hi : Int32} :
    MX l y_Mo_in [Cond.code y_Mo_in b_Mo_in 3 (some .boolean)] (rmL 0) (PO S0 A0 D ar base σ [.int x, .int lo, .int hi]) (QP (fun k r => k = 0 ∧ r = some (b2i (inR x lo hi)))) (fun _ => False) := by
  refine mx_head hlt (by decide +kernel) (Nat.le_of_ble_eq_true rfl) ?_
  intro p ev s m below meth c ls C0 hP hl
  have C0 : Cx S0 A0 D ar base p l s m _ meth c R_Mo b_Mo_in 3 (some .boolean) := C0
  obtain ⟨hx, hb, -⟩ := id C0
  have hl : lv_has ls 3 [(0, .int x), (1, .int lo), (2, .int hi)] := hl
  refine lv_iload_n hx hb d_Mo_in_0 rfl (lv_at hl 0 rfl) ?_
  refine lv_iload_n hx hb d_Mo_in_1 rfl (lv_at hl 1 rfl) ?_
  refine lv_icmp_lt (tgt := 14) hx hb d_Mo_in_2 (by decide) (fun c_2 => ?_) (fun c_2 => ?_)
  · skip
    refine lv_iconst (v := 0) hx hb d_Mo_in_14 (by decide) ?_
    exact rP_z C0 (⟨by decide, by decide⟩) (Or.inl rfl) (⟨rfl, congrArg some ((b2i_f (fun z => z.1 c_2)).symm)⟩) d_Mo_in_15
  · skip
    refine lv_iload_n hx hb d_Mo_in_5 rfl (lv_at hl 0 rfl) ?_
    refine lv_iload_n hx hb d_Mo_in_6 rfl (lv_at hl 2 rfl) ?_
    refine lv_icmp_gt (tgt := 14) hx hb d_Mo_in_7 (by decide) (fun c_7 => ?_) (fun c_7 => ?_)
    · skip
      refine lv_iconst (v := 0) hx hb d_Mo_in_14 (by decide) ?_
      exact rP_z C0 (⟨by decide, by decide⟩) (Or.inl rfl) (⟨rfl, congrArg some ((b2i_f (fun z => z.2 c_7)).symm)⟩) d_Mo_in_15
    · skip
      refine lv_iconst (v := 1) hx hb d_Mo_in_10 (by decide) ?_
      refine lv_goto (tgt := 15) hx hb d_Mo_in_11 (by decide) ?_
      exact rP_z C0 (⟨by decide, by decide⟩) (Or.inr rfl) (⟨rfl, congrArg some ((b2i_t ⟨c_2, c_7⟩).symm)⟩) d_Mo_in_15
set_option maxHeartbeats 4000000 in
set_option maxRecDepth 100000 in
theorem c_Mo_bad {S0 : State} {A0 : Array Value} {D : va_G} {ar : Nat → ClassId} {base : Nat} {σ : Mem} {l : Launch} (hlt : l.stackTraces = false) {P : Prop} [Decidable P] :
    MX l y_Mo_bad [Cond.code y_Mo_bad b_Mo_bad 2 (some .boolean)] (rmL 0) (PO S0 A0 D ar base σ [.ref (base + adm 0 0), .int (b2i (P))]) (QO D ar base (fun k r σ' => k = 0 ∧ r = some (b2i (¬ P)) ∧ σ' = up σ 0 0 1 (b2i (¬ P)))) (inB base 16) := by
  refine mx_head hlt (by decide +kernel) (Nat.le_of_ble_eq_true rfl) ?_
  intro p ev s m below meth c ls C0 hP hl
  have C0 : Cx S0 A0 D ar base p l s m _ meth c R_Mo b_Mo_bad 2 (some .boolean) := C0
  obtain ⟨hx, hb, -⟩ := id C0
  have hl : lv_has ls 2 [(0, .ref (base + adm 0 0)), (1, .int (b2i (P)))] := hl
  have hS : va_S (inB base 16) s.heap s.heap [] := va_S.rf
  refine lv_aload_n hx hb d_Mo_bad_0 rfl (lv_at hl 0 rfl) ?_
  refine lv_iload_n hx hb d_Mo_bad_1 rfl (lv_at hl 1 rfl) ?_
  refine lv_if_eq (tgt := 9) hx hb d_Mo_bad_2 (by decide) (fun c_2 => ?_) (fun c_2 => ?_)
  · skip
    have c_2 := b2i_z.mp c_2
    refine lv_iconst (v := 1) hx hb d_Mo_bad_9 (by decide) ?_
    refine mq_put C0 hP hS (kd := 0) (i := 0) (ci := 4) 0 1 (by decide) rfl (by decide) rfl rfl t_Mo t_Mo_ok n_Mo 16 (by decide) rfl k_fl_Mo_56 rfl (by decide +kernel) (Nat.le_of_ble_eq_true rfl) (by simp [conto, up]) d_Mo_bad_10 (fun H locs hP hS => ?_)
    refine lv_iload_n hx hb d_Mo_bad_13 rfl (lv_at hl 1 rfl) ?_
    refine lv_if_ne (tgt := 21) hx hb d_Mo_bad_14 (by decide) (fun c_14 => ?_) (fun c_14 => ?_)
    · skip
      have c_14 := b2i_ne.mp c_14
      refine lv_iconst (v := 0) hx hb d_Mo_bad_21 (by decide) ?_
      exact mrI_z C0 hP hS (⟨by decide, by decide⟩) (Or.inl rfl) (absurd c_14 c_2) d_Mo_bad_22
    · skip
      have c_14 := b2i_z.mp c_14
      refine lv_iconst (v := 1) hx hb d_Mo_bad_17 (by decide) ?_
      refine lv_goto (tgt := 22) hx hb d_Mo_bad_18 (by decide) ?_
      exact mrI_z C0 hP hS (⟨by decide, by decide⟩) (Or.inr rfl) (⟨rfl, congrArg some (b2i_t c_2).symm, by rw [b2i_t c_2]⟩) d_Mo_bad_22
  · skip
    have c_2 := b2i_ne.mp c_2
    refine lv_iconst (v := 0) hx hb d_Mo_bad_5 (by decide) ?_
    refine lv_goto (tgt := 10) hx hb d_Mo_bad_6 (by decide) ?_
    refine mq_put C0 hP hS (kd := 0) (i := 0) (ci := 4) 0 1 (by decide) rfl (by decide) rfl rfl t_Mo t_Mo_ok n_Mo 16 (by decide) rfl k_fl_Mo_56 rfl (by decide +kernel) (Nat.le_of_ble_eq_true rfl) (by simp [conto, up]) d_Mo_bad_10 (fun H locs hP hS => ?_)
    refine lv_iload_n hx hb d_Mo_bad_13 rfl (lv_at hl 1 rfl) ?_
    refine lv_if_ne (tgt := 21) hx hb d_Mo_bad_14 (by decide) (fun c_14 => ?_) (fun c_14 => ?_)
    · skip
      have c_14 := b2i_ne.mp c_14
      refine lv_iconst (v := 0) hx hb d_Mo_bad_21 (by decide) ?_
      exact mrI_z C0 hP hS (⟨by decide, by decide⟩) (Or.inl rfl) (⟨rfl, congrArg some (b2i_f (fun z => z c_2)).symm, by rw [b2i_f (fun z => z c_2)]⟩) d_Mo_bad_22
    · skip
      have c_14 := b2i_z.mp c_14
      refine lv_iconst (v := 1) hx hb d_Mo_bad_17 (by decide) ?_
      refine lv_goto (tgt := 22) hx hb d_Mo_bad_18 (by decide) ?_
      exact mrI_z C0 hP hS (⟨by decide, by decide⟩) (Or.inr rfl) (absurd c_2 c_14) d_Mo_bad_22
set_option maxHeartbeats 4000000 in
set_option maxRecDepth 100000 in
theorem c_Mo_fail {S0 : State} {A0 : Array Value} {D : va_G} {ar : Nat → ClassId} {base : Nat} {σ : Mem} {l : Launch} (hlt : l.stackTraces = false) {x : Int32} :
    MX l y_Mo_fail [Cond.code y_Mo_fail b_Mo_fail 2 (some .int)] (rmL 0) (PO S0 A0 D ar base σ [.ref (base + adm 0 0), .int x]) (QO D ar base (fun k r σ' => k = 0 ∧ r = some (mFail σ x).1 ∧ σ' = (mFail σ x).2)) (inB base 16) := by
  refine mx_head hlt (by decide +kernel) (Nat.le_of_ble_eq_true rfl) ?_
  intro p ev s m below meth c ls C0 hP hl
  have C0 : Cx S0 A0 D ar base p l s m _ meth c R_Mo b_Mo_fail 2 (some .int) := C0
  obtain ⟨hx, hb, -⟩ := id C0
  have hl : lv_has ls 2 [(0, .ref (base + adm 0 0)), (1, .int x)] := hl
  have hS : va_S (inB base 16) s.heap s.heap [] := va_S.rf
  refine lv_aload_n hx hb d_Mo_fail_0 rfl (lv_at hl 0 rfl) ?_
  refine lv_iload_n hx hb d_Mo_fail_1 rfl (lv_at hl 1 rfl) ?_
  refine mq_put C0 hP hS (kd := 0) (i := 0) (ci := 4) 0 1 (by decide) rfl (by decide) rfl rfl t_Mo t_Mo_ok n_Mo 16 (by decide) rfl k_fl_Mo_56 rfl (by decide +kernel) (Nat.le_of_ble_eq_true rfl) (by simp [conto, up]) d_Mo_fail_2 (fun H locs hP hS => ?_)
  refine lv_iconst (v := 0) hx hb d_Mo_fail_5 (by decide) ?_
  exact mrI_i C0 hP hS (⟨by decide, by decide⟩) (⟨rfl, congrArg some (by unfold mFail; first | done | rfl), by unfold mFail; first | done | rfl⟩) d_Mo_fail_6
set_option maxHeartbeats 4000000 in
set_option maxRecDepth 100000 in
theorem c_Mo_letterOf {S0 : State} {A0 : Array Value} {D : va_G} {ar : Nat → ClassId} {base : Nat} {σ : Mem} {l : Launch} (hlt : l.stackTraces = false) {x : Int32} :
    MX l y_Mo_letterOf [Cond.code y_Mo_letterOf b_Mo_letterOf 1 (some .int)] (rmL 1) (PO S0 A0 D ar base σ [.int x]) (QP (fun k r => k = 0 ∧ r = some (mLet x))) (fun _ => False) := by
  refine mx_head hlt (by decide +kernel) (Nat.le_of_ble_eq_true rfl) ?_
  intro p ev s m below meth c ls C0 hP hl
  have C0 : Cx S0 A0 D ar base p l s m _ meth c R_Mo b_Mo_letterOf 1 (some .int) := C0
  obtain ⟨hx, hb, -⟩ := id C0
  have hl : lv_has ls 1 [(0, .int x)] := hl
  refine lv_iload_n hx hb d_Mo_letterOf_0 rfl (lv_at hl 0 rfl) ?_
  refine lv_bipush (v := 97) hx hb d_Mo_letterOf_1 (by decide) ?_
  refine lv_bipush (v := 99) hx hb d_Mo_letterOf_3 (by decide) ?_
  refine ms_PP C0 hP (cs_S C0 (As := [.int x, .int 97, .int 99]) k_ml_Mo_60 k_st_Mo_in k_cd_Mo_in k_in_Mo z_Mo_in rfl d_Mo_letterOf_5) (c_Mo_in hlt) hl.1 d_Mo_letterOf_5 (Nat.le_of_ble_eq_true rfl) (⟨by decide, by decide⟩) (⟨by decide, by decide⟩) (fun k r hk hp => absurd hp.1 hk) (fun r_2 h_1 => ?_)
  obtain ⟨-, rfl⟩ := h_1
  refine lv_if_eq (tgt := 18) hx hb d_Mo_letterOf_8 (by decide) (fun c_8 => ?_) (fun c_8 => ?_)
  · skip
    have c_8 := b2i_z.mp c_8
    refine lv_iload_n hx hb d_Mo_letterOf_18 rfl (lv_at hl 0 rfl) ?_
    refine lv_bipush (v := 65) hx hb d_Mo_letterOf_19 (by decide) ?_
    refine lv_bipush (v := 67) hx hb d_Mo_letterOf_21 (by decide) ?_
    refine ms_PP C0 hP (cs_S C0 (As := [.int x, .int 65, .int 67]) k_ml_Mo_60 k_st_Mo_in k_cd_Mo_in k_in_Mo z_Mo_in rfl d_Mo_letterOf_23) (c_Mo_in hlt) hl.1 d_Mo_letterOf_23 (Nat.le_of_ble_eq_true rfl) (⟨by decide, by decide⟩) (⟨by decide, by decide⟩) (fun k r hk hp => absurd hp.1 hk) (fun r_4 h_3 => ?_)
    obtain ⟨-, rfl⟩ := h_3
    refine lv_if_eq (tgt := 38) hx hb d_Mo_letterOf_26 (by decide) (fun c_26 => ?_) (fun c_26 => ?_)
    · skip
      have c_26 := b2i_z.mp c_26
      refine lv_iload_n hx hb d_Mo_letterOf_38 rfl (lv_at hl 0 rfl) ?_
      refine lv_bipush (v := 69) hx hb d_Mo_letterOf_39 (by decide) ?_
      refine lv_icmp_ne (tgt := 49) hx hb d_Mo_letterOf_41 (by decide) (fun c_41 => ?_) (fun c_41 => ?_)
      · skip
        refine lv_iconst (v := (-1)) hx hb d_Mo_letterOf_49 (by decide) ?_
        exact rP_i C0 (⟨by decide, by decide⟩) (⟨rfl, congrArg some (by unfold mLet; rw [if_neg c_8, if_neg c_26, if_neg c_41])⟩) d_Mo_letterOf_50
      · skip
        refine lv_bipush (v := 6) hx hb d_Mo_letterOf_44 (by decide) ?_
        refine lv_goto (tgt := 50) hx hb d_Mo_letterOf_46 (by decide) ?_
        exact rP_i C0 (⟨by decide, by decide⟩) (⟨rfl, congrArg some (by unfold mLet; rw [if_neg c_8, if_neg c_26, if_pos c_41])⟩) d_Mo_letterOf_50
    · skip
      have c_26 := b2i_ne.mp c_26
      refine lv_iconst (v := 3) hx hb d_Mo_letterOf_29 (by decide) ?_
      refine lv_iload_n hx hb d_Mo_letterOf_30 rfl (lv_at hl 0 rfl) ?_
      refine lv_iadd hx hb d_Mo_letterOf_31 ?_
      refine lv_bipush (v := 65) hx hb d_Mo_letterOf_32 (by decide) ?_
      refine lv_isub hx hb d_Mo_letterOf_34 ?_
      refine lv_goto (tgt := 50) hx hb d_Mo_letterOf_35 (by decide) ?_
      exact rP_i C0 (⟨by decide, by decide⟩) (⟨rfl, congrArg some (by unfold mLet; rw [if_neg c_8, if_pos c_26])⟩) d_Mo_letterOf_50
  · skip
    have c_8 := b2i_ne.mp c_8
    refine lv_iload_n hx hb d_Mo_letterOf_11 rfl (lv_at hl 0 rfl) ?_
    refine lv_bipush (v := 97) hx hb d_Mo_letterOf_12 (by decide) ?_
    refine lv_isub hx hb d_Mo_letterOf_14 ?_
    refine lv_goto (tgt := 50) hx hb d_Mo_letterOf_15 (by decide) ?_
    exact rP_i C0 (⟨by decide, by decide⟩) (⟨rfl, congrArg some (by unfold mLet; rw [if_pos c_8])⟩) d_Mo_letterOf_50
set_option maxHeartbeats 4000000 in
set_option maxRecDepth 100000 in
theorem c_Mo_freeBlock {S0 : State} {A0 : Array Value} {D : va_G} {ar : Nat → ClassId} {base : Nat} {σ : Mem} {l : Launch} (hlt : l.stackTraces = false) {b : Int32} (hb0 : vp_in b 12) :
    MX l y_Mo_freeBlock [Cond.code y_Mo_freeBlock b_Mo_freeBlock 2 none] (rmL 0) (PO S0 A0 D ar base σ [.ref (base + adm 0 0), .int b]) (QO D ar base (fun k r σ' => k = 0 ∧ r = none ∧ σ' = mFree σ b)) (inB base 16) := by
  refine mx_head hlt (by decide +kernel) (Nat.le_of_ble_eq_true rfl) ?_
  intro p ev s m below meth c ls C0 hP hl
  have C0 : Cx S0 A0 D ar base p l s m _ meth c R_Mo b_Mo_freeBlock 2 none := C0
  obtain ⟨hx, hb, -⟩ := id C0
  have hl : lv_has ls 2 [(0, .ref (base + adm 0 0)), (1, .int b)] := hl
  have hS : va_S (inB base 16) s.heap s.heap [] := va_S.rf
  refine lv_aload_n hx hb d_Mo_freeBlock_0 rfl (lv_at hl 0 rfl) ?_
  refine mq_get C0 hP (kd := 0) (i := 0) (ci := 4) (by decide) (by decide) rfl rfl 6 (by decide) rfl k_fl_Mo_29 rfl d_Mo_freeBlock_1 ?_
  refine lv_iload_n hx hb d_Mo_freeBlock_4 rfl (lv_at hl 1 rfl) ?_
  refine lv_iconst (v := (-1)) hx hb d_Mo_freeBlock_5 (by decide) ?_
  refine mq_iast C0 hP hS (kd := 7) (i := 0) 7 (by decide) rfl (by decide) rfl (hb0) (by rw [ast_fn]; rfl) d_Mo_freeBlock_6 (fun H locs hP hS => ?_)
  refine lv_aload_n hx hb d_Mo_freeBlock_7 rfl (lv_at hl 0 rfl) ?_
  refine mq_get C0 hP (kd := 0) (i := 0) (ci := 4) (by decide) (by decide) rfl rfl 7 (by decide) rfl k_fl_Mo_32 rfl d_Mo_freeBlock_8 ?_
  refine lv_iload_n hx hb d_Mo_freeBlock_11 rfl (lv_at hl 1 rfl) ?_
  refine lv_iconst (v := 0) hx hb d_Mo_freeBlock_12 (by decide) ?_
  refine mq_iast C0 hP hS (kd := 8) (i := 0) 8 (by decide) rfl (by decide) rfl (hb0) (by rw [ast_fn]; rfl) d_Mo_freeBlock_13 (fun H locs hP hS => ?_)
  refine lv_aload_n hx hb d_Mo_freeBlock_14 rfl (lv_at hl 0 rfl) ?_
  refine lv_dup hx hb d_Mo_freeBlock_15 rfl ?_
  refine mq_get C0 hP (kd := 0) (i := 0) (ci := 4) (by decide) (by decide) rfl rfl 22 (by decide) rfl k_fl_Mo_85 rfl d_Mo_freeBlock_16 ?_
  refine W.eq (g2 := F0 m 19 ls [.int (σ 0 0 7), .ref (base + adm 0 0)]) rfl ?_
  refine lv_iconst (v := 1) hx hb d_Mo_freeBlock_19 (by decide) ?_
  refine lv_iadd hx hb d_Mo_freeBlock_20 ?_
  refine mq_put C0 hP hS (kd := 0) (i := 0) (ci := 4) 0 7 (by decide) rfl (by decide) rfl rfl t_Mo t_Mo_ok n_Mo 22 (by decide) rfl k_fl_Mo_85 rfl (by decide +kernel) (Nat.le_of_ble_eq_true rfl) (by simp [conto, up]) d_Mo_freeBlock_21 (fun H locs hP hS => ?_)
  exact mrI_v C0 hP hS (⟨by decide, by decide⟩) (⟨rfl, rfl, by unfold mFree; first | done | rfl⟩) d_Mo_freeBlock_24
set_option maxHeartbeats 4000000 in
set_option maxRecDepth 100000 in
theorem c_Mo_closeEnd {S0 : State} {A0 : Array Value} {D : va_G} {ar : Nat → ClassId} {base : Nat} {σ : Mem} {l : Launch} (hlt : l.stackTraces = false) {x : Int32} (hx0 : vp_in x 12) (htc : vp_in (σ 0 0 6) 12) :
    MX l y_Mo_closeEnd [Cond.code y_Mo_closeEnd b_Mo_closeEnd 2 none] (rmL 0) (PO S0 A0 D ar base σ [.ref (base + adm 0 0), .int x]) (QO D ar base (fun k r σ' => k = 0 ∧ r = none ∧ σ' = mCl σ x)) (inB base 16) := by
  refine mx_head hlt (by decide +kernel) (Nat.le_of_ble_eq_true rfl) ?_
  intro p ev s m below meth c ls C0 hP hl
  have C0 : Cx S0 A0 D ar base p l s m _ meth c R_Mo b_Mo_closeEnd 2 none := C0
  obtain ⟨hx, hb, -⟩ := id C0
  have hl : lv_has ls 2 [(0, .ref (base + adm 0 0)), (1, .int x)] := hl
  have hS : va_S (inB base 16) s.heap s.heap [] := va_S.rf
  refine lv_aload_n hx hb d_Mo_closeEnd_0 rfl (lv_at hl 0 rfl) ?_
  refine mq_get C0 hP (kd := 0) (i := 0) (ci := 4) (by decide) (by decide) rfl rfl 9 (by decide) rfl k_fl_Mo_38 rfl d_Mo_closeEnd_1 ?_
  refine lv_iload_n hx hb d_Mo_closeEnd_4 rfl (lv_at hl 1 rfl) ?_
  refine lv_iconst (v := (-1)) hx hb d_Mo_closeEnd_5 (by decide) ?_
  refine mq_iast C0 hP hS (kd := 10) (i := 0) 10 (by decide) rfl (by decide) rfl (hx0) (by rw [ast_fn]; rfl) d_Mo_closeEnd_6 (fun H locs hP hS => ?_)
  refine lv_aload_n hx hb d_Mo_closeEnd_7 rfl (lv_at hl 0 rfl) ?_
  refine lv_dup hx hb d_Mo_closeEnd_8 rfl ?_
  refine mq_get C0 hP (kd := 0) (i := 0) (ci := 4) (by decide) (by decide) rfl rfl 22 (by decide) rfl k_fl_Mo_85 rfl d_Mo_closeEnd_9 ?_
  refine W.eq (g2 := F0 m 12 ls [.int (σ 0 0 7), .ref (base + adm 0 0)]) rfl ?_
  refine lv_iconst (v := 1) hx hb d_Mo_closeEnd_12 (by decide) ?_
  refine lv_iadd hx hb d_Mo_closeEnd_13 ?_
  refine mq_put C0 hP hS (kd := 0) (i := 0) (ci := 4) 0 7 (by decide) rfl (by decide) rfl rfl t_Mo t_Mo_ok n_Mo 22 (by decide) rfl k_fl_Mo_85 rfl (by decide +kernel) (Nat.le_of_ble_eq_true rfl) (by simp [conto, up]) d_Mo_closeEnd_14 (fun H locs hP hS => ?_)
  refine lv_aload_n hx hb d_Mo_closeEnd_17 rfl (lv_at hl 0 rfl) ?_
  refine mq_get C0 hP (kd := 0) (i := 0) (ci := 4) (by decide) (by decide) rfl rfl 14 (by decide) rfl k_fl_Mo_53 rfl d_Mo_closeEnd_18 ?_
  refine lv_aload_n hx hb d_Mo_closeEnd_21 rfl (lv_at hl 0 rfl) ?_
  refine mq_get C0 hP (kd := 0) (i := 0) (ci := 4) (by decide) (by decide) rfl rfl 21 (by decide) rfl k_fl_Mo_88 rfl d_Mo_closeEnd_22 ?_
  refine W.eq (g2 := F0 m 25 ls [.int (σ 0 0 6), .ref (base + adm 15 0)]) rfl ?_
  refine lv_iload_n hx hb d_Mo_closeEnd_25 rfl (lv_at hl 1 rfl) ?_
  refine mq_iast C0 hP hS (kd := 15) (i := 0) 15 (by decide) rfl (by decide) rfl (htc) (by rw [ast_fn]; rfl) d_Mo_closeEnd_26 (fun H locs hP hS => ?_)
  refine lv_aload_n hx hb d_Mo_closeEnd_27 rfl (lv_at hl 0 rfl) ?_
  refine lv_dup hx hb d_Mo_closeEnd_28 rfl ?_
  refine mq_get C0 hP (kd := 0) (i := 0) (ci := 4) (by decide) (by decide) rfl rfl 21 (by decide) rfl k_fl_Mo_88 rfl d_Mo_closeEnd_29 ?_
  refine W.eq (g2 := F0 m 32 ls [.int (σ 0 0 6), .ref (base + adm 0 0)]) rfl ?_
  refine lv_iconst (v := 1) hx hb d_Mo_closeEnd_32 (by decide) ?_
  refine lv_iadd hx hb d_Mo_closeEnd_33 ?_
  refine mq_put C0 hP hS (kd := 0) (i := 0) (ci := 4) 0 6 (by decide) rfl (by decide) rfl rfl t_Mo t_Mo_ok n_Mo 21 (by decide) rfl k_fl_Mo_88 rfl (by decide +kernel) (Nat.le_of_ble_eq_true rfl) (by simp [conto, up]) d_Mo_closeEnd_34 (fun H locs hP hS => ?_)
  exact mrI_v C0 hP hS (⟨by decide, by decide⟩) (⟨rfl, rfl, by unfold mCl; first | done | rfl⟩) d_Mo_closeEnd_37
set_option maxHeartbeats 4000000 in
set_option maxRecDepth 100000 in
theorem c_Mo_allCells {S0 : State} {A0 : Array Value} {D : va_G} {ar : Nat → ClassId} {base : Nat} {σ : Mem} {l : Launch} (hlt : l.stackTraces = false)  :
    MX l y_Mo_allCells [Cond.code y_Mo_allCells b_Mo_allCells 3 (some .int)] (rmL 0) (PO S0 A0 D ar base σ [.ref (base + adm 0 0)]) (QP (fun k r => k = 0 ∧ r = some (mCells σ 12))) (fun _ => False) := by
  refine mx_head hlt (by decide +kernel) (Nat.le_of_ble_eq_true rfl) ?_
  intro p ev s m below meth c ls C0 hP hl
  have C0 : Cx S0 A0 D ar base p l s m _ meth c R_Mo b_Mo_allCells 3 (some .int) := C0
  obtain ⟨hx, hb, -⟩ := id C0
  have hl : lv_has ls 3 [(0, .ref (base + adm 0 0))] := hl
  refine lv_iconst (v := 0) hx hb d_Mo_allCells_0 (by decide) ?_
  refine lv_istore_n (lv' := [(1, .int 0), (0, .ref (base + adm 0 0))]) hx hb d_Mo_allCells_1 rfl hl (by decide) rfl (fun ls hl => ?_)
  refine lv_iconst (v := 0) hx hb d_Mo_allCells_2 (by decide) ?_
  refine lv_istore_n (lv' := [(2, .int 0), (1, .int 0), (0, .ref (base + adm 0 0))]) hx hb d_Mo_allCells_3 rfl hl (by decide) rfl (fun ls hl => ?_)
  have loop : ∀ (n k : Nat), k ≤ 12 → 12 + 1 ≤ k + n → True → ∀ ls : Array Slot, lv_has ls 3 [(1, .int (mCells σ k)), (2, .int (nI k)), (0, .ref (base + adm 0 0))] → W p l ev (rmL 0) s m ([.ref (base + adm 0 0)] : List Value).toArray below meth c s.heap [] 0 0 (MQX below (QP (fun k r => k = 0 ∧ r = some (mCells σ 12))) ([.ref (base + adm 0 0)] : List Value).toArray s (rmL 0).cells (rmL 0).slots (fun _ => False)) (F0 m 4 ls []) := by
    intro n
    induction n with
    | zero => intro k h1 h2; omega
    | succ n ih =>
      intro k hk1 hk2 hinv ls hl
      refine lv_iload_n hx hb d_Mo_allCells_4 rfl (lv_at hl 1 rfl) ?_
      refine lv_bipush (v := 12) hx hb d_Mo_allCells_5 (by decide) ?_
      refine lv_icmp_ge (tgt := 25) hx hb d_Mo_allCells_7 (by decide) (fun c_7 => ?_) (fun c_7 => ?_)
      · skip
        have hkN : k = 12 := by have := ge_nI (N := 12) c_7; omega
        subst hkN
        refine lv_iload_n hx hb d_Mo_allCells_25 rfl (lv_at hl 0 rfl) ?_
        exact rP_i C0 (⟨by decide, by decide⟩) (⟨rfl, rfl⟩) d_Mo_allCells_26
      · skip
        have hkN : k < 12 := lt_nI (N := 12) c_7
        refine lv_iload_n hx hb d_Mo_allCells_10 rfl (lv_at hl 0 rfl) ?_
        refine lv_aload_n hx hb d_Mo_allCells_11 rfl (lv_at hl 2 rfl) ?_
        refine mq_get C0 hP (kd := 0) (i := 0) (ci := 4) (by decide) (by decide) rfl rfl 7 (by decide) rfl k_fl_Mo_32 rfl d_Mo_allCells_12 ?_
        refine lv_iload_n hx hb d_Mo_allCells_15 rfl (lv_at hl 1 rfl) ?_
        refine mq_iald C0 hP (kd := 8) (i := 0) (by decide) (by decide) rfl (vin_nI hkN) d_Mo_allCells_16 ?_
        rw [show (nI k).toNatClampNeg = k from nI_clamp (by omega)]
        refine lv_iadd hx hb d_Mo_allCells_17 ?_
        refine lv_istore_n (lv' := [(1, .int ((mCells σ k) + (σ 8 0 k))), (2, .int (nI k)), (0, .ref (base + adm 0 0))]) hx hb d_Mo_allCells_18 rfl hl (by decide) rfl (fun ls hl => ?_)
        refine lv_iinc (v := nI (k + 1)) (lv' := [(2, .int (nI (k + 1))), (1, .int ((mCells σ k) + (σ 8 0 k))), (0, .ref (base + adm 0 0))]) hx hb d_Mo_allCells_19 hl (k := 1) rfl (by exact nI_1 k) (by decide) rfl (fun ls hl => ?_)
        refine lv_goto (tgt := 4) hx hb d_Mo_allCells_22 (by decide) ?_
        exact ih (k + 1) (by omega) (by omega) (trivial) ls (lv_sub hl [1, 0, 2] rfl)
  exact loop (12 + 1) 0 (by omega) (by omega) (trivial) ls (lv_sub hl [1, 0, 2] rfl)
set_option maxHeartbeats 4000000 in
set_option maxRecDepth 100000 in
theorem c_Mo_notYours {S0 : State} {A0 : Array Value} {D : va_G} {ar : Nat → ClassId} {base : Nat} {σ : Mem} {l : Launch} (hlt : l.stackTraces = false) {q b : Int32} :
    MX l y_Mo_notYours [Cond.code y_Mo_notYours b_Mo_notYours 3 (some .boolean)] (rmL 1) (PO S0 A0 D ar base σ [.ref (base + adm 0 0), .int q, .int b]) (QO D ar base (fun k r σ' => k = 0 ∧ r = some (mNY σ q b).1 ∧ σ' = (mNY σ q b).2)) (inB base 16) := by
  refine mx_head hlt (by decide +kernel) (Nat.le_of_ble_eq_true rfl) ?_
  intro p ev s m below meth c ls C0 hP hl
  have C0 : Cx S0 A0 D ar base p l s m _ meth c R_Mo b_Mo_notYours 3 (some .boolean) := C0
  obtain ⟨hx, hb, -⟩ := id C0
  have hl : lv_has ls 3 [(0, .ref (base + adm 0 0)), (1, .int q), (2, .int b)] := hl
  have hS : va_S (inB base 16) s.heap s.heap [] := va_S.rf
  refine lv_aload_n hx hb d_Mo_notYours_0 rfl (lv_at hl 0 rfl) ?_
  refine lv_iload_n hx hb d_Mo_notYours_1 rfl (lv_at hl 1 rfl) ?_
  refine lv_iconst (v := 0) hx hb d_Mo_notYours_2 (by decide) ?_
  refine lv_iconst (v := 3) hx hb d_Mo_notYours_3 (by decide) ?_
  refine ms_P C0 hP hS (cs_S C0 (As := [.int q, .int 0, .int 3]) k_ml_Mo_60 k_st_Mo_in k_cd_Mo_in k_in_Mo z_Mo_in rfl d_Mo_notYours_4) (c_Mo_in hlt) hl.1 d_Mo_notYours_4 (Nat.le_of_ble_eq_true rfl) (⟨by decide, by decide⟩) (⟨by decide, by decide⟩) (fun k r x t hk hp => absurd hp.1 hk) (fun r_2 h_1 => ?_)
  obtain ⟨-, rfl⟩ := h_1
  refine lv_if_eq (tgt := 24) hx hb d_Mo_notYours_7 (by decide) (fun c_7 => ?_) (fun c_7 => ?_)
  · skip
    have c_7 := b2i_z.mp c_7
    refine lv_iconst (v := 0) hx hb d_Mo_notYours_24 (by decide) ?_
    refine ms_I C0 hP hS (ms_V C0 hP (kd := 0) (i := 0) (ci := 4) (As := [.int 0]) (by decide) (by decide) rfl rfl k_ml_Mo_64 k_im_Mo_bad k_sl_Mo_Mo_bad k_cd_Mo_bad k_in_Mo z_Mo_bad rfl d_Mo_notYours_25) (c_Mo_bad hlt (P := False)) (fun k r σ h => h.1) ⟨rfl, rfl⟩ hl.1 d_Mo_notYours_25 (Nat.le_of_ble_eq_true rfl) (⟨by decide, by decide⟩) (⟨by decide, by decide⟩) (fun r_4 σ_5 H locs h_3 hP hS => ?_)
    obtain ⟨-, rfl, rfl⟩ := h_3
    replace hP : va_P D classes (wl base 16 (memo ar base (up σ 0 0 1 1))) H := hP
    refine lv_if_eq (tgt := 33) hx hb d_Mo_notYours_28 (by decide) (fun c_28 => ?_) (fun c_28 => ?_)
    · skip
      exact absurd c_28 (by decide)
    · skip
      refine lv_iconst (v := 1) hx hb d_Mo_notYours_31 (by decide) ?_
      exact mrI_z C0 hP hS (⟨by decide, by decide⟩) (Or.inr rfl) (⟨rfl, congrArg some (by unfold mNY; rw [if_neg c_7]; first | done | rfl), by unfold mNY; rw [if_neg c_7]; first | done | rfl⟩) d_Mo_notYours_32
  · skip
    have c_7 := b2i_ne.mp c_7
    refine lv_iload_n hx hb d_Mo_notYours_10 rfl (lv_at hl 2 rfl) ?_
    refine lv_iconst (v := 0) hx hb d_Mo_notYours_11 (by decide) ?_
    refine lv_bipush (v := 11) hx hb d_Mo_notYours_12 (by decide) ?_
    refine ms_P C0 hP hS (cs_S C0 (As := [.int b, .int 0, .int 11]) k_ml_Mo_60 k_st_Mo_in k_cd_Mo_in k_in_Mo z_Mo_in rfl d_Mo_notYours_14) (c_Mo_in hlt) hl.1 d_Mo_notYours_14 (Nat.le_of_ble_eq_true rfl) (⟨by decide, by decide⟩) (⟨by decide, by decide⟩) (fun k r x t hk hp => absurd hp.1 hk) (fun r_7 h_6 => ?_)
    obtain ⟨-, rfl⟩ := h_6
    refine lv_if_eq (tgt := 24) hx hb d_Mo_notYours_17 (by decide) (fun c_17 => ?_) (fun c_17 => ?_)
    · skip
      have c_17 := b2i_z.mp c_17
      refine lv_iconst (v := 0) hx hb d_Mo_notYours_24 (by decide) ?_
      refine ms_I C0 hP hS (ms_V C0 hP (kd := 0) (i := 0) (ci := 4) (As := [.int 0]) (by decide) (by decide) rfl rfl k_ml_Mo_64 k_im_Mo_bad k_sl_Mo_Mo_bad k_cd_Mo_bad k_in_Mo z_Mo_bad rfl d_Mo_notYours_25) (c_Mo_bad hlt (P := False)) (fun k r σ h => h.1) ⟨rfl, rfl⟩ hl.1 d_Mo_notYours_25 (Nat.le_of_ble_eq_true rfl) (⟨by decide, by decide⟩) (⟨by decide, by decide⟩) (fun r_9 σ_10 H locs h_8 hP hS => ?_)
      obtain ⟨-, rfl, rfl⟩ := h_8
      replace hP : va_P D classes (wl base 16 (memo ar base (up σ 0 0 1 1))) H := hP
      refine lv_if_eq (tgt := 33) hx hb d_Mo_notYours_28 (by decide) (fun c_28 => ?_) (fun c_28 => ?_)
      · skip
        exact absurd c_28 (by decide)
      · skip
        refine lv_iconst (v := 1) hx hb d_Mo_notYours_31 (by decide) ?_
        exact mrI_z C0 hP hS (⟨by decide, by decide⟩) (Or.inr rfl) (⟨rfl, congrArg some (by unfold mNY; rw [if_pos c_7, if_neg c_17]; first | done | rfl), by unfold mNY; rw [if_pos c_7, if_neg c_17]; first | done | rfl⟩) d_Mo_notYours_32
    · skip
      have c_17 := b2i_ne.mp c_17
      refine lv_iconst (v := 1) hx hb d_Mo_notYours_20 (by decide) ?_
      refine lv_goto (tgt := 25) hx hb d_Mo_notYours_21 (by decide) ?_
      refine ms_I C0 hP hS (ms_V C0 hP (kd := 0) (i := 0) (ci := 4) (As := [.int 1]) (by decide) (by decide) rfl rfl k_ml_Mo_64 k_im_Mo_bad k_sl_Mo_Mo_bad k_cd_Mo_bad k_in_Mo z_Mo_bad rfl d_Mo_notYours_25) (c_Mo_bad hlt (P := True)) (fun k r σ h => h.1) ⟨rfl, rfl⟩ hl.1 d_Mo_notYours_25 (Nat.le_of_ble_eq_true rfl) (⟨by decide, by decide⟩) (⟨by decide, by decide⟩) (fun r_12 σ_13 H locs h_11 hP hS => ?_)
      obtain ⟨-, rfl, rfl⟩ := h_11
      replace hP : va_P D classes (wl base 16 (memo ar base (up σ 0 0 1 0))) H := hP
      refine lv_if_eq (tgt := 33) hx hb d_Mo_notYours_28 (by decide) (fun c_28 => ?_) (fun c_28 => ?_)
      · skip
        refine lv_aload_n hx hb d_Mo_notYours_33 rfl (lv_at hl 0 rfl) ?_
        refine mq_get C0 hP (kd := 0) (i := 0) (ci := 4) (by decide) (by decide) rfl rfl 5 (by decide) rfl k_fl_Mo_25 rfl d_Mo_notYours_34 ?_
        refine lv_iload_n hx hb d_Mo_notYours_37 rfl (lv_at hl 1 rfl) ?_
        refine mq_zald C0 hP (kd := 6) (i := 0) (by decide) (by decide) rfl (vin_R c_7) d_Mo_notYours_38 ?_
        refine W.eq (g2 := F0 m 39 ls [.int (σ 6 0 q.toNatClampNeg)]) rfl ?_
        refine lv_if_eq (tgt := 52) hx hb d_Mo_notYours_39 (by decide) (fun c_39 => ?_) (fun c_39 => ?_)
        · skip
          refine lv_aload_n hx hb d_Mo_notYours_52 rfl (lv_at hl 0 rfl) ?_
          refine lv_iconst (v := 2) hx hb d_Mo_notYours_53 (by decide) ?_
          refine mq_put C0 hP hS (kd := 0) (i := 0) (ci := 4) 0 1 (by decide) rfl (by decide) rfl rfl t_Mo t_Mo_ok n_Mo 16 (by decide) rfl k_fl_Mo_56 rfl (by decide +kernel) (Nat.le_of_ble_eq_true rfl) (by simp [conto, up]) d_Mo_notYours_54 (fun H locs hP hS => ?_)
          refine lv_aload_n hx hb d_Mo_notYours_57 rfl (lv_at hl 0 rfl) ?_
          refine mq_get C0 hP (kd := 0) (i := 0) (ci := 4) (by decide) (by decide) rfl rfl 16 (by decide) rfl k_fl_Mo_56 rfl d_Mo_notYours_58 ?_
          refine W.eq (g2 := F0 m 61 ls [.int 2]) rfl ?_
          refine lv_if_le (tgt := 68) hx hb d_Mo_notYours_61 (by decide) (fun c_61 => ?_) (fun c_61 => ?_)
          · skip
            exact absurd c_61 (by decide)
          · skip
            refine lv_iconst (v := 1) hx hb d_Mo_notYours_64 (by decide) ?_
            refine lv_goto (tgt := 69) hx hb d_Mo_notYours_65 (by decide) ?_
            exact mrI_z C0 hP hS (⟨by decide, by decide⟩) (Or.inr rfl) (⟨rfl, congrArg some (by unfold mNY; rw [if_pos c_7, if_pos c_17, if_pos c_39]; first | done | rfl), by unfold mNY; rw [if_pos c_7, if_pos c_17, if_pos c_39]; first | done | rfl⟩) d_Mo_notYours_69
        · skip
          refine lv_aload_n hx hb d_Mo_notYours_42 rfl (lv_at hl 0 rfl) ?_
          refine mq_get C0 hP (kd := 0) (i := 0) (ci := 4) (by decide) (by decide) rfl rfl 6 (by decide) rfl k_fl_Mo_29 rfl d_Mo_notYours_43 ?_
          refine lv_iload_n hx hb d_Mo_notYours_46 rfl (lv_at hl 2 rfl) ?_
          refine mq_iald C0 hP (kd := 7) (i := 0) (by decide) (by decide) rfl (vin_R c_17) d_Mo_notYours_47 ?_
          refine W.eq (g2 := F0 m 48 ls [.int (σ 7 0 b.toNatClampNeg)]) rfl ?_
          refine lv_iload_n hx hb d_Mo_notYours_48 rfl (lv_at hl 1 rfl) ?_
          refine lv_icmp_eq (tgt := 57) hx hb d_Mo_notYours_49 (by decide) (fun c_49 => ?_) (fun c_49 => ?_)
          · skip
            refine lv_aload_n hx hb d_Mo_notYours_57 rfl (lv_at hl 0 rfl) ?_
            refine mq_get C0 hP (kd := 0) (i := 0) (ci := 4) (by decide) (by decide) rfl rfl 16 (by decide) rfl k_fl_Mo_56 rfl d_Mo_notYours_58 ?_
            refine W.eq (g2 := F0 m 61 ls [.int 0]) rfl ?_
            refine lv_if_le (tgt := 68) hx hb d_Mo_notYours_61 (by decide) (fun c_61 => ?_) (fun c_61 => ?_)
            · skip
              refine lv_iconst (v := 0) hx hb d_Mo_notYours_68 (by decide) ?_
              exact mrI_z C0 hP hS (⟨by decide, by decide⟩) (Or.inl rfl) (⟨rfl, congrArg some (by unfold mNY; rw [if_pos c_7, if_pos c_17, if_neg c_39, if_pos c_49]; first | done | rfl), by unfold mNY; rw [if_pos c_7, if_pos c_17, if_neg c_39, if_pos c_49]; first | done | rfl⟩) d_Mo_notYours_69
            · skip
              exact absurd (by decide) c_61
          · skip
            refine lv_aload_n hx hb d_Mo_notYours_52 rfl (lv_at hl 0 rfl) ?_
            refine lv_iconst (v := 2) hx hb d_Mo_notYours_53 (by decide) ?_
            refine mq_put C0 hP hS (kd := 0) (i := 0) (ci := 4) 0 1 (by decide) rfl (by decide) rfl rfl t_Mo t_Mo_ok n_Mo 16 (by decide) rfl k_fl_Mo_56 rfl (by decide +kernel) (Nat.le_of_ble_eq_true rfl) (by simp [conto, up]) d_Mo_notYours_54 (fun H locs hP hS => ?_)
            refine lv_aload_n hx hb d_Mo_notYours_57 rfl (lv_at hl 0 rfl) ?_
            refine mq_get C0 hP (kd := 0) (i := 0) (ci := 4) (by decide) (by decide) rfl rfl 16 (by decide) rfl k_fl_Mo_56 rfl d_Mo_notYours_58 ?_
            refine W.eq (g2 := F0 m 61 ls [.int 2]) rfl ?_
            refine lv_if_le (tgt := 68) hx hb d_Mo_notYours_61 (by decide) (fun c_61 => ?_) (fun c_61 => ?_)
            · skip
              exact absurd c_61 (by decide)
            · skip
              refine lv_iconst (v := 1) hx hb d_Mo_notYours_64 (by decide) ?_
              refine lv_goto (tgt := 69) hx hb d_Mo_notYours_65 (by decide) ?_
              exact mrI_z C0 hP hS (⟨by decide, by decide⟩) (Or.inr rfl) (⟨rfl, congrArg some (by unfold mNY; rw [if_pos c_7, if_pos c_17, if_neg c_39, if_neg c_49]; first | done | rfl), by unfold mNY; rw [if_pos c_7, if_pos c_17, if_neg c_39, if_neg c_49]; first | done | rfl⟩) d_Mo_notYours_69
      · skip
        exact absurd rfl c_28
set_option maxHeartbeats 4000000 in
set_option maxRecDepth 100000 in
theorem c_Mo_notYourEnd {S0 : State} {A0 : Array Value} {D : va_G} {ar : Nat → ClassId} {base : Nat} {σ : Mem} {l : Launch} (hlt : l.stackTraces = false) {q b : Int32} :
    MX l y_Mo_notYourEnd [Cond.code y_Mo_notYourEnd b_Mo_notYourEnd 3 (some .boolean)] (rmL 1) (PO S0 A0 D ar base σ [.ref (base + adm 0 0), .int q, .int b]) (QO D ar base (fun k r σ' => k = 0 ∧ r = some (mNE σ q b).1 ∧ σ' = (mNE σ q b).2)) (inB base 16) := by
  refine mx_head hlt (by decide +kernel) (Nat.le_of_ble_eq_true rfl) ?_
  intro p ev s m below meth c ls C0 hP hl
  have C0 : Cx S0 A0 D ar base p l s m _ meth c R_Mo b_Mo_notYourEnd 3 (some .boolean) := C0
  obtain ⟨hx, hb, -⟩ := id C0
  have hl : lv_has ls 3 [(0, .ref (base + adm 0 0)), (1, .int q), (2, .int b)] := hl
  have hS : va_S (inB base 16) s.heap s.heap [] := va_S.rf
  refine lv_aload_n hx hb d_Mo_notYourEnd_0 rfl (lv_at hl 0 rfl) ?_
  refine lv_iload_n hx hb d_Mo_notYourEnd_1 rfl (lv_at hl 1 rfl) ?_
  refine lv_iconst (v := 0) hx hb d_Mo_notYourEnd_2 (by decide) ?_
  refine lv_iconst (v := 3) hx hb d_Mo_notYourEnd_3 (by decide) ?_
  refine ms_P C0 hP hS (cs_S C0 (As := [.int q, .int 0, .int 3]) k_ml_Mo_60 k_st_Mo_in k_cd_Mo_in k_in_Mo z_Mo_in rfl d_Mo_notYourEnd_4) (c_Mo_in hlt) hl.1 d_Mo_notYourEnd_4 (Nat.le_of_ble_eq_true rfl) (⟨by decide, by decide⟩) (⟨by decide, by decide⟩) (fun k r x t hk hp => absurd hp.1 hk) (fun r_2 h_1 => ?_)
  obtain ⟨-, rfl⟩ := h_1
  refine lv_if_eq (tgt := 24) hx hb d_Mo_notYourEnd_7 (by decide) (fun c_7 => ?_) (fun c_7 => ?_)
  · skip
    have c_7 := b2i_z.mp c_7
    refine lv_iconst (v := 0) hx hb d_Mo_notYourEnd_24 (by decide) ?_
    refine ms_I C0 hP hS (ms_V C0 hP (kd := 0) (i := 0) (ci := 4) (As := [.int 0]) (by decide) (by decide) rfl rfl k_ml_Mo_64 k_im_Mo_bad k_sl_Mo_Mo_bad k_cd_Mo_bad k_in_Mo z_Mo_bad rfl d_Mo_notYourEnd_25) (c_Mo_bad hlt (P := False)) (fun k r σ h => h.1) ⟨rfl, rfl⟩ hl.1 d_Mo_notYourEnd_25 (Nat.le_of_ble_eq_true rfl) (⟨by decide, by decide⟩) (⟨by decide, by decide⟩) (fun r_4 σ_5 H locs h_3 hP hS => ?_)
    obtain ⟨-, rfl, rfl⟩ := h_3
    replace hP : va_P D classes (wl base 16 (memo ar base (up σ 0 0 1 1))) H := hP
    refine lv_if_eq (tgt := 33) hx hb d_Mo_notYourEnd_28 (by decide) (fun c_28 => ?_) (fun c_28 => ?_)
    · skip
      exact absurd c_28 (by decide)
    · skip
      refine lv_iconst (v := 1) hx hb d_Mo_notYourEnd_31 (by decide) ?_
      exact mrI_z C0 hP hS (⟨by decide, by decide⟩) (Or.inr rfl) (⟨rfl, congrArg some (by unfold mNE; rw [if_neg c_7]; first | done | rfl), by unfold mNE; rw [if_neg c_7]; first | done | rfl⟩) d_Mo_notYourEnd_32
  · skip
    have c_7 := b2i_ne.mp c_7
    refine lv_iload_n hx hb d_Mo_notYourEnd_10 rfl (lv_at hl 2 rfl) ?_
    refine lv_iconst (v := 0) hx hb d_Mo_notYourEnd_11 (by decide) ?_
    refine lv_bipush (v := 11) hx hb d_Mo_notYourEnd_12 (by decide) ?_
    refine ms_P C0 hP hS (cs_S C0 (As := [.int b, .int 0, .int 11]) k_ml_Mo_60 k_st_Mo_in k_cd_Mo_in k_in_Mo z_Mo_in rfl d_Mo_notYourEnd_14) (c_Mo_in hlt) hl.1 d_Mo_notYourEnd_14 (Nat.le_of_ble_eq_true rfl) (⟨by decide, by decide⟩) (⟨by decide, by decide⟩) (fun k r x t hk hp => absurd hp.1 hk) (fun r_7 h_6 => ?_)
    obtain ⟨-, rfl⟩ := h_6
    refine lv_if_eq (tgt := 24) hx hb d_Mo_notYourEnd_17 (by decide) (fun c_17 => ?_) (fun c_17 => ?_)
    · skip
      have c_17 := b2i_z.mp c_17
      refine lv_iconst (v := 0) hx hb d_Mo_notYourEnd_24 (by decide) ?_
      refine ms_I C0 hP hS (ms_V C0 hP (kd := 0) (i := 0) (ci := 4) (As := [.int 0]) (by decide) (by decide) rfl rfl k_ml_Mo_64 k_im_Mo_bad k_sl_Mo_Mo_bad k_cd_Mo_bad k_in_Mo z_Mo_bad rfl d_Mo_notYourEnd_25) (c_Mo_bad hlt (P := False)) (fun k r σ h => h.1) ⟨rfl, rfl⟩ hl.1 d_Mo_notYourEnd_25 (Nat.le_of_ble_eq_true rfl) (⟨by decide, by decide⟩) (⟨by decide, by decide⟩) (fun r_9 σ_10 H locs h_8 hP hS => ?_)
      obtain ⟨-, rfl, rfl⟩ := h_8
      replace hP : va_P D classes (wl base 16 (memo ar base (up σ 0 0 1 1))) H := hP
      refine lv_if_eq (tgt := 33) hx hb d_Mo_notYourEnd_28 (by decide) (fun c_28 => ?_) (fun c_28 => ?_)
      · skip
        exact absurd c_28 (by decide)
      · skip
        refine lv_iconst (v := 1) hx hb d_Mo_notYourEnd_31 (by decide) ?_
        exact mrI_z C0 hP hS (⟨by decide, by decide⟩) (Or.inr rfl) (⟨rfl, congrArg some (by unfold mNE; rw [if_pos c_7, if_neg c_17]; first | done | rfl), by unfold mNE; rw [if_pos c_7, if_neg c_17]; first | done | rfl⟩) d_Mo_notYourEnd_32
    · skip
      have c_17 := b2i_ne.mp c_17
      refine lv_iconst (v := 1) hx hb d_Mo_notYourEnd_20 (by decide) ?_
      refine lv_goto (tgt := 25) hx hb d_Mo_notYourEnd_21 (by decide) ?_
      refine ms_I C0 hP hS (ms_V C0 hP (kd := 0) (i := 0) (ci := 4) (As := [.int 1]) (by decide) (by decide) rfl rfl k_ml_Mo_64 k_im_Mo_bad k_sl_Mo_Mo_bad k_cd_Mo_bad k_in_Mo z_Mo_bad rfl d_Mo_notYourEnd_25) (c_Mo_bad hlt (P := True)) (fun k r σ h => h.1) ⟨rfl, rfl⟩ hl.1 d_Mo_notYourEnd_25 (Nat.le_of_ble_eq_true rfl) (⟨by decide, by decide⟩) (⟨by decide, by decide⟩) (fun r_12 σ_13 H locs h_11 hP hS => ?_)
      obtain ⟨-, rfl, rfl⟩ := h_11
      replace hP : va_P D classes (wl base 16 (memo ar base (up σ 0 0 1 0))) H := hP
      refine lv_if_eq (tgt := 33) hx hb d_Mo_notYourEnd_28 (by decide) (fun c_28 => ?_) (fun c_28 => ?_)
      · skip
        refine lv_aload_n hx hb d_Mo_notYourEnd_33 rfl (lv_at hl 0 rfl) ?_
        refine mq_get C0 hP (kd := 0) (i := 0) (ci := 4) (by decide) (by decide) rfl rfl 5 (by decide) rfl k_fl_Mo_25 rfl d_Mo_notYourEnd_34 ?_
        refine lv_iload_n hx hb d_Mo_notYourEnd_37 rfl (lv_at hl 1 rfl) ?_
        refine mq_zald C0 hP (kd := 6) (i := 0) (by decide) (by decide) rfl (vin_R c_7) d_Mo_notYourEnd_38 ?_
        refine W.eq (g2 := F0 m 39 ls [.int (σ 6 0 q.toNatClampNeg)]) rfl ?_
        refine lv_if_eq (tgt := 52) hx hb d_Mo_notYourEnd_39 (by decide) (fun c_39 => ?_) (fun c_39 => ?_)
        · skip
          refine lv_aload_n hx hb d_Mo_notYourEnd_52 rfl (lv_at hl 0 rfl) ?_
          refine lv_iconst (v := 2) hx hb d_Mo_notYourEnd_53 (by decide) ?_
          refine mq_put C0 hP hS (kd := 0) (i := 0) (ci := 4) 0 1 (by decide) rfl (by decide) rfl rfl t_Mo t_Mo_ok n_Mo 16 (by decide) rfl k_fl_Mo_56 rfl (by decide +kernel) (Nat.le_of_ble_eq_true rfl) (by simp [conto, up]) d_Mo_notYourEnd_54 (fun H locs hP hS => ?_)
          refine lv_aload_n hx hb d_Mo_notYourEnd_57 rfl (lv_at hl 0 rfl) ?_
          refine mq_get C0 hP (kd := 0) (i := 0) (ci := 4) (by decide) (by decide) rfl rfl 16 (by decide) rfl k_fl_Mo_56 rfl d_Mo_notYourEnd_58 ?_
          refine W.eq (g2 := F0 m 61 ls [.int 2]) rfl ?_
          refine lv_if_le (tgt := 68) hx hb d_Mo_notYourEnd_61 (by decide) (fun c_61 => ?_) (fun c_61 => ?_)
          · skip
            exact absurd c_61 (by decide)
          · skip
            refine lv_iconst (v := 1) hx hb d_Mo_notYourEnd_64 (by decide) ?_
            refine lv_goto (tgt := 69) hx hb d_Mo_notYourEnd_65 (by decide) ?_
            exact mrI_z C0 hP hS (⟨by decide, by decide⟩) (Or.inr rfl) (⟨rfl, congrArg some (by unfold mNE; rw [if_pos c_7, if_pos c_17, if_pos c_39]; first | done | rfl), by unfold mNE; rw [if_pos c_7, if_pos c_17, if_pos c_39]; first | done | rfl⟩) d_Mo_notYourEnd_69
        · skip
          refine lv_aload_n hx hb d_Mo_notYourEnd_42 rfl (lv_at hl 0 rfl) ?_
          refine mq_get C0 hP (kd := 0) (i := 0) (ci := 4) (by decide) (by decide) rfl rfl 9 (by decide) rfl k_fl_Mo_38 rfl d_Mo_notYourEnd_43 ?_
          refine lv_iload_n hx hb d_Mo_notYourEnd_46 rfl (lv_at hl 2 rfl) ?_
          refine mq_iald C0 hP (kd := 10) (i := 0) (by decide) (by decide) rfl (vin_R c_17) d_Mo_notYourEnd_47 ?_
          refine W.eq (g2 := F0 m 48 ls [.int (σ 10 0 b.toNatClampNeg)]) rfl ?_
          refine lv_iload_n hx hb d_Mo_notYourEnd_48 rfl (lv_at hl 1 rfl) ?_
          refine lv_icmp_eq (tgt := 57) hx hb d_Mo_notYourEnd_49 (by decide) (fun c_49 => ?_) (fun c_49 => ?_)
          · skip
            refine lv_aload_n hx hb d_Mo_notYourEnd_57 rfl (lv_at hl 0 rfl) ?_
            refine mq_get C0 hP (kd := 0) (i := 0) (ci := 4) (by decide) (by decide) rfl rfl 16 (by decide) rfl k_fl_Mo_56 rfl d_Mo_notYourEnd_58 ?_
            refine W.eq (g2 := F0 m 61 ls [.int 0]) rfl ?_
            refine lv_if_le (tgt := 68) hx hb d_Mo_notYourEnd_61 (by decide) (fun c_61 => ?_) (fun c_61 => ?_)
            · skip
              refine lv_iconst (v := 0) hx hb d_Mo_notYourEnd_68 (by decide) ?_
              exact mrI_z C0 hP hS (⟨by decide, by decide⟩) (Or.inl rfl) (⟨rfl, congrArg some (by unfold mNE; rw [if_pos c_7, if_pos c_17, if_neg c_39, if_pos c_49]; first | done | rfl), by unfold mNE; rw [if_pos c_7, if_pos c_17, if_neg c_39, if_pos c_49]; first | done | rfl⟩) d_Mo_notYourEnd_69
            · skip
              exact absurd (by decide) c_61
          · skip
            refine lv_aload_n hx hb d_Mo_notYourEnd_52 rfl (lv_at hl 0 rfl) ?_
            refine lv_iconst (v := 2) hx hb d_Mo_notYourEnd_53 (by decide) ?_
            refine mq_put C0 hP hS (kd := 0) (i := 0) (ci := 4) 0 1 (by decide) rfl (by decide) rfl rfl t_Mo t_Mo_ok n_Mo 16 (by decide) rfl k_fl_Mo_56 rfl (by decide +kernel) (Nat.le_of_ble_eq_true rfl) (by simp [conto, up]) d_Mo_notYourEnd_54 (fun H locs hP hS => ?_)
            refine lv_aload_n hx hb d_Mo_notYourEnd_57 rfl (lv_at hl 0 rfl) ?_
            refine mq_get C0 hP (kd := 0) (i := 0) (ci := 4) (by decide) (by decide) rfl rfl 16 (by decide) rfl k_fl_Mo_56 rfl d_Mo_notYourEnd_58 ?_
            refine W.eq (g2 := F0 m 61 ls [.int 2]) rfl ?_
            refine lv_if_le (tgt := 68) hx hb d_Mo_notYourEnd_61 (by decide) (fun c_61 => ?_) (fun c_61 => ?_)
            · skip
              exact absurd c_61 (by decide)
            · skip
              refine lv_iconst (v := 1) hx hb d_Mo_notYourEnd_64 (by decide) ?_
              refine lv_goto (tgt := 69) hx hb d_Mo_notYourEnd_65 (by decide) ?_
              exact mrI_z C0 hP hS (⟨by decide, by decide⟩) (Or.inr rfl) (⟨rfl, congrArg some (by unfold mNE; rw [if_pos c_7, if_pos c_17, if_neg c_39, if_neg c_49]; first | done | rfl), by unfold mNE; rw [if_pos c_7, if_pos c_17, if_neg c_39, if_neg c_49]; first | done | rfl⟩) d_Mo_notYourEnd_69
      · skip
        exact absurd rfl c_28
