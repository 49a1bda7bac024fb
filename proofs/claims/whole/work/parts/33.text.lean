/-! The text becomes a contract: laid by gen/m33.py. -/
def addF (σ : Mem) (c sz : Nat) (st lt sd nx : Int32) : Int32 × Mem := if 9 ≤ sz ∨ rul σ c st lt sz < sz then (0, σ) else (1, addR σ c sz st lt sd nx)
theorem ADD_eq {σ σ' : Mem} {c sz : Nat} {st lt sd nx r : Int32} (h : ADD σ c sz st lt sd nx r σ') : (r, σ') = addF σ c sz st lt sd nx := by
  unfold addF
  rcases h with ⟨h1, rfl, rfl⟩ | ⟨h1, q, h2, ⟨h3, rfl, rfl⟩ | ⟨h3, rfl, rfl⟩⟩
  · rw [if_pos (Or.inl h1)]
  · rw [if_pos (Or.inr (by rw [← RUL_eq h2]; exact h3))]
  · rw [if_neg (fun z => by rw [← RUL_eq h2] at z; omega)]
abbrev rSt (σ : Mem) (a : Nat) : Int32 := σ 1 0 a - 48
abbrev rLt (σ : Mem) (a : Nat) : Int32 := idxF 0 (σ 1 0 (a + 1))
abbrev rSd (σ : Mem) (a : Nat) : Int32 := idxF 1 (σ 1 0 (a + 2))
abbrev rNx (σ : Mem) (a : Nat) : Int32 := σ 1 0 (a + 3) - 48
abbrev rWf (σ : Mem) (a : Nat) : Prop := ¬ rSt σ a < 1 ∧ rSt σ a ≤ 6 ∧ ¬ rLt σ a < 0 ∧ ¬ rSd σ a < 0 ∧ ¬ rNx σ a < 0 ∧ rNx σ a ≤ 6
def drR (σ : Mem) (a : Nat) : Int32 × Mem := if rWf σ a then addF σ 0 (szC σ 0) (rSt σ a) (rLt σ a) (rSd σ a) (rNx σ a) else (0, σ)
theorem addF_01 {σ : Mem} {c sz : Nat} {st lt sd nx : Int32} : (addF σ c sz st lt sd nx).1 = 0 ∨ (addF σ c sz st lt sd nx).1 = 1 := by
  unfold addF
  split
  · exact Or.inl rfl
  · exact Or.inr rfl
theorem drR_01 {σ : Mem} {a : Nat} : (drR σ a).1 = 0 ∨ (drR σ a).1 = 1 := by
  unfold drR
  split
  · exact addF_01
  · exact Or.inl rfl
/-- the rules of the text, from the k-th on -/
def dtL (n : Nat) : Nat → Nat → Mem → Int32 × Mem
  | 0, _, σ => (1, σ)
  | f + 1, k, σ => if nI n < nI (5 * k + 4) then (1, σ) else if k = 0 ∨ σ 1 0 (5 * k - 1) = 44 then (if (drR σ (5 * k)).1 = 0 then (0, (drR σ (5 * k)).2) else dtL n f (k + 1) (drR σ (5 * k)).2) else (0, σ)
def txN (σ : Mem) : Nat := (σ 0 0 0).toNatClampNeg
def dtF (σ : Mem) : Int32 × Mem := if nI (txN σ % 5) = 4 then dtL (txN σ) 8 0 (up σ 3 0 0 0) else (0, up σ 3 0 0 0)
theorem dtL_s {n k : Nat} {σ : Mem} (hk : k < 8) : dtL n (8 - k) k σ = if nI n < nI (5 * k + 4) then (1, σ) else if k = 0 ∨ σ 1 0 (5 * k - 1) = 44 then (if (drR σ (5 * k)).1 = 0 then (0, (drR σ (5 * k)).2) else dtL n (8 - (k + 1)) (k + 1) (drR σ (5 * k)).2) else (0, σ) := by
  obtain ⟨m, hm⟩ : ∃ m, 8 - k = m + 1 := ⟨7 - k, by omega⟩
  have hm2 : 8 - (k + 1) = m := by omega
  rw [hm, hm2]
  rfl
def sContract (σ : Mem) (k : Int32) : R3 := if bad k 4 then (1, none, σ) else if (dtF σ).1 = 0 then (1, none, up (dtF σ).2 0 0 0 0) else
  (0, some (bec (up (dtF σ).2 0 0 0 0) (k.toNatClampNeg + 1) 0 (szC (dtF σ).2 0) 3 0 0), bec (up (dtF σ).2 0 0 0 0) (k.toNatClampNeg + 1) 0 (szC (dtF σ).2 0))
/-- the draft has at most nine rules -/
def DW (σ : Mem) : Prop := σ 3 0 0 = nI (szC σ 0) ∧ szC σ 0 ≤ 9
theorem DW_addF {σ : Mem} {st lt sd nx : Int32} (h : DW σ) : DW (addF σ 0 (szC σ 0) st lt sd nx).2 := by
  unfold addF
  split
  · exact h
  · rename_i h9
    have h1 : addR σ 0 (szC σ 0) st lt sd nx 3 0 0 = nI (szC σ 0 + 1) := by simp [addR, up]
    have h8 : ¬ 9 ≤ szC σ 0 := fun z => h9 (Or.inl z)
    refine ⟨?_, ?_⟩
    · show addR σ 0 (szC σ 0) st lt sd nx 3 0 0 = nI (addR σ 0 (szC σ 0) st lt sd nx 3 0 0).toNatClampNeg
      rw [h1, nI_clamp (by omega)]
    · show (addR σ 0 (szC σ 0) st lt sd nx 3 0 0).toNatClampNeg ≤ 9
      rw [h1, nI_clamp (by omega)]
      omega
theorem DW_drR {σ : Mem} {a : Nat} (h : DW σ) : DW (drR σ a).2 := by
  unfold drR
  split
  · exact DW_addF h
  · exact h
theorem drR_k {σ : Mem} {a K i j : Nat} (h : K < 3) : (drR σ a).2 K i j = σ K i j := by
  unfold drR addF
  split
  · split
    · rfl
    · show addR _ _ _ _ _ _ _ K i j = _
      unfold addR
      rw [upK (by omega), upK (by omega), upK (by omega), upK (by omega), upK (by omega)]
  · rfl
theorem dtL_k {n K i j : Nat} (h : K < 3) : ∀ f k σ, (dtL n f k σ).2 K i j = σ K i j := by
  intro f
  induction f with
  | zero => intro k σ; rfl
  | succ f ih =>
    intro k σ
    unfold dtL
    split
    · rfl
    · split
      · split
        · exact drR_k h
        · rw [ih]; exact drR_k h
      · rfl
theorem DW_dtL {n : Nat} : ∀ f k σ, DW σ → DW (dtL n f k σ).2 := by
  intro f
  induction f with
  | zero => intro k σ h; exact h
  | succ f ih =>
    intro k σ h
    unfold dtL
    split
    · exact h
    · split
      · split
        · exact DW_drR h
        · exact ih _ _ (DW_drR h)
      · exact h
theorem DW_0 {σ : Mem} : DW (up σ 3 0 0 0) := by
  have h : up σ 3 0 0 0 3 0 0 = 0 := by simp [up]
  refine ⟨?_, ?_⟩
  · show up σ 3 0 0 0 3 0 0 = nI (up σ 3 0 0 0 3 0 0).toNatClampNeg
    rw [h]; decide
  · show (up σ 3 0 0 0 3 0 0).toNatClampNeg ≤ 9
    rw [h]; decide
theorem DW_dtF {σ : Mem} : DW (dtF σ).2 := by
  unfold dtF
  split
  · exact DW_dtL _ _ _ DW_0
  · exact DW_0
theorem TW.at {σ : Mem} (h : TW σ) : σ 0 0 0 = nI (txN σ) ∧ txN σ ≤ 36 := by
  obtain ⟨n, hn, h2⟩ := h
  unfold txN
  rw [h2, nI_clamp (by omega)]
  exact ⟨rfl, hn⟩
theorem rem5 {n : Nat} (h : n ≤ 36) : nI n - nI n / 5 * 5 = nI (n % 5) := (by decide +kernel : ∀ n, n < 37 → nI n - nI n / 5 * 5 = nI (n % 5)) n (by omega)
theorem nI_5 {k : Nat} (h : k < 8) : nI (5 * k) + 4 = nI (5 * k + 4) ∧ nI (5 * k) + 5 = nI (5 * (k + 1)) ∧ (nI (5 * k) = 0 ↔ k = 0) := (by decide +kernel : ∀ k, k < 8 → nI (5 * k) + 4 = nI (5 * k + 4) ∧ nI (5 * k) + 5 = nI (5 * (k + 1)) ∧ (nI (5 * k) = 0 ↔ k = 0)) k h
theorem nI_5m {k : Nat} (h : k < 8) (h0 : ¬ k = 0) : nI (5 * k) - 1 = nI (5 * k - 1) := (by decide +kernel : ∀ k, k < 8 → ¬ k = 0 → nI (5 * k) - 1 = nI (5 * k - 1)) k h h0
theorem nI_at {n k : Nat} (hn : n ≤ 36) (hk : k ≤ 7) (h : ¬ nI n < nI (5 * k + 4)) : 5 * k + 4 ≤ n := by
  rw [Int32.lt_iff_toInt_lt, nI_toInt (by omega), nI_toInt (by omega)] at h
  omega
theorem nI_aj {a j : Nat} : nI a + nI j = nI (a + j) := (Int32.ofNat_add a j).symm
set_option maxHeartbeats 4000000 in
set_option maxRecDepth 100000 in
theorem c_Sy_draftRuleAt {S0 : State} {A0 : Array Value} {D : va_G} {ar : Nat → ClassId} {base : Nat} {σ : Mem} {l : Launch} (hlt : l.stackTraces = false) {aK aV : Nat → Nat} (hs : SX S0 aK aV) (hz0 : (Term.string R_Sy 142).eval A0 S0 none [] S0 = some (.ref (aK 0))) (hz1 : (Term.string R_Sy 273).eval A0 S0 none [] S0 = some (.ref (aK 1))) {a0 : Nat} (ha : a0 + 3 < 36) (hdw : DW σ) :
    MX l y_Sy_draftRuleAt [Cond.code y_Sy_draftRuleAt b_Sy_draftRuleAt 7 (some .boolean)] (rmL 5) (PS S0 A0 D ar base σ [.ref (base + ad 0 0), .int (nI a0)]) (QI D ar base (fun k r σ' => k = 0 ∧ ∃ xx, r = some xx ∧ (xx, σ') = drR σ a0)) (inB base 122) := by
  refine cx_head hlt (by decide +kernel) (Nat.le_of_ble_eq_true rfl) ?_
  intro p ev s m below meth c ls C0 hP hl
  have C0 : Cx S0 A0 D ar base p l s m _ meth c R_Sy b_Sy_draftRuleAt 7 (some .boolean) := C0
  obtain ⟨hx, hb, -⟩ := id C0
  have hl : lv_has ls 7 [(0, .ref (base + ad 0 0)), (1, .int (nI a0))] := hl
  have hS : va_S (inB base 122) s.heap s.heap [] := va_S.rf
  refine lv_aload_n hx hb d_Sy_draftRuleAt_0 rfl (lv_at hl 0 rfl) ?_
  refine q_get C0 hP (kd := 0) (i := 0) (ci := 0) (by decide) (by decide) rfl rfl 0 (by decide) rfl k_fl_Sy_9 rfl d_Sy_draftRuleAt_1 ?_
  refine lv_iload_n hx hb d_Sy_draftRuleAt_4 rfl (lv_at hl 1 rfl) ?_
  refine q_cald C0 hP (kd := 1) (i := 0) (by decide) (by decide) rfl (vin_nI (by omega)) d_Sy_draftRuleAt_5 ?_
  rw [show (nI a0).toNatClampNeg = a0 from nI_clamp (by omega)]
  refine lv_bipush (v := 48) hx hb d_Sy_draftRuleAt_6 (by decide) ?_
  refine lv_isub hx hb d_Sy_draftRuleAt_8 ?_
  refine lv_istore_n (lv' := [(2, .int ((σ 1 0 a0) - 48)), (0, .ref (base + ad 0 0)), (1, .int (nI a0))]) hx hb d_Sy_draftRuleAt_9 rfl hl (by decide) rfl (fun ls hl => ?_)
  refine q_ldcS C0 k_sr_Sy_142 hz0 d_Sy_draftRuleAt_10 ?_
  refine lv_aload_n hx hb d_Sy_draftRuleAt_12 rfl (lv_at hl 1 rfl) ?_
  refine q_get C0 hP (kd := 0) (i := 0) (ci := 0) (by decide) (by decide) rfl rfl 0 (by decide) rfl k_fl_Sy_9 rfl d_Sy_draftRuleAt_13 ?_
  refine lv_iload_n hx hb d_Sy_draftRuleAt_16 rfl (lv_at hl 2 rfl) ?_
  refine lv_iconst (v := 1) hx hb d_Sy_draftRuleAt_17 (by decide) ?_
  refine lv_iadd hx hb d_Sy_draftRuleAt_18 ?_
  rw [show ((nI a0) + 1 : Int32) = nI (a0 + 1) from nI_aj (j := 1)]
  refine q_cald C0 hP (kd := 1) (i := 0) (by decide) (by decide) rfl (vin_nI (by omega)) d_Sy_draftRuleAt_19 ?_
  rw [show (nI (a0 + 1)).toNatClampNeg = (a0 + 1) from nI_clamp (by omega)]
  refine cs_PI C0 hP hS (cs_VS C0 hs hS (by decide) (As := [.int (σ 1 0 (a0 + 1))]) k_ml_Sy_270 k_im_String_indexOf_I k_sl_String_String_indexOf_I k_cd_String_indexOf_I k_in_String z_String_indexOf_I rfl d_Sy_draftRuleAt_20) (c_String_indexOf_I hlt hs (by decide)) hl.1 d_Sy_draftRuleAt_20 (Nat.le_of_ble_eq_true rfl) (⟨by decide, by decide⟩) (⟨by decide, by decide⟩) (fun k r hk hp => absurd hp.1 hk) (fun r_2 h_1 => ?_)
  obtain ⟨-, rfl⟩ := h_1
  refine lv_istore_n (lv' := [(3, .int (idxF 0 (σ 1 0 (a0 + 1)))), (2, .int ((σ 1 0 a0) - 48)), (0, .ref (base + ad 0 0)), (1, .int (nI a0))]) hx hb d_Sy_draftRuleAt_23 rfl hl (by decide) rfl (fun ls hl => ?_)
  refine q_ldcSW C0 k_sr_Sy_273 hz1 d_Sy_draftRuleAt_24 ?_
  refine lv_aload_n hx hb d_Sy_draftRuleAt_27 rfl (lv_at hl 2 rfl) ?_
  refine q_get C0 hP (kd := 0) (i := 0) (ci := 0) (by decide) (by decide) rfl rfl 0 (by decide) rfl k_fl_Sy_9 rfl d_Sy_draftRuleAt_28 ?_
  refine lv_iload_n hx hb d_Sy_draftRuleAt_31 rfl (lv_at hl 3 rfl) ?_
  refine lv_iconst (v := 2) hx hb d_Sy_draftRuleAt_32 (by decide) ?_
  refine lv_iadd hx hb d_Sy_draftRuleAt_33 ?_
  rw [show ((nI a0) + 2 : Int32) = nI (a0 + 2) from nI_aj (j := 2)]
  refine q_cald C0 hP (kd := 1) (i := 0) (by decide) (by decide) rfl (vin_nI (by omega)) d_Sy_draftRuleAt_34 ?_
  rw [show (nI (a0 + 2)).toNatClampNeg = (a0 + 2) from nI_clamp (by omega)]
  refine cs_PI C0 hP hS (cs_VS C0 hs hS (by decide) (As := [.int (σ 1 0 (a0 + 2))]) k_ml_Sy_270 k_im_String_indexOf_I k_sl_String_String_indexOf_I k_cd_String_indexOf_I k_in_String z_String_indexOf_I rfl d_Sy_draftRuleAt_35) (c_String_indexOf_I hlt hs (by decide)) hl.1 d_Sy_draftRuleAt_35 (Nat.le_of_ble_eq_true rfl) (⟨by decide, by decide⟩) (⟨by decide, by decide⟩) (fun k r hk hp => absurd hp.1 hk) (fun r_4 h_3 => ?_)
  obtain ⟨-, rfl⟩ := h_3
  refine lv_istore (lv' := [(4, .int (idxF 1 (σ 1 0 (a0 + 2)))), (3, .int (idxF 0 (σ 1 0 (a0 + 1)))), (2, .int ((σ 1 0 a0) - 48)), (0, .ref (base + ad 0 0)), (1, .int (nI a0))]) hx hb d_Sy_draftRuleAt_38 hl (by decide) rfl (fun ls hl => ?_)
  refine lv_aload_n hx hb d_Sy_draftRuleAt_40 rfl (lv_at hl 3 rfl) ?_
  refine q_get C0 hP (kd := 0) (i := 0) (ci := 0) (by decide) (by decide) rfl rfl 0 (by decide) rfl k_fl_Sy_9 rfl d_Sy_draftRuleAt_41 ?_
  refine lv_iload_n hx hb d_Sy_draftRuleAt_44 rfl (lv_at hl 4 rfl) ?_
  refine lv_iconst (v := 3) hx hb d_Sy_draftRuleAt_45 (by decide) ?_
  refine lv_iadd hx hb d_Sy_draftRuleAt_46 ?_
  rw [show ((nI a0) + 3 : Int32) = nI (a0 + 3) from nI_aj (j := 3)]
  refine q_cald C0 hP (kd := 1) (i := 0) (by decide) (by decide) rfl (vin_nI (by omega)) d_Sy_draftRuleAt_47 ?_
  rw [show (nI (a0 + 3)).toNatClampNeg = (a0 + 3) from nI_clamp (by omega)]
  refine lv_bipush (v := 48) hx hb d_Sy_draftRuleAt_48 (by decide) ?_
  refine lv_isub hx hb d_Sy_draftRuleAt_50 ?_
  refine lv_istore (lv' := [(5, .int ((σ 1 0 (a0 + 3)) - 48)), (4, .int (idxF 1 (σ 1 0 (a0 + 2)))), (3, .int (idxF 0 (σ 1 0 (a0 + 1)))), (2, .int ((σ 1 0 a0) - 48)), (0, .ref (base + ad 0 0)), (1, .int (nI a0))]) hx hb d_Sy_draftRuleAt_51 hl (by decide) rfl (fun ls hl => ?_)
  refine lv_iload_n hx hb d_Sy_draftRuleAt_53 rfl (lv_at hl 3 rfl) ?_
  refine lv_iconst (v := 1) hx hb d_Sy_draftRuleAt_54 (by decide) ?_
  refine lv_icmp_lt (tgt := 89) hx hb d_Sy_draftRuleAt_55 (by decide) (fun c_55 => ?_) (fun c_55 => ?_)
  · skip
    refine lv_iconst (v := 0) hx hb d_Sy_draftRuleAt_89 (by decide) ?_
    refine lv_istore (lv' := [(6, .int 0), (5, .int ((σ 1 0 (a0 + 3)) - 48)), (4, .int (idxF 1 (σ 1 0 (a0 + 2)))), (3, .int (idxF 0 (σ 1 0 (a0 + 1)))), (2, .int ((σ 1 0 a0) - 48)), (0, .ref (base + ad 0 0)), (1, .int (nI a0))]) hx hb d_Sy_draftRuleAt_90 hl (by decide) rfl (fun ls hl => ?_)
    refine lv_iload hx hb d_Sy_draftRuleAt_92 (lv_at hl 0 rfl) ?_
    refine lv_if_eq (tgt := 117) hx hb d_Sy_draftRuleAt_94 (by decide) (fun c_94 => ?_) (fun c_94 => ?_)
    · skip
      refine lv_iconst (v := 0) hx hb d_Sy_draftRuleAt_117 (by decide) ?_
      exact rI_z C0 hP hS (⟨by decide, by decide⟩) (Or.inl rfl) (⟨rfl, _, rfl, by unfold drR; rw [if_neg (show ¬ rWf σ a0 from fun z => absurd c_55 (z.1))]⟩) d_Sy_draftRuleAt_118
    · skip
      exact absurd rfl c_94
  · skip
    refine lv_iload_n hx hb d_Sy_draftRuleAt_58 rfl (lv_at hl 3 rfl) ?_
    refine lv_bipush (v := 6) hx hb d_Sy_draftRuleAt_59 (by decide) ?_
    refine lv_icmp_gt (tgt := 89) hx hb d_Sy_draftRuleAt_61 (by decide) (fun c_61 => ?_) (fun c_61 => ?_)
    · skip
      refine lv_iconst (v := 0) hx hb d_Sy_draftRuleAt_89 (by decide) ?_
      refine lv_istore (lv' := [(6, .int 0), (5, .int ((σ 1 0 (a0 + 3)) - 48)), (4, .int (idxF 1 (σ 1 0 (a0 + 2)))), (3, .int (idxF 0 (σ 1 0 (a0 + 1)))), (2, .int ((σ 1 0 a0) - 48)), (0, .ref (base + ad 0 0)), (1, .int (nI a0))]) hx hb d_Sy_draftRuleAt_90 hl (by decide) rfl (fun ls hl => ?_)
      refine lv_iload hx hb d_Sy_draftRuleAt_92 (lv_at hl 0 rfl) ?_
      refine lv_if_eq (tgt := 117) hx hb d_Sy_draftRuleAt_94 (by decide) (fun c_94 => ?_) (fun c_94 => ?_)
      · skip
        refine lv_iconst (v := 0) hx hb d_Sy_draftRuleAt_117 (by decide) ?_
        exact rI_z C0 hP hS (⟨by decide, by decide⟩) (Or.inl rfl) (⟨rfl, _, rfl, by unfold drR; rw [if_neg (show ¬ rWf σ a0 from fun z => absurd (z.2.1) (Int32.not_le.mpr c_61))]⟩) d_Sy_draftRuleAt_118
      · skip
        exact absurd rfl c_94
    · skip
      refine lv_iload_n hx hb d_Sy_draftRuleAt_64 rfl (lv_at hl 2 rfl) ?_
      refine lv_if_lt (tgt := 89) hx hb d_Sy_draftRuleAt_65 (by decide) (fun c_65 => ?_) (fun c_65 => ?_)
      · skip
        refine lv_iconst (v := 0) hx hb d_Sy_draftRuleAt_89 (by decide) ?_
        refine lv_istore (lv' := [(6, .int 0), (5, .int ((σ 1 0 (a0 + 3)) - 48)), (4, .int (idxF 1 (σ 1 0 (a0 + 2)))), (3, .int (idxF 0 (σ 1 0 (a0 + 1)))), (2, .int ((σ 1 0 a0) - 48)), (0, .ref (base + ad 0 0)), (1, .int (nI a0))]) hx hb d_Sy_draftRuleAt_90 hl (by decide) rfl (fun ls hl => ?_)
        refine lv_iload hx hb d_Sy_draftRuleAt_92 (lv_at hl 0 rfl) ?_
        refine lv_if_eq (tgt := 117) hx hb d_Sy_draftRuleAt_94 (by decide) (fun c_94 => ?_) (fun c_94 => ?_)
        · skip
          refine lv_iconst (v := 0) hx hb d_Sy_draftRuleAt_117 (by decide) ?_
          exact rI_z C0 hP hS (⟨by decide, by decide⟩) (Or.inl rfl) (⟨rfl, _, rfl, by unfold drR; rw [if_neg (show ¬ rWf σ a0 from fun z => absurd c_65 (z.2.2.1))]⟩) d_Sy_draftRuleAt_118
        · skip
          exact absurd rfl c_94
      · skip
        refine lv_iload hx hb d_Sy_draftRuleAt_68 (lv_at hl 1 rfl) ?_
        refine lv_if_lt (tgt := 89) hx hb d_Sy_draftRuleAt_70 (by decide) (fun c_70 => ?_) (fun c_70 => ?_)
        · skip
          refine lv_iconst (v := 0) hx hb d_Sy_draftRuleAt_89 (by decide) ?_
          refine lv_istore (lv' := [(6, .int 0), (5, .int ((σ 1 0 (a0 + 3)) - 48)), (4, .int (idxF 1 (σ 1 0 (a0 + 2)))), (3, .int (idxF 0 (σ 1 0 (a0 + 1)))), (2, .int ((σ 1 0 a0) - 48)), (0, .ref (base + ad 0 0)), (1, .int (nI a0))]) hx hb d_Sy_draftRuleAt_90 hl (by decide) rfl (fun ls hl => ?_)
          refine lv_iload hx hb d_Sy_draftRuleAt_92 (lv_at hl 0 rfl) ?_
          refine lv_if_eq (tgt := 117) hx hb d_Sy_draftRuleAt_94 (by decide) (fun c_94 => ?_) (fun c_94 => ?_)
          · skip
            refine lv_iconst (v := 0) hx hb d_Sy_draftRuleAt_117 (by decide) ?_
            exact rI_z C0 hP hS (⟨by decide, by decide⟩) (Or.inl rfl) (⟨rfl, _, rfl, by unfold drR; rw [if_neg (show ¬ rWf σ a0 from fun z => absurd c_70 (z.2.2.2.1))]⟩) d_Sy_draftRuleAt_118
          · skip
            exact absurd rfl c_94
        · skip
          refine lv_iload hx hb d_Sy_draftRuleAt_73 (lv_at hl 0 rfl) ?_
          refine lv_if_lt (tgt := 89) hx hb d_Sy_draftRuleAt_75 (by decide) (fun c_75 => ?_) (fun c_75 => ?_)
          · skip
            refine lv_iconst (v := 0) hx hb d_Sy_draftRuleAt_89 (by decide) ?_
            refine lv_istore (lv' := [(6, .int 0), (5, .int ((σ 1 0 (a0 + 3)) - 48)), (4, .int (idxF 1 (σ 1 0 (a0 + 2)))), (3, .int (idxF 0 (σ 1 0 (a0 + 1)))), (2, .int ((σ 1 0 a0) - 48)), (0, .ref (base + ad 0 0)), (1, .int (nI a0))]) hx hb d_Sy_draftRuleAt_90 hl (by decide) rfl (fun ls hl => ?_)
            refine lv_iload hx hb d_Sy_draftRuleAt_92 (lv_at hl 0 rfl) ?_
            refine lv_if_eq (tgt := 117) hx hb d_Sy_draftRuleAt_94 (by decide) (fun c_94 => ?_) (fun c_94 => ?_)
            · skip
              refine lv_iconst (v := 0) hx hb d_Sy_draftRuleAt_117 (by decide) ?_
              exact rI_z C0 hP hS (⟨by decide, by decide⟩) (Or.inl rfl) (⟨rfl, _, rfl, by unfold drR; rw [if_neg (show ¬ rWf σ a0 from fun z => absurd c_75 (z.2.2.2.2.1))]⟩) d_Sy_draftRuleAt_118
            · skip
              exact absurd rfl c_94
          · skip
            refine lv_iload hx hb d_Sy_draftRuleAt_78 (lv_at hl 0 rfl) ?_
            refine lv_bipush (v := 6) hx hb d_Sy_draftRuleAt_80 (by decide) ?_
            refine lv_icmp_gt (tgt := 89) hx hb d_Sy_draftRuleAt_82 (by decide) (fun c_82 => ?_) (fun c_82 => ?_)
            · skip
              refine lv_iconst (v := 0) hx hb d_Sy_draftRuleAt_89 (by decide) ?_
              refine lv_istore (lv' := [(6, .int 0), (5, .int ((σ 1 0 (a0 + 3)) - 48)), (4, .int (idxF 1 (σ 1 0 (a0 + 2)))), (3, .int (idxF 0 (σ 1 0 (a0 + 1)))), (2, .int ((σ 1 0 a0) - 48)), (0, .ref (base + ad 0 0)), (1, .int (nI a0))]) hx hb d_Sy_draftRuleAt_90 hl (by decide) rfl (fun ls hl => ?_)
              refine lv_iload hx hb d_Sy_draftRuleAt_92 (lv_at hl 0 rfl) ?_
              refine lv_if_eq (tgt := 117) hx hb d_Sy_draftRuleAt_94 (by decide) (fun c_94 => ?_) (fun c_94 => ?_)
              · skip
                refine lv_iconst (v := 0) hx hb d_Sy_draftRuleAt_117 (by decide) ?_
                exact rI_z C0 hP hS (⟨by decide, by decide⟩) (Or.inl rfl) (⟨rfl, _, rfl, by unfold drR; rw [if_neg (show ¬ rWf σ a0 from fun z => absurd (z.2.2.2.2.2) (Int32.not_le.mpr c_82))]⟩) d_Sy_draftRuleAt_118
              · skip
                exact absurd rfl c_94
            · skip
              refine lv_iconst (v := 1) hx hb d_Sy_draftRuleAt_85 (by decide) ?_
              refine lv_goto (tgt := 90) hx hb d_Sy_draftRuleAt_86 (by decide) ?_
              refine lv_istore (lv' := [(6, .int 1), (5, .int ((σ 1 0 (a0 + 3)) - 48)), (4, .int (idxF 1 (σ 1 0 (a0 + 2)))), (3, .int (idxF 0 (σ 1 0 (a0 + 1)))), (2, .int ((σ 1 0 a0) - 48)), (0, .ref (base + ad 0 0)), (1, .int (nI a0))]) hx hb d_Sy_draftRuleAt_90 hl (by decide) rfl (fun ls hl => ?_)
              refine lv_iload hx hb d_Sy_draftRuleAt_92 (lv_at hl 0 rfl) ?_
              refine lv_if_eq (tgt := 117) hx hb d_Sy_draftRuleAt_94 (by decide) (fun c_94 => ?_) (fun c_94 => ?_)
              · skip
                exact absurd c_94 (by decide)
              · skip
                refine lv_aload_n hx hb d_Sy_draftRuleAt_97 rfl (lv_at hl 5 rfl) ?_
                refine q_get C0 hP (kd := 0) (i := 0) (ci := 0) (by decide) (by decide) rfl rfl 2 (by decide) rfl k_fl_Sy_16 rfl d_Sy_draftRuleAt_98 ?_
                refine lv_iload_n hx hb d_Sy_draftRuleAt_101 rfl (lv_at hl 4 rfl) ?_
                refine lv_iload_n hx hb d_Sy_draftRuleAt_102 rfl (lv_at hl 3 rfl) ?_
                refine lv_iload hx hb d_Sy_draftRuleAt_103 (lv_at hl 2 rfl) ?_
                refine lv_iload hx hb d_Sy_draftRuleAt_105 (lv_at hl 1 rfl) ?_
                refine cs_I C0 hP hS (cs_V C0 hP (kd := 7) (i := 0) (ci := 1) (As := [.int ((σ 1 0 a0) - 48), .int (idxF 0 (σ 1 0 (a0 + 1))), .int (idxF 1 (σ 1 0 (a0 + 2))), .int ((σ 1 0 (a0 + 3)) - 48)]) (by decide) (by decide) rfl rfl k_ml_Sy_275 k_im_Co_addRule k_sl_Co_Co_addRule k_cd_Co_addRule k_in_Co z_Co_addRule rfl d_Sy_draftRuleAt_107) (c_Co_addRule hlt (c0 := 0) (by decide) hdw.1 hdw.2) (fun k r σ h => h.1) ⟨rfl, rfl⟩ hl.1 d_Sy_draftRuleAt_107 (Nat.le_of_ble_eq_true rfl) (⟨by decide, by decide⟩) (⟨by decide, by decide⟩) (fun r_6 σ_7 H locs h_5 hP hS => ?_)
                obtain ⟨-, xx, rfl, hadd⟩ := h_5
                have hadd := ADD_eq hadd
                have h1 : xx = (addF σ 0 (szC σ 0) (rSt σ a0) (rLt σ a0) (rSd σ a0) (rNx σ a0)).1 := congrArg Prod.fst hadd
                have h2 : σ_7 = (addF σ 0 (szC σ 0) (rSt σ a0) (rLt σ a0) (rSd σ a0) (rNx σ a0)).2 := congrArg Prod.snd hadd
                subst h1
                subst h2
                refine lv_if_eq (tgt := 117) hx hb d_Sy_draftRuleAt_110 (by decide) (fun c_110 => ?_) (fun c_110 => ?_)
                · skip
                  refine lv_iconst (v := 0) hx hb d_Sy_draftRuleAt_117 (by decide) ?_
                  exact rI_z C0 hP hS (⟨by decide, by decide⟩) (Or.inl rfl) (⟨rfl, _, rfl, by unfold drR; rw [if_pos (show rWf σ a0 from ⟨c_55, Int32.not_lt.mp c_61, c_65, c_70, c_75, Int32.not_lt.mp c_82⟩)]; exact Prod.ext_iff.mpr ⟨c_110.symm, rfl⟩⟩) d_Sy_draftRuleAt_118
                · skip
                  refine lv_iconst (v := 1) hx hb d_Sy_draftRuleAt_113 (by decide) ?_
                  refine lv_goto (tgt := 118) hx hb d_Sy_draftRuleAt_114 (by decide) ?_
                  exact rI_z C0 hP hS (⟨by decide, by decide⟩) (Or.inr rfl) (⟨rfl, _, rfl, by unfold drR; rw [if_pos (show rWf σ a0 from ⟨c_55, Int32.not_lt.mp c_61, c_65, c_70, c_75, Int32.not_lt.mp c_82⟩)]; exact Prod.ext_iff.mpr ⟨(addF_01.resolve_left c_110).symm, rfl⟩⟩) d_Sy_draftRuleAt_118
set_option maxHeartbeats 4000000 in
set_option maxRecDepth 100000 in
theorem c_Sy_draftFromText {S0 : State} {A0 : Array Value} {D : va_G} {ar : Nat → ClassId} {base : Nat} {σ : Mem} {l : Launch} (hlt : l.stackTraces = false) {aK aV : Nat → Nat} (hs : SX S0 aK aV) (hz0 : (Term.string R_Sy 142).eval A0 S0 none [] S0 = some (.ref (aK 0))) (hz1 : (Term.string R_Sy 273).eval A0 S0 none [] S0 = some (.ref (aK 1))) (htw : TW σ) :
    MX l y_Sy_draftFromText [Cond.code y_Sy_draftFromText b_Sy_draftFromText 3 (some .boolean)] (rmL 6) (PS S0 A0 D ar base σ [.ref (base + ad 0 0)]) (QI D ar base (fun k r σ' => k = 0 ∧ ∃ xx, r = some xx ∧ (xx, σ') = dtF σ)) (inB base 122) := by
  refine cx_head hlt (by decide +kernel) (Nat.le_of_ble_eq_true rfl) ?_
  intro p ev s m below meth c ls C0 hP hl
  have C0 : Cx S0 A0 D ar base p l s m _ meth c R_Sy b_Sy_draftFromText 3 (some .boolean) := C0
  obtain ⟨hx, hb, -⟩ := id C0
  have hl : lv_has ls 3 [(0, .ref (base + ad 0 0))] := hl
  have hS : va_S (inB base 122) s.heap s.heap [] := va_S.rf
  have ht := htw.at
  refine lv_aload_n hx hb d_Sy_draftFromText_0 rfl (lv_at hl 0 rfl) ?_
  refine q_get C0 hP (kd := 0) (i := 0) (ci := 0) (by decide) (by decide) rfl rfl 2 (by decide) rfl k_fl_Sy_16 rfl d_Sy_draftFromText_1 ?_
  refine cs_I C0 hP hS (cs_V C0 hP (kd := 7) (i := 0) (ci := 1) (As := []) (by decide) (by decide) rfl rfl k_ml_Sy_264 k_im_Co_clear k_sl_Co_Co_clear k_cd_Co_clear k_in_Co z_Co_clear rfl d_Sy_draftFromText_4) (c_Co_clear hlt (by decide)) (fun k r σ h => h.1) ⟨rfl, rfl⟩ hl.1 d_Sy_draftFromText_4 (Nat.le_of_ble_eq_true rfl) (⟨by decide, by decide⟩) (⟨by decide, by decide⟩) (fun r_2 σ_3 H locs h_1 hP hS => ?_)
  obtain ⟨-, rfl, rfl⟩ := h_1
  refine lv_aload_n hx hb d_Sy_draftFromText_7 rfl (lv_at hl 0 rfl) ?_
  refine q_get C0 hP (kd := 0) (i := 0) (ci := 0) (by decide) (by decide) rfl rfl 1 (by decide) rfl k_fl_Sy_53 rfl d_Sy_draftFromText_8 ?_
  rw [show ((up σ 3 0 0 0) 0 0 0 : Int32) = nI (txN σ) from by rw [upK (by omega)]; exact ht.1]
  refine lv_iconst (v := 5) hx hb d_Sy_draftFromText_11 (by decide) ?_
  refine lv_irem hx hb d_Sy_draftFromText_12 (by decide) ?_
  rw [show ((nI (txN σ)) - (nI (txN σ)) / 5 * 5 : Int32) = nI (txN σ % 5) from rem5 ht.2]
  refine lv_iconst (v := 4) hx hb d_Sy_draftFromText_13 (by decide) ?_
  refine lv_icmp_eq (tgt := 19) hx hb d_Sy_draftFromText_14 (by decide) (fun c_14 => ?_) (fun c_14 => ?_)
  · skip
    refine lv_iconst (v := 0) hx hb d_Sy_draftFromText_19 (by decide) ?_
    rw [show (0 : Int32) = nI (5 * 0) from by decide]
    refine lv_istore_n (lv' := [(1, .int (nI (5 * 0))), (0, .ref (base + ad 0 0))]) hx hb d_Sy_draftFromText_20 rfl hl (by decide) rfl (fun ls hl => ?_)
    have loop : ∀ (n k : Nat), k ≤ 7 → 7 + 1 ≤ k + n → ∀ (σ' : Mem), dtL (txN σ) (8 - k) k σ' = dtL (txN σ) 8 0 (up σ 3 0 0 0) ∧ σ' 0 0 0 = nI (txN σ) ∧ DW σ' → ∀ (H : Heap) (locs : List Loc), va_P D classes (wl base 122 (mem ar base σ')) H → va_S (inB base 122) s.heap H locs → ∀ ls : Array Slot, lv_has ls 3 [(1, .int (nI (5 * k))), (0, .ref (base + ad 0 0))] → W p l ev (rmL 6) s m ([.ref (base + ad 0 0)] : List Value).toArray below meth c H locs 0 0 (MQX below (QI D ar base (fun k r σ' => k = 0 ∧ ∃ xx, r = some xx ∧ (xx, σ') = dtF σ)) ([.ref (base + ad 0 0)] : List Value).toArray s (rmL 6).cells (rmL 6).slots (inB base 122)) (F0 m 21 ls []) := by
      intro n
      induction n with
      | zero => intro k h1 h2; omega
      | succ n ih =>
        intro k hk1 hk2 σ' hinv H locs hP hS ls hl
        refine lv_iload_n hx hb d_Sy_draftFromText_21 rfl (lv_at hl 0 rfl) ?_
        refine lv_iconst (v := 4) hx hb d_Sy_draftFromText_22 (by decide) ?_
        refine lv_iadd hx hb d_Sy_draftFromText_23 ?_
        rw [show ((nI (5 * k)) + 4 : Int32) = nI (5 * k + 4) from (nI_5 (by omega)).1]
        refine lv_aload_n hx hb d_Sy_draftFromText_24 rfl (lv_at hl 1 rfl) ?_
        refine q_get C0 hP (kd := 0) (i := 0) (ci := 0) (by decide) (by decide) rfl rfl 1 (by decide) rfl k_fl_Sy_53 rfl d_Sy_draftFromText_25 ?_
        rw [show (σ' 0 0 0 : Int32) = nI (txN σ) from hinv.2.1]
        refine lv_icmp_gt (tgt := 74) hx hb d_Sy_draftFromText_28 (by decide) (fun c_28 => ?_) (fun c_28 => ?_)
        · skip
          refine lv_iconst (v := 1) hx hb d_Sy_draftFromText_74 (by decide) ?_
          exact rI_z C0 hP hS (⟨by decide, by decide⟩) (Or.inr rfl) (⟨rfl, _, rfl, by unfold dtF; rw [if_pos c_14, ← hinv.1, dtL_s (k := k) (by omega), if_pos c_28]⟩) d_Sy_draftFromText_75
        · skip
          have hat := nI_at ht.2 (by omega) c_28
          have hkN : k < 7 := by omega
          refine lv_iload_n hx hb d_Sy_draftFromText_31 rfl (lv_at hl 0 rfl) ?_
          refine lv_if_eq (tgt := 48) hx hb d_Sy_draftFromText_32 (by decide) (fun c_32 => ?_) (fun c_32 => ?_)
          · skip
            have hk0z : k = 0 := (nI_5 (by omega)).2.2.mp c_32
            refine lv_iconst (v := 1) hx hb d_Sy_draftFromText_48 (by decide) ?_
            refine lv_goto (tgt := 53) hx hb d_Sy_draftFromText_49 (by decide) ?_
            refine lv_istore_n (lv' := [(2, .int 1), (1, .int (nI (5 * k))), (0, .ref (base + ad 0 0))]) hx hb d_Sy_draftFromText_53 rfl hl (by decide) rfl (fun ls hl => ?_)
            have hOr : k = 0 ∨ σ' 1 0 (5 * k - 1) = 44 := Or.inl hk0z
            refine lv_iload_n hx hb d_Sy_draftFromText_54 rfl (lv_at hl 0 rfl) ?_
            refine lv_if_eq (tgt := 66) hx hb d_Sy_draftFromText_55 (by decide) (fun c_55 => ?_) (fun c_55 => ?_)
            · skip
              exact absurd c_55 (by decide)
            · skip
              refine lv_aload_n hx hb d_Sy_draftFromText_58 rfl (lv_at hl 2 rfl) ?_
              refine lv_iload_n hx hb d_Sy_draftFromText_59 rfl (lv_at hl 1 rfl) ?_
              refine cs_I C0 hP hS (cs_V C0 hP (kd := 0) (i := 0) (ci := 0) (As := [.int (nI (5 * k))]) (by decide) (by decide) rfl rfl k_ml_Sy_267 k_im_Sy_draftRuleAt k_sl_Sy_Sy_draftRuleAt k_cd_Sy_draftRuleAt k_in_Sy z_Sy_draftRuleAt rfl d_Sy_draftFromText_60) (c_Sy_draftRuleAt hlt hs hz0 hz1 (a0 := 5 * k) (by omega) hinv.2.2) (fun k r σ h => h.1) ⟨rfl, rfl⟩ hl.1 d_Sy_draftFromText_60 (Nat.le_of_ble_eq_true rfl) (⟨by decide, by decide⟩) (⟨by decide, by decide⟩) (fun r_5 σ_6 H locs h_4 hP hS => ?_)
              obtain ⟨-, xx, rfl, hadd⟩ := h_4
              have h1 : xx = (drR σ' (5 * k)).1 := congrArg Prod.fst hadd
              have h2 : σ_6 = (drR σ' (5 * k)).2 := congrArg Prod.snd hadd
              subst h1
              subst h2
              refine lv_if_ne (tgt := 68) hx hb d_Sy_draftFromText_63 (by decide) (fun c_63 => ?_) (fun c_63 => ?_)
              · skip
                refine lv_iinc (v := nI (5 * (k + 1))) (lv' := [(1, .int (nI (5 * (k + 1)))), (2, .int 1), (0, .ref (base + ad 0 0))]) hx hb d_Sy_draftFromText_68 hl (k := 1) rfl (by exact (nI_5 (by omega)).2.1) (by decide) rfl (fun ls hl => ?_)
                refine lv_goto (tgt := 21) hx hb d_Sy_draftFromText_71 (by decide) ?_
                exact ih (k + 1) (by omega) (by omega) _ (⟨by rw [← hinv.1, dtL_s (k := k) (by omega), if_neg c_28, if_pos hOr, if_neg c_63], by rw [drR_k (by decide)]; exact hinv.2.1, DW_drR hinv.2.2⟩) _ _ hP hS ls (lv_sub hl [0, 2] rfl)
              · skip
                refine lv_iconst (v := 0) hx hb d_Sy_draftFromText_66 (by decide) ?_
                exact rI_z C0 hP hS (⟨by decide, by decide⟩) (Or.inl rfl) (⟨rfl, _, rfl, by unfold dtF; rw [if_pos c_14, ← hinv.1, dtL_s (k := k) (by omega), if_neg c_28, if_pos hOr, if_pos c_63]⟩) d_Sy_draftFromText_67
          · skip
            have hk0n : ¬ k = 0 := fun z => c_32 ((nI_5 (by omega)).2.2.mpr z)
            refine lv_aload_n hx hb d_Sy_draftFromText_35 rfl (lv_at hl 1 rfl) ?_
            refine q_get C0 hP (kd := 0) (i := 0) (ci := 0) (by decide) (by decide) rfl rfl 0 (by decide) rfl k_fl_Sy_9 rfl d_Sy_draftFromText_36 ?_
            refine lv_iload_n hx hb d_Sy_draftFromText_39 rfl (lv_at hl 0 rfl) ?_
            refine lv_iconst (v := 1) hx hb d_Sy_draftFromText_40 (by decide) ?_
            refine lv_isub hx hb d_Sy_draftFromText_41 ?_
            rw [show ((nI (5 * k)) - 1 : Int32) = nI (5 * k - 1) from nI_5m (by omega) hk0n]
            refine q_cald C0 hP (kd := 1) (i := 0) (by decide) (by decide) rfl (vin_nI (by omega)) d_Sy_draftFromText_42 ?_
            rw [show (nI (5 * k - 1)).toNatClampNeg = (5 * k - 1) from nI_clamp (by omega)]
            refine lv_bipush (v := 44) hx hb d_Sy_draftFromText_43 (by decide) ?_
            refine lv_icmp_ne (tgt := 52) hx hb d_Sy_draftFromText_45 (by decide) (fun c_45 => ?_) (fun c_45 => ?_)
            · skip
              refine lv_iconst (v := 0) hx hb d_Sy_draftFromText_52 (by decide) ?_
              refine lv_istore_n (lv' := [(2, .int 0), (1, .int (nI (5 * k))), (0, .ref (base + ad 0 0))]) hx hb d_Sy_draftFromText_53 rfl hl (by decide) rfl (fun ls hl => ?_)
              refine lv_iload_n hx hb d_Sy_draftFromText_54 rfl (lv_at hl 0 rfl) ?_
              refine lv_if_eq (tgt := 66) hx hb d_Sy_draftFromText_55 (by decide) (fun c_55 => ?_) (fun c_55 => ?_)
              · skip
                refine lv_iconst (v := 0) hx hb d_Sy_draftFromText_66 (by decide) ?_
                exact rI_z C0 hP hS (⟨by decide, by decide⟩) (Or.inl rfl) (⟨rfl, _, rfl, by unfold dtF; rw [if_pos c_14, ← hinv.1, dtL_s (k := k) (by omega), if_neg c_28, if_neg (fun z => z.elim hk0n c_45)]⟩) d_Sy_draftFromText_67
              · skip
                exact absurd rfl c_55
            · skip
              refine lv_iconst (v := 1) hx hb d_Sy_draftFromText_48 (by decide) ?_
              refine lv_goto (tgt := 53) hx hb d_Sy_draftFromText_49 (by decide) ?_
              refine lv_istore_n (lv' := [(2, .int 1), (1, .int (nI (5 * k))), (0, .ref (base + ad 0 0))]) hx hb d_Sy_draftFromText_53 rfl hl (by decide) rfl (fun ls hl => ?_)
              have hOr : k = 0 ∨ σ' 1 0 (5 * k - 1) = 44 := Or.inr c_45
              refine lv_iload_n hx hb d_Sy_draftFromText_54 rfl (lv_at hl 0 rfl) ?_
              refine lv_if_eq (tgt := 66) hx hb d_Sy_draftFromText_55 (by decide) (fun c_55 => ?_) (fun c_55 => ?_)
              · skip
                exact absurd c_55 (by decide)
              · skip
                refine lv_aload_n hx hb d_Sy_draftFromText_58 rfl (lv_at hl 2 rfl) ?_
                refine lv_iload_n hx hb d_Sy_draftFromText_59 rfl (lv_at hl 1 rfl) ?_
                refine cs_I C0 hP hS (cs_V C0 hP (kd := 0) (i := 0) (ci := 0) (As := [.int (nI (5 * k))]) (by decide) (by decide) rfl rfl k_ml_Sy_267 k_im_Sy_draftRuleAt k_sl_Sy_Sy_draftRuleAt k_cd_Sy_draftRuleAt k_in_Sy z_Sy_draftRuleAt rfl d_Sy_draftFromText_60) (c_Sy_draftRuleAt hlt hs hz0 hz1 (a0 := 5 * k) (by omega) hinv.2.2) (fun k r σ h => h.1) ⟨rfl, rfl⟩ hl.1 d_Sy_draftFromText_60 (Nat.le_of_ble_eq_true rfl) (⟨by decide, by decide⟩) (⟨by decide, by decide⟩) (fun r_8 σ_9 H locs h_7 hP hS => ?_)
                obtain ⟨-, xx, rfl, hadd⟩ := h_7
                have h1 : xx = (drR σ' (5 * k)).1 := congrArg Prod.fst hadd
                have h2 : σ_9 = (drR σ' (5 * k)).2 := congrArg Prod.snd hadd
                subst h1
                subst h2
                refine lv_if_ne (tgt := 68) hx hb d_Sy_draftFromText_63 (by decide) (fun c_63 => ?_) (fun c_63 => ?_)
                · skip
                  refine lv_iinc (v := nI (5 * (k + 1))) (lv' := [(1, .int (nI (5 * (k + 1)))), (2, .int 1), (0, .ref (base + ad 0 0))]) hx hb d_Sy_draftFromText_68 hl (k := 1) rfl (by exact (nI_5 (by omega)).2.1) (by decide) rfl (fun ls hl => ?_)
                  refine lv_goto (tgt := 21) hx hb d_Sy_draftFromText_71 (by decide) ?_
                  exact ih (k + 1) (by omega) (by omega) _ (⟨by rw [← hinv.1, dtL_s (k := k) (by omega), if_neg c_28, if_pos hOr, if_neg c_63], by rw [drR_k (by decide)]; exact hinv.2.1, DW_drR hinv.2.2⟩) _ _ hP hS ls (lv_sub hl [0, 2] rfl)
                · skip
                  refine lv_iconst (v := 0) hx hb d_Sy_draftFromText_66 (by decide) ?_
                  exact rI_z C0 hP hS (⟨by decide, by decide⟩) (Or.inl rfl) (⟨rfl, _, rfl, by unfold dtF; rw [if_pos c_14, ← hinv.1, dtL_s (k := k) (by omega), if_neg c_28, if_pos hOr, if_pos c_63]⟩) d_Sy_draftFromText_67
    exact loop (7 + 1) 0 (by omega) (by omega) _ (⟨rfl, by rw [upK (by omega)]; exact ht.1, DW_0⟩) _ _ hP hS ls (lv_sub hl [0, 1] rfl)
  · skip
    refine lv_iconst (v := 0) hx hb d_Sy_draftFromText_17 (by decide) ?_
    exact rI_z C0 hP hS (⟨by decide, by decide⟩) (Or.inl rfl) (⟨rfl, _, rfl, by unfold dtF; rw [if_neg c_14]⟩) d_Sy_draftFromText_18
set_option maxHeartbeats 4000000 in
set_option maxRecDepth 100000 in
theorem c_Sy_contract {S0 : State} {A0 : Array Value} {D : va_G} {ar : Nat → ClassId} {base : Nat} {σ : Mem} {l : Launch} (hlt : l.stackTraces = false) {aK aV : Nat → Nat} (hs : SX S0 aK aV) (hz0 : (Term.string R_Sy 142).eval A0 S0 none [] S0 = some (.ref (aK 0))) (hz1 : (Term.string R_Sy 273).eval A0 S0 none [] S0 = some (.ref (aK 1))) {k0 : Int32} (htw : TW σ) :
    MX l y_Sy_contract [Cond.code y_Sy_contract b_Sy_contract 3 (some .int)] (rmK) (PS S0 A0 D ar base σ [.ref (base + ad 0 0), .int k0]) (QI D ar base (fun k r σ' => (k, r, σ') = sContract σ k0)) (inB base 122) := by
  refine cx_head hlt (by decide +kernel) (Nat.le_of_ble_eq_true rfl) ?_
  intro p ev s m below meth c ls C0 hP hl
  have C0 : Cx S0 A0 D ar base p l s m _ meth c R_Sy b_Sy_contract 3 (some .int) := C0
  obtain ⟨hx, hb, -⟩ := id C0
  have hl : lv_has ls 3 [(0, .ref (base + ad 0 0)), (1, .int k0)] := hl
  have hS : va_S (inB base 122) s.heap s.heap [] := va_S.rf
  refine lv_iload_n hx hb d_Sy_contract_0 rfl (lv_at hl 1 rfl) ?_
  refine lv_iconst (v := 4) hx hb d_Sy_contract_1 (by decide) ?_
  refine cs_PI C0 hP hS (cs_S C0 (As := [.int k0, .int 4]) k_ml_Sy_64 k_st_Sy_needBelow k_cd_Sy_needBelow k_in_Sy z_Sy_needBelow rfl d_Sy_contract_2) (c_Sy_needBelow hlt) hl.1 d_Sy_contract_2 (Nat.le_of_ble_eq_true rfl) (⟨by decide, by decide⟩) (⟨by decide, by decide⟩) (fun k r hk hp => by obtain ⟨h1, h2⟩ := hp; obtain ⟨hc, h3⟩ := nz_k h2 hk; rw [h3]; unfold sContract; rw [if_pos hc]) (fun r_2 h_1 => ?_)
  have g_3 := nz_ok h_1.2
  obtain rfl := h_1.1
  refine lv_aload_n hx hb d_Sy_contract_5 rfl (lv_at hl 0 rfl) ?_
  refine cs_I C0 hP hS (cs_V C0 hP (kd := 0) (i := 0) (ci := 0) (As := []) (by decide) (by decide) rfl rfl k_ml_Sy_68 k_im_Sy_draftFromText k_sl_Sy_Sy_draftFromText k_cd_Sy_draftFromText k_in_Sy z_Sy_draftFromText rfl d_Sy_contract_6) (c_Sy_draftFromText hlt hs hz0 hz1 htw) (fun k r σ h => h.1) ⟨rfl, rfl⟩ hl.1 d_Sy_contract_6 (Nat.le_of_ble_eq_true rfl) (⟨by decide, by decide⟩) (⟨by decide, by decide⟩) (fun r_5 σ_6 H locs h_4 hP hS => ?_)
  obtain ⟨-, xx, rfl, hadd⟩ := h_4
  have h1 : xx = (dtF σ).1 := congrArg Prod.fst hadd
  have h2 : σ_6 = (dtF σ).2 := congrArg Prod.snd hadd
  subst h1
  subst h2
  refine lv_istore_n (lv' := [(2, .int ((dtF σ).1)), (0, .ref (base + ad 0 0)), (1, .int k0)]) hx hb d_Sy_contract_9 rfl hl (by decide) rfl (fun ls hl => ?_)
  refine lv_aload_n hx hb d_Sy_contract_10 rfl (lv_at hl 1 rfl) ?_
  refine lv_iconst (v := 0) hx hb d_Sy_contract_11 (by decide) ?_
  refine q_put C0 hP hS (kd := 0) (i := 0) (ci := 0) 0 0 (by decide) rfl (by decide) rfl rfl t_Sy t_Sy_ok n_Sy 1 (by decide) rfl k_fl_Sy_53 rfl (by decide +kernel) (Nat.le_of_ble_eq_true rfl) (by simp [cont, up]) d_Sy_contract_12 (fun H locs hP hS => ?_)
  refine lv_iload_n hx hb d_Sy_contract_15 rfl (lv_at hl 0 rfl) ?_
  refine lv_if_ne (tgt := 29) hx hb d_Sy_contract_16 (by decide) (fun c_16 => ?_) (fun c_16 => ?_)
  · skip
    refine lv_aload_n hx hb d_Sy_contract_29 rfl (lv_at hl 1 rfl) ?_
    refine q_get C0 hP (kd := 0) (i := 0) (ci := 0) (by decide) (by decide) rfl rfl 3 (by decide) rfl k_fl_Sy_20 rfl d_Sy_contract_30 ?_
    refine lv_iload_n hx hb d_Sy_contract_33 rfl (lv_at hl 2 rfl) ?_
    refine q_aald C0 hP (kd := 2) (i := 0) (t0 := 3) (v := base + ad 7 (k0.toNatClampNeg + 1)) (by decide) (by decide) rfl rfl (rfl) (vin_b (n := 4) g_3) d_Sy_contract_34 ?_
    refine lv_aload_n hx hb d_Sy_contract_35 rfl (lv_at hl 1 rfl) ?_
    refine q_get C0 hP (kd := 0) (i := 0) (ci := 0) (by decide) (by decide) rfl rfl 2 (by decide) rfl k_fl_Sy_16 rfl d_Sy_contract_36 ?_
    refine cs_I C0 hP hS (cs_V C0 hP (kd := 7) (i := k0.toNatClampNeg + 1) (ci := 1) (As := [.ref (base + ad 7 0)]) (by decide) (vin_off (vin_b (n := 4) g_3) (by decide)) rfl rfl k_ml_Sy_77 k_im_Co_become k_sl_Co_Co_become k_cd_Co_become k_in_Co z_Co_become rfl d_Sy_contract_39) (c_Co_become hlt (c0 := k0.toNatClampNeg + 1) (d0 := 0) (by have := vin_lt (vin_b (n := 4) g_3); omega) (by decide) (by omega) (sz := szC (dtF σ).2 0) (by rw [upK (by omega)]; exact DW_dtF.1) DW_dtF.2) (fun k r σ h => h.1) ⟨rfl, rfl⟩ hl.1 d_Sy_contract_39 (Nat.le_of_ble_eq_true rfl) (⟨by decide, by decide⟩) (⟨by decide, by decide⟩) (fun r_8 σ_9 H locs h_7 hP hS => ?_)
    obtain ⟨-, rfl, rfl⟩ := h_7
    refine lv_aload_n hx hb d_Sy_contract_42 rfl (lv_at hl 1 rfl) ?_
    refine q_get C0 hP (kd := 0) (i := 0) (ci := 0) (by decide) (by decide) rfl rfl 2 (by decide) rfl k_fl_Sy_16 rfl d_Sy_contract_43 ?_
    refine q_getN C0 hP (kd := 7) (i := 0) (ci := 1) (by decide) (by decide) rfl rfl 4 (by decide) rfl k_fn_Sy_81 rfl d_Sy_contract_46 ?_
    exact rI_i C0 hP hS (⟨by decide, by decide⟩) (by unfold sContract; rw [if_neg g_3, if_neg c_16]; first | done | rfl) d_Sy_contract_49
  · skip
    exact tI_1 C0 hP hS k_sr_Sy_74 xs_74 hl.1 d_Sy_contract_19 d_Sy_contract_22 d_Sy_contract_23 d_Sy_contract_25 d_Sy_contract_28 (by decide) (by decide) (⟨by decide, by decide⟩) (by unfold sContract; rw [if_neg g_3, if_pos c_16]; first | done | rfl)
