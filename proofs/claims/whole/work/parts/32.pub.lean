/-! block, say, type: laid by gen/m32.py. -/
def hoM (σ : Mem) (b : Nat) (q n : Int32) : Mem := fillM (up (up σ 8 b 0 q) 9 b 0 n) b 0 8
def sBlock (σ : Mem) (q n : Int32) : R3 := if bad q 4 then (1, none, σ) else if n < 1 ∨ ¬ n ≤ 8 then (1, none, σ) else if σ 2 0 q.toNatClampNeg = 0 then (2, none, σ) else
  if nI (lfb σ) = 12 then (4, none, σ) else if sCells σ 12 + n ≤ 48 then (0, some (nI (lfb σ)), hoM σ (lfb σ) q n) else (4, none, σ)
theorem kLoad_0 {σ : Mem} {q x lt v : Int32} (h : kLoad σ q x lt v = 0) : isB lt ∨ lt = 6 → vp_in v 12 := by
  unfold kLoad at h
  have rg : ¬ v < 0 → ¬ (12 : Int32) ≤ v → vp_in v 12 := fun h1 h2 => vin_rg h1 (by rw [Int32.le_iff_toInt_le] at h2; have h12 : (12 : Int32).toInt = 12 := (by decide); omega)
  by_cases h1 : isB lt ∧ ¬ ownB σ q v
  · rw [if_pos h1] at h; cases h
  · rw [if_neg h1] at h
    by_cases h2 : lt = 6 ∧ ¬ ownE σ q v x
    · rw [if_pos h2] at h; cases h
    · rintro (h3 | h3)
      · have h4 := Classical.not_not.mp (fun z => h1 ⟨h3, z⟩)
        exact rg h4.1 h4.2.1
      · have h4 := Classical.not_not.mp (fun z => h2 ⟨h3, z⟩)
        exact rg h4.1 h4.2.1
theorem giveM_k {σ : Mem} {lt v q : Int32} {K a b : Nat} (h : K ≠ 8 ∧ K ≠ 11) : giveM σ lt v q K a b = σ K a b := by
  unfold giveM
  split
  · exact upK (fun z => h.1 z.1)
  · split
    · exact upK (fun z => h.2 z.1)
    · rfl
def saN (σ : Mem) (x lt : Int32) : Int32 := nxt σ ((x / 2).toNatClampNeg + 5) (szC σ ((x / 2).toNatClampNeg + 5)) (σ 12 x.toNatClampNeg 0) lt (x &&& 1)
def saM (σ : Mem) (x lt v nx : Int32) : Mem :=
  let σ3 := pushM (giveM (up σ 12 x.toNatClampNeg 0 nx) lt v 4) (x ^^^ 1).toNatClampNeg (wtE σ (x ^^^ 1).toNatClampNeg) lt v
  up σ3 0 0 1 (σ3 0 0 1 + 1)
def sSay (σ : Mem) (q x lt v : Int32) : R3 := if bad lt 7 then (1, none, σ) else if kOwnE σ q x = 0 then (if saN σ x lt = -1 then (2, none, σ) else if kLoad σ q x lt v = 0 then
  (if σ 11 (x ^^^ 1).toNatClampNeg 0 ≠ -1 then (if σ 13 (x ^^^ 1).toNatClampNeg 0 < 3 then (0, none, saM σ x lt v (saN σ x lt)) else (2, none, σ)) else (3, none, σ)) else (kLoad σ q x lt v, none, σ)) else (kOwnE σ q x, none, σ)
def sh (k : Nat) : Int32 := 56 - 8 * nI k
def byt (x : Int64) (k : Nat) : Int32 := (x.toUInt64 >>> ((sh k).toInt64.toUInt64 &&& Int64.toUInt64 63)).toInt64.toInt32 &&& 255
def tyN (x : Int64) : Nat → Nat
  | 0 => 0
  | k + 1 => if byt x k = 0 then tyN x k else tyN x k + 1
abbrev tyOk (x : Int64) (k : Nat) : Prop := ∀ j, j < k → byt x j = 0 ∨ ¬ (byt x j < 33 ∨ ¬ byt x j ≤ 126)
def chr (c : Int32) : Int32 := vp_nar .char ((c.toUInt32 % 65536).toInt32)
def tyP (σ : Mem) (c : Int32) : Mem := up (up σ 1 0 (σ 0 0 0).toNatClampNeg (chr c)) 0 0 0 (σ 0 0 0 + 1)
def tyM (x : Int64) (σ : Mem) : Nat → Mem
  | 0 => σ
  | k + 1 => if byt x k = 0 then tyM x σ k else tyP (tyM x σ k) (byt x k)
def TW (σ : Mem) : Prop := ∃ n : Nat, n ≤ 36 ∧ σ 0 0 0 = nI n
def sType (σ : Mem) (x : Int64) : R3 := if tyOk x 8 then (if σ 0 0 0 + nI (tyN x 8) ≤ 36 then (0, some (tyM x σ 8 0 0 0), tyM x σ 8) else (4, none, σ)) else (1, none, σ)
theorem tyN_le {x : Int64} : ∀ k, tyN x k ≤ k := by
  intro k
  induction k with
  | zero => exact Nat.le_refl _
  | succ k ih => unfold tyN; split <;> omega
theorem tyN_mono {x : Int64} : ∀ d k, tyN x k ≤ tyN x (k + d) := by
  intro d
  induction d with
  | zero => intro k; exact Nat.le_refl _
  | succ d ih =>
    intro k
    have h1 := ih k
    have h2 : tyN x (k + d) ≤ tyN x (k + d + 1) := by
      show _ ≤ (if byt x (k + d) = 0 then tyN x (k + d) else tyN x (k + d) + 1)
      split <;> omega
    exact Nat.le_trans h1 h2
theorem tyN_lt {x : Int64} {k : Nat} (hk : k < 8) (h : ¬ byt x k = 0) : tyN x k < tyN x 8 := by
  have h1 := tyN_mono (x := x) (8 - (k + 1)) (k + 1)
  rw [show k + 1 + (8 - (k + 1)) = 8 from by omega] at h1
  have h2 : tyN x (k + 1) = tyN x k + 1 := if_neg h
  omega
theorem tyM_len {x : Int64} {σ : Mem} {n : Nat} (h : σ 0 0 0 = nI n) : ∀ k, tyM x σ k 0 0 0 = nI (n + tyN x k) := by
  intro k
  induction k with
  | zero => exact h
  | succ k ih =>
    unfold tyM tyN
    split
    · exact ih
    · show tyM x σ k 0 0 0 + 1 = _
      rw [ih, nI_1]
      rfl
theorem tyOk_no {x : Int64} {k : Nat} (hk : k < 8) (h1 : ¬ byt x k = 0) (h2 : byt x k < 33 ∨ ¬ byt x k ≤ 126) : ¬ tyOk x 8 := fun h => (h k hk).elim h1 (fun z => z h2)
theorem tyOk_s {x : Int64} {k : Nat} (h : tyOk x k) (h2 : byt x k = 0 ∨ ¬ (byt x k < 33 ∨ ¬ byt x k ≤ 126)) : tyOk x (k + 1) := by
  intro j hj
  by_cases h3 : j = k
  · subst h3; exact h2
  · exact h j (by omega)
theorem ty_sum {n a : Nat} (hn : n ≤ 36) (ha : a ≤ 8) : (nI n + nI a ≤ 36) ↔ n + a ≤ 36 := by
  have h : ∀ n, n < 37 → ∀ a, a < 9 → ((nI n + nI a ≤ 36) ↔ n + a ≤ 36) := by decide +kernel
  exact h n (by omega) a (by omega)
set_option maxHeartbeats 4000000 in
set_option maxRecDepth 100000 in
theorem c_Bl_handOut {S0 : State} {A0 : Array Value} {D : va_G} {ar : Nat → ClassId} {base : Nat} {σ : Mem} {l : Launch} (hlt : l.stackTraces = false) {aK aV : Nat → Nat} (hs : SX S0 aK aV) {b0 : Nat} (hb0 : b0 < 12) {q n : Int32} :
    MX l y_Bl_handOut [Cond.code y_Bl_handOut b_Bl_handOut 3 none] (rmL 1) (PS S0 A0 D ar base σ [.ref (base + ad 12 b0), .int q, .int n]) (QI D ar base (fun k r σ' => k = 0 ∧ r = none ∧ σ' = hoM σ b0 q n)) (inB base 122) := by
  refine cx_head hlt (by decide +kernel) (Nat.le_of_ble_eq_true rfl) ?_
  intro p ev s m below meth c ls C0 hP hl
  have C0 : Cx S0 A0 D ar base p l s m _ meth c R_Bl b_Bl_handOut 3 none := C0
  obtain ⟨hx, hb, -⟩ := id C0
  have hl : lv_has ls 3 [(0, .ref (base + ad 12 b0)), (1, .int q), (2, .int n)] := hl
  have hS : va_S (inB base 122) s.heap s.heap [] := va_S.rf
  refine lv_aload_n hx hb d_Bl_handOut_0 rfl (lv_at hl 0 rfl) ?_
  refine lv_iload_n hx hb d_Bl_handOut_1 rfl (lv_at hl 1 rfl) ?_
  refine q_put C0 hP hS (kd := 12) (i := b0) (ci := 2) 8 0 (by decide) rfl (hb0) rfl rfl t_Bl t_Bl_ok n_Bl 1 (by decide) rfl k_fl_Bl_15 rfl (by decide +kernel) (Nat.le_of_ble_eq_true rfl) (by simp [cont, up]) d_Bl_handOut_2 (fun H locs hP hS => ?_)
  refine lv_aload_n hx hb d_Bl_handOut_5 rfl (lv_at hl 0 rfl) ?_
  refine lv_iload_n hx hb d_Bl_handOut_6 rfl (lv_at hl 2 rfl) ?_
  refine q_put C0 hP hS (kd := 12) (i := b0) (ci := 2) 9 0 (by decide) rfl (hb0) rfl rfl t_Bl t_Bl_ok n_Bl 2 (by decide) rfl k_fl_Bl_19 rfl (by decide +kernel) (Nat.le_of_ble_eq_true rfl) (by simp [cont, up]) d_Bl_handOut_7 (fun H locs hP hS => ?_)
  refine lv_aload_n hx hb d_Bl_handOut_10 rfl (lv_at hl 0 rfl) ?_
  refine q_get C0 hP (kd := 12) (i := b0) (ci := 2) (by decide) (hb0) rfl rfl 0 (by decide) rfl k_fl_Bl_9 rfl d_Bl_handOut_11 ?_
  refine lv_iconst (v := 0) hx hb d_Bl_handOut_14 (by decide) ?_
  refine cs_I C0 hP hS (cs_S C0 (As := [.ref (base + ad 13 b0), .int 0]) k_ml_Bl_22 k_st_Arrays_fill_aII k_cd_Arrays_fill_aII k_in_Arrays z_Arrays_fill_aII rfl d_Bl_handOut_15) (c_Arrays_fill_aII hlt hs hb0) (fun k r σ h => h.1) ⟨rfl, rfl⟩ hl.1 d_Bl_handOut_15 (Nat.le_of_ble_eq_true rfl) (⟨by decide, by decide⟩) (⟨by decide, by decide⟩) (fun r_2 σ_3 H locs h_1 hP hS => ?_)
  obtain ⟨-, rfl, rfl⟩ := h_1
  exact rI_v C0 hP hS (⟨by decide, by decide⟩) (⟨rfl, rfl, rfl⟩) d_Bl_handOut_18
set_option maxHeartbeats 4000000 in
set_option maxRecDepth 100000 in
theorem c_Sy_block {S0 : State} {A0 : Array Value} {D : va_G} {ar : Nat → ClassId} {base : Nat} {σ : Mem} {l : Launch} (hlt : l.stackTraces = false) {aK aV : Nat → Nat} (hs : SX S0 aK aV) {q n : Int32} :
    MX l y_Sy_block [Cond.code y_Sy_block b_Sy_block 4 (some .int)] (rmK) (PS S0 A0 D ar base σ [.ref (base + ad 0 0), .int q, .int n]) (QI D ar base (fun k r σ' => (k, r, σ') = sBlock σ q n)) (inB base 122) := by
  refine cx_head hlt (by decide +kernel) (Nat.le_of_ble_eq_true rfl) ?_
  intro p ev s m below meth c ls C0 hP hl
  have C0 : Cx S0 A0 D ar base p l s m _ meth c R_Sy b_Sy_block 4 (some .int) := C0
  obtain ⟨hx, hb, -⟩ := id C0
  have hl : lv_has ls 4 [(0, .ref (base + ad 0 0)), (1, .int q), (2, .int n)] := hl
  have hS : va_S (inB base 122) s.heap s.heap [] := va_S.rf
  refine lv_iload_n hx hb d_Sy_block_0 rfl (lv_at hl 1 rfl) ?_
  refine lv_iconst (v := 4) hx hb d_Sy_block_1 (by decide) ?_
  refine cs_PI C0 hP hS (cs_S C0 (As := [.int q, .int 4]) k_ml_Sy_64 k_st_Sy_needBelow k_cd_Sy_needBelow k_in_Sy z_Sy_needBelow rfl d_Sy_block_2) (c_Sy_needBelow hlt) hl.1 d_Sy_block_2 (Nat.le_of_ble_eq_true rfl) (⟨by decide, by decide⟩) (⟨by decide, by decide⟩) (fun k r hk hp => by obtain ⟨h1, h2⟩ := hp; obtain ⟨hc, h3⟩ := nz_k h2 hk; rw [h3]; unfold sBlock; rw [if_pos hc]) (fun r_2 h_1 => ?_)
  have g_3 := nz_ok h_1.2
  obtain rfl := h_1.1
  refine lv_iload_n hx hb d_Sy_block_5 rfl (lv_at hl 2 rfl) ?_
  refine lv_iconst (v := 1) hx hb d_Sy_block_6 (by decide) ?_
  refine lv_bipush (v := 8) hx hb d_Sy_block_7 (by decide) ?_
  refine cs_PI C0 hP hS (cs_S C0 (As := [.int n, .int 1, .int 8]) k_ml_Sy_49 k_st_Sy_needWithin k_cd_Sy_needWithin k_in_Sy z_Sy_needWithin rfl d_Sy_block_9) (c_Sy_needWithin hlt) hl.1 d_Sy_block_9 (Nat.le_of_ble_eq_true rfl) (⟨by decide, by decide⟩) (⟨by decide, by decide⟩) (fun k r hk hp => by obtain ⟨h1, h2⟩ := hp; obtain ⟨hc, h3⟩ := nz_k h2 hk; rw [h3]; unfold sBlock; rw [if_neg g_3, if_pos hc]) (fun r_5 h_4 => ?_)
  have g_6 := nz_ok h_4.2
  obtain rfl := h_4.1
  refine lv_aload_n hx hb d_Sy_block_12 rfl (lv_at hl 0 rfl) ?_
  refine lv_iload_n hx hb d_Sy_block_13 rfl (lv_at hl 1 rfl) ?_
  refine cs_PI C0 hP hS (cs_V C0 hP (kd := 0) (i := 0) (ci := 0) (As := [.int q]) (by decide) (by decide) rfl rfl k_ml_Sy_86 k_im_Sy_needAlive k_sl_Sy_Sy_needAlive k_cd_Sy_needAlive k_in_Sy z_Sy_needAlive rfl d_Sy_block_14) (c_Sy_needAlive hlt (vin_b (n := 4) g_3)) hl.1 d_Sy_block_14 (Nat.le_of_ble_eq_true rfl) (⟨by decide, by decide⟩) (⟨by decide, by decide⟩) (fun k r hk hp => by obtain ⟨h1, h2⟩ := hp; obtain ⟨hc, h3⟩ := nz_k h2 hk; rw [h3]; unfold sBlock; rw [if_neg g_3, if_neg g_6, if_pos hc]) (fun r_8 h_7 => ?_)
  have g_9 := nz_ok h_7.2
  obtain rfl := h_7.1
  refine lv_aload_n hx hb d_Sy_block_17 rfl (lv_at hl 0 rfl) ?_
  refine cs_PI C0 hP hS (cs_V C0 hP (kd := 0) (i := 0) (ci := 0) (As := []) (by decide) (by decide) rfl rfl k_ml_Sy_104 k_im_Sy_leastFreeBlock k_sl_Sy_Sy_leastFreeBlock k_cd_Sy_leastFreeBlock k_in_Sy z_Sy_leastFreeBlock rfl d_Sy_block_18) (c_Sy_leastFreeBlock hlt) hl.1 d_Sy_block_18 (Nat.le_of_ble_eq_true rfl) (⟨by decide, by decide⟩) (⟨by decide, by decide⟩) (fun k r hk hp => absurd hp.1 hk) (fun r_11 h_10 => ?_)
  obtain ⟨-, cc, rfl, hcc⟩ := h_10
  have hc6 := hcc.1
  have hce := LFB_eq hcc
  subst hce
  refine lv_istore_n (lv' := [(3, .int (nI (lfb σ))), (0, .ref (base + ad 0 0)), (1, .int q), (2, .int n)]) hx hb d_Sy_block_21 rfl hl (by decide) rfl (fun ls hl => ?_)
  refine lv_iload_n hx hb d_Sy_block_22 rfl (lv_at hl 0 rfl) ?_
  refine lv_bipush (v := 12) hx hb d_Sy_block_23 (by decide) ?_
  refine lv_icmp_eq (tgt := 39) hx hb d_Sy_block_25 (by decide) (fun c_25 => ?_) (fun c_25 => ?_)
  · skip
    exact tI_4 C0 hP hS k_sr_Sy_111 xs_111 hl.1 d_Sy_block_39 d_Sy_block_42 d_Sy_block_43 d_Sy_block_45 d_Sy_block_48 (by decide) (by decide) (⟨by decide, by decide⟩) (by unfold sBlock; rw [if_neg g_3, if_neg g_6, if_neg g_9, if_pos c_25]; first | done | rfl)
  · skip
    have hc5 : lfb σ < 12 := Nat.lt_of_le_of_ne hc6 (fun h9 => c_25 (by rw [h9]; decide))
    refine lv_aload_n hx hb d_Sy_block_28 rfl (lv_at hl 1 rfl) ?_
    refine cs_PI C0 hP hS (cs_V C0 hP (kd := 0) (i := 0) (ci := 0) (As := []) (by decide) (by decide) rfl rfl k_ml_Sy_108 k_im_Sy_cellsInUse k_sl_Sy_Sy_cellsInUse k_cd_Sy_cellsInUse k_in_Sy z_Sy_cellsInUse rfl d_Sy_block_29) (c_Sy_cellsInUse hlt) hl.1 d_Sy_block_29 (Nat.le_of_ble_eq_true rfl) (⟨by decide, by decide⟩) (⟨by decide, by decide⟩) (fun k r hk hp => absurd hp.1 hk) (fun r_13 h_12 => ?_)
    obtain ⟨-, rfl⟩ := h_12
    refine lv_iload_n hx hb d_Sy_block_32 rfl (lv_at hl 3 rfl) ?_
    refine lv_iadd hx hb d_Sy_block_33 ?_
    refine lv_bipush (v := 48) hx hb d_Sy_block_34 (by decide) ?_
    refine lv_icmp_le (tgt := 49) hx hb d_Sy_block_36 (by decide) (fun c_36 => ?_) (fun c_36 => ?_)
    · skip
      refine lv_aload_n hx hb d_Sy_block_49 rfl (lv_at hl 1 rfl) ?_
      refine q_get C0 hP (kd := 0) (i := 0) (ci := 0) (by decide) (by decide) rfl rfl 5 (by decide) rfl k_fl_Sy_30 rfl d_Sy_block_50 ?_
      refine lv_iload_n hx hb d_Sy_block_53 rfl (lv_at hl 0 rfl) ?_
      refine q_aald C0 hP (kd := 4) (i := 0) (t0 := 4) (v := base + ad 12 (lfb σ)) (by decide) (by decide) rfl rfl (by rw [nI_clamp (by omega)]) (vin_nI hc5) d_Sy_block_54 ?_
      refine lv_iload_n hx hb d_Sy_block_55 rfl (lv_at hl 2 rfl) ?_
      refine lv_iload_n hx hb d_Sy_block_56 rfl (lv_at hl 3 rfl) ?_
      refine cs_I C0 hP hS (cs_V C0 hP (kd := 12) (i := (lfb σ)) (ci := 2) (As := [.int q, .int n]) (by decide) (hc5) rfl rfl k_ml_Sy_113 k_im_Bl_handOut k_sl_Bl_Bl_handOut k_cd_Bl_handOut k_in_Bl z_Bl_handOut rfl d_Sy_block_57) (c_Bl_handOut hlt hs hc5) (fun k r σ h => h.1) ⟨rfl, rfl⟩ hl.1 d_Sy_block_57 (Nat.le_of_ble_eq_true rfl) (⟨by decide, by decide⟩) (⟨by decide, by decide⟩) (fun r_15 σ_16 H locs h_14 hP hS => ?_)
      obtain ⟨-, rfl, rfl⟩ := h_14
      refine lv_iload_n hx hb d_Sy_block_60 rfl (lv_at hl 0 rfl) ?_
      exact rI_i C0 hP hS (⟨by decide, by decide⟩) (by unfold sBlock; rw [if_neg g_3, if_neg g_6, if_neg g_9, if_neg c_25, if_pos c_36]; first | done | rfl) d_Sy_block_61
    · skip
      exact tI_4 C0 hP hS k_sr_Sy_111 xs_111 hl.1 d_Sy_block_39 d_Sy_block_42 d_Sy_block_43 d_Sy_block_45 d_Sy_block_48 (by decide) (by decide) (⟨by decide, by decide⟩) (by unfold sBlock; rw [if_neg g_3, if_neg g_6, if_neg g_9, if_neg c_25, if_neg c_36]; first | done | rfl)
theorem wt3 {x : Int32} {n : Nat} (h1 : x = nI n) (h3 : n ≤ 3) (h : x < 3) : n < 3 := by
  rw [h1, Int32.lt_iff_toInt_lt, nI_toInt (by omega)] at h
  have h8 : (3 : Int32).toInt = 3 := (by decide)
  omega
set_option maxHeartbeats 4000000 in
set_option maxRecDepth 100000 in
theorem c_Sy_say {S0 : State} {A0 : Array Value} {D : va_G} {ar : Nat → ClassId} {base : Nat} {σ : Mem} {l : Launch} (hlt : l.stackTraces = false) {aK aV : Nat → Nat} (hs : SX S0 aK aV) (hz0 : (Term.string R_Sy 142).eval A0 S0 none [] S0 = some (.ref (aK 0))) (hz1 : (Term.string R_Sy 273).eval A0 S0 none [] S0 = some (.ref (aK 1))) {q x lt v : Int32} (hqw : QW σ) (hcw : CW σ) :
    MX l y_Sy_say [Cond.code y_Sy_say b_Sy_say 8 none] (rmK) (PS S0 A0 D ar base σ [.ref (base + ad 0 0), .int q, .int x, .int lt, .int v]) (QI D ar base (fun k r σ' => (k, r, σ') = sSay σ q x lt v)) (inB base 122) := by
  refine cx_head hlt (by decide +kernel) (Nat.le_of_ble_eq_true rfl) ?_
  intro p ev s m below meth c ls C0 hP hl
  have C0 : Cx S0 A0 D ar base p l s m _ meth c R_Sy b_Sy_say 8 none := C0
  obtain ⟨hx, hb, -⟩ := id C0
  have hl : lv_has ls 8 [(0, .ref (base + ad 0 0)), (1, .int q), (2, .int x), (3, .int lt), (4, .int v)] := hl
  have hS : va_S (inB base 122) s.heap s.heap [] := va_S.rf
  refine lv_iload_n hx hb d_Sy_say_0 rfl (lv_at hl 3 rfl) ?_
  refine q_ldcS C0 k_sr_Sy_142 hz0 d_Sy_say_1 ?_
  refine cs_PI C0 hP hS (cs_VS C0 hs hS (by decide) (As := []) k_ml_Sy_144 k_im_String_length_ k_sl_String_String_length_ k_cd_String_length_ k_in_String z_String_length_ rfl d_Sy_say_3) (c_String_length_ hlt hs (by decide)) hl.1 d_Sy_say_3 (Nat.le_of_ble_eq_true rfl) (⟨by decide, by decide⟩) (⟨by decide, by decide⟩) (fun k r hk hp => absurd hp.1 hk) (fun r_2 h_1 => ?_)
  obtain ⟨-, rfl⟩ := h_1
  refine W.eq (g2 := F0 m 6 ls [.int 7, .int lt]) rfl ?_
  refine cs_PI C0 hP hS (cs_S C0 (As := [.int lt, .int 7]) k_ml_Sy_64 k_st_Sy_needBelow k_cd_Sy_needBelow k_in_Sy z_Sy_needBelow rfl d_Sy_say_6) (c_Sy_needBelow hlt) hl.1 d_Sy_say_6 (Nat.le_of_ble_eq_true rfl) (⟨by decide, by decide⟩) (⟨by decide, by decide⟩) (fun k r hk hp => by obtain ⟨h1, h2⟩ := hp; obtain ⟨hc, h3⟩ := nz_k h2 hk; rw [h3]; unfold sSay; rw [if_pos hc]) (fun r_4 h_3 => ?_)
  have g_5 := nz_ok h_3.2
  obtain rfl := h_3.1
  refine lv_aload_n hx hb d_Sy_say_9 rfl (lv_at hl 0 rfl) ?_
  refine lv_iload_n hx hb d_Sy_say_10 rfl (lv_at hl 1 rfl) ?_
  refine lv_iload_n hx hb d_Sy_say_11 rfl (lv_at hl 2 rfl) ?_
  refine cs_PI C0 hP hS (cs_V C0 hP (kd := 0) (i := 0) (ci := 0) (As := [.int q, .int x]) (by decide) (by decide) rfl rfl k_ml_Sy_149 k_im_Sy_needOwnEnd k_sl_Sy_Sy_needOwnEnd k_cd_Sy_needOwnEnd k_in_Sy z_Sy_needOwnEnd rfl d_Sy_say_12) (c_Sy_needOwnEnd hlt) hl.1 d_Sy_say_12 (Nat.le_of_ble_eq_true rfl) (⟨by decide, by decide⟩) (⟨by decide, by decide⟩) (fun k r hk hp => by obtain ⟨h1, h2⟩ := hp; rw [h2] at hk; rw [h2]; unfold sSay; rw [if_neg g_5, if_neg hk]) (fun r_7 h_6 => ?_)
  have g_8 := h_6.2.symm
  obtain rfl := h_6.1
  have hx12 := (kOwnE_0 g_8).2.1
  have hw1 := hqw.at (vin_lt (vin_oth hx12))
  have hw3 := hqw.le (vin_lt (vin_oth hx12))
  refine lv_aload_n hx hb d_Sy_say_15 rfl (lv_at hl 0 rfl) ?_
  refine q_get C0 hP (kd := 0) (i := 0) (ci := 0) (by decide) (by decide) rfl rfl 7 (by decide) rfl k_fl_Sy_40 rfl d_Sy_say_16 ?_
  refine lv_iload_n hx hb d_Sy_say_19 rfl (lv_at hl 2 rfl) ?_
  refine q_aald C0 hP (kd := 6) (i := 0) (t0 := 5) (v := base + ad 14 x.toNatClampNeg) (by decide) (by decide) rfl rfl (rfl) (hx12) d_Sy_say_20 ?_
  refine lv_astore (lv' := [(5, .ref (base + ad 14 x.toNatClampNeg)), (0, .ref (base + ad 0 0)), (1, .int q), (2, .int x), (3, .int lt), (4, .int v)]) hx hb d_Sy_say_21 hl (by decide) rfl (fun ls hl => ?_)
  refine lv_aload_n hx hb d_Sy_say_23 rfl (lv_at hl 1 rfl) ?_
  refine q_get C0 hP (kd := 0) (i := 0) (ci := 0) (by decide) (by decide) rfl rfl 6 (by decide) rfl k_fl_Sy_35 rfl d_Sy_say_24 ?_
  refine lv_iload_n hx hb d_Sy_say_27 rfl (lv_at hl 3 rfl) ?_
  refine lv_iconst (v := 2) hx hb d_Sy_say_28 (by decide) ?_
  refine lv_idiv hx hb d_Sy_say_29 (by decide) ?_
  refine q_aald C0 hP (kd := 5) (i := 0) (t0 := 3) (v := base + ad 7 ((x / 2).toNatClampNeg + 5)) (by decide) (by decide) rfl rfl (rfl) (vin_half hx12) d_Sy_say_30 ?_
  refine lv_aload hx hb d_Sy_say_31 (lv_at hl 0 rfl) ?_
  refine q_getN C0 hP (kd := 14) (i := x.toNatClampNeg) (ci := 3) (by decide) (vin_lt (hx12)) rfl rfl 3 (by decide) rfl k_fn_Sy_152 rfl d_Sy_say_33 ?_
  refine lv_iload_n hx hb d_Sy_say_36 rfl (lv_at hl 4 rfl) ?_
  refine lv_iload_n hx hb d_Sy_say_37 rfl (lv_at hl 3 rfl) ?_
  refine cs_PI C0 hP hS (cs_S C0 (As := [.int x]) k_ml_Sy_155 k_st_Sy_sideOf k_cd_Sy_sideOf k_in_Sy z_Sy_sideOf rfl d_Sy_say_38) (c_Sy_sideOf hlt) hl.1 d_Sy_say_38 (Nat.le_of_ble_eq_true rfl) (⟨by decide, by decide⟩) (⟨by decide, by decide⟩) (fun k r hk hp => absurd hp.1 hk) (fun r_10 h_9 => ?_)
  obtain ⟨-, rfl⟩ := h_9
  refine cs_PI C0 hP hS (cs_V C0 hP (kd := 7) (i := (x / 2).toNatClampNeg + 5) (ci := 1) (As := [.int (σ 12 x.toNatClampNeg 0), .int lt, .int (x &&& 1)]) (by decide) (vin_off (vin_half hx12) (by decide)) rfl rfl k_ml_Sy_159 k_im_Co_stateBehind k_sl_Co_Co_stateBehind k_cd_Co_stateBehind k_in_Co z_Co_stateBehind rfl d_Sy_say_41) (c_Co_stateBehind hlt (c0 := (x / 2).toNatClampNeg + 5) (vin_off (vin_half hx12) (by decide)) (hcw.at (vin_off (vin_half hx12) (by decide))) (hcw.le (vin_off (vin_half hx12) (by decide)))) hl.1 d_Sy_say_41 (Nat.le_of_ble_eq_true rfl) (⟨by decide, by decide⟩) (⟨by decide, by decide⟩) (fun k r hk hp => absurd hp.1 hk) (fun r_12 h_11 => ?_)
  obtain ⟨-, nx, rfl, hnx⟩ := h_11
  have hne := NXT_eq hnx
  replace hne : nx = saN σ x lt := hne
  subst hne
  refine lv_istore (lv' := [(6, .int (saN σ x lt)), (5, .ref (base + ad 14 x.toNatClampNeg)), (0, .ref (base + ad 0 0)), (1, .int q), (2, .int x), (3, .int lt), (4, .int v)]) hx hb d_Sy_say_44 hl (by decide) rfl (fun ls hl => ?_)
  refine lv_iload hx hb d_Sy_say_46 (lv_at hl 0 rfl) ?_
  refine cs_PI C0 hP hS (cs_S C0 (As := [.int (saN σ x lt)]) k_ml_Sy_163 k_st_Sy_needAllowed k_cd_Sy_needAllowed k_in_Sy z_Sy_needAllowed rfl d_Sy_say_48) (c_Sy_needAllowed hlt) hl.1 d_Sy_say_48 (Nat.le_of_ble_eq_true rfl) (⟨by decide, by decide⟩) (⟨by decide, by decide⟩) (fun k r hk hp => by obtain ⟨h1, h2⟩ := hp; obtain ⟨hc, h3⟩ := nz_k h2 hk; rw [h3]; unfold sSay; rw [if_neg g_5, if_pos g_8, if_pos hc]) (fun r_14 h_13 => ?_)
  have g_15 := nz_ok h_13.2
  obtain rfl := h_13.1
  refine lv_aload_n hx hb d_Sy_say_51 rfl (lv_at hl 2 rfl) ?_
  refine lv_iload_n hx hb d_Sy_say_52 rfl (lv_at hl 3 rfl) ?_
  refine lv_iload_n hx hb d_Sy_say_53 rfl (lv_at hl 4 rfl) ?_
  refine lv_iload_n hx hb d_Sy_say_54 rfl (lv_at hl 5 rfl) ?_
  refine lv_iload hx hb d_Sy_say_55 (lv_at hl 6 rfl) ?_
  refine cs_PI C0 hP hS (cs_V C0 hP (kd := 0) (i := 0) (ci := 0) (As := [.int q, .int x, .int lt, .int v]) (by decide) (by decide) rfl rfl k_ml_Sy_166 k_im_Sy_needOwnLoad k_sl_Sy_Sy_needOwnLoad k_cd_Sy_needOwnLoad k_in_Sy z_Sy_needOwnLoad rfl d_Sy_say_57) (c_Sy_needOwnLoad hlt) hl.1 d_Sy_say_57 (Nat.le_of_ble_eq_true rfl) (⟨by decide, by decide⟩) (⟨by decide, by decide⟩) (fun k r hk hp => by obtain ⟨h1, h2⟩ := hp; rw [h2] at hk; rw [h2]; unfold sSay; rw [if_neg g_5, if_pos g_8, if_neg g_15, if_neg hk]) (fun r_17 h_16 => ?_)
  have g_18 := h_16.2.symm
  obtain rfl := h_16.1
  refine lv_aload_n hx hb d_Sy_say_60 rfl (lv_at hl 2 rfl) ?_
  refine q_get C0 hP (kd := 0) (i := 0) (ci := 0) (by decide) (by decide) rfl rfl 7 (by decide) rfl k_fl_Sy_40 rfl d_Sy_say_61 ?_
  refine lv_iload_n hx hb d_Sy_say_64 rfl (lv_at hl 4 rfl) ?_
  refine cs_PI C0 hP hS (cs_S C0 (As := [.int x]) k_ml_Sy_170 k_st_Sy_otherEnd k_cd_Sy_otherEnd k_in_Sy z_Sy_otherEnd rfl d_Sy_say_65) (c_Sy_otherEnd hlt) hl.1 d_Sy_say_65 (Nat.le_of_ble_eq_true rfl) (⟨by decide, by decide⟩) (⟨by decide, by decide⟩) (fun k r hk hp => absurd hp.1 hk) (fun r_20 h_19 => ?_)
  obtain ⟨-, rfl⟩ := h_19
  refine q_aald C0 hP (kd := 6) (i := 0) (t0 := 5) (v := base + ad 14 ((x ^^^ 1).toNatClampNeg)) (by decide) (by decide) rfl rfl (rfl) (vin_oth hx12) d_Sy_say_68 ?_
  refine lv_astore (lv' := [(7, .ref (base + ad 14 ((x ^^^ 1).toNatClampNeg))), (6, .int (saN σ x lt)), (5, .ref (base + ad 14 x.toNatClampNeg)), (0, .ref (base + ad 0 0)), (1, .int q), (2, .int x), (3, .int lt), (4, .int v)]) hx hb d_Sy_say_69 hl (by decide) rfl (fun ls hl => ?_)
  refine lv_aload hx hb d_Sy_say_71 (lv_at hl 0 rfl) ?_
  refine cs_PI C0 hP hS (cs_V C0 hP (kd := 14) (i := (x ^^^ 1).toNatClampNeg) (ci := 3) (As := []) (by decide) (vin_lt (vin_oth hx12)) rfl rfl k_ml_Sy_173 k_im_En_isOpen k_sl_En_En_isOpen k_cd_En_isOpen k_in_En z_En_isOpen rfl d_Sy_say_73) (c_En_isOpen hlt (vin_lt (vin_oth hx12))) hl.1 d_Sy_say_73 (Nat.le_of_ble_eq_true rfl) (⟨by decide, by decide⟩) (⟨by decide, by decide⟩) (fun k r hk hp => absurd hp.1 hk) (fun r_22 h_21 => ?_)
  obtain ⟨-, rfl⟩ := h_21
  refine lv_if_ne (tgt := 89) hx hb d_Sy_say_76 (by decide) (fun c_76 => ?_) (fun c_76 => ?_)
  · skip
    have c_76 := b2i_ne.mp c_76
    refine lv_aload hx hb d_Sy_say_89 (lv_at hl 0 rfl) ?_
    refine q_getN C0 hP (kd := 14) (i := (x ^^^ 1).toNatClampNeg) (ci := 3) (by decide) (vin_lt (vin_oth hx12)) rfl rfl 4 (by decide) rfl k_fn_Sy_178 rfl d_Sy_say_91 ?_
    refine lv_iconst (v := 3) hx hb d_Sy_say_94 (by decide) ?_
    refine lv_icmp_lt (tgt := 108) hx hb d_Sy_say_95 (by decide) (fun c_95 => ?_) (fun c_95 => ?_)
    · skip
      have hwl : wtE σ (x ^^^ 1).toNatClampNeg < 3 := wt3 hw1 hw3 c_95
      refine lv_aload hx hb d_Sy_say_108 (lv_at hl 2 rfl) ?_
      refine lv_iload hx hb d_Sy_say_110 (lv_at hl 1 rfl) ?_
      refine q_putN C0 hP hS (kd := 14) (i := x.toNatClampNeg) (ci := 3) 12 0 (by decide) rfl (vin_lt (hx12)) rfl rfl t_En t_En_ok n_En 3 (by decide) rfl k_fn_Sy_152 rfl (by decide +kernel) (Nat.le_of_ble_eq_true rfl) (by simp [cont, up]) d_Sy_say_112 (fun H locs hP hS => ?_)
      refine lv_aload_n hx hb d_Sy_say_115 rfl (lv_at hl 3 rfl) ?_
      refine lv_iload_n hx hb d_Sy_say_116 rfl (lv_at hl 6 rfl) ?_
      refine lv_iload hx hb d_Sy_say_117 (lv_at hl 7 rfl) ?_
      refine lv_iconst (v := 4) hx hb d_Sy_say_119 (by decide) ?_
      refine cs_I C0 hP hS (cs_V C0 hP (kd := 0) (i := 0) (ci := 0) (As := [.int lt, .int v, .int 4]) (by decide) (by decide) rfl rfl k_ml_Sy_186 k_im_Sy_giveLoad k_sl_Sy_Sy_giveLoad k_cd_Sy_giveLoad k_in_Sy z_Sy_giveLoad rfl d_Sy_say_120) (c_Sy_giveLoad hlt (kLoad_0 g_18)) (fun k r σ h => h.1) ⟨rfl, rfl⟩ hl.1 d_Sy_say_120 (Nat.le_of_ble_eq_true rfl) (⟨by decide, by decide⟩) (⟨by decide, by decide⟩) (fun r_24 σ_25 H locs h_23 hP hS => ?_)
      obtain ⟨-, rfl, rfl⟩ := h_23
      refine lv_aload hx hb d_Sy_say_123 (lv_at hl 0 rfl) ?_
      refine lv_iload_n hx hb d_Sy_say_125 rfl (lv_at hl 6 rfl) ?_
      refine lv_iload hx hb d_Sy_say_126 (lv_at hl 7 rfl) ?_
      refine cs_I C0 hP hS (cs_V C0 hP (kd := 14) (i := (x ^^^ 1).toNatClampNeg) (ci := 3) (As := [.int lt, .int v]) (by decide) (vin_lt (vin_oth hx12)) rfl rfl k_ml_Sy_189 k_im_En_addLast k_sl_En_En_addLast k_cd_En_addLast k_in_En z_En_addLast rfl d_Sy_say_128) (c_En_addLast hlt (e0 := (x ^^^ 1).toNatClampNeg) (vin_lt (vin_oth hx12)) (wt := wtE σ (x ^^^ 1).toNatClampNeg) (by rw [giveM_k (by decide)]; simp [up]; exact hw1) hw3) (fun k r σ h => h.1) ⟨rfl, rfl⟩ hl.1 d_Sy_say_128 (Nat.le_of_ble_eq_true rfl) (⟨by decide, by decide⟩) (⟨by decide, by decide⟩) (fun r_27 σ_28 H locs h_26 hP hS => ?_)
      obtain ⟨-, rfl, hz⟩ := h_26
      have hz := hz hwl
      subst hz
      refine lv_aload_n hx hb d_Sy_say_131 rfl (lv_at hl 3 rfl) ?_
      refine lv_dup hx hb d_Sy_say_132 rfl ?_
      refine q_get C0 hP (kd := 0) (i := 0) (ci := 0) (by decide) (by decide) rfl rfl 8 (by decide) rfl k_fl_Sy_192 rfl d_Sy_say_133 ?_
      refine lv_iconst (v := 1) hx hb d_Sy_say_136 (by decide) ?_
      refine lv_iadd hx hb d_Sy_say_137 ?_
      refine q_put C0 hP hS (kd := 0) (i := 0) (ci := 0) 0 1 (by decide) rfl (by decide) rfl rfl t_Sy t_Sy_ok n_Sy 8 (by decide) rfl k_fl_Sy_192 rfl (by decide +kernel) (Nat.le_of_ble_eq_true rfl) (by simp [cont, up]) d_Sy_say_138 (fun H locs hP hS => ?_)
      exact rI_v C0 hP hS (⟨by decide, by decide⟩) (by unfold sSay; rw [if_neg g_5, if_pos g_8, if_neg g_15, if_pos g_18, if_pos c_76, if_pos c_95]; first | done | rfl) d_Sy_say_141
    · skip
      exact tI_2 C0 hP hS k_sr_Sy_183 xs_183 hl.1 d_Sy_say_98 d_Sy_say_101 d_Sy_say_102 d_Sy_say_104 d_Sy_say_107 (by decide) (by decide) (⟨by decide, by decide⟩) (by unfold sSay; rw [if_neg g_5, if_pos g_8, if_neg g_15, if_pos g_18, if_pos c_76, if_neg c_95]; first | done | rfl)
  · skip
    have c_76 := b2i_z.mp c_76
    exact tI_3 C0 hP hS k_sr_Sy_176 xs_176 hl.1 d_Sy_say_79 d_Sy_say_82 d_Sy_say_83 d_Sy_say_85 d_Sy_say_88 (by decide) (by decide) (⟨by decide, by decide⟩) (by unfold sSay; rw [if_neg g_5, if_pos g_8, if_neg g_15, if_pos g_18, if_neg c_76]; first | done | rfl)
set_option maxHeartbeats 4000000 in
set_option maxRecDepth 100000 in
theorem c_Sy_type {S0 : State} {A0 : Array Value} {D : va_G} {ar : Nat → ClassId} {base : Nat} {σ : Mem} {l : Launch} (hlt : l.stackTraces = false) {x : Int64} (htw : TW σ) :
    MX l y_Sy_type [Cond.code y_Sy_type b_Sy_type 6 (some .int)] (rmK) (PS S0 A0 D ar base σ [.ref (base + ad 0 0), .long x]) (QI D ar base (fun k r σ' => (k, r, σ') = sType σ x)) (inB base 122) := by
  refine cx_head hlt (by decide +kernel) (Nat.le_of_ble_eq_true rfl) ?_
  intro p ev s m below meth c ls C0 hP hl
  have C0 : Cx S0 A0 D ar base p l s m _ meth c R_Sy b_Sy_type 6 (some .int) := C0
  obtain ⟨hx, hb, -⟩ := id C0
  have hl : lv_has ls 6 [(0, .ref (base + ad 0 0)), (1, .long x)] := hl
  have hS : va_S (inB base 122) s.heap s.heap [] := va_S.rf
  refine lv_iconst (v := 0) hx hb d_Sy_type_0 (by decide) ?_
  refine lv_istore_n (lv' := [(3, .int 0), (0, .ref (base + ad 0 0)), (1, .long x)]) hx hb d_Sy_type_1 rfl hl (by decide) rfl (fun ls hl => ?_)
  refine lv_bipush (v := 56) hx hb d_Sy_type_2 (by decide) ?_
  rw [show (56 : Int32) = sh 0 from by decide]
  refine lv_istore (lv' := [(4, .int (sh 0)), (3, .int 0), (0, .ref (base + ad 0 0)), (1, .long x)]) hx hb d_Sy_type_4 hl (by decide) rfl (fun ls hl => ?_)
  have loop : ∀ (n k : Nat), k ≤ 8 → 8 + 1 ≤ k + n → ∀ (a : Nat), a = tyN x k ∧ tyOk x k → ∀ (H : Heap) (locs : List Loc), va_P D classes (wl base 122 (mem ar base σ)) H → va_S (inB base 122) s.heap H locs → ∀ ls : Array Slot, lv_has ls 6 [(4, .int (sh k)), (3, .int (nI a)), (0, .ref (base + ad 0 0)), (1, .long x)] → W p l ev (rmK) s m ([.ref (base + ad 0 0), .long x] : List Value).toArray below meth c H locs 0 0 (MQX below (QI D ar base (fun k r σ' => (k, r, σ') = sType σ x)) ([.ref (base + ad 0 0), .long x] : List Value).toArray s (rmK).cells (rmK).slots (inB base 122)) (F0 m 6 ls []) := by
    intro n
    induction n with
    | zero => intro k h1 h2; omega
    | succ n ih =>
      intro k hk1 hk2 a hinv H locs hP hS ls hl
      refine lv_iload hx hb d_Sy_type_6 (lv_at hl 0 rfl) ?_
      refine lv_if_lt (tgt := 42) hx hb d_Sy_type_8 (by decide) (fun c_8 => ?_) (fun c_8 => ?_)
      · skip
        have hkN : k = 8 := by have := ((by decide : ∀ k, k < 9 → (sh k < 0 ↔ 8 ≤ k)) k (by omega)).mp c_8; omega
        subst hkN
        refine lv_aload_n hx hb d_Sy_type_42 rfl (lv_at hl 2 rfl) ?_
        refine q_get C0 hP (kd := 0) (i := 0) (ci := 0) (by decide) (by decide) rfl rfl 1 (by decide) rfl k_fl_Sy_53 rfl d_Sy_type_43 ?_
        refine lv_iload_n hx hb d_Sy_type_46 rfl (lv_at hl 1 rfl) ?_
        refine lv_iadd hx hb d_Sy_type_47 ?_
        refine lv_bipush (v := 36) hx hb d_Sy_type_48 (by decide) ?_
        refine lv_icmp_le (tgt := 63) hx hb d_Sy_type_50 (by decide) (fun c_50 => ?_) (fun c_50 => ?_)
        · skip
          obtain ⟨n0, hn36, hn0⟩ := htw
          have hsum : n0 + tyN x 8 ≤ 36 := (ty_sum hn36 (tyN_le 8)).mp (by rw [← hn0, ← hinv.1]; exact c_50)
          refine lv_bipush (v := 56) hx hb d_Sy_type_63 (by decide) ?_
          rw [show (56 : Int32) = sh 0 from by decide]
          refine lv_istore (lv' := [(4, .int (sh 0)), (3, .int (nI a)), (0, .ref (base + ad 0 0)), (1, .long x)]) hx hb d_Sy_type_65 hl (by decide) rfl (fun ls hl => ?_)
          have loop2 : ∀ (n k : Nat), k ≤ 8 → 8 + 1 ≤ k + n → ∀ (H : Heap) (locs : List Loc), va_P D classes (wl base 122 (mem ar base (tyM x σ k))) H → va_S (inB base 122) s.heap H locs → ∀ ls : Array Slot, lv_has ls 6 [(4, .int (sh k)), (0, .ref (base + ad 0 0)), (1, .long x)] → W p l ev (rmK) s m ([.ref (base + ad 0 0), .long x] : List Value).toArray below meth c H locs 0 0 (MQX below (QI D ar base (fun k r σ' => (k, r, σ') = sType σ x)) ([.ref (base + ad 0 0), .long x] : List Value).toArray s (rmK).cells (rmK).slots (inB base 122)) (F0 m 67 ls []) := by
            intro n
            induction n with
            | zero => intro k h1 h2; omega
            | succ n ih =>
              intro k hk1 hk2 H locs hP hS ls hl
              refine lv_iload hx hb d_Sy_type_67 (lv_at hl 0 rfl) ?_
              refine lv_if_lt (tgt := 113) hx hb d_Sy_type_69 (by decide) (fun c_69 => ?_) (fun c_69 => ?_)
              · skip
                have hkN : k = 8 := by have := ((by decide : ∀ k, k < 9 → (sh k < 0 ↔ 8 ≤ k)) k (by omega)).mp c_69; omega
                subst hkN
                refine lv_aload_n hx hb d_Sy_type_113 rfl (lv_at hl 1 rfl) ?_
                refine q_get C0 hP (kd := 0) (i := 0) (ci := 0) (by decide) (by decide) rfl rfl 1 (by decide) rfl k_fl_Sy_53 rfl d_Sy_type_114 ?_
                exact rI_i C0 hP hS (⟨by decide, by decide⟩) (by unfold sType; rw [if_pos hinv.2, if_pos (by rw [← hinv.1]; exact c_50)]) d_Sy_type_117
              · skip
                have hkN : k < 8 := Nat.lt_of_not_le fun z => c_69 (((by decide : ∀ k, k < 9 → (sh k < 0 ↔ 8 ≤ k)) k (by omega)).mpr z)
                refine lv_lload_n hx hb d_Sy_type_72 rfl (lv_at hl 2 rfl) ?_
                refine lv_iload hx hb d_Sy_type_73 (lv_at hl 0 rfl) ?_
                refine cs_PI C0 hP hS (cs_S C0 (As := [.long x, .int (sh k)]) k_ml_Sy_45 k_st_Sy_byteAt k_cd_Sy_byteAt k_in_Sy z_Sy_byteAt rfl d_Sy_type_75) (c_Sy_byteAt hlt) hl.1 d_Sy_type_75 (Nat.le_of_ble_eq_true rfl) (⟨by decide, by decide⟩) (⟨by decide, by decide⟩) (fun k r hk hp => absurd hp.1 hk) (fun r_2 h_1 => ?_)
                obtain ⟨-, rfl⟩ := h_1
                refine lv_istore (lv' := [(5, .int (byt x k)), (4, .int (sh k)), (0, .ref (base + ad 0 0)), (1, .long x)]) hx hb d_Sy_type_78 hl (by decide) rfl (fun ls hl => ?_)
                refine lv_iload hx hb d_Sy_type_80 (lv_at hl 0 rfl) ?_
                refine lv_if_eq (tgt := 107) hx hb d_Sy_type_82 (by decide) (fun c_82 => ?_) (fun c_82 => ?_)
                · skip
                  refine lv_iinc (v := sh (k + 1)) (lv' := [(4, .int (sh (k + 1))), (5, .int (byt x k)), (0, .ref (base + ad 0 0)), (1, .long x)]) hx hb d_Sy_type_107 hl (k := 1) rfl (by exact (by decide : ∀ k, k < 9 → sh k + (-8) = sh (k + 1)) k (by omega)) (by decide) rfl (fun ls hl => ?_)
                  refine lv_goto (tgt := 67) hx hb d_Sy_type_110 (by decide) ?_
                  rw [show ((tyM x σ k) : Mem) = tyM x σ (k + 1) from (if_pos c_82).symm] at hP
                  exact ih (k + 1) (by omega) (by omega) _ _ hP hS ls (lv_sub hl [0, 2, 3] rfl)
                · skip
                  have hlen : tyM x σ k 0 0 0 = nI (n0 + tyN x k) := tyM_len hn0 k
                  have hvt : vp_in (tyM x σ k 0 0 0) 36 := by rw [hlen]; have h9 := tyN_lt hkN c_82; exact vin_nI (by omega)
                  refine lv_aload_n hx hb d_Sy_type_85 rfl (lv_at hl 2 rfl) ?_
                  refine q_get C0 hP (kd := 0) (i := 0) (ci := 0) (by decide) (by decide) rfl rfl 0 (by decide) rfl k_fl_Sy_9 rfl d_Sy_type_86 ?_
                  refine lv_aload_n hx hb d_Sy_type_89 rfl (lv_at hl 2 rfl) ?_
                  refine q_get C0 hP (kd := 0) (i := 0) (ci := 0) (by decide) (by decide) rfl rfl 1 (by decide) rfl k_fl_Sy_53 rfl d_Sy_type_90 ?_
                  refine lv_iload hx hb d_Sy_type_93 (lv_at hl 0 rfl) ?_
                  refine lv_i2c hx hb d_Sy_type_95 rfl ?_
                  refine q_cast C0 hP hS (kd := 1) (i := 0) 1 (by decide) rfl (by decide) rfl (hvt) (by rw [ast_fn]; rfl) d_Sy_type_96 (fun H locs hP hS => ?_)
                  refine lv_aload_n hx hb d_Sy_type_97 rfl (lv_at hl 2 rfl) ?_
                  refine lv_dup hx hb d_Sy_type_98 rfl ?_
                  refine q_get C0 hP (kd := 0) (i := 0) (ci := 0) (by decide) (by decide) rfl rfl 1 (by decide) rfl k_fl_Sy_53 rfl d_Sy_type_99 ?_
                  refine lv_iconst (v := 1) hx hb d_Sy_type_102 (by decide) ?_
                  refine lv_iadd hx hb d_Sy_type_103 ?_
                  refine q_put C0 hP hS (kd := 0) (i := 0) (ci := 0) 0 0 (by decide) rfl (by decide) rfl rfl t_Sy t_Sy_ok n_Sy 1 (by decide) rfl k_fl_Sy_53 rfl (by decide +kernel) (Nat.le_of_ble_eq_true rfl) (by simp [cont, up]) d_Sy_type_104 (fun H locs hP hS => ?_)
                  refine lv_iinc (v := sh (k + 1)) (lv' := [(4, .int (sh (k + 1))), (5, .int (byt x k)), (0, .ref (base + ad 0 0)), (1, .long x)]) hx hb d_Sy_type_107 hl (k := 1) rfl (by exact (by decide : ∀ k, k < 9 → sh k + (-8) = sh (k + 1)) k (by omega)) (by decide) rfl (fun ls hl => ?_)
                  refine lv_goto (tgt := 67) hx hb d_Sy_type_110 (by decide) ?_
                  rw [show ((up (up (tyM x σ k) 1 0 (((tyM x σ k) 0 0 0).toNatClampNeg) (vp_nar .char (((byt x k).toUInt32 % 65536).toInt32))) 0 0 0 (((up (tyM x σ k) 1 0 (((tyM x σ k) 0 0 0).toNatClampNeg) (vp_nar .char (((byt x k).toUInt32 % 65536).toInt32))) 0 0 0) + 1)) : Mem) = tyM x σ (k + 1) from by show _ = tyM x σ (k + 1); rw [tyM, if_neg c_82]; rfl] at hP
                  exact ih (k + 1) (by omega) (by omega) _ _ hP hS ls (lv_sub hl [0, 2, 3] rfl)
          rw [show (σ : Mem) = tyM x σ 0 from rfl] at hP
          exact loop2 (8 + 1) 0 (by omega) (by omega) _ _ hP hS ls (lv_sub hl [0, 2, 3] rfl)
        · skip
          exact tI_4 C0 hP hS k_sr_Sy_59 xs_59 hl.1 d_Sy_type_53 d_Sy_type_56 d_Sy_type_57 d_Sy_type_59 d_Sy_type_62 (by decide) (by decide) (⟨by decide, by decide⟩) (by unfold sType; rw [if_pos hinv.2, if_neg (by rw [← hinv.1]; exact c_50)])
      · skip
        have hkN : k < 8 := Nat.lt_of_not_le fun z => c_8 (((by decide : ∀ k, k < 9 → (sh k < 0 ↔ 8 ≤ k)) k (by omega)).mpr z)
        refine lv_lload_n hx hb d_Sy_type_11 rfl (lv_at hl 3 rfl) ?_
        refine lv_iload hx hb d_Sy_type_12 (lv_at hl 0 rfl) ?_
        refine cs_PI C0 hP hS (cs_S C0 (As := [.long x, .int (sh k)]) k_ml_Sy_45 k_st_Sy_byteAt k_cd_Sy_byteAt k_in_Sy z_Sy_byteAt rfl d_Sy_type_14) (c_Sy_byteAt hlt) hl.1 d_Sy_type_14 (Nat.le_of_ble_eq_true rfl) (⟨by decide, by decide⟩) (⟨by decide, by decide⟩) (fun k r hk hp => absurd hp.1 hk) (fun r_4 h_3 => ?_)
        obtain ⟨-, rfl⟩ := h_3
        refine lv_istore (lv' := [(5, .int (byt x k)), (4, .int (sh k)), (3, .int (nI a)), (0, .ref (base + ad 0 0)), (1, .long x)]) hx hb d_Sy_type_17 hl (by decide) rfl (fun ls hl => ?_)
        refine lv_iload hx hb d_Sy_type_19 (lv_at hl 0 rfl) ?_
        refine lv_if_eq (tgt := 36) hx hb d_Sy_type_21 (by decide) (fun c_21 => ?_) (fun c_21 => ?_)
        · skip
          refine lv_iinc (v := sh (k + 1)) (lv' := [(4, .int (sh (k + 1))), (5, .int (byt x k)), (3, .int (nI a)), (0, .ref (base + ad 0 0)), (1, .long x)]) hx hb d_Sy_type_36 hl (k := 1) rfl (by exact (by decide : ∀ k, k < 9 → sh k + (-8) = sh (k + 1)) k (by omega)) (by decide) rfl (fun ls hl => ?_)
          refine lv_goto (tgt := 6) hx hb d_Sy_type_39 (by decide) ?_
          exact ih (k + 1) (by omega) (by omega) a (⟨by rw [hinv.1]; exact (if_pos c_21).symm, tyOk_s hinv.2 (Or.inl c_21)⟩) _ _ hP hS ls (lv_sub hl [0, 2, 3, 4] rfl)
        · skip
          refine lv_iload hx hb d_Sy_type_24 (lv_at hl 0 rfl) ?_
          refine lv_bipush (v := 33) hx hb d_Sy_type_26 (by decide) ?_
          refine lv_bipush (v := 126) hx hb d_Sy_type_28 (by decide) ?_
          refine cs_PI C0 hP hS (cs_S C0 (As := [.int (byt x k), .int 33, .int 126]) k_ml_Sy_49 k_st_Sy_needWithin k_cd_Sy_needWithin k_in_Sy z_Sy_needWithin rfl d_Sy_type_30) (c_Sy_needWithin hlt) hl.1 d_Sy_type_30 (Nat.le_of_ble_eq_true rfl) (⟨by decide, by decide⟩) (⟨by decide, by decide⟩) (fun k9 r hk hp => by obtain ⟨h1, h2⟩ := hp; obtain ⟨hc, h3⟩ := nz_k h2 hk; rw [h3]; unfold sType; rw [if_neg (tyOk_no hkN c_21 hc)]) (fun r_6 h_5 => ?_)
          have gw := nz_ok h_5.2
          obtain rfl := h_5.1
          refine lv_iinc (v := nI (a + 1)) (lv' := [(3, .int (nI (a + 1))), (5, .int (byt x k)), (4, .int (sh k)), (0, .ref (base + ad 0 0)), (1, .long x)]) hx hb d_Sy_type_33 hl (k := 2) rfl (by exact nI_1 a) (by decide) rfl (fun ls hl => ?_)
          refine lv_iinc (v := sh (k + 1)) (lv' := [(4, .int (sh (k + 1))), (3, .int (nI (a + 1))), (5, .int (byt x k)), (0, .ref (base + ad 0 0)), (1, .long x)]) hx hb d_Sy_type_36 hl (k := 2) rfl (by exact (by decide : ∀ k, k < 9 → sh k + (-8) = sh (k + 1)) k (by omega)) (by decide) rfl (fun ls hl => ?_)
          refine lv_goto (tgt := 6) hx hb d_Sy_type_39 (by decide) ?_
          exact ih (k + 1) (by omega) (by omega) (a + 1) (⟨by rw [hinv.1]; exact (if_neg c_21).symm, tyOk_s hinv.2 (Or.inr gw)⟩) _ _ hP hS ls (lv_sub hl [0, 1, 3, 4] rfl)
  exact loop (8 + 1) 0 (by omega) (by omega) 0 (⟨rfl, fun j hj => absurd hj (Nat.not_lt_zero j)⟩) _ _ hP hS ls (lv_sub hl [0, 1, 2, 3] rfl)
