/-! Closing an end, dropping a message: laid by gen/m27.py. -/
def dpM (σ : Mem) : Mem := up σ 0 0 3 (σ 0 0 3 + 1)
def gbM (σ : Mem) (b : Nat) : Mem := up (up σ 8 b 0 (-1)) 9 b 0 0
def drF (cl : Mem → Nat → Int32 × Mem) (σ : Mem) (lt v : Int32) : Int32 × Mem :=
  if isB lt then (1, gbM (dpM σ) v.toNatClampNeg) else if lt = 6 then cl (dpM σ) v.toNatClampNeg else (0, dpM σ)
def clL (cl : Mem → Nat → Int32 × Mem) (e : Nat) : Nat → Nat → Int32 → Mem → Int32 × Mem
  | 0, _, g, σ => (g, σ)
  | n + 1, k, g, σ => if σ 13 e 0 ≤ nI k then (g, σ) else clL cl e n (k + 1) (g + (drF cl σ (σ 14 e k) (σ 15 e k)).1) (drF cl σ (σ 14 e k) (σ 15 e k)).2
def clF : Nat → Mem → Nat → Int32 × Mem
  | 0, σ, _ => (0, σ)
  | d + 1, σ, e => if σ 11 e 0 = -1 then (0, σ) else ((clL (clF d) e 3 0 1 (up σ 11 e 0 (-1))).1, up (up (clL (clF d) e 3 0 1 (up σ 11 e 0 (-1))).2 13 e 0 0) 12 e 0 0)
/-- the queues are in order: at most three messages, what carries a thing names one -/
def QW (σ : Mem) : Prop := ∀ e, e < 12 → ∃ wt : Nat, wt ≤ 3 ∧ σ 13 e 0 = nI wt ∧ ∀ k, k < wt → isB (σ 14 e k) ∨ σ 14 e k = 6 → vp_in (σ 15 e k) 12
theorem upK {σ : Mem} {k i j K a b : Nat} {v : Int32} (h : ¬ (K = k ∧ a = i ∧ b = j)) : up σ k i j v K a b = σ K a b := by
  unfold up
  rw [if_neg h]
theorem QWup {σ : Mem} (h : QW σ) {k i j : Nat} {v : Int32} (hk : k ≠ 13 ∧ k ≠ 14 ∧ k ≠ 15) : QW (up σ k i j v) := by
  intro e he
  obtain ⟨wt, h1, h2, h3⟩ := h e he
  refine ⟨wt, h1, by rw [upK (by omega)]; exact h2, fun m hm => ?_⟩
  rw [upK (by omega), upK (by omega)]
  exact h3 m hm
theorem QWz {σ : Mem} (h : QW σ) {i : Nat} : QW (up σ 13 i 0 0) := by
  intro e he
  obtain ⟨wt, h1, h2, h3⟩ := h e he
  by_cases hi : e = i
  · subst hi
    exact ⟨0, by omega, by rw [up_self]; rfl, fun m hm => absurd hm (Nat.not_lt_zero m)⟩
  · refine ⟨wt, h1, by rw [upK (by omega)]; exact h2, fun m hm => ?_⟩
    rw [upK (by omega), upK (by omega)]
    exact h3 m hm
theorem QWdp {σ : Mem} (h : QW σ) : QW (dpM σ) := QWup h (by decide)
theorem QWgb {σ : Mem} (h : QW σ) {b : Nat} : QW (gbM σ b) := QWup (QWup h (by decide)) (by decide)
theorem QWdr {cl : Mem → Nat → Int32 × Mem} (hc : ∀ σ e, QW σ → e < 12 → QW (cl σ e).2) {σ : Mem} (h : QW σ) {lt v : Int32} (hv : isB lt ∨ lt = 6 → vp_in v 12) : QW (drF cl σ lt v).2 := by
  unfold drF
  by_cases h1 : isB lt
  · rw [if_pos h1]; exact QWgb (QWdp h)
  · rw [if_neg h1]
    by_cases h2 : lt = 6
    · rw [if_pos h2]; exact hc _ _ (QWdp h) (vin_lt (hv (Or.inr h2)))
    · rw [if_neg h2]; exact QWdp h
theorem QWat {σ : Mem} (h : QW σ) {e k : Nat} (he : e < 12) (hk : ¬ σ 13 e 0 ≤ nI k) (hk3 : k ≤ 3) : k < 3 ∧ (isB (σ 14 e k) ∨ σ 14 e k = 6 → vp_in (σ 15 e k) 12) := by
  obtain ⟨wt, h1, h2, h3⟩ := h e he
  rw [h2] at hk
  have h4 : k < wt := Nat.lt_of_not_le fun z => hk ((nI_leI (by omega) (by omega)).mpr z)
  exact ⟨by omega, h3 k h4⟩
theorem QWclL {cl : Mem → Nat → Int32 × Mem} (hc : ∀ σ e, QW σ → e < 12 → QW (cl σ e).2) {e : Nat} (he : e < 12) : ∀ (n k : Nat) (g : Int32) (σ : Mem), k ≤ 3 → QW σ → QW (clL cl e n k g σ).2 := by
  intro n
  induction n with
  | zero => intro k g σ _ h; exact h
  | succ n ih =>
    intro k g σ hk h
    unfold clL
    by_cases h1 : σ 13 e 0 ≤ nI k
    · rw [if_pos h1]; exact h
    · rw [if_neg h1]
      have h2 := QWat h he h1 hk
      exact ih _ _ _ (by omega) (QWdr hc h h2.2)
theorem QWcl : ∀ (d : Nat) (σ : Mem) (e : Nat), QW σ → e < 12 → QW (clF d σ e).2 := by
  intro d
  induction d with
  | zero => intro σ e h _; exact h
  | succ d ih =>
    intro σ e h he
    unfold clF
    by_cases h1 : σ 11 e 0 = -1
    · rw [if_pos h1]; exact h
    · rw [if_neg h1]
      exact QWup (QWz (QWclL ih he _ _ _ _ (by omega) (QWup h (by decide)))) (by decide)
theorem clL_out {cl : Mem → Nat → Int32 × Mem} {e n k : Nat} {g : Int32} {σ : Mem} (h : σ 13 e 0 ≤ nI k) : clL cl e n k g σ = (g, σ) := by
  cases n with
  | zero => rfl
  | succ n => unfold clL; rw [if_pos h]
theorem clL_in {cl : Mem → Nat → Int32 × Mem} {e k : Nat} {g : Int32} {σ : Mem} (h : ¬ σ 13 e 0 ≤ nI k) (hk : k < 3) : clL cl e (3 - k) k g σ = clL cl e (3 - (k + 1)) (k + 1) (g + (drF cl σ (σ 14 e k) (σ 15 e k)).1) (drF cl σ (σ 14 e k) (σ 15 e k)).2 := by
  obtain ⟨n, hn⟩ : ∃ n, 3 - k = n + 1 := ⟨2 - k, by omega⟩
  have hn2 : 3 - (k + 1) = n := by omega
  rw [hn, hn2]
  show (if σ 13 e 0 ≤ nI k then _ else _) = _
  rw [if_neg h]
def rmC (d : Nat) : Room := { frames := 2 * d + 1, cells := 0, slots := 0, locals := 64 * d + 32 }
def rmD (d : Nat) : Room := { frames := 2 * d + 2, cells := 0, slots := 0, locals := 64 * d + 64 }
set_option maxHeartbeats 4000000 in
set_option maxRecDepth 100000 in
theorem c_drop {S0 : State} {A0 : Array Value} {D : va_G} {ar : Nat → ClassId} {base : Nat} {σ : Mem} {l : Launch} (hlt : l.stackTraces = false) {d : Nat} (hd : d < 12) (CE : ∀ (σ : Mem) (e0 : Nat), e0 < 12 → QW σ → MX l y_Sy_closeEnd [Cond.code y_Sy_closeEnd b_Sy_closeEnd 6 (some .int)] (rmC d) (PS S0 A0 D ar base σ [.ref (base + ad 0 0), .int (nI e0), .int (nI (12 - d))]) (QI D ar base (fun k r σ' => k = 0 ∧ r = some (clF d σ e0).1 ∧ σ' = (clF d σ e0).2)) (inB base 122)) {lt v : Int32} (hv : isB lt ∨ lt = 6 → vp_in v 12) (hqw : QW σ) :
    MX l y_Sy_dropMessage [Cond.code y_Sy_dropMessage b_Sy_dropMessage 4 (some .int)] (rmD d) (PS S0 A0 D ar base σ [.ref (base + ad 0 0), .int lt, .int v, .int (nI (11 - d))]) (QI D ar base (fun k r σ' => k = 0 ∧ r = some (drF (clF d) σ lt v).1 ∧ σ' = (drF (clF d) σ lt v).2)) (inB base 122) := by
  refine cx_head hlt (by decide +kernel) (Nat.le_of_ble_eq_true rfl) ?_
  intro p ev s m below meth c ls C0 hP hl
  have C0 : Cx S0 A0 D ar base p l s m _ meth c R_Sy b_Sy_dropMessage 4 (some .int) := C0
  obtain ⟨hx, hb, -⟩ := id C0
  have hl : lv_has ls 4 [(0, .ref (base + ad 0 0)), (1, .int lt), (2, .int v), (3, .int (nI (11 - d)))] := hl
  have hS : va_S (inB base 122) s.heap s.heap [] := va_S.rf
  have hvn : isB lt ∨ lt = 6 → nI v.toNatClampNeg = v := fun h => by obtain ⟨j, hj, rfl⟩ := vp_in_of (hv h) (by decide); rw [nI_clamp (by omega)]
  refine lv_aload_n hx hb d_Sy_dropMessage_0 rfl (lv_at hl 0 rfl) ?_
  refine lv_dup hx hb d_Sy_dropMessage_1 rfl ?_
  refine q_get C0 hP (kd := 0) (i := 0) (ci := 0) (by decide) (by decide) rfl rfl 10 (by decide) rfl k_fl_Sy_224 rfl d_Sy_dropMessage_2 ?_
  refine lv_iconst (v := 1) hx hb d_Sy_dropMessage_5 (by decide) ?_
  refine lv_iadd hx hb d_Sy_dropMessage_6 ?_
  refine q_put C0 hP hS (kd := 0) (i := 0) (ci := 0) 0 3 (by decide) rfl (by decide) rfl rfl t_Sy t_Sy_ok n_Sy 10 (by decide) rfl k_fl_Sy_224 rfl (by decide +kernel) (Nat.le_of_ble_eq_true rfl) (by simp [cont, up]) d_Sy_dropMessage_7 (fun H locs hP hS => ?_)
  rw [show ((up σ 0 0 3 ((σ 0 0 3) + 1)) : Mem) = dpM σ from rfl] at hP
  refine lv_iload_n hx hb d_Sy_dropMessage_10 rfl (lv_at hl 1 rfl) ?_
  refine cs_P C0 hP hS (cs_S C0 (As := [.int lt]) k_ml_Sy_242 k_st_Sy_carriesBlock k_cd_Sy_carriesBlock k_in_Sy z_Sy_carriesBlock rfl d_Sy_dropMessage_11) (c_Sy_carriesBlock hlt) hl.1 d_Sy_dropMessage_11 (Nat.le_of_ble_eq_true rfl) (⟨by simp [rmC, rmD, rmL]; try omega, by simp [rmC, rmD, rmL]; try omega⟩) (⟨Nat.le_refl _, Nat.le_refl _⟩) (fun k r x t hk hp => absurd hp.1 hk) (fun r_2 h_1 => ?_)
  obtain rfl := h_1.2
  refine lv_if_eq (tgt := 28) hx hb d_Sy_dropMessage_14 (by decide) (fun c_14 => ?_) (fun c_14 => ?_)
  · skip
    have c_14 := b2i_z.mp c_14
    refine lv_iload_n hx hb d_Sy_dropMessage_28 rfl (lv_at hl 1 rfl) ?_
    refine cs_P C0 hP hS (cs_S C0 (As := [.int lt]) k_ml_Sy_252 k_st_Sy_carriesEnd k_cd_Sy_carriesEnd k_in_Sy z_Sy_carriesEnd rfl d_Sy_dropMessage_29) (c_Sy_carriesEnd hlt) hl.1 d_Sy_dropMessage_29 (Nat.le_of_ble_eq_true rfl) (⟨by simp [rmC, rmD, rmL]; try omega, by simp [rmC, rmD, rmL]; try omega⟩) (⟨Nat.le_refl _, Nat.le_refl _⟩) (fun k r x t hk hp => absurd hp.1 hk) (fun r_4 h_3 => ?_)
    obtain rfl := h_3.2
    refine lv_if_eq (tgt := 46) hx hb d_Sy_dropMessage_32 (by decide) (fun c_32 => ?_) (fun c_32 => ?_)
    · skip
      have c_32 := b2i_z.mp c_32
      refine lv_iconst (v := 0) hx hb d_Sy_dropMessage_46 (by decide) ?_
      exact rI_i C0 hP hS (⟨Nat.le_refl _, Nat.le_refl _⟩) (⟨rfl, by unfold drF; rw [if_neg c_14, if_neg c_32]; first | done | rfl, by unfold drF; rw [if_neg c_14, if_neg c_32]; first | done | rfl⟩) d_Sy_dropMessage_47
    · skip
      have c_32 := b2i_ne.mp c_32
      refine lv_aload_n hx hb d_Sy_dropMessage_35 rfl (lv_at hl 0 rfl) ?_
      refine lv_iload_n hx hb d_Sy_dropMessage_36 rfl (lv_at hl 2 rfl) ?_
      refine lv_iload_n hx hb d_Sy_dropMessage_37 rfl (lv_at hl 3 rfl) ?_
      refine lv_iconst (v := 1) hx hb d_Sy_dropMessage_38 (by decide) ?_
      refine lv_iadd hx hb d_Sy_dropMessage_39 ?_
      rw [show (nI (11 - d) + 1 : Int32) = nI (12 - d) from by rw [nI_1]; congr 1; omega]
      refine W.eq (g2 := F0 m 40 ls [.int (nI (12 - d)), .int (nI v.toNatClampNeg), .ref (base + ad 0 0)]) (by rw [hvn (Or.inr c_32)]; rfl) ?_
      refine cs_I C0 hP hS (cs_V C0 hP (kd := 0) (i := 0) (ci := 0) (As := [.int (nI v.toNatClampNeg), .int (nI (12 - d))]) (by decide) (by decide) rfl rfl k_ml_Sy_100 k_im_Sy_closeEnd k_sl_Sy_Sy_closeEnd k_cd_Sy_closeEnd k_in_Sy z_Sy_closeEnd rfl d_Sy_dropMessage_40) (CE (dpM σ) v.toNatClampNeg (vin_lt (hv (Or.inr c_32))) (QWdp hqw)) (fun k r σ h => h.1) ⟨rfl, rfl⟩ hl.1 d_Sy_dropMessage_40 (Nat.le_of_ble_eq_true rfl) (⟨by simp [rmC, rmD, rmL]; try omega, by simp [rmC, rmD, rmL]; try omega⟩) (⟨Nat.le_refl _, Nat.le_refl _⟩) (fun r_6 σ_7 H locs h_5 hP hS => ?_)
      obtain ⟨-, rfl, rfl⟩ := h_5
      refine lv_goto (tgt := 47) hx hb d_Sy_dropMessage_43 (by decide) ?_
      exact rI_i C0 hP hS (⟨Nat.le_refl _, Nat.le_refl _⟩) (⟨rfl, by unfold drF; rw [if_neg c_14, if_pos c_32]; first | done | rfl, by unfold drF; rw [if_neg c_14, if_pos c_32]; first | done | rfl⟩) d_Sy_dropMessage_47
  · skip
    have c_14 := b2i_ne.mp c_14
    refine lv_aload_n hx hb d_Sy_dropMessage_17 rfl (lv_at hl 0 rfl) ?_
    refine q_get C0 hP (kd := 0) (i := 0) (ci := 0) (by decide) (by decide) rfl rfl 5 (by decide) rfl k_fl_Sy_30 rfl d_Sy_dropMessage_18 ?_
    refine lv_iload_n hx hb d_Sy_dropMessage_21 rfl (lv_at hl 2 rfl) ?_
    refine q_aald C0 hP (kd := 4) (i := 0) (t0 := 4) (v := base + ad 12 v.toNatClampNeg) (by decide) (by decide) rfl rfl (rfl) (hv (Or.inl c_14)) d_Sy_dropMessage_22 ?_
    refine cs_I C0 hP hS (cs_V C0 hP (kd := 12) (i := v.toNatClampNeg) (ci := 2) (As := []) (by decide) (vin_lt (hv (Or.inl c_14))) rfl rfl k_ml_Sy_96 k_im_Bl_giveBack k_sl_Bl_Bl_giveBack k_cd_Bl_giveBack k_in_Bl z_Bl_giveBack rfl d_Sy_dropMessage_23) (c_Bl_giveBack hlt (vin_lt (hv (Or.inl c_14)))) (fun k r σ h => h.1) ⟨rfl, rfl⟩ hl.1 d_Sy_dropMessage_23 (Nat.le_of_ble_eq_true rfl) (⟨by simp [rmC, rmD, rmL]; try omega, by simp [rmC, rmD, rmL]; try omega⟩) (⟨Nat.le_refl _, Nat.le_refl _⟩) (fun r_9 σ_10 H locs h_8 hP hS => ?_)
    obtain ⟨-, rfl, rfl⟩ := h_8
    refine lv_iconst (v := 1) hx hb d_Sy_dropMessage_26 (by decide) ?_
    exact rI_i C0 hP hS (⟨Nat.le_refl _, Nat.le_refl _⟩) (⟨rfl, by unfold drF; rw [if_pos c_14]; first | done | rfl, by unfold drF; rw [if_pos c_14]; first | done | rfl⟩) d_Sy_dropMessage_27
set_option maxHeartbeats 4000000 in
set_option maxRecDepth 100000 in
theorem c_close_0 {S0 : State} {A0 : Array Value} {D : va_G} {ar : Nat → ClassId} {base : Nat} {σ : Mem} {l : Launch} (hlt : l.stackTraces = false) {e0 : Nat} (he : e0 < 12) :
    MX l y_Sy_closeEnd [Cond.code y_Sy_closeEnd b_Sy_closeEnd 6 (some .int)] (rmC 0) (PS S0 A0 D ar base σ [.ref (base + ad 0 0), .int (nI e0), .int (nI (12 - 0))]) (QI D ar base (fun k r σ' => k = 0 ∧ r = some (clF 0 σ e0).1 ∧ σ' = (clF 0 σ e0).2)) (inB base 122) := by
  refine cx_head hlt (by decide +kernel) (Nat.le_of_ble_eq_true rfl) ?_
  intro p ev s m below meth c ls C0 hP hl
  have C0 : Cx S0 A0 D ar base p l s m _ meth c R_Sy b_Sy_closeEnd 6 (some .int) := C0
  obtain ⟨hx, hb, -⟩ := id C0
  have hl : lv_has ls 6 [(0, .ref (base + ad 0 0)), (1, .int (nI e0)), (2, .int (nI (12 - 0)))] := hl
  have hS : va_S (inB base 122) s.heap s.heap [] := va_S.rf
  refine lv_aload_n hx hb d_Sy_closeEnd_0 rfl (lv_at hl 0 rfl) ?_
  refine q_get C0 hP (kd := 0) (i := 0) (ci := 0) (by decide) (by decide) rfl rfl 7 (by decide) rfl k_fl_Sy_40 rfl d_Sy_closeEnd_1 ?_
  refine lv_iload_n hx hb d_Sy_closeEnd_4 rfl (lv_at hl 1 rfl) ?_
  refine q_aald C0 hP (kd := 6) (i := 0) (t0 := 5) (v := base + ad 14 e0) (by decide) (by decide) rfl rfl (by rw [nI_clamp (by omega)]) (vin_nI he) d_Sy_closeEnd_5 ?_
  refine lv_astore_n (lv' := [(3, .ref (base + ad 14 e0)), (0, .ref (base + ad 0 0)), (1, .int (nI e0)), (2, .int (nI (12 - 0)))]) hx hb d_Sy_closeEnd_6 rfl hl (by decide) rfl (fun ls hl => ?_)
  refine lv_aload_n hx hb d_Sy_closeEnd_7 rfl (lv_at hl 0 rfl) ?_
  refine cs_P C0 hP hS (cs_V C0 hP (kd := 14) (i := e0) (ci := 3) (As := []) (by decide) (he) rfl rfl k_ml_Sy_173 k_im_En_isOpen k_sl_En_En_isOpen k_cd_En_isOpen k_in_En z_En_isOpen rfl d_Sy_closeEnd_8) (c_En_isOpen hlt he) hl.1 d_Sy_closeEnd_8 (Nat.le_of_ble_eq_true rfl) (⟨by simp [rmC, rmD, rmL]; try omega, by simp [rmC, rmD, rmL]; try omega⟩) (⟨by decide, by decide⟩) (fun k r x t hk hp => absurd hp.1 hk) (fun r_2 h_1 => ?_)
  obtain rfl := h_1.2
  refine lv_if_eq (tgt := 20) hx hb d_Sy_closeEnd_11 (by decide) (fun c_11 => ?_) (fun c_11 => ?_)
  · skip
    have c_11 := b2i_z.mp c_11
    refine lv_iconst (v := 0) hx hb d_Sy_closeEnd_20 (by decide) ?_
    exact rI_i C0 hP hS (⟨by decide, by decide⟩) (⟨rfl, rfl, rfl⟩) d_Sy_closeEnd_21
  · skip
    have c_11 := b2i_ne.mp c_11
    refine lv_iload_n hx hb d_Sy_closeEnd_14 rfl (lv_at hl 3 rfl) ?_
    refine lv_bipush (v := 12) hx hb d_Sy_closeEnd_15 (by decide) ?_
    refine lv_icmp_lt (tgt := 22) hx hb d_Sy_closeEnd_17 (by decide) (fun c_17 => ?_) (fun c_17 => ?_)
    · skip
      exact absurd c_17 (by decide)
    · skip
      refine lv_iconst (v := 0) hx hb d_Sy_closeEnd_20 (by decide) ?_
      exact rI_i C0 hP hS (⟨by decide, by decide⟩) (⟨rfl, rfl, rfl⟩) d_Sy_closeEnd_21
set_option maxHeartbeats 4000000 in
set_option maxRecDepth 100000 in
theorem c_close_s {S0 : State} {A0 : Array Value} {D : va_G} {ar : Nat → ClassId} {base : Nat} {σ : Mem} {l : Launch} (hlt : l.stackTraces = false) {d : Nat} (hd : d < 12) (DM : ∀ (σ : Mem) (lt v : Int32), (isB lt ∨ lt = 6 → vp_in v 12) → QW σ → MX l y_Sy_dropMessage [Cond.code y_Sy_dropMessage b_Sy_dropMessage 4 (some .int)] (rmD d) (PS S0 A0 D ar base σ [.ref (base + ad 0 0), .int lt, .int v, .int (nI (11 - d))]) (QI D ar base (fun k r σ' => k = 0 ∧ r = some (drF (clF d) σ lt v).1 ∧ σ' = (drF (clF d) σ lt v).2)) (inB base 122)) {e0 : Nat} (he : e0 < 12) (hqw : QW σ) :
    MX l y_Sy_closeEnd [Cond.code y_Sy_closeEnd b_Sy_closeEnd 6 (some .int)] (rmC (d + 1)) (PS S0 A0 D ar base σ [.ref (base + ad 0 0), .int (nI e0), .int (nI (11 - d))]) (QI D ar base (fun k r σ' => k = 0 ∧ r = some (clF (d + 1) σ e0).1 ∧ σ' = (clF (d + 1) σ e0).2)) (inB base 122) := by
  refine cx_head hlt (by decide +kernel) (Nat.le_of_ble_eq_true rfl) ?_
  intro p ev s m below meth c ls C0 hP hl
  have C0 : Cx S0 A0 D ar base p l s m _ meth c R_Sy b_Sy_closeEnd 6 (some .int) := C0
  obtain ⟨hx, hb, -⟩ := id C0
  have hl : lv_has ls 6 [(0, .ref (base + ad 0 0)), (1, .int (nI e0)), (2, .int (nI (11 - d)))] := hl
  have hS : va_S (inB base 122) s.heap s.heap [] := va_S.rf
  refine lv_aload_n hx hb d_Sy_closeEnd_0 rfl (lv_at hl 0 rfl) ?_
  refine q_get C0 hP (kd := 0) (i := 0) (ci := 0) (by decide) (by decide) rfl rfl 7 (by decide) rfl k_fl_Sy_40 rfl d_Sy_closeEnd_1 ?_
  refine lv_iload_n hx hb d_Sy_closeEnd_4 rfl (lv_at hl 1 rfl) ?_
  refine q_aald C0 hP (kd := 6) (i := 0) (t0 := 5) (v := base + ad 14 e0) (by decide) (by decide) rfl rfl (by rw [nI_clamp (by omega)]) (vin_nI he) d_Sy_closeEnd_5 ?_
  refine lv_astore_n (lv' := [(3, .ref (base + ad 14 e0)), (0, .ref (base + ad 0 0)), (1, .int (nI e0)), (2, .int (nI (11 - d)))]) hx hb d_Sy_closeEnd_6 rfl hl (by decide) rfl (fun ls hl => ?_)
  refine lv_aload_n hx hb d_Sy_closeEnd_7 rfl (lv_at hl 0 rfl) ?_
  refine cs_P C0 hP hS (cs_V C0 hP (kd := 14) (i := e0) (ci := 3) (As := []) (by decide) (he) rfl rfl k_ml_Sy_173 k_im_En_isOpen k_sl_En_En_isOpen k_cd_En_isOpen k_in_En z_En_isOpen rfl d_Sy_closeEnd_8) (c_En_isOpen hlt he) hl.1 d_Sy_closeEnd_8 (Nat.le_of_ble_eq_true rfl) (⟨by simp [rmC, rmD, rmL]; try omega, by simp [rmC, rmD, rmL]; try omega⟩) (⟨Nat.le_refl _, Nat.le_refl _⟩) (fun k r x t hk hp => absurd hp.1 hk) (fun r_2 h_1 => ?_)
  obtain rfl := h_1.2
  refine lv_if_eq (tgt := 20) hx hb d_Sy_closeEnd_11 (by decide) (fun c_11 => ?_) (fun c_11 => ?_)
  · skip
    have c_11 := b2i_z.mp c_11
    refine lv_iconst (v := 0) hx hb d_Sy_closeEnd_20 (by decide) ?_
    exact rI_i C0 hP hS (⟨Nat.le_refl _, Nat.le_refl _⟩) (⟨rfl, by unfold clF; rw [if_pos (Classical.not_not.mp c_11)], by unfold clF; rw [if_pos (Classical.not_not.mp c_11)]⟩) d_Sy_closeEnd_21
  · skip
    have c_11 := b2i_ne.mp c_11
    refine lv_iload_n hx hb d_Sy_closeEnd_14 rfl (lv_at hl 3 rfl) ?_
    refine lv_bipush (v := 12) hx hb d_Sy_closeEnd_15 (by decide) ?_
    refine lv_icmp_lt (tgt := 22) hx hb d_Sy_closeEnd_17 (by decide) (fun c_17 => ?_) (fun c_17 => ?_)
    · skip
      refine lv_aload_n hx hb d_Sy_closeEnd_22 rfl (lv_at hl 0 rfl) ?_
      refine lv_iconst (v := (-1)) hx hb d_Sy_closeEnd_23 (by decide) ?_
      refine q_putN C0 hP hS (kd := 14) (i := e0) (ci := 3) 11 0 (by decide) rfl (he) rfl rfl t_En t_En_ok n_En 2 (by decide) rfl k_fn_Sy_99 rfl (by decide +kernel) (Nat.le_of_ble_eq_true rfl) (by simp [cont, up]) d_Sy_closeEnd_24 (fun H locs hP hS => ?_)
      refine lv_iconst (v := 1) hx hb d_Sy_closeEnd_27 (by decide) ?_
      refine lv_istore (lv' := [(4, .int 1), (3, .ref (base + ad 14 e0)), (0, .ref (base + ad 0 0)), (1, .int (nI e0)), (2, .int (nI (11 - d)))]) hx hb d_Sy_closeEnd_28 hl (by decide) rfl (fun ls hl => ?_)
      refine lv_iconst (v := 0) hx hb d_Sy_closeEnd_30 (by decide) ?_
      refine lv_istore (lv' := [(5, .int 0), (4, .int 1), (3, .ref (base + ad 14 e0)), (0, .ref (base + ad 0 0)), (1, .int (nI e0)), (2, .int (nI (11 - d)))]) hx hb d_Sy_closeEnd_31 hl (by decide) rfl (fun ls hl => ?_)
      have loop : ∀ (n k : Nat), k ≤ 3 → 3 + 1 ≤ k + n → ∀ (g : Int32) (σ' : Mem), QW σ' ∧ clL (clF d) e0 (3 - k) k g σ' = clL (clF d) e0 3 0 1 (up σ 11 e0 0 (-1)) → ∀ (H : Heap) (locs : List Loc), va_P D classes (wl base 122 (mem ar base σ')) H → va_S (inB base 122) s.heap H locs → ∀ ls : Array Slot, lv_has ls 6 [(5, .int (nI k)), (4, .int g), (3, .ref (base + ad 14 e0)), (0, .ref (base + ad 0 0)), (2, .int (nI (11 - d)))] → W p l ev (rmC (d + 1)) s m ([.ref (base + ad 0 0), .int (nI e0), .int (nI (11 - d))] : List Value).toArray below meth c H locs 0 0 (MQX below (QI D ar base (fun k r σ' => k = 0 ∧ r = some (clF (d + 1) σ e0).1 ∧ σ' = (clF (d + 1) σ e0).2)) ([.ref (base + ad 0 0), .int (nI e0), .int (nI (11 - d))] : List Value).toArray s (rmC (d + 1)).cells (rmC (d + 1)).slots (inB base 122)) (F0 m 33 ls []) := by
        intro n
        induction n with
        | zero => intro k h1 h2; omega
        | succ n ih =>
          intro k hk1 hk2 g σ' hinv H locs hP hS ls hl
          refine lv_iload hx hb d_Sy_closeEnd_33 (lv_at hl 0 rfl) ?_
          refine lv_aload_n hx hb d_Sy_closeEnd_35 rfl (lv_at hl 2 rfl) ?_
          refine q_getN C0 hP (kd := 14) (i := e0) (ci := 3) (by decide) (he) rfl rfl 4 (by decide) rfl k_fn_Sy_178 rfl d_Sy_closeEnd_36 ?_
          refine lv_icmp_ge (tgt := 72) hx hb d_Sy_closeEnd_39 (by decide) (fun c_39 => ?_) (fun c_39 => ?_)
          · skip
            have hout := clL_out (cl := clF d) (n := 3 - k) (g := g) c_39
            refine lv_aload_n hx hb d_Sy_closeEnd_72 rfl (lv_at hl 2 rfl) ?_
            refine lv_iconst (v := 0) hx hb d_Sy_closeEnd_73 (by decide) ?_
            refine q_putN C0 hP hS (kd := 14) (i := e0) (ci := 3) 13 0 (by decide) rfl (he) rfl rfl t_En t_En_ok n_En 4 (by decide) rfl k_fn_Sy_178 rfl (by decide +kernel) (Nat.le_of_ble_eq_true rfl) (by simp [cont, up]) d_Sy_closeEnd_74 (fun H locs hP hS => ?_)
            refine lv_aload_n hx hb d_Sy_closeEnd_77 rfl (lv_at hl 2 rfl) ?_
            refine lv_iconst (v := 0) hx hb d_Sy_closeEnd_78 (by decide) ?_
            refine q_putN C0 hP hS (kd := 14) (i := e0) (ci := 3) 12 0 (by decide) rfl (he) rfl rfl t_En t_En_ok n_En 3 (by decide) rfl k_fn_Sy_152 rfl (by decide +kernel) (Nat.le_of_ble_eq_true rfl) (by simp [cont, up]) d_Sy_closeEnd_79 (fun H locs hP hS => ?_)
            refine lv_iload hx hb d_Sy_closeEnd_82 (lv_at hl 1 rfl) ?_
            exact rI_i C0 hP hS (⟨Nat.le_refl _, Nat.le_refl _⟩) (⟨rfl, by unfold clF; rw [if_neg c_11, ← hinv.2, hout], by unfold clF; rw [if_neg c_11, ← hinv.2, hout]⟩) d_Sy_closeEnd_84
          · skip
            have hat := QWat hinv.1 he c_39 hk1
            refine lv_iload hx hb d_Sy_closeEnd_42 (lv_at hl 1 rfl) ?_
            refine lv_aload_n hx hb d_Sy_closeEnd_44 rfl (lv_at hl 3 rfl) ?_
            refine lv_aload_n hx hb d_Sy_closeEnd_45 rfl (lv_at hl 2 rfl) ?_
            refine q_getN C0 hP (kd := 14) (i := e0) (ci := 3) (by decide) (he) rfl rfl 0 (by decide) rfl k_fn_Sy_197 rfl d_Sy_closeEnd_46 ?_
            refine lv_iload hx hb d_Sy_closeEnd_49 (lv_at hl 0 rfl) ?_
            refine q_iald C0 hP (kd := 15) (i := e0) (by decide) (he) rfl (vin_nI hat.1) d_Sy_closeEnd_51 ?_
            rw [show (nI k).toNatClampNeg = k from nI_clamp (by omega)]
            refine lv_aload_n hx hb d_Sy_closeEnd_52 rfl (lv_at hl 2 rfl) ?_
            refine q_getN C0 hP (kd := 14) (i := e0) (ci := 3) (by decide) (he) rfl rfl 1 (by decide) rfl k_fn_Sy_200 rfl d_Sy_closeEnd_53 ?_
            refine lv_iload hx hb d_Sy_closeEnd_56 (lv_at hl 0 rfl) ?_
            refine q_iald C0 hP (kd := 16) (i := e0) (by decide) (he) rfl (vin_nI hat.1) d_Sy_closeEnd_58 ?_
            rw [show (nI k).toNatClampNeg = k from nI_clamp (by omega)]
            refine lv_iload_n hx hb d_Sy_closeEnd_59 rfl (lv_at hl 4 rfl) ?_
            refine cs_I C0 hP hS (cs_V C0 hP (kd := 0) (i := 0) (ci := 0) (As := [.int (σ' 14 e0 k), .int (σ' 15 e0 k), .int (nI (11 - d))]) (by decide) (by decide) rfl rfl k_ml_Sy_261 k_im_Sy_dropMessage k_sl_Sy_Sy_dropMessage k_cd_Sy_dropMessage k_in_Sy z_Sy_dropMessage rfl d_Sy_closeEnd_60) (DM σ' _ _ hat.2 hinv.1) (fun k r σ h => h.1) ⟨rfl, rfl⟩ hl.1 d_Sy_closeEnd_60 (Nat.le_of_ble_eq_true rfl) (⟨by simp [rmC, rmD, rmL]; try omega, by simp [rmC, rmD, rmL]; try omega⟩) (⟨Nat.le_refl _, Nat.le_refl _⟩) (fun r_4 σ_5 H locs h_3 hP hS => ?_)
            obtain ⟨-, rfl, rfl⟩ := h_3
            refine lv_iadd hx hb d_Sy_closeEnd_63 ?_
            refine lv_istore (lv' := [(4, .int (g + ((drF (clF d) σ' (σ' 14 e0 k) (σ' 15 e0 k)).1))), (5, .int (nI k)), (3, .ref (base + ad 14 e0)), (0, .ref (base + ad 0 0)), (2, .int (nI (11 - d)))]) hx hb d_Sy_closeEnd_64 hl (by decide) rfl (fun ls hl => ?_)
            refine lv_iinc (v := nI (k + 1)) (lv' := [(5, .int (nI (k + 1))), (4, .int (g + ((drF (clF d) σ' (σ' 14 e0 k) (σ' 15 e0 k)).1))), (3, .ref (base + ad 14 e0)), (0, .ref (base + ad 0 0)), (2, .int (nI (11 - d)))]) hx hb d_Sy_closeEnd_66 hl (k := 1) rfl (by exact nI_1 k) (by decide) rfl (fun ls hl => ?_)
            refine lv_goto (tgt := 33) hx hb d_Sy_closeEnd_69 (by decide) ?_
            exact ih (k + 1) (by omega) (by omega) _ _ (⟨QWdr (QWcl d) hinv.1 hat.2, (clL_in c_39 hat.1).symm.trans hinv.2⟩) _ _ hP hS ls (lv_sub hl [0, 1, 2, 3, 4] rfl)
      exact loop (3 + 1) 0 (by omega) (by omega) _ _ (⟨QWup hqw (by decide), rfl⟩) _ _ hP hS ls (lv_sub hl [0, 1, 2, 3, 5] rfl)
    · skip
      exact absurd (show nI (11 - d) < nI 12 from (nI_ltI (by omega) (by decide)).mpr (by omega)) c_17
/-- closeEnd, at every depth -/
theorem c_Sy_closeEnd {S0 : State} {A0 : Array Value} {D : va_G} {ar : Nat → ClassId} {base : Nat} {l : Launch} (hlt : l.stackTraces = false) : ∀ (d : Nat), d ≤ 12 → ∀ (σ : Mem) (e0 : Nat), e0 < 12 → QW σ → MX l y_Sy_closeEnd [Cond.code y_Sy_closeEnd b_Sy_closeEnd 6 (some .int)] (rmC d) (PS S0 A0 D ar base σ [.ref (base + ad 0 0), .int (nI e0), .int (nI (12 - d))]) (QI D ar base (fun k r σ' => k = 0 ∧ r = some (clF d σ e0).1 ∧ σ' = (clF d σ e0).2)) (inB base 122) := by
  intro d
  induction d with
  | zero => intro _ σ e0 he _; exact c_close_0 hlt he
  | succ d ih =>
    intro hd σ e0 he hqw
    have h := c_close_s hlt (S0 := S0) (A0 := A0) (D := D) (ar := ar) (base := base) (d := d) (by omega) (fun σ lt v hv hq => c_drop hlt (by omega) (ih (by omega)) hv hq) he hqw
    rw [show 11 - d = 12 - (d + 1) from by omega] at h
    exact h
