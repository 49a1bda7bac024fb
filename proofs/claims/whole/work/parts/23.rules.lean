/-! The class's searches and rows of rules: laid by gen/m23.py. -/
theorem two_nI (k : Nat) : (2 : Int32) * nI k = nI (2 * k) := by
  have h : (2 : Int32) = nI 2 := by decide
  rw [h, pk_mul]
/-- the memory of a contract c0 into which the first k rules of d0, and its size, were copied -/
def bec (σ : Mem) (c0 d0 k : Nat) : Mem := fun a b c => if b = c0 ∧ a = 3 ∧ c = 0 then σ 3 d0 0 else if b = c0 ∧ (a = 4 ∨ a = 5 ∨ a = 6 ∨ a = 7) ∧ c < k then σ a d0 c else σ a b c
theorem bec_0 {σ : Mem} {c0 d0 : Nat} : up σ 3 c0 0 (σ 3 d0 0) = bec σ c0 d0 0 := by
  funext a b c
  simp only [up, bec]
  by_cases h1 : b = c0 <;> by_cases h2 : a = 3 <;> by_cases h3 : c = 0 <;> simp [h1, h2, h3]
theorem bec_s {σ : Mem} {c0 d0 k : Nat} (h : d0 ≠ c0) : up (up (up (up (bec σ c0 d0 k) 4 c0 k (bec σ c0 d0 k 4 d0 k)) 5 c0 k (bec σ c0 d0 k 5 d0 k)) 6 c0 k (bec σ c0 d0 k 6 d0 k)) 7 c0 k (bec σ c0 d0 k 7 d0 k) = bec σ c0 d0 (k + 1) := by
  funext a b c
  simp only [up, bec, h, false_and, if_false]
  by_cases h1 : b = c0
  · by_cases h2 : c = k
    · subst h1; subst h2
      by_cases h3 : a = 4
      · subst h3; simp
      · by_cases h4 : a = 5
        · subst h4; simp
        · by_cases h5 : a = 6
          · subst h5; simp
          · by_cases h6 : a = 7
            · subst h6; simp
            · simp [h3, h4, h5, h6]
    · have h7 : c < k + 1 ↔ c < k := by omega
      simp [h1, h2, h7]
  · simp [h1]
def addR (σ : Mem) (c0 sz : Nat) (st lt sd nx : Int32) : Mem := up (up (up (up (up σ 4 c0 sz st) 5 c0 sz lt) 6 c0 sz sd) 7 c0 sz nx) 3 c0 0 (nI (sz + 1))
def ADD (σ : Mem) (c0 sz : Nat) (st lt sd nx : Int32) (r : Int32) (σ' : Mem) : Prop :=
  (9 ≤ sz ∧ r = 0 ∧ σ' = σ) ∨ (sz < 9 ∧ ∃ q, RUL σ c0 st lt sz q ∧ ((q < sz ∧ r = 0 ∧ σ' = σ) ∨ (q = sz ∧ r = 1 ∧ σ' = addR σ c0 sz st lt sd nx)))
def NXT (σ : Mem) (c0 sz : Nat) (st lt sd r : Int32) : Prop := ∃ q, RUL σ c0 st lt sz q ∧ ((q < sz ∧ σ 6 c0 q = sd ∧ r = σ 7 c0 q) ∨ (¬ (q < sz ∧ σ 6 c0 q = sd) ∧ r = -1))
def pushM (σ : Mem) (e n : Nat) (lt v : Int32) : Mem := up (up (up σ 14 e n lt) 15 e n v) 13 e 0 (nI (n + 1))
/-- a queue's first message is taken: the others move up -/
def popM (σ : Mem) (e k : Nat) : Mem := fun a b c => if b = e ∧ (a = 14 ∨ a = 15) ∧ c + 1 < k then σ a e (c + 1) else σ a b c
theorem pop_1 {σ : Mem} {e : Nat} : σ = popM σ e 1 := by
  funext a b c
  simp [popM]
theorem pop_s {σ : Mem} {e k : Nat} : up (up (popM σ e (k + 1)) 14 e k (popM σ e (k + 1) 14 e (k + 1))) 15 e k (popM σ e (k + 1) 15 e (k + 1)) = popM σ e (k + 1 + 1) := by
  funext a b c
  simp only [up, popM]
  by_cases h1 : b = e
  · by_cases h2 : c = k
    · subst h1; subst h2
      by_cases h3 : a = 14
      · subst h3; simp; intro h; omega
      · by_cases h4 : a = 15
        · subst h4; simp; intro h; omega
        · simp [h3, h4]
    · have h7 : c + 1 < k + 1 + 1 ↔ c + 1 < k + 1 := by omega
      simp [h1, h2, h7]
  · simp [h1]
set_option maxHeartbeats 4000000 in
set_option maxRecDepth 100000 in
theorem c_Sy_leastFreeBlock {S0 : State} {A0 : Array Value} {D : va_G} {ar : Nat → ClassId} {base : Nat} {σ : Mem} {l : Launch} (hlt : l.stackTraces = false)  :
    MX l y_Sy_leastFreeBlock [Cond.code y_Sy_leastFreeBlock b_Sy_leastFreeBlock 2 (some .int)] (rmL 1) (PS S0 A0 D ar base σ [.ref (base + ad 0 0)]) (QP (fun k r => k = 0 ∧ ∃ b, r = some (nI b) ∧ LFB σ b)) (fun _ => False) := by
  refine cx_head hlt (by decide +kernel) (Nat.le_of_ble_eq_true rfl) ?_
  intro p ev s m below meth c ls C0 hP hl
  have C0 : Cx S0 A0 D ar base p l s m _ meth c R_Sy b_Sy_leastFreeBlock 2 (some .int) := C0
  obtain ⟨hx, hb, -⟩ := id C0
  have hl : lv_has ls 2 [(0, .ref (base + ad 0 0))] := hl
  refine lv_iconst (v := 0) hx hb d_Sy_leastFreeBlock_0 (by decide) ?_
  refine lv_istore_n (lv' := [(1, .int 0), (0, .ref (base + ad 0 0))]) hx hb d_Sy_leastFreeBlock_1 rfl hl (by decide) rfl (fun ls hl => ?_)
  have loop : ∀ (n k : Nat), k ≤ 12 → 12 + 1 ≤ k + n → (∀ j, j < k → ¬ σ 8 j 0 = -1) → ∀ ls : Array Slot, lv_has ls 2 [(1, .int (nI k)), (0, .ref (base + ad 0 0))] → W p l ev (rmL 1) s m ([.ref (base + ad 0 0)] : List Value).toArray below meth c s.heap [] 0 0 (MQX below (QP (fun k r => k = 0 ∧ ∃ b, r = some (nI b) ∧ LFB σ b)) ([.ref (base + ad 0 0)] : List Value).toArray s (rmL 1).cells (rmL 1).slots (fun _ => False)) (F0 m 2 ls []) := by
    intro n
    induction n with
    | zero => intro k h1 h2; omega
    | succ n ih =>
      intro k hk1 hk2 hinv ls hl
      refine lv_iload_n hx hb d_Sy_leastFreeBlock_2 rfl (lv_at hl 0 rfl) ?_
      refine lv_bipush (v := 12) hx hb d_Sy_leastFreeBlock_3 (by decide) ?_
      refine lv_icmp_ge (tgt := 26) hx hb d_Sy_leastFreeBlock_5 (by decide) (fun c_5 => ?_) (fun c_5 => ?_)
      · skip
        have hkN : k = 12 := by have := ge_nI (N := 12) c_5; omega
        subst hkN
        refine lv_iload_n hx hb d_Sy_leastFreeBlock_26 rfl (lv_at hl 0 rfl) ?_
        exact rP_i C0 (⟨by decide, by decide⟩) (⟨rfl, 12, rfl, Nat.le_refl _, hinv, fun h => absurd h (by decide)⟩) d_Sy_leastFreeBlock_27
      · skip
        have hkN : k < 12 := lt_nI (N := 12) c_5
        refine lv_aload_n hx hb d_Sy_leastFreeBlock_8 rfl (lv_at hl 1 rfl) ?_
        refine q_get C0 hP (kd := 0) (i := 0) (ci := 0) (by decide) (by decide) rfl rfl 5 (by decide) rfl k_fl_Sy_30 rfl d_Sy_leastFreeBlock_9 ?_
        refine lv_iload_n hx hb d_Sy_leastFreeBlock_12 rfl (lv_at hl 0 rfl) ?_
        refine q_aald C0 hP (kd := 4) (i := 0) (t0 := 4) (v := base + ad 12 k) (by decide) (by decide) rfl rfl (by rw [nI_clamp (by omega)]) (vin_nI hkN) d_Sy_leastFreeBlock_13 ?_
        refine cs_PP C0 hP (cs_V C0 hP (kd := 12) (i := k) (ci := 2) (As := []) (by decide) (hkN) rfl rfl k_ml_Sy_279 k_im_Bl_isFree k_sl_Bl_Bl_isFree k_cd_Bl_isFree k_in_Bl z_Bl_isFree rfl d_Sy_leastFreeBlock_14) (c_Bl_isFree hlt hkN) hl.1 d_Sy_leastFreeBlock_14 (Nat.le_of_ble_eq_true rfl) ⟨by decide, by decide⟩ (⟨by decide, by decide⟩) (fun k r hk hp => absurd hp.1 hk) (fun r_2 h_1 => ?_)
        obtain rfl := h_1.2
        refine lv_if_ne (tgt := 26) hx hb d_Sy_leastFreeBlock_17 (by decide) (fun c_17 => ?_) (fun c_17 => ?_)
        · skip
          have c_17 := b2i_ne.mp c_17
          refine lv_iload_n hx hb d_Sy_leastFreeBlock_26 rfl (lv_at hl 0 rfl) ?_
          exact rP_i C0 (⟨by decide, by decide⟩) (⟨rfl, k, rfl, by omega, hinv, fun _ => c_17⟩) d_Sy_leastFreeBlock_27
        · skip
          have c_17 := b2i_z.mp c_17
          refine lv_iinc (v := nI (k + 1)) (lv' := [(1, .int (nI (k + 1))), (0, .ref (base + ad 0 0))]) hx hb d_Sy_leastFreeBlock_20 hl (k := 0) rfl (by exact nI_1 k) (by decide) rfl (fun ls hl => ?_)
          refine lv_goto (tgt := 2) hx hb d_Sy_leastFreeBlock_23 (by decide) ?_
          exact ih (k + 1) (by omega) (by omega) (lt_s hinv c_17) ls (lv_sub hl [0, 1] rfl)
  exact loop (12 + 1) 0 (by omega) (by omega) (fun j hj => absurd hj (Nat.not_lt_zero j)) ls (lv_sub hl [0, 1] rfl)
set_option maxHeartbeats 4000000 in
set_option maxRecDepth 100000 in
theorem c_Sy_leastFreeChannel {S0 : State} {A0 : Array Value} {D : va_G} {ar : Nat → ClassId} {base : Nat} {σ : Mem} {l : Launch} (hlt : l.stackTraces = false)  :
    MX l y_Sy_leastFreeChannel [Cond.code y_Sy_leastFreeChannel b_Sy_leastFreeChannel 2 (some .int)] (rmL 1) (PS S0 A0 D ar base σ [.ref (base + ad 0 0)]) (QP (fun k r => k = 0 ∧ ∃ b, r = some (nI b) ∧ LFC σ b)) (fun _ => False) := by
  refine cx_head hlt (by decide +kernel) (Nat.le_of_ble_eq_true rfl) ?_
  intro p ev s m below meth c ls C0 hP hl
  have C0 : Cx S0 A0 D ar base p l s m _ meth c R_Sy b_Sy_leastFreeChannel 2 (some .int) := C0
  obtain ⟨hx, hb, -⟩ := id C0
  have hl : lv_has ls 2 [(0, .ref (base + ad 0 0))] := hl
  refine lv_iconst (v := 0) hx hb d_Sy_leastFreeChannel_0 (by decide) ?_
  refine lv_istore_n (lv' := [(1, .int 0), (0, .ref (base + ad 0 0))]) hx hb d_Sy_leastFreeChannel_1 rfl hl (by decide) rfl (fun ls hl => ?_)
  have loop : ∀ (n k : Nat), k ≤ 6 → 6 + 1 ≤ k + n → (∀ j, j < k → ¬ (σ 11 (2 * j) 0 = -1 ∧ σ 11 (2 * j + 1) 0 = -1)) → ∀ ls : Array Slot, lv_has ls 2 [(1, .int (nI k)), (0, .ref (base + ad 0 0))] → W p l ev (rmL 1) s m ([.ref (base + ad 0 0)] : List Value).toArray below meth c s.heap [] 0 0 (MQX below (QP (fun k r => k = 0 ∧ ∃ b, r = some (nI b) ∧ LFC σ b)) ([.ref (base + ad 0 0)] : List Value).toArray s (rmL 1).cells (rmL 1).slots (fun _ => False)) (F0 m 2 ls []) := by
    intro n
    induction n with
    | zero => intro k h1 h2; omega
    | succ n ih =>
      intro k hk1 hk2 hinv ls hl
      refine lv_iload_n hx hb d_Sy_leastFreeChannel_2 rfl (lv_at hl 0 rfl) ?_
      refine lv_bipush (v := 6) hx hb d_Sy_leastFreeChannel_3 (by decide) ?_
      refine lv_icmp_ge (tgt := 44) hx hb d_Sy_leastFreeChannel_5 (by decide) (fun c_5 => ?_) (fun c_5 => ?_)
      · skip
        have hkN : k = 6 := by have := ge_nI (N := 6) c_5; omega
        subst hkN
        refine lv_iload_n hx hb d_Sy_leastFreeChannel_44 rfl (lv_at hl 0 rfl) ?_
        exact rP_i C0 (⟨by decide, by decide⟩) (⟨rfl, 6, rfl, Nat.le_refl _, hinv, fun h => absurd h (by decide)⟩) d_Sy_leastFreeChannel_45
      · skip
        have hkN : k < 6 := lt_nI (N := 6) c_5
        refine lv_aload_n hx hb d_Sy_leastFreeChannel_8 rfl (lv_at hl 1 rfl) ?_
        refine q_get C0 hP (kd := 0) (i := 0) (ci := 0) (by decide) (by decide) rfl rfl 7 (by decide) rfl k_fl_Sy_40 rfl d_Sy_leastFreeChannel_9 ?_
        refine lv_iconst (v := 2) hx hb d_Sy_leastFreeChannel_12 (by decide) ?_
        refine lv_iload_n hx hb d_Sy_leastFreeChannel_13 rfl (lv_at hl 0 rfl) ?_
        refine lv_imul hx hb d_Sy_leastFreeChannel_14 ?_
        rw [show (2 * (nI k) : Int32) = nI (2 * k) from two_nI k]
        refine q_aald C0 hP (kd := 6) (i := 0) (t0 := 5) (v := base + ad 14 (2 * k)) (by decide) (by decide) rfl rfl (by rw [nI_clamp (by omega)]) (vin_nI (by omega)) d_Sy_leastFreeChannel_15 ?_
        refine cs_PP C0 hP (cs_V C0 hP (kd := 14) (i := (2 * k)) (ci := 3) (As := []) (by decide) (show 2 * k < 12 by omega) rfl rfl k_ml_Sy_173 k_im_En_isOpen k_sl_En_En_isOpen k_cd_En_isOpen k_in_En z_En_isOpen rfl d_Sy_leastFreeChannel_16) (c_En_isOpen hlt (e0 := (2 * k)) (by omega)) hl.1 d_Sy_leastFreeChannel_16 (Nat.le_of_ble_eq_true rfl) ⟨by decide, by decide⟩ (⟨by decide, by decide⟩) (fun k r hk hp => absurd hp.1 hk) (fun r_2 h_1 => ?_)
        obtain rfl := h_1.2
        refine lv_if_ne (tgt := 38) hx hb d_Sy_leastFreeChannel_19 (by decide) (fun c_19 => ?_) (fun c_19 => ?_)
        · skip
          have c_19 := b2i_ne.mp c_19
          refine lv_iinc (v := nI (k + 1)) (lv' := [(1, .int (nI (k + 1))), (0, .ref (base + ad 0 0))]) hx hb d_Sy_leastFreeChannel_38 hl (k := 0) rfl (by exact nI_1 k) (by decide) rfl (fun ls hl => ?_)
          refine lv_goto (tgt := 2) hx hb d_Sy_leastFreeChannel_41 (by decide) ?_
          exact ih (k + 1) (by omega) (by omega) (lt_s hinv (fun h => c_19 h.1)) ls (lv_sub hl [0, 1] rfl)
        · skip
          have c_19 := b2i_z.mp c_19
          refine lv_aload_n hx hb d_Sy_leastFreeChannel_22 rfl (lv_at hl 1 rfl) ?_
          refine q_get C0 hP (kd := 0) (i := 0) (ci := 0) (by decide) (by decide) rfl rfl 7 (by decide) rfl k_fl_Sy_40 rfl d_Sy_leastFreeChannel_23 ?_
          refine lv_iconst (v := 2) hx hb d_Sy_leastFreeChannel_26 (by decide) ?_
          refine lv_iload_n hx hb d_Sy_leastFreeChannel_27 rfl (lv_at hl 0 rfl) ?_
          refine lv_imul hx hb d_Sy_leastFreeChannel_28 ?_
          rw [show (2 * (nI k) : Int32) = nI (2 * k) from two_nI k]
          refine lv_iconst (v := 1) hx hb d_Sy_leastFreeChannel_29 (by decide) ?_
          refine lv_iadd hx hb d_Sy_leastFreeChannel_30 ?_
          rw [show ((nI (2 * k)) + 1 : Int32) = nI (2 * k + 1) from nI_1 (2 * k)]
          refine q_aald C0 hP (kd := 6) (i := 0) (t0 := 5) (v := base + ad 14 (2 * k + 1)) (by decide) (by decide) rfl rfl (by rw [nI_clamp (by omega)]) (vin_nI (by omega)) d_Sy_leastFreeChannel_31 ?_
          refine cs_PP C0 hP (cs_V C0 hP (kd := 14) (i := (2 * k + 1)) (ci := 3) (As := []) (by decide) (show 2 * k + 1 < 12 by omega) rfl rfl k_ml_Sy_173 k_im_En_isOpen k_sl_En_En_isOpen k_cd_En_isOpen k_in_En z_En_isOpen rfl d_Sy_leastFreeChannel_32) (c_En_isOpen hlt (e0 := (2 * k + 1)) (by omega)) hl.1 d_Sy_leastFreeChannel_32 (Nat.le_of_ble_eq_true rfl) ⟨by decide, by decide⟩ (⟨by decide, by decide⟩) (fun k r hk hp => absurd hp.1 hk) (fun r_4 h_3 => ?_)
          obtain rfl := h_3.2
          refine lv_if_eq (tgt := 44) hx hb d_Sy_leastFreeChannel_35 (by decide) (fun c_35 => ?_) (fun c_35 => ?_)
          · skip
            have c_35 := b2i_z.mp c_35
            refine lv_iload_n hx hb d_Sy_leastFreeChannel_44 rfl (lv_at hl 0 rfl) ?_
            exact rP_i C0 (⟨by decide, by decide⟩) (⟨rfl, k, rfl, by omega, hinv, fun _ => ⟨Classical.not_not.mp c_19, Classical.not_not.mp c_35⟩⟩) d_Sy_leastFreeChannel_45
          · skip
            have c_35 := b2i_ne.mp c_35
            refine lv_iinc (v := nI (k + 1)) (lv' := [(1, .int (nI (k + 1))), (0, .ref (base + ad 0 0))]) hx hb d_Sy_leastFreeChannel_38 hl (k := 0) rfl (by exact nI_1 k) (by decide) rfl (fun ls hl => ?_)
            refine lv_goto (tgt := 2) hx hb d_Sy_leastFreeChannel_41 (by decide) ?_
            exact ih (k + 1) (by omega) (by omega) (lt_s hinv (fun h => c_35 h.2)) ls (lv_sub hl [0, 1] rfl)
  exact loop (6 + 1) 0 (by omega) (by omega) (fun j hj => absurd hj (Nat.not_lt_zero j)) ls (lv_sub hl [0, 1] rfl)
set_option maxHeartbeats 4000000 in
set_option maxRecDepth 100000 in
theorem c_Co_ruleFor {S0 : State} {A0 : Array Value} {D : va_G} {ar : Nat → ClassId} {base : Nat} {σ : Mem} {l : Launch} (hlt : l.stackTraces = false) {c0 : Nat} (hc0 : c0 < 11) {sz : Nat} (hsz : σ 3 c0 0 = nI sz) (hz9 : sz ≤ 9) {st lt : Int32} :
    MX l y_Co_ruleFor [Cond.code y_Co_ruleFor b_Co_ruleFor 4 (some .int)] (rmL 0) (PS S0 A0 D ar base σ [.ref (base + ad 7 c0), .int st, .int lt]) (QP (fun k r => k = 0 ∧ ∃ q, r = some (nI q) ∧ RUL σ c0 st lt sz q)) (fun _ => False) := by
  refine cx_head hlt (by decide +kernel) (Nat.le_of_ble_eq_true rfl) ?_
  intro p ev s m below meth c ls C0 hP hl
  have C0 : Cx S0 A0 D ar base p l s m _ meth c R_Co b_Co_ruleFor 4 (some .int) := C0
  obtain ⟨hx, hb, -⟩ := id C0
  have hl : lv_has ls 4 [(0, .ref (base + ad 7 c0)), (1, .int st), (2, .int lt)] := hl
  refine lv_iconst (v := 0) hx hb d_Co_ruleFor_0 (by decide) ?_
  refine lv_istore_n (lv' := [(3, .int 0), (0, .ref (base + ad 7 c0)), (1, .int st), (2, .int lt)]) hx hb d_Co_ruleFor_1 rfl hl (by decide) rfl (fun ls hl => ?_)
  have loop : ∀ (n k : Nat), k ≤ sz → sz + 1 ≤ k + n → (∀ j, j < k → ¬ (σ 4 c0 j = st ∧ σ 5 c0 j = lt)) → ∀ ls : Array Slot, lv_has ls 4 [(3, .int (nI k)), (0, .ref (base + ad 7 c0)), (1, .int st), (2, .int lt)] → W p l ev (rmL 0) s m ([.ref (base + ad 7 c0), .int st, .int lt] : List Value).toArray below meth c s.heap [] 0 0 (MQX below (QP (fun k r => k = 0 ∧ ∃ q, r = some (nI q) ∧ RUL σ c0 st lt sz q)) ([.ref (base + ad 7 c0), .int st, .int lt] : List Value).toArray s (rmL 0).cells (rmL 0).slots (fun _ => False)) (F0 m 2 ls []) := by
    intro n
    induction n with
    | zero => intro k h1 h2; omega
    | succ n ih =>
      intro k hk1 hk2 hinv ls hl
      refine lv_iload_n hx hb d_Co_ruleFor_2 rfl (lv_at hl 0 rfl) ?_
      refine lv_aload_n hx hb d_Co_ruleFor_3 rfl (lv_at hl 1 rfl) ?_
      refine q_get C0 hP (kd := 7) (i := c0) (ci := 1) (by decide) (hc0) rfl rfl 4 (by decide) rfl k_fl_Co_24 rfl d_Co_ruleFor_4 ?_
      refine lv_icmp_ge (tgt := 36) hx hb d_Co_ruleFor_7 (by decide) (fun c_7 => ?_) (fun c_7 => ?_)
      · skip
        have hkN : k = sz := by have := ge_nI (N := sz) c_7 hsz (by omega) (by omega); omega
        subst hkN
        refine lv_iload_n hx hb d_Co_ruleFor_36 rfl (lv_at hl 0 rfl) ?_
        exact rP_i C0 (⟨by decide, by decide⟩) (⟨rfl, k, rfl, Nat.le_refl _, hinv, fun h => absurd h (Nat.lt_irrefl _)⟩) d_Co_ruleFor_37
      · skip
        have hkN : k < sz := lt_nI (N := sz) c_7 hsz (by omega) (by omega)
        refine lv_aload_n hx hb d_Co_ruleFor_10 rfl (lv_at hl 1 rfl) ?_
        refine q_get C0 hP (kd := 7) (i := c0) (ci := 1) (by decide) (hc0) rfl rfl 0 (by decide) rfl k_fl_Co_9 rfl d_Co_ruleFor_11 ?_
        refine lv_iload_n hx hb d_Co_ruleFor_14 rfl (lv_at hl 0 rfl) ?_
        refine q_iald C0 hP (kd := 8) (i := c0) (by decide) (hc0) rfl (vin_nI (by omega)) d_Co_ruleFor_15 ?_
        rw [show (nI k).toNatClampNeg = k from nI_clamp (by omega)]
        refine lv_iload_n hx hb d_Co_ruleFor_16 rfl (lv_at hl 2 rfl) ?_
        refine lv_icmp_ne (tgt := 30) hx hb d_Co_ruleFor_17 (by decide) (fun c_17 => ?_) (fun c_17 => ?_)
        · skip
          refine lv_iinc (v := nI (k + 1)) (lv' := [(3, .int (nI (k + 1))), (0, .ref (base + ad 7 c0)), (1, .int st), (2, .int lt)]) hx hb d_Co_ruleFor_30 hl (k := 0) rfl (by exact nI_1 k) (by decide) rfl (fun ls hl => ?_)
          refine lv_goto (tgt := 2) hx hb d_Co_ruleFor_33 (by decide) ?_
          exact ih (k + 1) (by omega) (by omega) (lt_s hinv (fun h => c_17 h.1)) ls (lv_sub hl [0, 1, 2, 3] rfl)
        · skip
          refine lv_aload_n hx hb d_Co_ruleFor_20 rfl (lv_at hl 1 rfl) ?_
          refine q_get C0 hP (kd := 7) (i := c0) (ci := 1) (by decide) (hc0) rfl rfl 1 (by decide) rfl k_fl_Co_15 rfl d_Co_ruleFor_21 ?_
          refine lv_iload_n hx hb d_Co_ruleFor_24 rfl (lv_at hl 0 rfl) ?_
          refine q_iald C0 hP (kd := 9) (i := c0) (by decide) (hc0) rfl (vin_nI (by omega)) d_Co_ruleFor_25 ?_
          rw [show (nI k).toNatClampNeg = k from nI_clamp (by omega)]
          refine lv_iload_n hx hb d_Co_ruleFor_26 rfl (lv_at hl 3 rfl) ?_
          refine lv_icmp_eq (tgt := 36) hx hb d_Co_ruleFor_27 (by decide) (fun c_27 => ?_) (fun c_27 => ?_)
          · skip
            refine lv_iload_n hx hb d_Co_ruleFor_36 rfl (lv_at hl 0 rfl) ?_
            exact rP_i C0 (⟨by decide, by decide⟩) (⟨rfl, k, rfl, by omega, hinv, fun _ => ⟨c_17, c_27⟩⟩) d_Co_ruleFor_37
          · skip
            refine lv_iinc (v := nI (k + 1)) (lv' := [(3, .int (nI (k + 1))), (0, .ref (base + ad 7 c0)), (1, .int st), (2, .int lt)]) hx hb d_Co_ruleFor_30 hl (k := 0) rfl (by exact nI_1 k) (by decide) rfl (fun ls hl => ?_)
            refine lv_goto (tgt := 2) hx hb d_Co_ruleFor_33 (by decide) ?_
            exact ih (k + 1) (by omega) (by omega) (lt_s hinv (fun h => c_27 h.2)) ls (lv_sub hl [0, 1, 2, 3] rfl)
  exact loop (sz + 1) 0 (by omega) (by omega) (fun j hj => absurd hj (Nat.not_lt_zero j)) ls (lv_sub hl [0, 1, 2, 3] rfl)
set_option maxHeartbeats 4000000 in
set_option maxRecDepth 100000 in
theorem c_Co_stateBehind {S0 : State} {A0 : Array Value} {D : va_G} {ar : Nat → ClassId} {base : Nat} {σ : Mem} {l : Launch} (hlt : l.stackTraces = false) {c0 : Nat} (hc0 : c0 < 11) {sz : Nat} (hsz : σ 3 c0 0 = nI sz) (hz9 : sz ≤ 9) {st lt sd : Int32} :
    MX l y_Co_stateBehind [Cond.code y_Co_stateBehind b_Co_stateBehind 5 (some .int)] (rmL 1) (PS S0 A0 D ar base σ [.ref (base + ad 7 c0), .int st, .int lt, .int sd]) (QP (fun k r => k = 0 ∧ ∃ x, r = some x ∧ NXT σ c0 sz st lt sd x)) (fun _ => False) := by
  refine cx_head hlt (by decide +kernel) (Nat.le_of_ble_eq_true rfl) ?_
  intro p ev s m below meth c ls C0 hP hl
  have C0 : Cx S0 A0 D ar base p l s m _ meth c R_Co b_Co_stateBehind 5 (some .int) := C0
  obtain ⟨hx, hb, -⟩ := id C0
  have hl : lv_has ls 5 [(0, .ref (base + ad 7 c0)), (1, .int st), (2, .int lt), (3, .int sd)] := hl
  refine lv_aload_n hx hb d_Co_stateBehind_0 rfl (lv_at hl 0 rfl) ?_
  refine lv_iload_n hx hb d_Co_stateBehind_1 rfl (lv_at hl 1 rfl) ?_
  refine lv_iload_n hx hb d_Co_stateBehind_2 rfl (lv_at hl 2 rfl) ?_
  refine cs_PP C0 hP (cs_V C0 hP (kd := 7) (i := c0) (ci := 1) (As := [.int st, .int lt]) (by decide) (hc0) rfl rfl k_ml_Co_28 k_im_Co_ruleFor k_sl_Co_Co_ruleFor k_cd_Co_ruleFor k_in_Co z_Co_ruleFor rfl d_Co_stateBehind_3) (c_Co_ruleFor hlt hc0 hsz hz9) hl.1 d_Co_stateBehind_3 (Nat.le_of_ble_eq_true rfl) ⟨by decide, by decide⟩ (⟨by decide, by decide⟩) (fun k r hk hp => absurd hp.1 hk) (fun r_2 h_1 => ?_)
  obtain ⟨q, rfl, hq⟩ := h_1.2
  refine lv_istore (lv' := [(4, .int (nI q)), (0, .ref (base + ad 7 c0)), (1, .int st), (2, .int lt), (3, .int sd)]) hx hb d_Co_stateBehind_6 hl (by decide) rfl (fun ls hl => ?_)
  refine lv_iload hx hb d_Co_stateBehind_8 (lv_at hl 0 rfl) ?_
  refine lv_aload_n hx hb d_Co_stateBehind_10 rfl (lv_at hl 1 rfl) ?_
  refine q_get C0 hP (kd := 7) (i := c0) (ci := 1) (by decide) (hc0) rfl rfl 4 (by decide) rfl k_fl_Co_24 rfl d_Co_stateBehind_11 ?_
  refine lv_icmp_ge (tgt := 38) hx hb d_Co_stateBehind_14 (by decide) (fun c_14 => ?_) (fun c_14 => ?_)
  · skip
    have hq2 : ¬ q < sz := by have := ge_nI (N := sz) c_14 hsz (by have := hq.1; omega) (by omega); omega
    refine lv_iconst (v := (-1)) hx hb d_Co_stateBehind_38 (by decide) ?_
    exact rP_i C0 (⟨by decide, by decide⟩) (⟨rfl, _, rfl, q, hq, Or.inr ⟨fun h => hq2 h.1, rfl⟩⟩) d_Co_stateBehind_39
  · skip
    have hq2 : q < sz := lt_nI (N := sz) c_14 hsz (by have := hq.1; omega) (by omega)
    refine lv_aload_n hx hb d_Co_stateBehind_17 rfl (lv_at hl 1 rfl) ?_
    refine q_get C0 hP (kd := 7) (i := c0) (ci := 1) (by decide) (hc0) rfl rfl 2 (by decide) rfl k_fl_Co_18 rfl d_Co_stateBehind_18 ?_
    refine lv_iload hx hb d_Co_stateBehind_21 (lv_at hl 0 rfl) ?_
    refine q_iald C0 hP (kd := 10) (i := c0) (by decide) (hc0) rfl (vin_nI (by omega)) d_Co_stateBehind_23 ?_
    rw [show (nI q).toNatClampNeg = q from nI_clamp (by omega)]
    refine lv_iload_n hx hb d_Co_stateBehind_24 rfl (lv_at hl 4 rfl) ?_
    refine lv_icmp_ne (tgt := 38) hx hb d_Co_stateBehind_25 (by decide) (fun c_25 => ?_) (fun c_25 => ?_)
    · skip
      refine lv_iconst (v := (-1)) hx hb d_Co_stateBehind_38 (by decide) ?_
      exact rP_i C0 (⟨by decide, by decide⟩) (⟨rfl, _, rfl, q, hq, Or.inr ⟨fun h => c_25 h.2, rfl⟩⟩) d_Co_stateBehind_39
    · skip
      refine lv_aload_n hx hb d_Co_stateBehind_28 rfl (lv_at hl 1 rfl) ?_
      refine q_get C0 hP (kd := 7) (i := c0) (ci := 1) (by decide) (hc0) rfl rfl 3 (by decide) rfl k_fl_Co_21 rfl d_Co_stateBehind_29 ?_
      refine lv_iload hx hb d_Co_stateBehind_32 (lv_at hl 0 rfl) ?_
      refine q_iald C0 hP (kd := 11) (i := c0) (by decide) (hc0) rfl (vin_nI (by omega)) d_Co_stateBehind_34 ?_
      rw [show (nI q).toNatClampNeg = q from nI_clamp (by omega)]
      refine lv_goto (tgt := 39) hx hb d_Co_stateBehind_35 (by decide) ?_
      exact rP_i C0 (⟨by decide, by decide⟩) (⟨rfl, _, rfl, q, hq, Or.inl ⟨hq2, c_25, rfl⟩⟩) d_Co_stateBehind_39
set_option maxHeartbeats 4000000 in
set_option maxRecDepth 100000 in
theorem c_Co_addRule {S0 : State} {A0 : Array Value} {D : va_G} {ar : Nat → ClassId} {base : Nat} {σ : Mem} {l : Launch} (hlt : l.stackTraces = false) {c0 : Nat} (hc0 : c0 < 11) {sz : Nat} (hsz : σ 3 c0 0 = nI sz) (hz9 : sz ≤ 9) {st lt sd nx : Int32} :
    MX l y_Co_addRule [Cond.code y_Co_addRule b_Co_addRule 5 (some .boolean)] (rmL 1) (PS S0 A0 D ar base σ [.ref (base + ad 7 c0), .int st, .int lt, .int sd, .int nx]) (QI D ar base (fun k r σ' => k = 0 ∧ ∃ x, r = some x ∧ ADD σ c0 sz st lt sd nx x σ')) (inB base 122) := by
  refine cx_head hlt (by decide +kernel) (Nat.le_of_ble_eq_true rfl) ?_
  intro p ev s m below meth c ls C0 hP hl
  have C0 : Cx S0 A0 D ar base p l s m _ meth c R_Co b_Co_addRule 5 (some .boolean) := C0
  obtain ⟨hx, hb, -⟩ := id C0
  have hl : lv_has ls 5 [(0, .ref (base + ad 7 c0)), (1, .int st), (2, .int lt), (3, .int sd), (4, .int nx)] := hl
  have hS : va_S (inB base 122) s.heap s.heap [] := va_S.rf
  refine lv_aload_n hx hb d_Co_addRule_0 rfl (lv_at hl 0 rfl) ?_
  refine q_get C0 hP (kd := 7) (i := c0) (ci := 1) (by decide) (hc0) rfl rfl 4 (by decide) rfl k_fl_Co_24 rfl d_Co_addRule_1 ?_
  rw [show (σ 3 c0 0 : Int32) = nI sz from hsz]
  refine lv_bipush (v := 9) hx hb d_Co_addRule_4 (by decide) ?_
  refine lv_icmp_ge (tgt := 22) hx hb d_Co_addRule_6 (by decide) (fun c_6 => ?_) (fun c_6 => ?_)
  · skip
    have hz8 : 9 ≤ sz := (nI_leI (by decide) (by omega)).mp (show nI 9 ≤ nI sz from c_6)
    refine lv_iconst (v := 0) hx hb d_Co_addRule_22 (by decide) ?_
    exact rI_z C0 hP hS (⟨by decide, by decide⟩) (Or.inl rfl) (⟨rfl, _, rfl, Or.inl ⟨hz8, rfl, rfl⟩⟩) d_Co_addRule_23
  · skip
    have hz8 : sz < 9 := Nat.lt_of_not_le fun z => c_6 (show nI 9 ≤ nI sz from (nI_leI (by decide) (by omega)).mpr z)
    refine lv_aload_n hx hb d_Co_addRule_9 rfl (lv_at hl 0 rfl) ?_
    refine lv_iload_n hx hb d_Co_addRule_10 rfl (lv_at hl 1 rfl) ?_
    refine lv_iload_n hx hb d_Co_addRule_11 rfl (lv_at hl 2 rfl) ?_
    refine cs_PI C0 hP hS (cs_V C0 hP (kd := 7) (i := c0) (ci := 1) (As := [.int st, .int lt]) (by decide) (hc0) rfl rfl k_ml_Co_28 k_im_Co_ruleFor k_sl_Co_Co_ruleFor k_cd_Co_ruleFor k_in_Co z_Co_ruleFor rfl d_Co_addRule_12) (c_Co_ruleFor hlt hc0 hsz hz9) hl.1 d_Co_addRule_12 (Nat.le_of_ble_eq_true rfl) ⟨by decide, by decide⟩ (⟨by decide, by decide⟩) (fun k r hk hp => absurd hp.1 hk) (fun r_2 h_1 => ?_)
    obtain ⟨q, rfl, hq⟩ := h_1.2
    refine lv_aload_n hx hb d_Co_addRule_15 rfl (lv_at hl 0 rfl) ?_
    refine q_get C0 hP (kd := 7) (i := c0) (ci := 1) (by decide) (hc0) rfl rfl 4 (by decide) rfl k_fl_Co_24 rfl d_Co_addRule_16 ?_
    rw [show (σ 3 c0 0 : Int32) = nI sz from hsz]
    refine lv_icmp_ge (tgt := 24) hx hb d_Co_addRule_19 (by decide) (fun c_19 => ?_) (fun c_19 => ?_)
    · skip
      have hq2 : q = sz := by have := (nI_leI (by omega) (by have := hq.1; omega)).mp c_19; have := hq.1; omega
      refine lv_aload_n hx hb d_Co_addRule_24 rfl (lv_at hl 0 rfl) ?_
      refine q_get C0 hP (kd := 7) (i := c0) (ci := 1) (by decide) (hc0) rfl rfl 0 (by decide) rfl k_fl_Co_9 rfl d_Co_addRule_25 ?_
      refine lv_aload_n hx hb d_Co_addRule_28 rfl (lv_at hl 0 rfl) ?_
      refine q_get C0 hP (kd := 7) (i := c0) (ci := 1) (by decide) (hc0) rfl rfl 4 (by decide) rfl k_fl_Co_24 rfl d_Co_addRule_29 ?_
      rw [show (σ 3 c0 0 : Int32) = nI sz from by simp [up, hsz]]
      refine lv_iload_n hx hb d_Co_addRule_32 rfl (lv_at hl 1 rfl) ?_
      refine q_iast C0 hP hS (kd := 8) (i := c0) 4 (by decide) rfl (hc0) rfl (vin_nI hz8) (by rw [ast_fn]; rfl) d_Co_addRule_33 (fun H locs hP hS => ?_)
      rw [show (nI sz).toNatClampNeg = sz from nI_clamp (by omega)] at hP
      refine lv_aload_n hx hb d_Co_addRule_34 rfl (lv_at hl 0 rfl) ?_
      refine q_get C0 hP (kd := 7) (i := c0) (ci := 1) (by decide) (hc0) rfl rfl 1 (by decide) rfl k_fl_Co_15 rfl d_Co_addRule_35 ?_
      refine lv_aload_n hx hb d_Co_addRule_38 rfl (lv_at hl 0 rfl) ?_
      refine q_get C0 hP (kd := 7) (i := c0) (ci := 1) (by decide) (hc0) rfl rfl 4 (by decide) rfl k_fl_Co_24 rfl d_Co_addRule_39 ?_
      rw [show ((up σ 4 c0 sz st) 3 c0 0 : Int32) = nI sz from by simp [up, hsz]]
      refine lv_iload_n hx hb d_Co_addRule_42 rfl (lv_at hl 2 rfl) ?_
      refine q_iast C0 hP hS (kd := 9) (i := c0) 5 (by decide) rfl (hc0) rfl (vin_nI hz8) (by rw [ast_fn]; rfl) d_Co_addRule_43 (fun H locs hP hS => ?_)
      rw [show (nI sz).toNatClampNeg = sz from nI_clamp (by omega)] at hP
      refine lv_aload_n hx hb d_Co_addRule_44 rfl (lv_at hl 0 rfl) ?_
      refine q_get C0 hP (kd := 7) (i := c0) (ci := 1) (by decide) (hc0) rfl rfl 2 (by decide) rfl k_fl_Co_18 rfl d_Co_addRule_45 ?_
      refine lv_aload_n hx hb d_Co_addRule_48 rfl (lv_at hl 0 rfl) ?_
      refine q_get C0 hP (kd := 7) (i := c0) (ci := 1) (by decide) (hc0) rfl rfl 4 (by decide) rfl k_fl_Co_24 rfl d_Co_addRule_49 ?_
      rw [show ((up (up σ 4 c0 sz st) 5 c0 sz lt) 3 c0 0 : Int32) = nI sz from by simp [up, hsz]]
      refine lv_iload_n hx hb d_Co_addRule_52 rfl (lv_at hl 3 rfl) ?_
      refine q_iast C0 hP hS (kd := 10) (i := c0) 6 (by decide) rfl (hc0) rfl (vin_nI hz8) (by rw [ast_fn]; rfl) d_Co_addRule_53 (fun H locs hP hS => ?_)
      rw [show (nI sz).toNatClampNeg = sz from nI_clamp (by omega)] at hP
      refine lv_aload_n hx hb d_Co_addRule_54 rfl (lv_at hl 0 rfl) ?_
      refine q_get C0 hP (kd := 7) (i := c0) (ci := 1) (by decide) (hc0) rfl rfl 3 (by decide) rfl k_fl_Co_21 rfl d_Co_addRule_55 ?_
      refine lv_aload_n hx hb d_Co_addRule_58 rfl (lv_at hl 0 rfl) ?_
      refine q_get C0 hP (kd := 7) (i := c0) (ci := 1) (by decide) (hc0) rfl rfl 4 (by decide) rfl k_fl_Co_24 rfl d_Co_addRule_59 ?_
      rw [show ((up (up (up σ 4 c0 sz st) 5 c0 sz lt) 6 c0 sz sd) 3 c0 0 : Int32) = nI sz from by simp [up, hsz]]
      refine lv_iload hx hb d_Co_addRule_62 (lv_at hl 4 rfl) ?_
      refine q_iast C0 hP hS (kd := 11) (i := c0) 7 (by decide) rfl (hc0) rfl (vin_nI hz8) (by rw [ast_fn]; rfl) d_Co_addRule_64 (fun H locs hP hS => ?_)
      rw [show (nI sz).toNatClampNeg = sz from nI_clamp (by omega)] at hP
      refine lv_aload_n hx hb d_Co_addRule_65 rfl (lv_at hl 0 rfl) ?_
      refine lv_dup hx hb d_Co_addRule_66 rfl ?_
      refine q_get C0 hP (kd := 7) (i := c0) (ci := 1) (by decide) (hc0) rfl rfl 4 (by decide) rfl k_fl_Co_24 rfl d_Co_addRule_67 ?_
      rw [show ((up (up (up (up σ 4 c0 sz st) 5 c0 sz lt) 6 c0 sz sd) 7 c0 sz nx) 3 c0 0 : Int32) = nI sz from by simp [up, hsz]]
      refine lv_iconst (v := 1) hx hb d_Co_addRule_70 (by decide) ?_
      refine lv_iadd hx hb d_Co_addRule_71 ?_
      rw [show ((nI sz) + 1 : Int32) = nI (sz + 1) from nI_1 sz]
      refine q_put C0 hP hS (kd := 7) (i := c0) (ci := 1) 3 0 (by decide) rfl (hc0) rfl rfl t_Co t_Co_ok n_Co 4 (by decide) rfl k_fl_Co_24 rfl (by decide +kernel) (Nat.le_of_ble_eq_true rfl) (by simp [cont, up]) d_Co_addRule_72 (fun H locs hP hS => ?_)
      refine lv_iconst (v := 1) hx hb d_Co_addRule_75 (by decide) ?_
      exact rI_z C0 hP hS (⟨by decide, by decide⟩) (Or.inr rfl) (⟨rfl, _, rfl, Or.inr ⟨hz8, q, hq, Or.inr ⟨hq2, rfl, rfl⟩⟩⟩) d_Co_addRule_76
    · skip
      have hq2 : q < sz := Nat.lt_of_not_le fun z => c_19 ((nI_leI (by omega) (by have := hq.1; omega)).mpr z)
      refine lv_iconst (v := 0) hx hb d_Co_addRule_22 (by decide) ?_
      exact rI_z C0 hP hS (⟨by decide, by decide⟩) (Or.inl rfl) (⟨rfl, _, rfl, Or.inr ⟨hz8, q, hq, Or.inl ⟨hq2, rfl, rfl⟩⟩⟩) d_Co_addRule_23
set_option maxHeartbeats 4000000 in
set_option maxRecDepth 100000 in
theorem c_Co_become {S0 : State} {A0 : Array Value} {D : va_G} {ar : Nat → ClassId} {base : Nat} {σ : Mem} {l : Launch} (hlt : l.stackTraces = false) {c0 d0 : Nat} (hc0 : c0 < 11) (hd0 : d0 < 11) (hne : d0 ≠ c0) {sz : Nat} (hsz : σ 3 d0 0 = nI sz) (hz9 : sz ≤ 9) :
    MX l y_Co_become [Cond.code y_Co_become b_Co_become 3 none] (rmL 0) (PS S0 A0 D ar base σ [.ref (base + ad 7 c0), .ref (base + ad 7 d0)]) (QI D ar base (fun k r σ' => k = 0 ∧ r = none ∧ σ' = bec σ c0 d0 sz)) (inB base 122) := by
  refine cx_head hlt (by decide +kernel) (Nat.le_of_ble_eq_true rfl) ?_
  intro p ev s m below meth c ls C0 hP hl
  have C0 : Cx S0 A0 D ar base p l s m _ meth c R_Co b_Co_become 3 none := C0
  obtain ⟨hx, hb, -⟩ := id C0
  have hl : lv_has ls 3 [(0, .ref (base + ad 7 c0)), (1, .ref (base + ad 7 d0))] := hl
  have hS : va_S (inB base 122) s.heap s.heap [] := va_S.rf
  refine lv_aload_n hx hb d_Co_become_0 rfl (lv_at hl 0 rfl) ?_
  refine lv_aload_n hx hb d_Co_become_1 rfl (lv_at hl 1 rfl) ?_
  refine q_get C0 hP (kd := 7) (i := d0) (ci := 1) (by decide) (hd0) rfl rfl 4 (by decide) rfl k_fl_Co_24 rfl d_Co_become_2 ?_
  refine q_put C0 hP hS (kd := 7) (i := c0) (ci := 1) 3 0 (by decide) rfl (hc0) rfl rfl t_Co t_Co_ok n_Co 4 (by decide) rfl k_fl_Co_24 rfl (by decide +kernel) (Nat.le_of_ble_eq_true rfl) (by simp [cont, up]) d_Co_become_5 (fun H locs hP hS => ?_)
  refine lv_iconst (v := 0) hx hb d_Co_become_8 (by decide) ?_
  refine lv_istore_n (lv' := [(2, .int 0), (0, .ref (base + ad 7 c0)), (1, .ref (base + ad 7 d0))]) hx hb d_Co_become_9 rfl hl (by decide) rfl (fun ls hl => ?_)
  have loop : ∀ (n k : Nat), k ≤ sz → sz + 1 ≤ k + n → ∀ (H : Heap) (locs : List Loc), va_P D classes (wl base 122 (mem ar base (bec σ c0 d0 k))) H → va_S (inB base 122) s.heap H locs → ∀ ls : Array Slot, lv_has ls 3 [(2, .int (nI k)), (0, .ref (base + ad 7 c0)), (1, .ref (base + ad 7 d0))] → W p l ev (rmL 0) s m ([.ref (base + ad 7 c0), .ref (base + ad 7 d0)] : List Value).toArray below meth c H locs 0 0 (MQX below (QI D ar base (fun k r σ' => k = 0 ∧ r = none ∧ σ' = bec σ c0 d0 sz)) ([.ref (base + ad 7 c0), .ref (base + ad 7 d0)] : List Value).toArray s (rmL 0).cells (rmL 0).slots (inB base 122)) (F0 m 10 ls []) := by
    intro n
    induction n with
    | zero => intro k h1 h2; omega
    | succ n ih =>
      intro k hk1 hk2 H locs hP hS ls hl
      refine lv_iload_n hx hb d_Co_become_10 rfl (lv_at hl 0 rfl) ?_
      refine lv_aload_n hx hb d_Co_become_11 rfl (lv_at hl 1 rfl) ?_
      refine q_get C0 hP (kd := 7) (i := c0) (ci := 1) (by decide) (hc0) rfl rfl 4 (by decide) rfl k_fl_Co_24 rfl d_Co_become_12 ?_
      rw [show ((bec σ c0 d0 k) 3 c0 0 : Int32) = nI sz from by simp [bec, hsz]]
      refine lv_icmp_ge (tgt := 72) hx hb d_Co_become_15 (by decide) (fun c_15 => ?_) (fun c_15 => ?_)
      · skip
        have hkN : k = sz := by have := (nI_leI (by omega) (by omega)).mp c_15; omega
        subst hkN
        exact rI_v C0 hP hS (⟨by decide, by decide⟩) (⟨rfl, rfl, rfl⟩) d_Co_become_72
      · skip
        have hkN : k < sz := Nat.lt_of_not_le fun z => c_15 ((nI_leI (by omega) (by omega)).mpr z)
        refine lv_aload_n hx hb d_Co_become_18 rfl (lv_at hl 1 rfl) ?_
        refine q_get C0 hP (kd := 7) (i := c0) (ci := 1) (by decide) (hc0) rfl rfl 0 (by decide) rfl k_fl_Co_9 rfl d_Co_become_19 ?_
        refine lv_iload_n hx hb d_Co_become_22 rfl (lv_at hl 0 rfl) ?_
        refine lv_aload_n hx hb d_Co_become_23 rfl (lv_at hl 2 rfl) ?_
        refine q_get C0 hP (kd := 7) (i := d0) (ci := 1) (by decide) (hd0) rfl rfl 0 (by decide) rfl k_fl_Co_9 rfl d_Co_become_24 ?_
        refine lv_iload_n hx hb d_Co_become_27 rfl (lv_at hl 0 rfl) ?_
        refine q_iald C0 hP (kd := 8) (i := d0) (by decide) (hd0) rfl (vin_nI (by omega)) d_Co_become_28 ?_
        rw [show (nI k).toNatClampNeg = k from nI_clamp (by omega)]
        refine q_iast C0 hP hS (kd := 8) (i := c0) 4 (by decide) rfl (hc0) rfl (vin_nI (by omega)) (by rw [ast_fn]; rfl) d_Co_become_29 (fun H locs hP hS => ?_)
        rw [show (nI k).toNatClampNeg = k from nI_clamp (by omega)] at hP
        refine lv_aload_n hx hb d_Co_become_30 rfl (lv_at hl 1 rfl) ?_
        refine q_get C0 hP (kd := 7) (i := c0) (ci := 1) (by decide) (hc0) rfl rfl 1 (by decide) rfl k_fl_Co_15 rfl d_Co_become_31 ?_
        refine lv_iload_n hx hb d_Co_become_34 rfl (lv_at hl 0 rfl) ?_
        refine lv_aload_n hx hb d_Co_become_35 rfl (lv_at hl 2 rfl) ?_
        refine q_get C0 hP (kd := 7) (i := d0) (ci := 1) (by decide) (hd0) rfl rfl 1 (by decide) rfl k_fl_Co_15 rfl d_Co_become_36 ?_
        refine lv_iload_n hx hb d_Co_become_39 rfl (lv_at hl 0 rfl) ?_
        refine q_iald C0 hP (kd := 9) (i := d0) (by decide) (hd0) rfl (vin_nI (by omega)) d_Co_become_40 ?_
        rw [show (nI k).toNatClampNeg = k from nI_clamp (by omega)]
        refine q_iast C0 hP hS (kd := 9) (i := c0) 5 (by decide) rfl (hc0) rfl (vin_nI (by omega)) (by rw [ast_fn]; rfl) d_Co_become_41 (fun H locs hP hS => ?_)
        rw [show (nI k).toNatClampNeg = k from nI_clamp (by omega)] at hP
        refine lv_aload_n hx hb d_Co_become_42 rfl (lv_at hl 1 rfl) ?_
        refine q_get C0 hP (kd := 7) (i := c0) (ci := 1) (by decide) (hc0) rfl rfl 2 (by decide) rfl k_fl_Co_18 rfl d_Co_become_43 ?_
        refine lv_iload_n hx hb d_Co_become_46 rfl (lv_at hl 0 rfl) ?_
        refine lv_aload_n hx hb d_Co_become_47 rfl (lv_at hl 2 rfl) ?_
        refine q_get C0 hP (kd := 7) (i := d0) (ci := 1) (by decide) (hd0) rfl rfl 2 (by decide) rfl k_fl_Co_18 rfl d_Co_become_48 ?_
        refine lv_iload_n hx hb d_Co_become_51 rfl (lv_at hl 0 rfl) ?_
        refine q_iald C0 hP (kd := 10) (i := d0) (by decide) (hd0) rfl (vin_nI (by omega)) d_Co_become_52 ?_
        rw [show (nI k).toNatClampNeg = k from nI_clamp (by omega)]
        refine q_iast C0 hP hS (kd := 10) (i := c0) 6 (by decide) rfl (hc0) rfl (vin_nI (by omega)) (by rw [ast_fn]; rfl) d_Co_become_53 (fun H locs hP hS => ?_)
        rw [show (nI k).toNatClampNeg = k from nI_clamp (by omega)] at hP
        refine lv_aload_n hx hb d_Co_become_54 rfl (lv_at hl 1 rfl) ?_
        refine q_get C0 hP (kd := 7) (i := c0) (ci := 1) (by decide) (hc0) rfl rfl 3 (by decide) rfl k_fl_Co_21 rfl d_Co_become_55 ?_
        refine lv_iload_n hx hb d_Co_become_58 rfl (lv_at hl 0 rfl) ?_
        refine lv_aload_n hx hb d_Co_become_59 rfl (lv_at hl 2 rfl) ?_
        refine q_get C0 hP (kd := 7) (i := d0) (ci := 1) (by decide) (hd0) rfl rfl 3 (by decide) rfl k_fl_Co_21 rfl d_Co_become_60 ?_
        refine lv_iload_n hx hb d_Co_become_63 rfl (lv_at hl 0 rfl) ?_
        refine q_iald C0 hP (kd := 11) (i := d0) (by decide) (hd0) rfl (vin_nI (by omega)) d_Co_become_64 ?_
        rw [show (nI k).toNatClampNeg = k from nI_clamp (by omega)]
        refine q_iast C0 hP hS (kd := 11) (i := c0) 7 (by decide) rfl (hc0) rfl (vin_nI (by omega)) (by rw [ast_fn]; rfl) d_Co_become_65 (fun H locs hP hS => ?_)
        rw [show (nI k).toNatClampNeg = k from nI_clamp (by omega)] at hP
        refine lv_iinc (v := nI (k + 1)) (lv' := [(2, .int (nI (k + 1))), (0, .ref (base + ad 7 c0)), (1, .ref (base + ad 7 d0))]) hx hb d_Co_become_66 hl (k := 0) rfl (by exact nI_1 k) (by decide) rfl (fun ls hl => ?_)
        refine lv_goto (tgt := 10) hx hb d_Co_become_69 (by decide) ?_
        rw [show ((up (up (up (up (bec σ c0 d0 k) 4 c0 k ((bec σ c0 d0 k) 4 d0 k)) 5 c0 k ((up (bec σ c0 d0 k) 4 c0 k ((bec σ c0 d0 k) 4 d0 k)) 5 d0 k)) 6 c0 k ((up (up (bec σ c0 d0 k) 4 c0 k ((bec σ c0 d0 k) 4 d0 k)) 5 c0 k ((up (bec σ c0 d0 k) 4 c0 k ((bec σ c0 d0 k) 4 d0 k)) 5 d0 k)) 6 d0 k)) 7 c0 k ((up (up (up (bec σ c0 d0 k) 4 c0 k ((bec σ c0 d0 k) 4 d0 k)) 5 c0 k ((up (bec σ c0 d0 k) 4 c0 k ((bec σ c0 d0 k) 4 d0 k)) 5 d0 k)) 6 c0 k ((up (up (bec σ c0 d0 k) 4 c0 k ((bec σ c0 d0 k) 4 d0 k)) 5 c0 k ((up (bec σ c0 d0 k) 4 c0 k ((bec σ c0 d0 k) 4 d0 k)) 5 d0 k)) 6 d0 k)) 7 d0 k)) : Mem) = bec σ c0 d0 (k + 1) from by rw [← bec_s hne]; simp [up, hne]] at hP
        exact ih (k + 1) (by omega) (by omega) _ _ hP hS ls (lv_sub hl [0, 1, 2] rfl)
  rw [show ((up σ 3 c0 0 (σ 3 d0 0)) : Mem) = bec σ c0 d0 0 from bec_0] at hP
  exact loop (sz + 1) 0 (by omega) (by omega) _ _ hP hS ls (lv_sub hl [0, 1, 2] rfl)
