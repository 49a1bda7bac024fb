/-! The model clears away: laid by gen/m49.py. -/
def opn (τ : Mem) : Nat → Nat
  | 0 => 0
  | n + 1 => opn τ n + (if τ 10 0 n < 0 then 0 else 1)
theorem opn_eq {τ τ' : Mem} (h : ∀ j, τ' 10 0 j = τ 10 0 j) : ∀ n, opn τ' n = opn τ n := by
  intro n
  induction n with
  | zero => rfl
  | succ n ih => unfold opn; rw [ih, h]
theorem opn_le {τ : Mem} : ∀ n, opn τ n ≤ n := by
  intro n
  induction n with
  | zero => exact Nat.le_refl _
  | succ n ih => unfold opn; split <;> omega
theorem opn_cl {τ τ' : Mem} {e : Nat} (h : ∀ j, j ≠ e → τ' 10 0 j = τ 10 0 j) (ho : ¬ τ 10 0 e < 0) (hc : τ' 10 0 e < 0) : ∀ n, opn τ' n + (if e < n then 1 else 0) = opn τ n := by
  intro n
  induction n with
  | zero => rfl
  | succ n ih =>
    unfold opn
    by_cases h1 : e = n
    · subst h1
      rw [if_neg (Nat.lt_irrefl _)] at ih
      rw [if_pos hc, if_neg ho, if_pos (Nat.lt_succ_self _)]
      omega
    · rw [h n (fun z => h1 z.symm)]
      by_cases h2 : e < n
      · rw [if_pos h2] at ih; rw [if_pos (show e < n + 1 by omega)]; omega
      · rw [if_neg h2] at ih; rw [if_neg (show ¬ e < n + 1 by omega)]; omega
/-- the worklist is in order -/
def J (τ : Mem) : Prop := MQW τ ∧ ∃ c : Nat, τ 0 0 6 = nI c ∧ c + opn τ 12 ≤ 12 ∧ ∀ i, i < c → vp_in (τ 15 0 i) 12
theorem MQW_k {τ τ' : Mem} (h : ∀ K j, K = 12 ∨ K = 13 ∨ K = 14 → τ' K 0 j = τ K 0 j) (hq : MQW τ) : MQW τ' := by
  intro e he
  obtain ⟨wt, h1, h2, h3⟩ := hq e he
  refine ⟨wt, h1, by rw [h 12 e (by decide)]; exact h2, fun k hk => ?_⟩
  rw [h 13 _ (by decide), h 14 _ (by decide)]
  exact h3 k hk
theorem J_tc {τ : Mem} {x : Int32} (hj : J τ) (hx : vp_in x 12) (ho : ¬ τ 10 0 x.toNatClampNeg < 0) : vp_in (τ 0 0 6) 12 := by
  obtain ⟨-, c, h1, h2, -⟩ := hj
  have h3 := opn_cl (τ := τ) (τ' := up τ 10 0 x.toNatClampNeg (-1)) (e := x.toNatClampNeg) (fun j hj => upK (fun z => hj z.2.2)) ho (by rw [up_self]; decide) 12
  rw [if_pos (vin_lt hx)] at h3
  rw [h1]
  exact vin_nI (by omega)
theorem J_free {τ : Mem} {b : Int32} (hj : J τ) : J (mFree τ b) := by
  obtain ⟨h0, c, h1, h2, h3⟩ := hj
  refine ⟨MQW_k (fun K j hK => ?_) h0, c, ?_, ?_, fun i hi => ?_⟩
  · unfold mFree; rw [upK (by omega), upK (by omega), upK (by omega)]
  · unfold mFree; rw [upK (by omega), upK (by omega), upK (by omega)]; exact h1
  · rw [opn_eq (τ := τ) (fun j => by unfold mFree; rw [upK (by omega), upK (by omega), upK (by omega)])]; exact h2
  · unfold mFree; rw [upK (by omega), upK (by omega), upK (by omega)]; exact h3 i hi
theorem J_cl {τ : Mem} {x : Int32} (hj : J τ) (hx : vp_in x 12) (ho : ¬ τ 10 0 x.toNatClampNeg < 0) : J (mCl τ x) := by
  have htc := J_tc hj hx ho
  obtain ⟨h0, c, h1, h2, h3⟩ := hj
  have hc12 : c < 12 := by
    have h9 := vin_lt htc
    rw [h1, nI_clamp (by omega)] at h9
    exact h9
  have e10 : ∀ j, mCl τ x 10 0 j = up τ 10 0 x.toNatClampNeg (-1) 10 0 j := fun j => by unfold mCl; rw [upK (by omega), upK (by omega), upK (by omega)]
  have h4 := opn_cl (τ := τ) (τ' := mCl τ x) (e := x.toNatClampNeg) (fun j hj => by rw [e10]; exact upK (fun z => hj z.2.2)) ho (by rw [e10, up_self]; decide) 12
  rw [if_pos (vin_lt hx)] at h4
  refine ⟨MQW_k (fun K j hK => ?_) h0, c + 1, ?_, by omega, fun i hi => ?_⟩
  · unfold mCl; rw [upK (by omega), upK (by omega), upK (by omega), upK (by omega)]
  · unfold mCl; rw [up_self, h1, nI_1]
  · unfold mCl
    rw [upK (by omega)]
    by_cases h5 : i = c
    · subst h5
      rw [h1, nI_clamp (by omega), up_self]; exact hx
    · rw [h1, nI_clamp (by omega), upK (by omega), upK (by omega), upK (by omega)]
      exact h3 i (by omega)
theorem J_up {τ : Mem} {k j : Nat} {v : Int32} (hk : k ≠ 12 ∧ k ≠ 13 ∧ k ≠ 14 ∧ k ≠ 10 ∧ k ≠ 15 ∧ ¬ (k = 0 ∧ j = 6)) (hj : J τ) : J (up τ k 0 j v) := by
  obtain ⟨h0, c, h1, h2, h3⟩ := hj
  refine ⟨MQW_k (fun K j hK => upK (by omega)) h0, c, ?_, ?_, fun i hi => ?_⟩
  · rw [upK (by omega)]; exact h1
  · rw [opn_eq (τ := τ) (fun j => upK (by omega))]; exact h2
  · rw [upK (by omega)]; exact h3 i hi
theorem J_w0 {τ : Mem} {e : Nat} (hj : J τ) : J (up τ 12 0 e 0) := by
  obtain ⟨h0, c, h1, h2, h3⟩ := hj
  refine ⟨fun a ha => ?_, c, ?_, ?_, fun i hi => ?_⟩
  · obtain ⟨wt, g1, g2, g3⟩ := h0 a ha
    by_cases h4 : a = e
    · subst h4; exact ⟨0, by omega, by rw [up_self]; decide, fun k hk => absurd hk (Nat.not_lt_zero k)⟩
    · refine ⟨wt, g1, by rw [upK (by omega)]; exact g2, fun k hk => ?_⟩
      rw [upK (by omega), upK (by omega)]; exact g3 k hk
  · rw [upK (by omega)]; exact h1
  · rw [opn_eq (τ := τ) (fun j => upK (by omega))]; exact h2
  · rw [upK (by omega)]; exact h3 i hi
/-- a message of an end that is cleared away -/
def mM2 (τ : Mem) (m : Nat) : Mem := if inR (τ 13 0 m) 3 5 then mFree (up τ 0 0 4 (τ 0 0 4 + 1)) (τ 14 0 m) else up τ 0 0 4 (τ 0 0 4 + 1)
def mMs (τ : Mem) (m : Nat) : Mem := if τ 13 0 m = 6 then (if τ 10 0 (τ 14 0 m).toNatClampNeg < 0 then mM2 τ m else mCl (mM2 τ m) (τ 14 0 m)) else mM2 τ m
def mCi (e : Nat) : Nat → Nat → Mem → Mem
  | 0, _, τ => τ
  | n + 1, k, τ => mCi e n (k + 1) (mMs τ (3 * e + k))
def mEn (τ : Mem) (e : Nat) : Mem := up (up (mCi e (τ 12 0 e).toNatClampNeg 0 τ) 12 0 e 0) 11 0 e 0
def mCo : Nat → Nat → Mem → Mem
  | 0, _, τ => τ
  | f + 1, i, τ => if τ 0 0 6 ≤ nI i then τ else mCo f (i + 1) (mEn τ (τ 15 0 i).toNatClampNeg)
def mClr (τ : Mem) : Mem := up (mCo 13 0 τ) 0 0 6 0
theorem mM2_10 {τ : Mem} {m j : Nat} : mM2 τ m 10 0 j = τ 10 0 j := by
  unfold mM2
  split
  · unfold mFree; rw [upK (by omega), upK (by omega), upK (by omega), upK (by omega)]
  · rw [upK (by omega)]
theorem J_ms {τ : Mem} {m : Nat} (hv : τ 13 0 m = 6 → vp_in (τ 14 0 m) 12) (hj : J τ) : J (mMs τ m) := by
  have h2 : J (mM2 τ m) := by
    unfold mM2
    split
    · exact J_free (J_up (by omega) hj)
    · exact J_up (by omega) hj
  unfold mMs
  split
  · rename_i h6
    split
    · exact h2
    · rename_i ho
      exact J_cl h2 (hv h6) (by rw [mM2_10]; exact ho)
  · exact h2
theorem mMs_12 {τ : Mem} {m j : Nat} : mMs τ m 12 0 j = τ 12 0 j := by
  have h : mM2 τ m 12 0 j = τ 12 0 j := by
    unfold mM2
    split
    · unfold mFree; rw [upK (by omega), upK (by omega), upK (by omega), upK (by omega)]
    · rw [upK (by omega)]
  unfold mMs
  split
  · split
    · exact h
    · unfold mCl; rw [upK (by omega), upK (by omega), upK (by omega), upK (by omega)]; exact h
  · exact h
theorem mCi_s {e wt k : Nat} {τ : Mem} (hk : k < wt) : mCi e (wt - k) k τ = mCi e (wt - (k + 1)) (k + 1) (mMs τ (3 * e + k)) := by
  obtain ⟨n, hn⟩ : ∃ n, wt - k = n + 1 := ⟨wt - k - 1, by omega⟩
  have hn2 : wt - (k + 1) = n := by omega
  rw [hn, hn2]
  rfl
theorem mCo_s {k : Nat} {τ : Mem} (hk : k < 13) : mCo (13 - k) k τ = if τ 0 0 6 ≤ nI k then τ else mCo (13 - (k + 1)) (k + 1) (mEn τ (τ 15 0 k).toNatClampNeg) := by
  obtain ⟨n, hn⟩ : ∃ n, 13 - k = n + 1 := ⟨12 - k, by omega⟩
  have hn2 : 13 - (k + 1) = n := by omega
  rw [hn, hn2]
  rfl
theorem MQW_at {τ : Mem} {e wt : Nat} (h : MQW τ) (he : e < 12) (hw : τ 12 0 e = nI wt) (hw2 : wt < 2 ^ 31) : ∀ k, k < wt → (τ 13 0 (3 * e + k) = 6 → vp_in (τ 14 0 (3 * e + k)) 12) ∧ (¬ τ 13 0 (3 * e + k) ≤ 2 → vp_in (τ 14 0 (3 * e + k)) 12) := by
  obtain ⟨w2, h1, h2, h3⟩ := h e he
  have h4 : w2 = wt := by
    have h5 := congrArg Int32.toNatClampNeg (h2.symm.trans hw)
    rw [nI_clamp (by omega), nI_clamp hw2] at h5
    exact h5
  subst h4
  exact h3
theorem in35 {x : Int32} (h : inR x 3 5) : ¬ x ≤ 2 := fun z => by
  have h1 := h.1
  rw [Int32.lt_iff_toInt_lt] at h1
  rw [Int32.le_iff_toInt_le] at z
  have h3 : (3 : Int32).toInt = 3 := (by decide)
  have h4 : (2 : Int32).toInt = 2 := (by decide)
  omega
set_option maxHeartbeats 4000000 in
set_option maxRecDepth 100000 in
theorem c_Mo_clear {S0 : State} {A0 : Array Value} {D : va_G} {ar : Nat → ClassId} {base : Nat} {σ : Mem} {l : Launch} (hlt : l.stackTraces = false) (hj0 : J σ) :
    MX l y_Mo_clear [Cond.code y_Mo_clear b_Mo_clear 4 none] (rmL 1) (PO S0 A0 D ar base σ [.ref (base + adm 0 0)]) (QO D ar base (fun k r σ' => k = 0 ∧ r = none ∧ σ' = mClr σ)) (inB base 16) := by
  refine mx_head hlt (by decide +kernel) (Nat.le_of_ble_eq_true rfl) ?_
  intro p ev s m below meth c ls C0 hP hl
  have C0 : Cx S0 A0 D ar base p l s m _ meth c R_Mo b_Mo_clear 4 none := C0
  obtain ⟨hx, hb, -⟩ := id C0
  have hl : lv_has ls 4 [(0, .ref (base + adm 0 0))] := hl
  have hS : va_S (inB base 16) s.heap s.heap [] := va_S.rf
  refine lv_iconst (v := 0) hx hb d_Mo_clear_0 (by decide) ?_
  refine lv_istore_n (lv' := [(1, .int 0), (0, .ref (base + adm 0 0))]) hx hb d_Mo_clear_1 rfl hl (by decide) rfl (fun ls hl => ?_)
  have inner : ∀ (ee wt : Nat) (iv : Int32), ee < 12 → wt ≤ 3 → ∀ τ0 : Mem, (∀ τ : Mem, J τ → τ = mCi ee wt 0 τ0 → ∀ (H : Heap) (locs : List Loc), va_P D classes (wl base 16 (memo ar base τ)) H → va_S (inB base 16) s.heap H locs → ∀ ls : Array Slot, lv_has ls 4 [(2, .int (nI ee)), (1, .int iv), (0, .ref (base + adm 0 0))] → W p l ev (rmL 1) s m ([.ref (base + adm 0 0)] : List Value).toArray below meth c H locs 0 0 (MQX below (QO D ar base (fun k r σ' => k = 0 ∧ r = none ∧ σ' = mClr σ)) ([.ref (base + adm 0 0)] : List Value).toArray s (rmL 1).cells (rmL 1).slots (inB base 16)) (F0 m 110 ls [])) → ∀ (n k : Nat), k ≤ wt → wt + 1 ≤ k + n → ∀ τ : Mem, J τ ∧ τ 12 0 ee = nI wt ∧ mCi ee (wt - k) k τ = mCi ee wt 0 τ0 → ∀ (H : Heap) (locs : List Loc), va_P D classes (wl base 16 (memo ar base τ)) H → va_S (inB base 16) s.heap H locs → ∀ ls : Array Slot, lv_has ls 4 [(3, .int (nI (3 * ee + k))), (2, .int (nI ee)), (1, .int iv), (0, .ref (base + adm 0 0))] → W p l ev (rmL 1) s m ([.ref (base + adm 0 0)] : List Value).toArray below meth c H locs 0 0 (MQX below (QO D ar base (fun k r σ' => k = 0 ∧ r = none ∧ σ' = mClr σ)) ([.ref (base + adm 0 0)] : List Value).toArray s (rmL 1).cells (rmL 1).slots (inB base 16)) (F0 m 21 ls []) := by
    intro ee wt iv hee hw3 τ0 cont n
    induction n with
    | zero => intro k h1 h2; omega
    | succ n ih =>
      intro k hk1 hk2 τ hinv H locs hP hS ls hl
      refine lv_iload_n hx hb d_Mo_clear_21 rfl (lv_at hl 0 rfl) ?_
      refine lv_iload_n hx hb d_Mo_clear_22 rfl (lv_at hl 1 rfl) ?_
      refine lv_iconst (v := 3) hx hb d_Mo_clear_23 (by decide) ?_
      refine lv_imul hx hb d_Mo_clear_24 ?_
      refine lv_aload_n hx hb d_Mo_clear_25 rfl (lv_at hl 3 rfl) ?_
      refine mq_get C0 hP (kd := 0) (i := 0) (ci := 4) (by decide) (by decide) rfl rfl 11 (by decide) rfl k_fl_Mo_44 rfl d_Mo_clear_26 ?_
      refine lv_iload_n hx hb d_Mo_clear_29 rfl (lv_at hl 1 rfl) ?_
      refine mq_iald C0 hP (kd := 12) (i := 0) (by decide) (by decide) rfl (vin_nI hee) d_Mo_clear_30 ?_
      rw [show (nI ee).toNatClampNeg = ee from nI_clamp (by omega)]
      refine lv_iadd hx hb d_Mo_clear_31 ?_
      refine W.eq (g2 := F0 m 32 ls [.int (nI (3 * ee + wt)), .int (nI (3 * ee + k))]) (by rw [show nI (3 * ee + wt) = nI ee * 3 + τ 12 0 ee from by rw [hinv.2.1, ix3]]) ?_
      refine lv_icmp_ge (tgt := 110) hx hb d_Mo_clear_32 (by decide) (fun c_32 => ?_) (fun c_32 => ?_)
      · skip
        have hkN : k = wt := by have := (nI_leI (by omega) (by omega)).mp c_32; omega
        exact cont τ hinv.1 (by rw [← hinv.2.2, hkN, Nat.sub_self]; rfl) _ _ hP hS ls (lv_sub hl [1, 2, 3] rfl)
      · skip
        have hkN : k < wt := Nat.lt_of_not_le fun y => c_32 ((nI_leI (by omega) (by omega)).mpr (by omega))
        have hw9 : ∀ k, k < wt → (τ 13 0 (3 * ee + k) = 6 → vp_in (τ 14 0 (3 * ee + k)) 12) ∧ (¬ τ 13 0 (3 * ee + k) ≤ 2 → vp_in (τ 14 0 (3 * ee + k)) 12) := MQW_at hinv.1.1 hee hinv.2.1 (by omega)
        refine lv_aload_n hx hb d_Mo_clear_35 rfl (lv_at hl 3 rfl) ?_
        refine lv_dup hx hb d_Mo_clear_36 rfl ?_
        refine mq_get C0 hP (kd := 0) (i := 0) (ci := 4) (by decide) (by decide) rfl rfl 19 (by decide) rfl k_fl_Mo_91 rfl d_Mo_clear_37 ?_
        refine lv_iconst (v := 1) hx hb d_Mo_clear_40 (by decide) ?_
        refine lv_iadd hx hb d_Mo_clear_41 ?_
        refine mq_put C0 hP hS (kd := 0) (i := 0) (ci := 4) 0 4 (by decide) rfl (by decide) rfl rfl t_Mo t_Mo_ok n_Mo 19 (by decide) rfl k_fl_Mo_91 rfl (by decide +kernel) (Nat.le_of_ble_eq_true rfl) (by simp [conto, up]) d_Mo_clear_42 (fun H locs hP hS => ?_)
        refine lv_aload_n hx hb d_Mo_clear_45 rfl (lv_at hl 3 rfl) ?_
        refine mq_get C0 hP (kd := 0) (i := 0) (ci := 4) (by decide) (by decide) rfl rfl 12 (by decide) rfl k_fl_Mo_47 rfl d_Mo_clear_46 ?_
        refine lv_iload_n hx hb d_Mo_clear_49 rfl (lv_at hl 0 rfl) ?_
        refine mq_iald C0 hP (kd := 13) (i := 0) (by decide) (by decide) rfl (vin_nI (by omega)) d_Mo_clear_50 ?_
        rw [show (nI (3 * ee + k)).toNatClampNeg = (3 * ee + k) from nI_clamp (by omega)]
        refine W.eq (g2 := F0 m 51 ls [.int (τ 13 0 (3 * ee + k))]) rfl ?_
        refine lv_iconst (v := 3) hx hb d_Mo_clear_51 (by decide) ?_
        refine lv_iconst (v := 5) hx hb d_Mo_clear_52 (by decide) ?_
        refine ms_P C0 hP hS (cs_S C0 (As := [.int (τ 13 0 (3 * ee + k)), .int 3, .int 5]) k_ml_Mo_60 k_st_Mo_in k_cd_Mo_in k_in_Mo z_Mo_in rfl d_Mo_clear_53) (c_Mo_in hlt) hl.1 d_Mo_clear_53 (Nat.le_of_ble_eq_true rfl) (⟨by decide, by decide⟩) (⟨by decide, by decide⟩) (fun k r x t hk hp => absurd hp.1 hk) (fun r_2 h_1 => ?_)
        obtain ⟨-, rfl⟩ := h_1
        refine lv_if_eq (tgt := 69) hx hb d_Mo_clear_56 (by decide) (fun c_56 => ?_) (fun c_56 => ?_)
        · skip
          have c_56 := b2i_z.mp c_56
          refine lv_aload_n hx hb d_Mo_clear_69 rfl (lv_at hl 3 rfl) ?_
          refine mq_get C0 hP (kd := 0) (i := 0) (ci := 4) (by decide) (by decide) rfl rfl 12 (by decide) rfl k_fl_Mo_47 rfl d_Mo_clear_70 ?_
          refine lv_iload_n hx hb d_Mo_clear_73 rfl (lv_at hl 0 rfl) ?_
          refine mq_iald C0 hP (kd := 13) (i := 0) (by decide) (by decide) rfl (vin_nI (by omega)) d_Mo_clear_74 ?_
          rw [show (nI (3 * ee + k)).toNatClampNeg = (3 * ee + k) from nI_clamp (by omega)]
          refine W.eq (g2 := F0 m 75 ls [.int (τ 13 0 (3 * ee + k))]) rfl ?_
          refine lv_bipush (v := 6) hx hb d_Mo_clear_75 (by decide) ?_
          refine lv_icmp_ne (tgt := 104) hx hb d_Mo_clear_77 (by decide) (fun c_77 => ?_) (fun c_77 => ?_)
          · skip
            refine lv_iinc (v := nI (3 * ee + (k + 1))) (lv' := [(3, .int (nI (3 * ee + (k + 1)))), (2, .int (nI ee)), (1, .int iv), (0, .ref (base + adm 0 0))]) hx hb d_Mo_clear_104 hl (k := 0) rfl (by exact nI_1 _) (by decide) rfl (fun ls hl => ?_)
            refine lv_goto (tgt := 21) hx hb d_Mo_clear_107 (by decide) ?_
            rw [show ((up τ 0 0 4 ((τ 0 0 4) + 1)) : Mem) = mMs τ (3 * ee + k) from by unfold mMs mM2; rw [if_neg c_77, if_neg c_56]] at hP
            exact ih (k + 1) (by omega) (by omega) _ ⟨J_ms (hw9 k hkN).1 hinv.1, by rw [mMs_12]; exact hinv.2.1, by rw [← mCi_s hkN]; exact hinv.2.2⟩ _ _ hP hS ls (lv_sub hl [0, 1, 2, 3] rfl)
          · skip
            refine lv_aload_n hx hb d_Mo_clear_80 rfl (lv_at hl 3 rfl) ?_
            refine mq_get C0 hP (kd := 0) (i := 0) (ci := 4) (by decide) (by decide) rfl rfl 9 (by decide) rfl k_fl_Mo_38 rfl d_Mo_clear_81 ?_
            refine lv_aload_n hx hb d_Mo_clear_84 rfl (lv_at hl 3 rfl) ?_
            refine mq_get C0 hP (kd := 0) (i := 0) (ci := 4) (by decide) (by decide) rfl rfl 13 (by decide) rfl k_fl_Mo_50 rfl d_Mo_clear_85 ?_
            refine lv_iload_n hx hb d_Mo_clear_88 rfl (lv_at hl 0 rfl) ?_
            refine mq_iald C0 hP (kd := 14) (i := 0) (by decide) (by decide) rfl (vin_nI (by omega)) d_Mo_clear_89 ?_
            rw [show (nI (3 * ee + k)).toNatClampNeg = (3 * ee + k) from nI_clamp (by omega)]
            refine W.eq (g2 := F0 m 90 ls [.int (τ 14 0 (3 * ee + k)), .ref (base + adm 10 0)]) rfl ?_
            refine mq_iald C0 hP (kd := 10) (i := 0) (by decide) (by decide) rfl ((hw9 k hkN).1 c_77) d_Mo_clear_90 ?_
            refine W.eq (g2 := F0 m 91 ls [.int (τ 10 0 ((τ 14 0 (3 * ee + k)).toNatClampNeg))]) rfl ?_
            refine lv_if_lt (tgt := 104) hx hb d_Mo_clear_91 (by decide) (fun c_91 => ?_) (fun c_91 => ?_)
            · skip
              refine lv_iinc (v := nI (3 * ee + (k + 1))) (lv' := [(3, .int (nI (3 * ee + (k + 1)))), (2, .int (nI ee)), (1, .int iv), (0, .ref (base + adm 0 0))]) hx hb d_Mo_clear_104 hl (k := 0) rfl (by exact nI_1 _) (by decide) rfl (fun ls hl => ?_)
              refine lv_goto (tgt := 21) hx hb d_Mo_clear_107 (by decide) ?_
              rw [show ((up τ 0 0 4 ((τ 0 0 4) + 1)) : Mem) = mMs τ (3 * ee + k) from by unfold mMs mM2; rw [if_pos c_77, if_pos c_91, if_neg c_56]] at hP
              exact ih (k + 1) (by omega) (by omega) _ ⟨J_ms (hw9 k hkN).1 hinv.1, by rw [mMs_12]; exact hinv.2.1, by rw [← mCi_s hkN]; exact hinv.2.2⟩ _ _ hP hS ls (lv_sub hl [0, 1, 2, 3] rfl)
            · skip
              refine lv_aload_n hx hb d_Mo_clear_94 rfl (lv_at hl 3 rfl) ?_
              refine lv_aload_n hx hb d_Mo_clear_95 rfl (lv_at hl 3 rfl) ?_
              refine mq_get C0 hP (kd := 0) (i := 0) (ci := 4) (by decide) (by decide) rfl rfl 13 (by decide) rfl k_fl_Mo_50 rfl d_Mo_clear_96 ?_
              refine lv_iload_n hx hb d_Mo_clear_99 rfl (lv_at hl 0 rfl) ?_
              refine mq_iald C0 hP (kd := 14) (i := 0) (by decide) (by decide) rfl (vin_nI (by omega)) d_Mo_clear_100 ?_
              rw [show (nI (3 * ee + k)).toNatClampNeg = (3 * ee + k) from nI_clamp (by omega)]
              refine W.eq (g2 := F0 m 101 ls [.int (τ 14 0 (3 * ee + k)), .ref (base + adm 0 0)]) rfl ?_
              refine ms_I C0 hP hS (ms_V C0 hP (kd := 0) (i := 0) (ci := 4) (As := [.int (τ 14 0 (3 * ee + k))]) (by decide) (by decide) rfl rfl k_ml_Mo_98 k_im_Mo_closeEnd k_sl_Mo_Mo_closeEnd k_cd_Mo_closeEnd k_in_Mo z_Mo_closeEnd rfl d_Mo_clear_101) (c_Mo_closeEnd hlt ((hw9 k hkN).1 c_77) (J_tc (J_up (by omega) hinv.1) ((hw9 k hkN).1 c_77) c_91)) (fun k r σ h => h.1) ⟨rfl, rfl⟩ hl.1 d_Mo_clear_101 (Nat.le_of_ble_eq_true rfl) (⟨by decide, by decide⟩) (⟨by decide, by decide⟩) (fun r_4 σ_5 H locs h_3 hP hS => ?_)
              obtain ⟨-, rfl, rfl⟩ := h_3
              refine lv_iinc (v := nI (3 * ee + (k + 1))) (lv' := [(3, .int (nI (3 * ee + (k + 1)))), (2, .int (nI ee)), (1, .int iv), (0, .ref (base + adm 0 0))]) hx hb d_Mo_clear_104 hl (k := 0) rfl (by exact nI_1 _) (by decide) rfl (fun ls hl => ?_)
              refine lv_goto (tgt := 21) hx hb d_Mo_clear_107 (by decide) ?_
              rw [show ((mCl (up τ 0 0 4 ((τ 0 0 4) + 1)) (τ 14 0 (3 * ee + k))) : Mem) = mMs τ (3 * ee + k) from by unfold mMs mM2; rw [if_pos c_77, if_neg c_91, if_neg c_56]] at hP
              exact ih (k + 1) (by omega) (by omega) _ ⟨J_ms (hw9 k hkN).1 hinv.1, by rw [mMs_12]; exact hinv.2.1, by rw [← mCi_s hkN]; exact hinv.2.2⟩ _ _ hP hS ls (lv_sub hl [0, 1, 2, 3] rfl)
        · skip
          have c_56 := b2i_ne.mp c_56
          refine lv_aload_n hx hb d_Mo_clear_59 rfl (lv_at hl 3 rfl) ?_
          refine lv_aload_n hx hb d_Mo_clear_60 rfl (lv_at hl 3 rfl) ?_
          refine mq_get C0 hP (kd := 0) (i := 0) (ci := 4) (by decide) (by decide) rfl rfl 13 (by decide) rfl k_fl_Mo_50 rfl d_Mo_clear_61 ?_
          refine lv_iload_n hx hb d_Mo_clear_64 rfl (lv_at hl 0 rfl) ?_
          refine mq_iald C0 hP (kd := 14) (i := 0) (by decide) (by decide) rfl (vin_nI (by omega)) d_Mo_clear_65 ?_
          rw [show (nI (3 * ee + k)).toNatClampNeg = (3 * ee + k) from nI_clamp (by omega)]
          refine W.eq (g2 := F0 m 66 ls [.int (τ 14 0 (3 * ee + k)), .ref (base + adm 0 0)]) rfl ?_
          refine ms_I C0 hP hS (ms_V C0 hP (kd := 0) (i := 0) (ci := 4) (As := [.int (τ 14 0 (3 * ee + k))]) (by decide) (by decide) rfl rfl k_ml_Mo_94 k_im_Mo_freeBlock k_sl_Mo_Mo_freeBlock k_cd_Mo_freeBlock k_in_Mo z_Mo_freeBlock rfl d_Mo_clear_66) (c_Mo_freeBlock hlt ((hw9 k hkN).2 (in35 c_56))) (fun k r σ h => h.1) ⟨rfl, rfl⟩ hl.1 d_Mo_clear_66 (Nat.le_of_ble_eq_true rfl) (⟨by decide, by decide⟩) (⟨by decide, by decide⟩) (fun r_7 σ_8 H locs h_6 hP hS => ?_)
          obtain ⟨-, rfl, rfl⟩ := h_6
          refine lv_aload_n hx hb d_Mo_clear_69 rfl (lv_at hl 3 rfl) ?_
          refine mq_get C0 hP (kd := 0) (i := 0) (ci := 4) (by decide) (by decide) rfl rfl 12 (by decide) rfl k_fl_Mo_47 rfl d_Mo_clear_70 ?_
          refine lv_iload_n hx hb d_Mo_clear_73 rfl (lv_at hl 0 rfl) ?_
          refine mq_iald C0 hP (kd := 13) (i := 0) (by decide) (by decide) rfl (vin_nI (by omega)) d_Mo_clear_74 ?_
          rw [show (nI (3 * ee + k)).toNatClampNeg = (3 * ee + k) from nI_clamp (by omega)]
          refine W.eq (g2 := F0 m 75 ls [.int (τ 13 0 (3 * ee + k))]) rfl ?_
          refine lv_bipush (v := 6) hx hb d_Mo_clear_75 (by decide) ?_
          refine lv_icmp_ne (tgt := 104) hx hb d_Mo_clear_77 (by decide) (fun c_77 => ?_) (fun c_77 => ?_)
          · skip
            refine lv_iinc (v := nI (3 * ee + (k + 1))) (lv' := [(3, .int (nI (3 * ee + (k + 1)))), (2, .int (nI ee)), (1, .int iv), (0, .ref (base + adm 0 0))]) hx hb d_Mo_clear_104 hl (k := 0) rfl (by exact nI_1 _) (by decide) rfl (fun ls hl => ?_)
            refine lv_goto (tgt := 21) hx hb d_Mo_clear_107 (by decide) ?_
            rw [show ((mFree (up τ 0 0 4 ((τ 0 0 4) + 1)) (τ 14 0 (3 * ee + k))) : Mem) = mMs τ (3 * ee + k) from by unfold mMs mM2; rw [if_neg c_77, if_pos c_56]] at hP
            exact ih (k + 1) (by omega) (by omega) _ ⟨J_ms (hw9 k hkN).1 hinv.1, by rw [mMs_12]; exact hinv.2.1, by rw [← mCi_s hkN]; exact hinv.2.2⟩ _ _ hP hS ls (lv_sub hl [0, 1, 2, 3] rfl)
          · skip
            refine lv_aload_n hx hb d_Mo_clear_80 rfl (lv_at hl 3 rfl) ?_
            refine mq_get C0 hP (kd := 0) (i := 0) (ci := 4) (by decide) (by decide) rfl rfl 9 (by decide) rfl k_fl_Mo_38 rfl d_Mo_clear_81 ?_
            refine lv_aload_n hx hb d_Mo_clear_84 rfl (lv_at hl 3 rfl) ?_
            refine mq_get C0 hP (kd := 0) (i := 0) (ci := 4) (by decide) (by decide) rfl rfl 13 (by decide) rfl k_fl_Mo_50 rfl d_Mo_clear_85 ?_
            refine lv_iload_n hx hb d_Mo_clear_88 rfl (lv_at hl 0 rfl) ?_
            refine mq_iald C0 hP (kd := 14) (i := 0) (by decide) (by decide) rfl (vin_nI (by omega)) d_Mo_clear_89 ?_
            rw [show (nI (3 * ee + k)).toNatClampNeg = (3 * ee + k) from nI_clamp (by omega)]
            refine W.eq (g2 := F0 m 90 ls [.int (τ 14 0 (3 * ee + k)), .ref (base + adm 10 0)]) rfl ?_
            refine mq_iald C0 hP (kd := 10) (i := 0) (by decide) (by decide) rfl ((hw9 k hkN).1 c_77) d_Mo_clear_90 ?_
            refine W.eq (g2 := F0 m 91 ls [.int (τ 10 0 ((τ 14 0 (3 * ee + k)).toNatClampNeg))]) rfl ?_
            refine lv_if_lt (tgt := 104) hx hb d_Mo_clear_91 (by decide) (fun c_91 => ?_) (fun c_91 => ?_)
            · skip
              refine lv_iinc (v := nI (3 * ee + (k + 1))) (lv' := [(3, .int (nI (3 * ee + (k + 1)))), (2, .int (nI ee)), (1, .int iv), (0, .ref (base + adm 0 0))]) hx hb d_Mo_clear_104 hl (k := 0) rfl (by exact nI_1 _) (by decide) rfl (fun ls hl => ?_)
              refine lv_goto (tgt := 21) hx hb d_Mo_clear_107 (by decide) ?_
              rw [show ((mFree (up τ 0 0 4 ((τ 0 0 4) + 1)) (τ 14 0 (3 * ee + k))) : Mem) = mMs τ (3 * ee + k) from by unfold mMs mM2; rw [if_pos c_77, if_pos c_91, if_pos c_56]] at hP
              exact ih (k + 1) (by omega) (by omega) _ ⟨J_ms (hw9 k hkN).1 hinv.1, by rw [mMs_12]; exact hinv.2.1, by rw [← mCi_s hkN]; exact hinv.2.2⟩ _ _ hP hS ls (lv_sub hl [0, 1, 2, 3] rfl)
            · skip
              refine lv_aload_n hx hb d_Mo_clear_94 rfl (lv_at hl 3 rfl) ?_
              refine lv_aload_n hx hb d_Mo_clear_95 rfl (lv_at hl 3 rfl) ?_
              refine mq_get C0 hP (kd := 0) (i := 0) (ci := 4) (by decide) (by decide) rfl rfl 13 (by decide) rfl k_fl_Mo_50 rfl d_Mo_clear_96 ?_
              refine lv_iload_n hx hb d_Mo_clear_99 rfl (lv_at hl 0 rfl) ?_
              refine mq_iald C0 hP (kd := 14) (i := 0) (by decide) (by decide) rfl (vin_nI (by omega)) d_Mo_clear_100 ?_
              rw [show (nI (3 * ee + k)).toNatClampNeg = (3 * ee + k) from nI_clamp (by omega)]
              refine W.eq (g2 := F0 m 101 ls [.int (τ 14 0 (3 * ee + k)), .ref (base + adm 0 0)]) rfl ?_
              refine ms_I C0 hP hS (ms_V C0 hP (kd := 0) (i := 0) (ci := 4) (As := [.int (τ 14 0 (3 * ee + k))]) (by decide) (by decide) rfl rfl k_ml_Mo_98 k_im_Mo_closeEnd k_sl_Mo_Mo_closeEnd k_cd_Mo_closeEnd k_in_Mo z_Mo_closeEnd rfl d_Mo_clear_101) (c_Mo_closeEnd hlt ((hw9 k hkN).1 c_77) (J_tc (J_free (J_up (by omega) hinv.1)) ((hw9 k hkN).1 c_77) c_91)) (fun k r σ h => h.1) ⟨rfl, rfl⟩ hl.1 d_Mo_clear_101 (Nat.le_of_ble_eq_true rfl) (⟨by decide, by decide⟩) (⟨by decide, by decide⟩) (fun r_10 σ_11 H locs h_9 hP hS => ?_)
              obtain ⟨-, rfl, rfl⟩ := h_9
              refine lv_iinc (v := nI (3 * ee + (k + 1))) (lv' := [(3, .int (nI (3 * ee + (k + 1)))), (2, .int (nI ee)), (1, .int iv), (0, .ref (base + adm 0 0))]) hx hb d_Mo_clear_104 hl (k := 0) rfl (by exact nI_1 _) (by decide) rfl (fun ls hl => ?_)
              refine lv_goto (tgt := 21) hx hb d_Mo_clear_107 (by decide) ?_
              rw [show ((mCl (mFree (up τ 0 0 4 ((τ 0 0 4) + 1)) (τ 14 0 (3 * ee + k))) (τ 14 0 (3 * ee + k))) : Mem) = mMs τ (3 * ee + k) from by unfold mMs mM2; rw [if_pos c_77, if_neg c_91, if_pos c_56]] at hP
              exact ih (k + 1) (by omega) (by omega) _ ⟨J_ms (hw9 k hkN).1 hinv.1, by rw [mMs_12]; exact hinv.2.1, by rw [← mCi_s hkN]; exact hinv.2.2⟩ _ _ hP hS ls (lv_sub hl [0, 1, 2, 3] rfl)
  have loop : ∀ (n k : Nat), k ≤ 12 → 12 + 1 ≤ k + n → ∀ (τ : Mem), J τ ∧ mCo (13 - k) k τ = mCo 13 0 σ → ∀ (H : Heap) (locs : List Loc), va_P D classes (wl base 16 (memo ar base τ)) H → va_S (inB base 16) s.heap H locs → ∀ ls : Array Slot, lv_has ls 4 [(1, .int (nI k)), (0, .ref (base + adm 0 0))] → W p l ev (rmL 1) s m ([.ref (base + adm 0 0)] : List Value).toArray below meth c H locs 0 0 (MQX below (QO D ar base (fun k r σ' => k = 0 ∧ r = none ∧ σ' = mClr σ)) ([.ref (base + adm 0 0)] : List Value).toArray s (rmL 1).cells (rmL 1).slots (inB base 16)) (F0 m 2 ls []) := by
    intro n
    induction n with
    | zero => intro k h1 h2; omega
    | succ n ih =>
      intro k hk1 hk2 τ hinv H locs hP hS ls hl
      refine lv_iload_n hx hb d_Mo_clear_2 rfl (lv_at hl 0 rfl) ?_
      refine lv_aload_n hx hb d_Mo_clear_3 rfl (lv_at hl 1 rfl) ?_
      refine mq_get C0 hP (kd := 0) (i := 0) (ci := 4) (by decide) (by decide) rfl rfl 21 (by decide) rfl k_fl_Mo_88 rfl d_Mo_clear_4 ?_
      obtain ⟨c0, hc0, hc1, hc2⟩ := hinv.1.2
      rw [show (τ 0 0 6 : Int32) = nI c0 from hc0]
      refine lv_icmp_ge (tgt := 130) hx hb d_Mo_clear_7 (by decide) (fun c_7 => ?_) (fun c_7 => ?_)
      · skip
        have hle : τ 0 0 6 ≤ nI k := by rw [hc0]; exact c_7
        refine lv_aload_n hx hb d_Mo_clear_130 rfl (lv_at hl 1 rfl) ?_
        refine lv_iconst (v := 0) hx hb d_Mo_clear_131 (by decide) ?_
        refine mq_put C0 hP hS (kd := 0) (i := 0) (ci := 4) 0 6 (by decide) rfl (by decide) rfl rfl t_Mo t_Mo_ok n_Mo 21 (by decide) rfl k_fl_Mo_88 rfl (by decide +kernel) (Nat.le_of_ble_eq_true rfl) (by simp [conto, up]) d_Mo_clear_132 (fun H locs hP hS => ?_)
        exact mrI_v C0 hP hS (⟨by decide, by decide⟩) (⟨rfl, rfl, by unfold mClr; rw [← hinv.2, mCo_s (by omega), if_pos hle]⟩) d_Mo_clear_135
      · skip
        have hle : ¬ τ 0 0 6 ≤ nI k := by rw [hc0]; exact c_7
        have hkN : k < c0 := Nat.lt_of_not_le fun y => c_7 ((nI_leI (by omega) (by omega)).mpr y)
        obtain ⟨ee, hee, hee2⟩ := vp_in_of (hc2 k hkN) (by decide)
        refine lv_aload_n hx hb d_Mo_clear_10 rfl (lv_at hl 1 rfl) ?_
        refine mq_get C0 hP (kd := 0) (i := 0) (ci := 4) (by decide) (by decide) rfl rfl 14 (by decide) rfl k_fl_Mo_53 rfl d_Mo_clear_11 ?_
        refine lv_iload_n hx hb d_Mo_clear_14 rfl (lv_at hl 0 rfl) ?_
        refine mq_iald C0 hP (kd := 15) (i := 0) (by decide) (by decide) rfl (vin_nI (by omega)) d_Mo_clear_15 ?_
        rw [show (nI k).toNatClampNeg = k from nI_clamp (by omega)]
        rw [show (τ 15 0 k : Int32) = nI ee from hee2]
        refine lv_istore_n (lv' := [(2, .int (nI ee)), (1, .int (nI k)), (0, .ref (base + adm 0 0))]) hx hb d_Mo_clear_16 rfl hl (by decide) rfl (fun ls hl => ?_)
        refine lv_iload_n hx hb d_Mo_clear_17 rfl (lv_at hl 0 rfl) ?_
        refine lv_iconst (v := 3) hx hb d_Mo_clear_18 (by decide) ?_
        refine lv_imul hx hb d_Mo_clear_19 ?_
        rw [show ((nI ee) * 3 : Int32) = nI (3 * ee + 0) from ix30]
        refine lv_istore_n (lv' := [(3, .int (nI (3 * ee + 0))), (2, .int (nI ee)), (1, .int (nI k)), (0, .ref (base + adm 0 0))]) hx hb d_Mo_clear_20 rfl hl (by decide) rfl (fun ls hl => ?_)
        obtain ⟨wt, hw3, hwt, -⟩ := hinv.1.1 ee hee
        refine inner ee wt (nI k) hee hw3 τ (fun τ' hj hτ H locs hP hS ls hl => ?_) (wt + 1) 0 (by omega) (by omega) τ ⟨hinv.1, hwt, rfl⟩ _ _ hP hS ls (lv_sub hl [0, 1, 2, 3] rfl)
        refine lv_aload_n hx hb d_Mo_clear_110 rfl (lv_at hl 2 rfl) ?_
        refine mq_get C0 hP (kd := 0) (i := 0) (ci := 4) (by decide) (by decide) rfl rfl 11 (by decide) rfl k_fl_Mo_44 rfl d_Mo_clear_111 ?_
        refine lv_iload_n hx hb d_Mo_clear_114 rfl (lv_at hl 0 rfl) ?_
        refine lv_iconst (v := 0) hx hb d_Mo_clear_115 (by decide) ?_
        refine mq_iast C0 hP hS (kd := 12) (i := 0) 12 (by decide) rfl (by decide) rfl (vin_nI hee) (by rw [ast_fn]; rfl) d_Mo_clear_116 (fun H locs hP hS => ?_)
        rw [show (nI ee).toNatClampNeg = ee from nI_clamp (by omega)] at hP
        refine lv_aload_n hx hb d_Mo_clear_117 rfl (lv_at hl 2 rfl) ?_
        refine mq_get C0 hP (kd := 0) (i := 0) (ci := 4) (by decide) (by decide) rfl rfl 10 (by decide) rfl k_fl_Mo_41 rfl d_Mo_clear_118 ?_
        refine lv_iload_n hx hb d_Mo_clear_121 rfl (lv_at hl 0 rfl) ?_
        refine lv_iconst (v := 0) hx hb d_Mo_clear_122 (by decide) ?_
        refine mq_iast C0 hP hS (kd := 11) (i := 0) 11 (by decide) rfl (by decide) rfl (vin_nI hee) (by rw [ast_fn]; rfl) d_Mo_clear_123 (fun H locs hP hS => ?_)
        rw [show (nI ee).toNatClampNeg = ee from nI_clamp (by omega)] at hP
        refine lv_iinc (v := nI (k + 1)) (lv' := [(1, .int (nI (k + 1))), (2, .int (nI ee)), (0, .ref (base + adm 0 0))]) hx hb d_Mo_clear_124 hl (k := 1) rfl (by exact nI_1 k) (by decide) rfl (fun ls hl => ?_)
        refine lv_goto (tgt := 2) hx hb d_Mo_clear_127 (by decide) ?_
        exact ih (k + 1) (by omega) (by omega) _ (⟨J_up (by omega) (J_w0 hj), by rw [← hinv.2, mCo_s (k := k) (τ := τ) (by omega), if_neg hle, hee2, nI_clamp (by omega)]; unfold mEn; rw [hwt, nI_clamp (by omega), ← hτ]⟩) _ _ hP hS ls (lv_sub hl [0, 2] rfl)
  exact loop (12 + 1) 0 (by omega) (by omega) _ (⟨hj0, rfl⟩) _ _ hP hS ls (lv_sub hl [0, 1] rfl)
