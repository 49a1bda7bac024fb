/-! The class's public methods, the plain ones: laid by gen/m28.py. -/
abbrev R3 : Type := Nat × Option Int32 × Mem
def rmK : Room := { frames := 40, cells := 1, slots := 6, locals := 1200 }
theorem kOwnB_0 {σ : Mem} {q b : Int32} (h : kOwnB σ q b = 0) : vp_in q 4 ∧ vp_in b 12 ∧ ¬ σ 2 0 q.toNatClampNeg = 0 ∧ σ 8 b.toNatClampNeg 0 = q := by
  unfold kOwnB at h
  by_cases h1 : bad q 4
  · rw [if_pos h1] at h; cases h
  · rw [if_neg h1] at h
    by_cases h2 : bad b 12
    · rw [if_pos h2] at h; cases h
    · rw [if_neg h2] at h
      by_cases h3 : σ 2 0 q.toNatClampNeg = 0
      · rw [if_pos h3] at h; cases h
      · rw [if_neg h3] at h
        by_cases h4 : σ 8 b.toNatClampNeg 0 = q
        · exact ⟨vin_b h1, vin_b h2, h3, h4⟩
        · rw [if_neg h4] at h; cases h
theorem kOwnE_0 {σ : Mem} {q b : Int32} (h : kOwnE σ q b = 0) : vp_in q 4 ∧ vp_in b 12 ∧ ¬ σ 2 0 q.toNatClampNeg = 0 ∧ σ 11 b.toNatClampNeg 0 = q := by
  unfold kOwnE at h
  by_cases h1 : bad q 4
  · rw [if_pos h1] at h; cases h
  · rw [if_neg h1] at h
    by_cases h2 : bad b 12
    · rw [if_pos h2] at h; cases h
    · rw [if_neg h2] at h
      by_cases h3 : σ 2 0 q.toNatClampNeg = 0
      · rw [if_pos h3] at h; cases h
      · rw [if_neg h3] at h
        by_cases h4 : σ 11 b.toNatClampNeg 0 = q
        · exact ⟨vin_b h1, vin_b h2, h3, h4⟩
        · rw [if_neg h4] at h; cases h
/-- every block has at most eight cells -/
def BW (σ : Mem) : Prop := ∀ b, b < 12 → ∃ n : Nat, n ≤ 8 ∧ σ 9 b 0 = nI n
theorem kCell_0 {σ : Mem} {b : Nat} {i : Int32} (hw : BW σ) (hb : b < 12) (h : kCell σ b i = 0) : vp_in i 8 := by
  obtain ⟨n, hn, h2⟩ := hw b hb
  unfold kCell at h
  by_cases h1 : i < 0
  · rw [if_pos h1] at h; cases h
  · rw [if_neg h1] at h
    by_cases h3 : ¬ i < σ 9 b 0
    · rw [if_pos h3] at h; cases h
    · have h4 := Classical.not_not.mp h3
      rw [h2, Int32.lt_iff_toInt_lt, nI_toInt (by omega)] at h4
      exact vin_rg h1 (by omega)
def sFree (σ : Mem) (q b : Int32) : R3 := if kOwnB σ q b = 0 then (0, none, gbM σ b.toNatClampNeg) else (kOwnB σ q b, none, σ)
def sRead (σ : Mem) (q b i : Int32) : R3 := if kOwnB σ q b = 0 then (if kCell σ b.toNatClampNeg i = 0 then (0, some (σ 10 b.toNatClampNeg i.toNatClampNeg), σ) else (kCell σ b.toNatClampNeg i, none, σ)) else (kOwnB σ q b, none, σ)
def sWrite (σ : Mem) (q b i v : Int32) : R3 := if kOwnB σ q b = 0 then (if kCell σ b.toNatClampNeg i = 0 then (0, none, up σ 10 b.toNatClampNeg i.toNatClampNeg v) else (kCell σ b.toNatClampNeg i, none, σ)) else (kOwnB σ q b, none, σ)
def sOfBlock (σ : Mem) (b x : Int32) : R3 := if bad b 12 then (1, none, σ) else if bad x 2 then (1, none, σ) else if x = 0 then (0, some (σ 8 b.toNatClampNeg 0), σ) else (0, some (σ 9 b.toNatClampNeg 0), σ)
def sOfEnd (σ : Mem) (b x : Int32) : R3 := if bad b 12 then (1, none, σ) else if bad x 3 then (1, none, σ) else if x = 0 then (0, some (σ 11 b.toNatClampNeg 0), σ) else if x = 1 then (0, some (σ 12 b.toNatClampNeg 0), σ) else (0, some (σ 13 b.toNatClampNeg 0), σ)
def sClose (σ : Mem) (q x : Int32) : R3 := if kOwnE σ q x = 0 then (0, some (clF 12 σ x.toNatClampNeg).1, (clF 12 σ x.toNatClampNeg).2) else (kOwnE σ q x, none, σ)
def kbL (q : Int32) : Nat → Nat → Int32 → Mem → Int32 × Mem
  | 0, _, g, σ => (g, σ)
  | n + 1, k, g, σ => if σ 8 k 0 = q then kbL q n (k + 1) (g + 1) (gbM σ k) else kbL q n (k + 1) g σ
def keL (q : Int32) : Nat → Nat → Int32 → Mem → Int32 × Mem
  | 0, _, g, σ => (g, σ)
  | n + 1, k, g, σ => if σ 11 k 0 = q then keL q n (k + 1) (g + (clF 12 σ k).1) (clF 12 σ k).2 else keL q n (k + 1) g σ
theorem kbL_s {q g : Int32} {σ : Mem} {k : Nat} (hk : k < 12) : kbL q (12 - k) k g σ = if σ 8 k 0 = q then kbL q (12 - (k + 1)) (k + 1) (g + 1) (gbM σ k) else kbL q (12 - (k + 1)) (k + 1) g σ := by
  obtain ⟨n, hn⟩ : ∃ n, 12 - k = n + 1 := ⟨11 - k, by omega⟩
  have hn2 : 12 - (k + 1) = n := by omega
  rw [hn, hn2]
  rfl
theorem keL_s {q g : Int32} {σ : Mem} {k : Nat} (hk : k < 12) : keL q (12 - k) k g σ = if σ 11 k 0 = q then keL q (12 - (k + 1)) (k + 1) (g + (clF 12 σ k).1) (clF 12 σ k).2 else keL q (12 - (k + 1)) (k + 1) g σ := by
  obtain ⟨n, hn⟩ : ∃ n, 12 - k = n + 1 := ⟨11 - k, by omega⟩
  have hn2 : 12 - (k + 1) = n := by omega
  rw [hn, hn2]
  rfl
def killM (σ : Mem) (q : Int32) : Mem := up (up σ 2 0 q.toNatClampNeg 0) 0 0 4 (σ 0 0 4 + 1)
def sKill (σ : Mem) (q : Int32) : R3 := if bad q 4 then (1, none, σ) else if σ 2 0 q.toNatClampNeg = 0 then (2, none, σ) else
  (0, some (keL q 12 0 (kbL q 12 0 0 (killM σ q)).1 (kbL q 12 0 0 (killM σ q)).2).1, (keL q 12 0 (kbL q 12 0 0 (killM σ q)).1 (kbL q 12 0 0 (killM σ q)).2).2)
/-- the least process that isn't alive -/
def stL (σ : Mem) : Nat → Nat → R3
  | 0, _ => (4, none, σ)
  | n + 1, k => if σ 2 0 k = 0 then (0, some (nI k), up σ 2 0 k 1) else stL σ n (k + 1)
def sStart (σ : Mem) : R3 := stL σ 4 0
theorem stL_s {σ : Mem} {k : Nat} (hk : k < 4) : stL σ (4 - k) k = if σ 2 0 k = 0 then (0, some (nI k), up σ 2 0 k 1) else stL σ (4 - (k + 1)) (k + 1) := by
  obtain ⟨n, hn⟩ : ∃ n, 4 - k = n + 1 := ⟨3 - k, by omega⟩
  have hn2 : 4 - (k + 1) = n := by omega
  rw [hn, hn2]
  rfl
/-- the least end of the mask that q owns and that has a message -/
abbrev chP (σ : Mem) (q mask : Int32) (k : Nat) : Prop := (mask >>> (nI k &&& 31)) &&& 1 = 1 ∧ σ 11 k 0 = q ∧ ¬ σ 13 k 0 ≤ 0
def chL (σ : Mem) (q mask : Int32) : Nat → Nat → R3
  | 0, _ => (3, none, σ)
  | n + 1, k => if chP σ q mask k then (0, some (nI k), σ) else chL σ q mask n (k + 1)
theorem chL_s {σ : Mem} {q mask : Int32} {k : Nat} (hk : k < 12) : chL σ q mask (12 - k) k = if chP σ q mask k then (0, some (nI k), σ) else chL σ q mask (12 - (k + 1)) (k + 1) := by
  obtain ⟨n, hn⟩ : ∃ n, 12 - k = n + 1 := ⟨11 - k, by omega⟩
  have hn2 : 12 - (k + 1) = n := by omega
  rw [hn, hn2]
  rfl
def sChoose (σ : Mem) (q mask : Int32) : R3 := if bad q 4 then (1, none, σ) else if bad mask 4096 then (1, none, σ) else if σ 2 0 q.toNatClampNeg = 0 then (2, none, σ) else chL σ q mask 12 0
set_option maxHeartbeats 4000000 in
set_option maxRecDepth 100000 in
theorem c_Sy_free {S0 : State} {A0 : Array Value} {D : va_G} {ar : Nat → ClassId} {base : Nat} {σ : Mem} {l : Launch} (hlt : l.stackTraces = false) {q b : Int32} :
    MX l y_Sy_free [Cond.code y_Sy_free b_Sy_free 3 none] (rmK) (PS S0 A0 D ar base σ [.ref (base + ad 0 0), .int q, .int b]) (QI D ar base (fun k r σ' => (k, r, σ') = sFree σ q b)) (inB base 122) := by
  refine cx_head hlt (by decide +kernel) (Nat.le_of_ble_eq_true rfl) ?_
  intro p ev s m below meth c ls C0 hP hl
  have C0 : Cx S0 A0 D ar base p l s m _ meth c R_Sy b_Sy_free 3 none := C0
  obtain ⟨hx, hb, -⟩ := id C0
  have hl : lv_has ls 3 [(0, .ref (base + ad 0 0)), (1, .int q), (2, .int b)] := hl
  have hS : va_S (inB base 122) s.heap s.heap [] := va_S.rf
  refine lv_aload_n hx hb d_Sy_free_0 rfl (lv_at hl 0 rfl) ?_
  refine lv_iload_n hx hb d_Sy_free_1 rfl (lv_at hl 1 rfl) ?_
  refine lv_iload_n hx hb d_Sy_free_2 rfl (lv_at hl 2 rfl) ?_
  refine cs_PI C0 hP hS (cs_V C0 hP (kd := 0) (i := 0) (ci := 0) (As := [.int q, .int b]) (by decide) (by decide) rfl rfl k_ml_Sy_116 k_im_Sy_needOwnBlock k_sl_Sy_Sy_needOwnBlock k_cd_Sy_needOwnBlock k_in_Sy z_Sy_needOwnBlock rfl d_Sy_free_3) (c_Sy_needOwnBlock hlt) hl.1 d_Sy_free_3 (Nat.le_of_ble_eq_true rfl) (⟨by decide, by decide⟩) (⟨by decide, by decide⟩) (fun k r hk hp => by obtain ⟨h1, h2⟩ := hp; rw [h2] at hk; rw [h2]; unfold sFree; rw [if_neg hk]) (fun r_2 h_1 => ?_)
  have g_3 := h_1.2.symm
  obtain rfl := h_1.1
  refine lv_aload_n hx hb d_Sy_free_6 rfl (lv_at hl 0 rfl) ?_
  refine q_get C0 hP (kd := 0) (i := 0) (ci := 0) (by decide) (by decide) rfl rfl 5 (by decide) rfl k_fl_Sy_30 rfl d_Sy_free_7 ?_
  refine lv_iload_n hx hb d_Sy_free_10 rfl (lv_at hl 2 rfl) ?_
  refine q_aald C0 hP (kd := 4) (i := 0) (t0 := 4) (v := base + ad 12 b.toNatClampNeg) (by decide) (by decide) rfl rfl (rfl) ((kOwnB_0 g_3).2.1) d_Sy_free_11 ?_
  refine cs_I C0 hP hS (cs_V C0 hP (kd := 12) (i := b.toNatClampNeg) (ci := 2) (As := []) (by decide) (vin_lt ((kOwnB_0 g_3).2.1)) rfl rfl k_ml_Sy_96 k_im_Bl_giveBack k_sl_Bl_Bl_giveBack k_cd_Bl_giveBack k_in_Bl z_Bl_giveBack rfl d_Sy_free_12) (c_Bl_giveBack hlt (vin_lt ((kOwnB_0 g_3).2.1))) (fun k r σ h => h.1) ⟨rfl, rfl⟩ hl.1 d_Sy_free_12 (Nat.le_of_ble_eq_true rfl) (⟨by decide, by decide⟩) (⟨by decide, by decide⟩) (fun r_5 σ_6 H locs h_4 hP hS => ?_)
  obtain ⟨-, rfl, rfl⟩ := h_4
  exact rI_v C0 hP hS (⟨by decide, by decide⟩) (by unfold sFree; rw [if_pos g_3]; first | done | rfl) d_Sy_free_15
set_option maxHeartbeats 4000000 in
set_option maxRecDepth 100000 in
theorem c_Sy_read {S0 : State} {A0 : Array Value} {D : va_G} {ar : Nat → ClassId} {base : Nat} {σ : Mem} {l : Launch} (hlt : l.stackTraces = false) {q b i : Int32} (hbw : BW σ) :
    MX l y_Sy_read [Cond.code y_Sy_read b_Sy_read 4 (some .int)] (rmK) (PS S0 A0 D ar base σ [.ref (base + ad 0 0), .int q, .int b, .int i]) (QI D ar base (fun k r σ' => (k, r, σ') = sRead σ q b i)) (inB base 122) := by
  refine cx_head hlt (by decide +kernel) (Nat.le_of_ble_eq_true rfl) ?_
  intro p ev s m below meth c ls C0 hP hl
  have C0 : Cx S0 A0 D ar base p l s m _ meth c R_Sy b_Sy_read 4 (some .int) := C0
  obtain ⟨hx, hb, -⟩ := id C0
  have hl : lv_has ls 4 [(0, .ref (base + ad 0 0)), (1, .int q), (2, .int b), (3, .int i)] := hl
  have hS : va_S (inB base 122) s.heap s.heap [] := va_S.rf
  refine lv_aload_n hx hb d_Sy_read_0 rfl (lv_at hl 0 rfl) ?_
  refine lv_iload_n hx hb d_Sy_read_1 rfl (lv_at hl 1 rfl) ?_
  refine lv_iload_n hx hb d_Sy_read_2 rfl (lv_at hl 2 rfl) ?_
  refine cs_PI C0 hP hS (cs_V C0 hP (kd := 0) (i := 0) (ci := 0) (As := [.int q, .int b]) (by decide) (by decide) rfl rfl k_ml_Sy_116 k_im_Sy_needOwnBlock k_sl_Sy_Sy_needOwnBlock k_cd_Sy_needOwnBlock k_in_Sy z_Sy_needOwnBlock rfl d_Sy_read_3) (c_Sy_needOwnBlock hlt) hl.1 d_Sy_read_3 (Nat.le_of_ble_eq_true rfl) (⟨by decide, by decide⟩) (⟨by decide, by decide⟩) (fun k r hk hp => by obtain ⟨h1, h2⟩ := hp; rw [h2] at hk; rw [h2]; unfold sRead; rw [if_neg hk]) (fun r_2 h_1 => ?_)
  have g_3 := h_1.2.symm
  obtain rfl := h_1.1
  refine lv_aload_n hx hb d_Sy_read_6 rfl (lv_at hl 0 rfl) ?_
  refine lv_iload_n hx hb d_Sy_read_7 rfl (lv_at hl 2 rfl) ?_
  refine lv_iload_n hx hb d_Sy_read_8 rfl (lv_at hl 3 rfl) ?_
  refine cs_PI C0 hP hS (cs_V C0 hP (kd := 0) (i := 0) (ci := 0) (As := [.int b, .int i]) (by decide) (by decide) rfl rfl k_ml_Sy_119 k_im_Sy_needCell k_sl_Sy_Sy_needCell k_cd_Sy_needCell k_in_Sy z_Sy_needCell rfl d_Sy_read_9) (c_Sy_needCell hlt ((kOwnB_0 g_3).2.1)) hl.1 d_Sy_read_9 (Nat.le_of_ble_eq_true rfl) (⟨by decide, by decide⟩) (⟨by decide, by decide⟩) (fun k r hk hp => by obtain ⟨h1, h2⟩ := hp; rw [h2] at hk; rw [h2]; unfold sRead; rw [if_pos g_3, if_neg hk]) (fun r_5 h_4 => ?_)
  have g_6 := h_4.2.symm
  obtain rfl := h_4.1
  refine lv_aload_n hx hb d_Sy_read_12 rfl (lv_at hl 0 rfl) ?_
  refine q_get C0 hP (kd := 0) (i := 0) (ci := 0) (by decide) (by decide) rfl rfl 5 (by decide) rfl k_fl_Sy_30 rfl d_Sy_read_13 ?_
  refine lv_iload_n hx hb d_Sy_read_16 rfl (lv_at hl 2 rfl) ?_
  refine q_aald C0 hP (kd := 4) (i := 0) (t0 := 4) (v := base + ad 12 b.toNatClampNeg) (by decide) (by decide) rfl rfl (rfl) ((kOwnB_0 g_3).2.1) d_Sy_read_17 ?_
  refine q_getN C0 hP (kd := 12) (i := b.toNatClampNeg) (ci := 2) (by decide) (vin_lt ((kOwnB_0 g_3).2.1)) rfl rfl 0 (by decide) rfl k_fn_Sy_122 rfl d_Sy_read_18 ?_
  refine lv_iload_n hx hb d_Sy_read_21 rfl (lv_at hl 3 rfl) ?_
  refine q_iald C0 hP (kd := 13) (i := b.toNatClampNeg) (by decide) (vin_lt ((kOwnB_0 g_3).2.1)) rfl (kCell_0 hbw (vin_lt ((kOwnB_0 g_3).2.1)) g_6) d_Sy_read_22 ?_
  exact rI_i C0 hP hS (⟨by decide, by decide⟩) (by unfold sRead; rw [if_pos g_3, if_pos g_6]; first | done | rfl) d_Sy_read_23
set_option maxHeartbeats 4000000 in
set_option maxRecDepth 100000 in
theorem c_Sy_write {S0 : State} {A0 : Array Value} {D : va_G} {ar : Nat → ClassId} {base : Nat} {σ : Mem} {l : Launch} (hlt : l.stackTraces = false) {q b i v : Int32} (hbw : BW σ) :
    MX l y_Sy_write [Cond.code y_Sy_write b_Sy_write 5 none] (rmK) (PS S0 A0 D ar base σ [.ref (base + ad 0 0), .int q, .int b, .int i, .int v]) (QI D ar base (fun k r σ' => (k, r, σ') = sWrite σ q b i v)) (inB base 122) := by
  refine cx_head hlt (by decide +kernel) (Nat.le_of_ble_eq_true rfl) ?_
  intro p ev s m below meth c ls C0 hP hl
  have C0 : Cx S0 A0 D ar base p l s m _ meth c R_Sy b_Sy_write 5 none := C0
  obtain ⟨hx, hb, -⟩ := id C0
  have hl : lv_has ls 5 [(0, .ref (base + ad 0 0)), (1, .int q), (2, .int b), (3, .int i), (4, .int v)] := hl
  have hS : va_S (inB base 122) s.heap s.heap [] := va_S.rf
  refine lv_aload_n hx hb d_Sy_write_0 rfl (lv_at hl 0 rfl) ?_
  refine lv_iload_n hx hb d_Sy_write_1 rfl (lv_at hl 1 rfl) ?_
  refine lv_iload_n hx hb d_Sy_write_2 rfl (lv_at hl 2 rfl) ?_
  refine cs_PI C0 hP hS (cs_V C0 hP (kd := 0) (i := 0) (ci := 0) (As := [.int q, .int b]) (by decide) (by decide) rfl rfl k_ml_Sy_116 k_im_Sy_needOwnBlock k_sl_Sy_Sy_needOwnBlock k_cd_Sy_needOwnBlock k_in_Sy z_Sy_needOwnBlock rfl d_Sy_write_3) (c_Sy_needOwnBlock hlt) hl.1 d_Sy_write_3 (Nat.le_of_ble_eq_true rfl) (⟨by decide, by decide⟩) (⟨by decide, by decide⟩) (fun k r hk hp => by obtain ⟨h1, h2⟩ := hp; rw [h2] at hk; rw [h2]; unfold sWrite; rw [if_neg hk]) (fun r_2 h_1 => ?_)
  have g_3 := h_1.2.symm
  obtain rfl := h_1.1
  refine lv_aload_n hx hb d_Sy_write_6 rfl (lv_at hl 0 rfl) ?_
  refine lv_iload_n hx hb d_Sy_write_7 rfl (lv_at hl 2 rfl) ?_
  refine lv_iload_n hx hb d_Sy_write_8 rfl (lv_at hl 3 rfl) ?_
  refine cs_PI C0 hP hS (cs_V C0 hP (kd := 0) (i := 0) (ci := 0) (As := [.int b, .int i]) (by decide) (by decide) rfl rfl k_ml_Sy_119 k_im_Sy_needCell k_sl_Sy_Sy_needCell k_cd_Sy_needCell k_in_Sy z_Sy_needCell rfl d_Sy_write_9) (c_Sy_needCell hlt ((kOwnB_0 g_3).2.1)) hl.1 d_Sy_write_9 (Nat.le_of_ble_eq_true rfl) (⟨by decide, by decide⟩) (⟨by decide, by decide⟩) (fun k r hk hp => by obtain ⟨h1, h2⟩ := hp; rw [h2] at hk; rw [h2]; unfold sWrite; rw [if_pos g_3, if_neg hk]) (fun r_5 h_4 => ?_)
  have g_6 := h_4.2.symm
  obtain rfl := h_4.1
  refine lv_aload_n hx hb d_Sy_write_12 rfl (lv_at hl 0 rfl) ?_
  refine q_get C0 hP (kd := 0) (i := 0) (ci := 0) (by decide) (by decide) rfl rfl 5 (by decide) rfl k_fl_Sy_30 rfl d_Sy_write_13 ?_
  refine lv_iload_n hx hb d_Sy_write_16 rfl (lv_at hl 2 rfl) ?_
  refine q_aald C0 hP (kd := 4) (i := 0) (t0 := 4) (v := base + ad 12 b.toNatClampNeg) (by decide) (by decide) rfl rfl (rfl) ((kOwnB_0 g_3).2.1) d_Sy_write_17 ?_
  refine q_getN C0 hP (kd := 12) (i := b.toNatClampNeg) (ci := 2) (by decide) (vin_lt ((kOwnB_0 g_3).2.1)) rfl rfl 0 (by decide) rfl k_fn_Sy_122 rfl d_Sy_write_18 ?_
  refine lv_iload_n hx hb d_Sy_write_21 rfl (lv_at hl 3 rfl) ?_
  refine lv_iload hx hb d_Sy_write_22 (lv_at hl 4 rfl) ?_
  refine q_iast C0 hP hS (kd := 13) (i := b.toNatClampNeg) 10 (by decide) rfl (vin_lt ((kOwnB_0 g_3).2.1)) rfl (kCell_0 hbw (vin_lt ((kOwnB_0 g_3).2.1)) g_6) (by rw [ast_fn]; rfl) d_Sy_write_24 (fun H locs hP hS => ?_)
  exact rI_v C0 hP hS (⟨by decide, by decide⟩) (by unfold sWrite; rw [if_pos g_3, if_pos g_6]; first | done | rfl) d_Sy_write_25
set_option maxHeartbeats 4000000 in
set_option maxRecDepth 100000 in
theorem c_Sy_ofBlock {S0 : State} {A0 : Array Value} {D : va_G} {ar : Nat → ClassId} {base : Nat} {σ : Mem} {l : Launch} (hlt : l.stackTraces = false) {b x : Int32} :
    MX l y_Sy_ofBlock [Cond.code y_Sy_ofBlock b_Sy_ofBlock 3 (some .int)] (rmK) (PS S0 A0 D ar base σ [.ref (base + ad 0 0), .int b, .int x]) (QI D ar base (fun k r σ' => (k, r, σ') = sOfBlock σ b x)) (inB base 122) := by
  refine cx_head hlt (by decide +kernel) (Nat.le_of_ble_eq_true rfl) ?_
  intro p ev s m below meth c ls C0 hP hl
  have C0 : Cx S0 A0 D ar base p l s m _ meth c R_Sy b_Sy_ofBlock 3 (some .int) := C0
  obtain ⟨hx, hb, -⟩ := id C0
  have hl : lv_has ls 3 [(0, .ref (base + ad 0 0)), (1, .int b), (2, .int x)] := hl
  have hS : va_S (inB base 122) s.heap s.heap [] := va_S.rf
  refine lv_iload_n hx hb d_Sy_ofBlock_0 rfl (lv_at hl 1 rfl) ?_
  refine lv_bipush (v := 12) hx hb d_Sy_ofBlock_1 (by decide) ?_
  refine cs_PI C0 hP hS (cs_S C0 (As := [.int b, .int 12]) k_ml_Sy_64 k_st_Sy_needBelow k_cd_Sy_needBelow k_in_Sy z_Sy_needBelow rfl d_Sy_ofBlock_3) (c_Sy_needBelow hlt) hl.1 d_Sy_ofBlock_3 (Nat.le_of_ble_eq_true rfl) (⟨by decide, by decide⟩) (⟨by decide, by decide⟩) (fun k r hk hp => by obtain ⟨h1, h2⟩ := hp; obtain ⟨hc, h3⟩ := nz_k h2 hk; rw [h3]; unfold sOfBlock; rw [if_pos hc]) (fun r_2 h_1 => ?_)
  have g_3 := nz_ok h_1.2
  obtain rfl := h_1.1
  refine lv_iload_n hx hb d_Sy_ofBlock_6 rfl (lv_at hl 2 rfl) ?_
  refine lv_iconst (v := 2) hx hb d_Sy_ofBlock_7 (by decide) ?_
  refine cs_PI C0 hP hS (cs_S C0 (As := [.int x, .int 2]) k_ml_Sy_64 k_st_Sy_needBelow k_cd_Sy_needBelow k_in_Sy z_Sy_needBelow rfl d_Sy_ofBlock_8) (c_Sy_needBelow hlt) hl.1 d_Sy_ofBlock_8 (Nat.le_of_ble_eq_true rfl) (⟨by decide, by decide⟩) (⟨by decide, by decide⟩) (fun k r hk hp => by obtain ⟨h1, h2⟩ := hp; obtain ⟨hc, h3⟩ := nz_k h2 hk; rw [h3]; unfold sOfBlock; rw [if_neg g_3, if_pos hc]) (fun r_5 h_4 => ?_)
  have g_6 := nz_ok h_4.2
  obtain rfl := h_4.1
  refine lv_iload_n hx hb d_Sy_ofBlock_11 rfl (lv_at hl 2 rfl) ?_
  refine lv_if_ne (tgt := 27) hx hb d_Sy_ofBlock_12 (by decide) (fun c_12 => ?_) (fun c_12 => ?_)
  · skip
    refine lv_aload_n hx hb d_Sy_ofBlock_27 rfl (lv_at hl 0 rfl) ?_
    refine q_get C0 hP (kd := 0) (i := 0) (ci := 0) (by decide) (by decide) rfl rfl 5 (by decide) rfl k_fl_Sy_30 rfl d_Sy_ofBlock_28 ?_
    refine lv_iload_n hx hb d_Sy_ofBlock_31 rfl (lv_at hl 1 rfl) ?_
    refine q_aald C0 hP (kd := 4) (i := 0) (t0 := 4) (v := base + ad 12 b.toNatClampNeg) (by decide) (by decide) rfl rfl (rfl) (vin_b g_3) d_Sy_ofBlock_32 ?_
    refine q_getN C0 hP (kd := 12) (i := b.toNatClampNeg) (ci := 2) (by decide) (vin_lt (vin_b g_3)) rfl rfl 2 (by decide) rfl k_fn_Sy_211 rfl d_Sy_ofBlock_33 ?_
    exact rI_i C0 hP hS (⟨by decide, by decide⟩) (by unfold sOfBlock; rw [if_neg g_3, if_neg g_6, if_neg c_12]; first | done | rfl) d_Sy_ofBlock_36
  · skip
    refine lv_aload_n hx hb d_Sy_ofBlock_15 rfl (lv_at hl 0 rfl) ?_
    refine q_get C0 hP (kd := 0) (i := 0) (ci := 0) (by decide) (by decide) rfl rfl 5 (by decide) rfl k_fl_Sy_30 rfl d_Sy_ofBlock_16 ?_
    refine lv_iload_n hx hb d_Sy_ofBlock_19 rfl (lv_at hl 1 rfl) ?_
    refine q_aald C0 hP (kd := 4) (i := 0) (t0 := 4) (v := base + ad 12 b.toNatClampNeg) (by decide) (by decide) rfl rfl (rfl) (vin_b g_3) d_Sy_ofBlock_20 ?_
    refine q_getN C0 hP (kd := 12) (i := b.toNatClampNeg) (ci := 2) (by decide) (vin_lt (vin_b g_3)) rfl rfl 1 (by decide) rfl k_fn_Sy_93 rfl d_Sy_ofBlock_21 ?_
    refine lv_goto (tgt := 36) hx hb d_Sy_ofBlock_24 (by decide) ?_
    exact rI_i C0 hP hS (⟨by decide, by decide⟩) (by unfold sOfBlock; rw [if_neg g_3, if_neg g_6, if_pos c_12]; first | done | rfl) d_Sy_ofBlock_36
set_option maxHeartbeats 4000000 in
set_option maxRecDepth 100000 in
theorem c_Sy_ofEnd {S0 : State} {A0 : Array Value} {D : va_G} {ar : Nat → ClassId} {base : Nat} {σ : Mem} {l : Launch} (hlt : l.stackTraces = false) {b x : Int32} :
    MX l y_Sy_ofEnd [Cond.code y_Sy_ofEnd b_Sy_ofEnd 3 (some .int)] (rmK) (PS S0 A0 D ar base σ [.ref (base + ad 0 0), .int b, .int x]) (QI D ar base (fun k r σ' => (k, r, σ') = sOfEnd σ b x)) (inB base 122) := by
  refine cx_head hlt (by decide +kernel) (Nat.le_of_ble_eq_true rfl) ?_
  intro p ev s m below meth c ls C0 hP hl
  have C0 : Cx S0 A0 D ar base p l s m _ meth c R_Sy b_Sy_ofEnd 3 (some .int) := C0
  obtain ⟨hx, hb, -⟩ := id C0
  have hl : lv_has ls 3 [(0, .ref (base + ad 0 0)), (1, .int b), (2, .int x)] := hl
  have hS : va_S (inB base 122) s.heap s.heap [] := va_S.rf
  refine lv_iload_n hx hb d_Sy_ofEnd_0 rfl (lv_at hl 1 rfl) ?_
  refine lv_bipush (v := 12) hx hb d_Sy_ofEnd_1 (by decide) ?_
  refine cs_PI C0 hP hS (cs_S C0 (As := [.int b, .int 12]) k_ml_Sy_64 k_st_Sy_needBelow k_cd_Sy_needBelow k_in_Sy z_Sy_needBelow rfl d_Sy_ofEnd_3) (c_Sy_needBelow hlt) hl.1 d_Sy_ofEnd_3 (Nat.le_of_ble_eq_true rfl) (⟨by decide, by decide⟩) (⟨by decide, by decide⟩) (fun k r hk hp => by obtain ⟨h1, h2⟩ := hp; obtain ⟨hc, h3⟩ := nz_k h2 hk; rw [h3]; unfold sOfEnd; rw [if_pos hc]) (fun r_2 h_1 => ?_)
  have g_3 := nz_ok h_1.2
  obtain rfl := h_1.1
  refine lv_iload_n hx hb d_Sy_ofEnd_6 rfl (lv_at hl 2 rfl) ?_
  refine lv_iconst (v := 3) hx hb d_Sy_ofEnd_7 (by decide) ?_
  refine cs_PI C0 hP hS (cs_S C0 (As := [.int x, .int 3]) k_ml_Sy_64 k_st_Sy_needBelow k_cd_Sy_needBelow k_in_Sy z_Sy_needBelow rfl d_Sy_ofEnd_8) (c_Sy_needBelow hlt) hl.1 d_Sy_ofEnd_8 (Nat.le_of_ble_eq_true rfl) (⟨by decide, by decide⟩) (⟨by decide, by decide⟩) (fun k r hk hp => by obtain ⟨h1, h2⟩ := hp; obtain ⟨hc, h3⟩ := nz_k h2 hk; rw [h3]; unfold sOfEnd; rw [if_neg g_3, if_pos hc]) (fun r_5 h_4 => ?_)
  have g_6 := nz_ok h_4.2
  obtain rfl := h_4.1
  refine lv_iload_n hx hb d_Sy_ofEnd_11 rfl (lv_at hl 2 rfl) ?_
  refine lv_if_ne (tgt := 25) hx hb d_Sy_ofEnd_12 (by decide) (fun c_12 => ?_) (fun c_12 => ?_)
  · skip
    refine lv_iload_n hx hb d_Sy_ofEnd_25 rfl (lv_at hl 2 rfl) ?_
    refine lv_iconst (v := 1) hx hb d_Sy_ofEnd_26 (by decide) ?_
    refine lv_icmp_ne (tgt := 42) hx hb d_Sy_ofEnd_27 (by decide) (fun c_27 => ?_) (fun c_27 => ?_)
    · skip
      refine lv_aload_n hx hb d_Sy_ofEnd_42 rfl (lv_at hl 0 rfl) ?_
      refine q_get C0 hP (kd := 0) (i := 0) (ci := 0) (by decide) (by decide) rfl rfl 7 (by decide) rfl k_fl_Sy_40 rfl d_Sy_ofEnd_43 ?_
      refine lv_iload_n hx hb d_Sy_ofEnd_46 rfl (lv_at hl 1 rfl) ?_
      refine q_aald C0 hP (kd := 6) (i := 0) (t0 := 5) (v := base + ad 14 b.toNatClampNeg) (by decide) (by decide) rfl rfl (rfl) (vin_b g_3) d_Sy_ofEnd_47 ?_
      refine q_getN C0 hP (kd := 14) (i := b.toNatClampNeg) (ci := 3) (by decide) (vin_lt (vin_b g_3)) rfl rfl 4 (by decide) rfl k_fn_Sy_178 rfl d_Sy_ofEnd_48 ?_
      exact rI_i C0 hP hS (⟨by decide, by decide⟩) (by unfold sOfEnd; rw [if_neg g_3, if_neg g_6, if_neg c_12, if_neg c_27]; first | done | rfl) d_Sy_ofEnd_51
    · skip
      refine lv_aload_n hx hb d_Sy_ofEnd_30 rfl (lv_at hl 0 rfl) ?_
      refine q_get C0 hP (kd := 0) (i := 0) (ci := 0) (by decide) (by decide) rfl rfl 7 (by decide) rfl k_fl_Sy_40 rfl d_Sy_ofEnd_31 ?_
      refine lv_iload_n hx hb d_Sy_ofEnd_34 rfl (lv_at hl 1 rfl) ?_
      refine q_aald C0 hP (kd := 6) (i := 0) (t0 := 5) (v := base + ad 14 b.toNatClampNeg) (by decide) (by decide) rfl rfl (rfl) (vin_b g_3) d_Sy_ofEnd_35 ?_
      refine q_getN C0 hP (kd := 14) (i := b.toNatClampNeg) (ci := 3) (by decide) (vin_lt (vin_b g_3)) rfl rfl 3 (by decide) rfl k_fn_Sy_152 rfl d_Sy_ofEnd_36 ?_
      refine lv_goto (tgt := 51) hx hb d_Sy_ofEnd_39 (by decide) ?_
      exact rI_i C0 hP hS (⟨by decide, by decide⟩) (by unfold sOfEnd; rw [if_neg g_3, if_neg g_6, if_neg c_12, if_pos c_27]; first | done | rfl) d_Sy_ofEnd_51
  · skip
    refine lv_aload_n hx hb d_Sy_ofEnd_15 rfl (lv_at hl 0 rfl) ?_
    refine q_get C0 hP (kd := 0) (i := 0) (ci := 0) (by decide) (by decide) rfl rfl 7 (by decide) rfl k_fl_Sy_40 rfl d_Sy_ofEnd_16 ?_
    refine lv_iload_n hx hb d_Sy_ofEnd_19 rfl (lv_at hl 1 rfl) ?_
    refine q_aald C0 hP (kd := 6) (i := 0) (t0 := 5) (v := base + ad 14 b.toNatClampNeg) (by decide) (by decide) rfl rfl (rfl) (vin_b g_3) d_Sy_ofEnd_20 ?_
    refine q_getN C0 hP (kd := 14) (i := b.toNatClampNeg) (ci := 3) (by decide) (vin_lt (vin_b g_3)) rfl rfl 2 (by decide) rfl k_fn_Sy_99 rfl d_Sy_ofEnd_21 ?_
    exact rI_i C0 hP hS (⟨by decide, by decide⟩) (by unfold sOfEnd; rw [if_neg g_3, if_neg g_6, if_pos c_12]; first | done | rfl) d_Sy_ofEnd_24
set_option maxHeartbeats 4000000 in
set_option maxRecDepth 100000 in
theorem c_Sy_close {S0 : State} {A0 : Array Value} {D : va_G} {ar : Nat → ClassId} {base : Nat} {σ : Mem} {l : Launch} (hlt : l.stackTraces = false) {q x : Int32} (hqw : QW σ) :
    MX l y_Sy_close [Cond.code y_Sy_close b_Sy_close 3 (some .int)] (rmK) (PS S0 A0 D ar base σ [.ref (base + ad 0 0), .int q, .int x]) (QI D ar base (fun k r σ' => (k, r, σ') = sClose σ q x)) (inB base 122) := by
  refine cx_head hlt (by decide +kernel) (Nat.le_of_ble_eq_true rfl) ?_
  intro p ev s m below meth c ls C0 hP hl
  have C0 : Cx S0 A0 D ar base p l s m _ meth c R_Sy b_Sy_close 3 (some .int) := C0
  obtain ⟨hx, hb, -⟩ := id C0
  have hl : lv_has ls 3 [(0, .ref (base + ad 0 0)), (1, .int q), (2, .int x)] := hl
  have hS : va_S (inB base 122) s.heap s.heap [] := va_S.rf
  refine lv_aload_n hx hb d_Sy_close_0 rfl (lv_at hl 0 rfl) ?_
  refine lv_iload_n hx hb d_Sy_close_1 rfl (lv_at hl 1 rfl) ?_
  refine lv_iload_n hx hb d_Sy_close_2 rfl (lv_at hl 2 rfl) ?_
  refine cs_PI C0 hP hS (cs_V C0 hP (kd := 0) (i := 0) (ci := 0) (As := [.int q, .int x]) (by decide) (by decide) rfl rfl k_ml_Sy_149 k_im_Sy_needOwnEnd k_sl_Sy_Sy_needOwnEnd k_cd_Sy_needOwnEnd k_in_Sy z_Sy_needOwnEnd rfl d_Sy_close_3) (c_Sy_needOwnEnd hlt) hl.1 d_Sy_close_3 (Nat.le_of_ble_eq_true rfl) (⟨by decide, by decide⟩) (⟨by decide, by decide⟩) (fun k r hk hp => by obtain ⟨h1, h2⟩ := hp; rw [h2] at hk; rw [h2]; unfold sClose; rw [if_neg hk]) (fun r_2 h_1 => ?_)
  have g_3 := h_1.2.symm
  obtain rfl := h_1.1
  refine lv_aload_n hx hb d_Sy_close_6 rfl (lv_at hl 0 rfl) ?_
  refine lv_iload_n hx hb d_Sy_close_7 rfl (lv_at hl 2 rfl) ?_
  refine lv_iconst (v := 0) hx hb d_Sy_close_8 (by decide) ?_
  refine W.eq (g2 := F0 m 9 ls [.int (nI (12 - 12)), .int (nI x.toNatClampNeg), .ref (base + ad 0 0)]) (by rw [show nI x.toNatClampNeg = x from by obtain ⟨j, hj, hje⟩ := vp_in_of ((kOwnE_0 g_3).2.1) (by decide); rw [hje, nI_clamp (by omega)]]; rfl) ?_
  refine cs_I C0 hP hS (cs_V C0 hP (kd := 0) (i := 0) (ci := 0) (As := [.int (nI x.toNatClampNeg), .int (nI (12 - 12))]) (by decide) (by decide) rfl rfl k_ml_Sy_100 k_im_Sy_closeEnd k_sl_Sy_Sy_closeEnd k_cd_Sy_closeEnd k_in_Sy z_Sy_closeEnd rfl d_Sy_close_9) (c_Sy_closeEnd hlt 12 (Nat.le_refl _) σ x.toNatClampNeg (vin_lt ((kOwnE_0 g_3).2.1)) hqw) (fun k r σ h => h.1) ⟨rfl, rfl⟩ hl.1 d_Sy_close_9 (Nat.le_of_ble_eq_true rfl) (⟨by decide, by decide⟩) (⟨by decide, by decide⟩) (fun r_5 σ_6 H locs h_4 hP hS => ?_)
  obtain ⟨-, rfl, rfl⟩ := h_4
  exact rI_i C0 hP hS (⟨by decide, by decide⟩) (by unfold sClose; rw [if_pos g_3]; first | done | rfl) d_Sy_close_12
set_option maxHeartbeats 4000000 in
set_option maxRecDepth 100000 in
theorem c_Sy_start {S0 : State} {A0 : Array Value} {D : va_G} {ar : Nat → ClassId} {base : Nat} {σ : Mem} {l : Launch} (hlt : l.stackTraces = false)  :
    MX l y_Sy_start [Cond.code y_Sy_start b_Sy_start 2 (some .int)] (rmK) (PS S0 A0 D ar base σ [.ref (base + ad 0 0)]) (QI D ar base (fun k r σ' => (k, r, σ') = sStart σ)) (inB base 122) := by
  refine cx_head hlt (by decide +kernel) (Nat.le_of_ble_eq_true rfl) ?_
  intro p ev s m below meth c ls C0 hP hl
  have C0 : Cx S0 A0 D ar base p l s m _ meth c R_Sy b_Sy_start 2 (some .int) := C0
  obtain ⟨hx, hb, -⟩ := id C0
  have hl : lv_has ls 2 [(0, .ref (base + ad 0 0))] := hl
  have hS : va_S (inB base 122) s.heap s.heap [] := va_S.rf
  refine lv_iconst (v := 0) hx hb d_Sy_start_0 (by decide) ?_
  refine lv_istore_n (lv' := [(1, .int 0), (0, .ref (base + ad 0 0))]) hx hb d_Sy_start_1 rfl hl (by decide) rfl (fun ls hl => ?_)
  have loop : ∀ (n k : Nat), k ≤ 4 → 4 + 1 ≤ k + n → stL σ (4 - k) k = sStart σ → ∀ (H : Heap) (locs : List Loc), va_P D classes (wl base 122 (mem ar base (σ))) H → va_S (inB base 122) s.heap H locs → ∀ ls : Array Slot, lv_has ls 2 [(1, .int (nI k)), (0, .ref (base + ad 0 0))] → W p l ev (rmK) s m ([.ref (base + ad 0 0)] : List Value).toArray below meth c H locs 0 0 (MQX below (QI D ar base (fun k r σ' => (k, r, σ') = sStart σ)) ([.ref (base + ad 0 0)] : List Value).toArray s (rmK).cells (rmK).slots (inB base 122)) (F0 m 2 ls []) := by
    intro n
    induction n with
    | zero => intro k h1 h2; omega
    | succ n ih =>
      intro k hk1 hk2 hinv H locs hP hS ls hl
      refine lv_iload_n hx hb d_Sy_start_2 rfl (lv_at hl 0 rfl) ?_
      refine lv_iconst (v := 4) hx hb d_Sy_start_3 (by decide) ?_
      refine lv_icmp_ge (tgt := 31) hx hb d_Sy_start_4 (by decide) (fun c_4 => ?_) (fun c_4 => ?_)
      · skip
        have hkN : k = 4 := by have := ge_nI (N := 4) c_4; omega
        subst hkN
        exact tI_4 C0 hP hS k_sr_Sy_84 xs_84 hl.1 d_Sy_start_31 d_Sy_start_34 d_Sy_start_35 d_Sy_start_37 d_Sy_start_40 (by decide) (by decide) (⟨by decide, by decide⟩) (by rw [← hinv]; rfl)
      · skip
        have hkN : k < 4 := lt_nI (N := 4) c_4
        refine lv_aload_n hx hb d_Sy_start_7 rfl (lv_at hl 1 rfl) ?_
        refine q_get C0 hP (kd := 0) (i := 0) (ci := 0) (by decide) (by decide) rfl rfl 4 (by decide) rfl k_fl_Sy_24 rfl d_Sy_start_8 ?_
        refine lv_iload_n hx hb d_Sy_start_11 rfl (lv_at hl 0 rfl) ?_
        refine q_zald C0 hP (kd := 3) (i := 0) (by decide) (by decide) rfl (vin_nI hkN) d_Sy_start_12 ?_
        rw [show (nI k).toNatClampNeg = k from nI_clamp (by omega)]
        refine lv_if_ne (tgt := 25) hx hb d_Sy_start_13 (by decide) (fun c_13 => ?_) (fun c_13 => ?_)
        · skip
          refine lv_iinc (v := nI (k + 1)) (lv' := [(1, .int (nI (k + 1))), (0, .ref (base + ad 0 0))]) hx hb d_Sy_start_25 hl (k := 0) rfl (by exact nI_1 k) (by decide) rfl (fun ls hl => ?_)
          refine lv_goto (tgt := 2) hx hb d_Sy_start_28 (by decide) ?_
          rw [show ((σ) : Mem) = σ from rfl] at hP
          exact ih (k + 1) (by omega) (by omega) (by rw [← hinv, stL_s hkN, if_neg c_13]) _ _ hP hS ls (lv_sub hl [0, 1] rfl)
        · skip
          refine lv_aload_n hx hb d_Sy_start_16 rfl (lv_at hl 1 rfl) ?_
          refine q_get C0 hP (kd := 0) (i := 0) (ci := 0) (by decide) (by decide) rfl rfl 4 (by decide) rfl k_fl_Sy_24 rfl d_Sy_start_17 ?_
          refine lv_iload_n hx hb d_Sy_start_20 rfl (lv_at hl 0 rfl) ?_
          refine lv_iconst (v := 1) hx hb d_Sy_start_21 (by decide) ?_
          refine q_zast C0 hP hS (kd := 3) (i := 0) 2 (by decide) rfl (by decide) rfl (vin_nI hkN) (by rw [ast_fn]; rfl) d_Sy_start_22 (fun H locs hP hS => ?_)
          rw [show (nI k).toNatClampNeg = k from nI_clamp (by omega)] at hP
          refine lv_iload_n hx hb d_Sy_start_23 rfl (lv_at hl 0 rfl) ?_
          exact rI_i C0 hP hS (⟨by decide, by decide⟩) (by rw [← hinv, stL_s hkN, if_pos c_13]; rfl) d_Sy_start_24
  rw [show (σ : Mem) = σ from rfl] at hP
  exact loop (4 + 1) 0 (by omega) (by omega) (rfl) _ _ hP hS ls (lv_sub hl [0, 1] rfl)
set_option maxHeartbeats 4000000 in
set_option maxRecDepth 100000 in
theorem c_Sy_kill {S0 : State} {A0 : Array Value} {D : va_G} {ar : Nat → ClassId} {base : Nat} {σ : Mem} {l : Launch} (hlt : l.stackTraces = false) {q : Int32} (hqw : QW σ) :
    MX l y_Sy_kill [Cond.code y_Sy_kill b_Sy_kill 4 (some .int)] (rmK) (PS S0 A0 D ar base σ [.ref (base + ad 0 0), .int q]) (QI D ar base (fun k r σ' => (k, r, σ') = sKill σ q)) (inB base 122) := by
  refine cx_head hlt (by decide +kernel) (Nat.le_of_ble_eq_true rfl) ?_
  intro p ev s m below meth c ls C0 hP hl
  have C0 : Cx S0 A0 D ar base p l s m _ meth c R_Sy b_Sy_kill 4 (some .int) := C0
  obtain ⟨hx, hb, -⟩ := id C0
  have hl : lv_has ls 4 [(0, .ref (base + ad 0 0)), (1, .int q)] := hl
  have hS : va_S (inB base 122) s.heap s.heap [] := va_S.rf
  refine lv_iload_n hx hb d_Sy_kill_0 rfl (lv_at hl 1 rfl) ?_
  refine lv_iconst (v := 4) hx hb d_Sy_kill_1 (by decide) ?_
  refine cs_PI C0 hP hS (cs_S C0 (As := [.int q, .int 4]) k_ml_Sy_64 k_st_Sy_needBelow k_cd_Sy_needBelow k_in_Sy z_Sy_needBelow rfl d_Sy_kill_2) (c_Sy_needBelow hlt) hl.1 d_Sy_kill_2 (Nat.le_of_ble_eq_true rfl) (⟨by decide, by decide⟩) (⟨by decide, by decide⟩) (fun k r hk hp => by obtain ⟨h1, h2⟩ := hp; obtain ⟨hc, h3⟩ := nz_k h2 hk; rw [h3]; unfold sKill; rw [if_pos hc]) (fun r_2 h_1 => ?_)
  have g_3 := nz_ok h_1.2
  obtain rfl := h_1.1
  refine lv_aload_n hx hb d_Sy_kill_5 rfl (lv_at hl 0 rfl) ?_
  refine lv_iload_n hx hb d_Sy_kill_6 rfl (lv_at hl 1 rfl) ?_
  refine cs_PI C0 hP hS (cs_V C0 hP (kd := 0) (i := 0) (ci := 0) (As := [.int q]) (by decide) (by decide) rfl rfl k_ml_Sy_86 k_im_Sy_needAlive k_sl_Sy_Sy_needAlive k_cd_Sy_needAlive k_in_Sy z_Sy_needAlive rfl d_Sy_kill_7) (c_Sy_needAlive hlt (vin_b g_3)) hl.1 d_Sy_kill_7 (Nat.le_of_ble_eq_true rfl) (⟨by decide, by decide⟩) (⟨by decide, by decide⟩) (fun k r hk hp => by obtain ⟨h1, h2⟩ := hp; obtain ⟨hc, h3⟩ := nz_k h2 hk; rw [h3]; unfold sKill; rw [if_neg g_3, if_pos hc]) (fun r_5 h_4 => ?_)
  have g_6 := nz_ok h_4.2
  obtain rfl := h_4.1
  refine lv_aload_n hx hb d_Sy_kill_10 rfl (lv_at hl 0 rfl) ?_
  refine q_get C0 hP (kd := 0) (i := 0) (ci := 0) (by decide) (by decide) rfl rfl 4 (by decide) rfl k_fl_Sy_24 rfl d_Sy_kill_11 ?_
  refine lv_iload_n hx hb d_Sy_kill_14 rfl (lv_at hl 1 rfl) ?_
  refine lv_iconst (v := 0) hx hb d_Sy_kill_15 (by decide) ?_
  refine q_zast C0 hP hS (kd := 3) (i := 0) 2 (by decide) rfl (by decide) rfl (vin_b g_3) (by rw [ast_fn]; rfl) d_Sy_kill_16 (fun H locs hP hS => ?_)
  refine lv_aload_n hx hb d_Sy_kill_17 rfl (lv_at hl 0 rfl) ?_
  refine lv_dup hx hb d_Sy_kill_18 rfl ?_
  refine q_get C0 hP (kd := 0) (i := 0) (ci := 0) (by decide) (by decide) rfl rfl 11 (by decide) rfl k_fl_Sy_90 rfl d_Sy_kill_19 ?_
  refine lv_iconst (v := 1) hx hb d_Sy_kill_22 (by decide) ?_
  refine lv_iadd hx hb d_Sy_kill_23 ?_
  refine q_put C0 hP hS (kd := 0) (i := 0) (ci := 0) 0 4 (by decide) rfl (by decide) rfl rfl t_Sy t_Sy_ok n_Sy 11 (by decide) rfl k_fl_Sy_90 rfl (by decide +kernel) (Nat.le_of_ble_eq_true rfl) (by simp [cont, up]) d_Sy_kill_24 (fun H locs hP hS => ?_)
  refine lv_iconst (v := 0) hx hb d_Sy_kill_27 (by decide) ?_
  refine lv_istore_n (lv' := [(2, .int 0), (0, .ref (base + ad 0 0)), (1, .int q)]) hx hb d_Sy_kill_28 rfl hl (by decide) rfl (fun ls hl => ?_)
  refine lv_iconst (v := 0) hx hb d_Sy_kill_29 (by decide) ?_
  refine lv_istore_n (lv' := [(3, .int 0), (2, .int 0), (0, .ref (base + ad 0 0)), (1, .int q)]) hx hb d_Sy_kill_30 rfl hl (by decide) rfl (fun ls hl => ?_)
  have loop : ∀ (n k : Nat), k ≤ 12 → 12 + 1 ≤ k + n → ∀ (g : Int32) (σ' : Mem), QW σ' ∧ kbL q (12 - k) k g σ' = kbL q 12 0 0 (killM σ q) → ∀ (H : Heap) (locs : List Loc), va_P D classes (wl base 122 (mem ar base σ')) H → va_S (inB base 122) s.heap H locs → ∀ ls : Array Slot, lv_has ls 4 [(2, .int g), (3, .int (nI k)), (0, .ref (base + ad 0 0)), (1, .int q)] → W p l ev (rmK) s m ([.ref (base + ad 0 0), .int q] : List Value).toArray below meth c H locs 0 0 (MQX below (QI D ar base (fun k r σ' => (k, r, σ') = sKill σ q)) ([.ref (base + ad 0 0), .int q] : List Value).toArray s (rmK).cells (rmK).slots (inB base 122)) (F0 m 31 ls []) := by
    intro n
    induction n with
    | zero => intro k h1 h2; omega
    | succ n ih =>
      intro k hk1 hk2 g σ' hinv H locs hP hS ls hl
      refine lv_iload_n hx hb d_Sy_kill_31 rfl (lv_at hl 1 rfl) ?_
      refine lv_bipush (v := 12) hx hb d_Sy_kill_32 (by decide) ?_
      refine lv_icmp_ge (tgt := 68) hx hb d_Sy_kill_34 (by decide) (fun c_34 => ?_) (fun c_34 => ?_)
      · skip
        have hkN : k = 12 := by have := ge_nI (N := 12) c_34; omega
        subst hkN
        refine lv_iconst (v := 0) hx hb d_Sy_kill_68 (by decide) ?_
        refine lv_istore_n (lv' := [(3, .int 0), (2, .int g), (0, .ref (base + ad 0 0)), (1, .int q)]) hx hb d_Sy_kill_69 rfl hl (by decide) rfl (fun ls hl => ?_)
        have loop2 : ∀ (n k : Nat), k ≤ 12 → 12 + 1 ≤ k + n → ∀ (g : Int32) (σ'' : Mem), QW σ'' ∧ keL q (12 - k) k g σ'' = keL q 12 0 (kbL q 12 0 0 (killM σ q)).1 (kbL q 12 0 0 (killM σ q)).2 → ∀ (H : Heap) (locs : List Loc), va_P D classes (wl base 122 (mem ar base σ'')) H → va_S (inB base 122) s.heap H locs → ∀ ls : Array Slot, lv_has ls 4 [(2, .int g), (3, .int (nI k)), (0, .ref (base + ad 0 0)), (1, .int q)] → W p l ev (rmK) s m ([.ref (base + ad 0 0), .int q] : List Value).toArray below meth c H locs 0 0 (MQX below (QI D ar base (fun k r σ' => (k, r, σ') = sKill σ q)) ([.ref (base + ad 0 0), .int q] : List Value).toArray s (rmK).cells (rmK).slots (inB base 122)) (F0 m 70 ls []) := by
          intro n
          induction n with
          | zero => intro k h1 h2; omega
          | succ n ih =>
            intro k hk1 hk2 g σ'' hinv H locs hP hS ls hl
            refine lv_iload_n hx hb d_Sy_kill_70 rfl (lv_at hl 1 rfl) ?_
            refine lv_bipush (v := 12) hx hb d_Sy_kill_71 (by decide) ?_
            refine lv_icmp_ge (tgt := 104) hx hb d_Sy_kill_73 (by decide) (fun c_73 => ?_) (fun c_73 => ?_)
            · skip
              have hkN : k = 12 := by have := ge_nI (N := 12) c_73; omega
              subst hkN
              refine lv_iload_n hx hb d_Sy_kill_104 rfl (lv_at hl 0 rfl) ?_
              exact rI_i C0 hP hS (⟨by decide, by decide⟩) (by unfold sKill; rw [if_neg g_3, if_neg g_6, ← hinv.2]; rfl) d_Sy_kill_105
            · skip
              have hkN : k < 12 := lt_nI (N := 12) c_73
              refine lv_aload_n hx hb d_Sy_kill_76 rfl (lv_at hl 2 rfl) ?_
              refine q_get C0 hP (kd := 0) (i := 0) (ci := 0) (by decide) (by decide) rfl rfl 7 (by decide) rfl k_fl_Sy_40 rfl d_Sy_kill_77 ?_
              refine lv_iload_n hx hb d_Sy_kill_80 rfl (lv_at hl 1 rfl) ?_
              refine q_aald C0 hP (kd := 6) (i := 0) (t0 := 5) (v := base + ad 14 k) (by decide) (by decide) rfl rfl (by rw [nI_clamp (by omega)]) (vin_nI hkN) d_Sy_kill_81 ?_
              refine q_getN C0 hP (kd := 14) (i := k) (ci := 3) (by decide) (hkN) rfl rfl 2 (by decide) rfl k_fn_Sy_99 rfl d_Sy_kill_82 ?_
              refine lv_iload_n hx hb d_Sy_kill_85 rfl (lv_at hl 3 rfl) ?_
              refine lv_icmp_ne (tgt := 98) hx hb d_Sy_kill_86 (by decide) (fun c_86 => ?_) (fun c_86 => ?_)
              · skip
                refine lv_iinc (v := nI (k + 1)) (lv' := [(3, .int (nI (k + 1))), (2, .int g), (0, .ref (base + ad 0 0)), (1, .int q)]) hx hb d_Sy_kill_98 hl (k := 1) rfl (by exact nI_1 k) (by decide) rfl (fun ls hl => ?_)
                refine lv_goto (tgt := 70) hx hb d_Sy_kill_101 (by decide) ?_
                exact ih (k + 1) (by omega) (by omega) _ _ (⟨hinv.1, by rw [← hinv.2, keL_s hkN, if_neg c_86]⟩) _ _ hP hS ls (lv_sub hl [1, 0, 2, 3] rfl)
              · skip
                refine lv_iload_n hx hb d_Sy_kill_89 rfl (lv_at hl 0 rfl) ?_
                refine lv_aload_n hx hb d_Sy_kill_90 rfl (lv_at hl 2 rfl) ?_
                refine lv_iload_n hx hb d_Sy_kill_91 rfl (lv_at hl 1 rfl) ?_
                refine lv_iconst (v := 0) hx hb d_Sy_kill_92 (by decide) ?_
                refine W.eq (g2 := F0 m 93 ls [.int (nI (12 - 12)), .int (nI k), .ref (base + ad 0 0), .int g]) rfl ?_
                refine cs_I C0 hP hS (cs_V C0 hP (kd := 0) (i := 0) (ci := 0) (As := [.int (nI k), .int (nI (12 - 12))]) (by decide) (by decide) rfl rfl k_ml_Sy_100 k_im_Sy_closeEnd k_sl_Sy_Sy_closeEnd k_cd_Sy_closeEnd k_in_Sy z_Sy_closeEnd rfl d_Sy_kill_93) (c_Sy_closeEnd hlt 12 (Nat.le_refl _) σ'' k hkN hinv.1) (fun k r σ h => h.1) ⟨rfl, rfl⟩ hl.1 d_Sy_kill_93 (Nat.le_of_ble_eq_true rfl) (⟨by decide, by decide⟩) (⟨by decide, by decide⟩) (fun r_8 σ_9 H locs h_7 hP hS => ?_)
                obtain ⟨-, rfl, rfl⟩ := h_7
                refine lv_iadd hx hb d_Sy_kill_96 ?_
                refine lv_istore_n (lv' := [(2, .int (g + ((clF 12 σ'' k).1))), (3, .int (nI k)), (0, .ref (base + ad 0 0)), (1, .int q)]) hx hb d_Sy_kill_97 rfl hl (by decide) rfl (fun ls hl => ?_)
                refine lv_iinc (v := nI (k + 1)) (lv' := [(3, .int (nI (k + 1))), (2, .int (g + ((clF 12 σ'' k).1))), (0, .ref (base + ad 0 0)), (1, .int q)]) hx hb d_Sy_kill_98 hl (k := 1) rfl (by exact nI_1 k) (by decide) rfl (fun ls hl => ?_)
                refine lv_goto (tgt := 70) hx hb d_Sy_kill_101 (by decide) ?_
                exact ih (k + 1) (by omega) (by omega) _ _ (⟨QWcl _ _ _ hinv.1 hkN, by rw [← hinv.2, keL_s hkN, if_pos c_86]⟩) _ _ hP hS ls (lv_sub hl [1, 0, 2, 3] rfl)
        exact loop2 (12 + 1) 0 (by omega) (by omega) _ _ (⟨hinv.1, by have h9 := hinv.2; rw [show kbL q (12 - 12) 12 g σ' = (g, σ') from rfl] at h9; rw [← h9]⟩) _ _ hP hS ls (lv_sub hl [1, 0, 2, 3] rfl)
      · skip
        have hkN : k < 12 := lt_nI (N := 12) c_34
        refine lv_aload_n hx hb d_Sy_kill_37 rfl (lv_at hl 2 rfl) ?_
        refine q_get C0 hP (kd := 0) (i := 0) (ci := 0) (by decide) (by decide) rfl rfl 5 (by decide) rfl k_fl_Sy_30 rfl d_Sy_kill_38 ?_
        refine lv_iload_n hx hb d_Sy_kill_41 rfl (lv_at hl 1 rfl) ?_
        refine q_aald C0 hP (kd := 4) (i := 0) (t0 := 4) (v := base + ad 12 k) (by decide) (by decide) rfl rfl (by rw [nI_clamp (by omega)]) (vin_nI hkN) d_Sy_kill_42 ?_
        refine q_getN C0 hP (kd := 12) (i := k) (ci := 2) (by decide) (hkN) rfl rfl 1 (by decide) rfl k_fn_Sy_93 rfl d_Sy_kill_43 ?_
        refine lv_iload_n hx hb d_Sy_kill_46 rfl (lv_at hl 3 rfl) ?_
        refine lv_icmp_ne (tgt := 62) hx hb d_Sy_kill_47 (by decide) (fun c_47 => ?_) (fun c_47 => ?_)
        · skip
          refine lv_iinc (v := nI (k + 1)) (lv' := [(3, .int (nI (k + 1))), (2, .int g), (0, .ref (base + ad 0 0)), (1, .int q)]) hx hb d_Sy_kill_62 hl (k := 1) rfl (by exact nI_1 k) (by decide) rfl (fun ls hl => ?_)
          refine lv_goto (tgt := 31) hx hb d_Sy_kill_65 (by decide) ?_
          exact ih (k + 1) (by omega) (by omega) _ _ (⟨hinv.1, by rw [← hinv.2, kbL_s hkN, if_neg c_47]⟩) _ _ hP hS ls (lv_sub hl [1, 0, 2, 3] rfl)
        · skip
          refine lv_aload_n hx hb d_Sy_kill_50 rfl (lv_at hl 2 rfl) ?_
          refine q_get C0 hP (kd := 0) (i := 0) (ci := 0) (by decide) (by decide) rfl rfl 5 (by decide) rfl k_fl_Sy_30 rfl d_Sy_kill_51 ?_
          refine lv_iload_n hx hb d_Sy_kill_54 rfl (lv_at hl 1 rfl) ?_
          refine q_aald C0 hP (kd := 4) (i := 0) (t0 := 4) (v := base + ad 12 k) (by decide) (by decide) rfl rfl (by rw [nI_clamp (by omega)]) (vin_nI hkN) d_Sy_kill_55 ?_
          refine cs_I C0 hP hS (cs_V C0 hP (kd := 12) (i := k) (ci := 2) (As := []) (by decide) (hkN) rfl rfl k_ml_Sy_96 k_im_Bl_giveBack k_sl_Bl_Bl_giveBack k_cd_Bl_giveBack k_in_Bl z_Bl_giveBack rfl d_Sy_kill_56) (c_Bl_giveBack hlt hkN) (fun k r σ h => h.1) ⟨rfl, rfl⟩ hl.1 d_Sy_kill_56 (Nat.le_of_ble_eq_true rfl) (⟨by decide, by decide⟩) (⟨by decide, by decide⟩) (fun r_11 σ_12 H locs h_10 hP hS => ?_)
          obtain ⟨-, rfl, rfl⟩ := h_10
          refine lv_iinc (v := g + 1) (lv' := [(2, .int (g + 1)), (3, .int (nI k)), (0, .ref (base + ad 0 0)), (1, .int q)]) hx hb d_Sy_kill_59 hl (k := 0) rfl (by exact rfl) (by decide) rfl (fun ls hl => ?_)
          refine lv_iinc (v := nI (k + 1)) (lv' := [(3, .int (nI (k + 1))), (2, .int (g + 1)), (0, .ref (base + ad 0 0)), (1, .int q)]) hx hb d_Sy_kill_62 hl (k := 1) rfl (by exact nI_1 k) (by decide) rfl (fun ls hl => ?_)
          refine lv_goto (tgt := 31) hx hb d_Sy_kill_65 (by decide) ?_
          exact ih (k + 1) (by omega) (by omega) _ _ (⟨QWgb hinv.1, by rw [← hinv.2, kbL_s hkN, if_pos c_47]⟩) _ _ hP hS ls (lv_sub hl [1, 0, 2, 3] rfl)
  exact loop (12 + 1) 0 (by omega) (by omega) _ _ (⟨QWup (QWup hqw (by decide)) (by decide), rfl⟩) _ _ hP hS ls (lv_sub hl [1, 0, 2, 3] rfl)
set_option maxHeartbeats 4000000 in
set_option maxRecDepth 100000 in
theorem c_Sy_choose {S0 : State} {A0 : Array Value} {D : va_G} {ar : Nat → ClassId} {base : Nat} {σ : Mem} {l : Launch} (hlt : l.stackTraces = false) {q mask : Int32} :
    MX l y_Sy_choose [Cond.code y_Sy_choose b_Sy_choose 5 (some .int)] (rmK) (PS S0 A0 D ar base σ [.ref (base + ad 0 0), .int q, .int mask]) (QI D ar base (fun k r σ' => (k, r, σ') = sChoose σ q mask)) (inB base 122) := by
  refine cx_head hlt (by decide +kernel) (Nat.le_of_ble_eq_true rfl) ?_
  intro p ev s m below meth c ls C0 hP hl
  have C0 : Cx S0 A0 D ar base p l s m _ meth c R_Sy b_Sy_choose 5 (some .int) := C0
  obtain ⟨hx, hb, -⟩ := id C0
  have hl : lv_has ls 5 [(0, .ref (base + ad 0 0)), (1, .int q), (2, .int mask)] := hl
  have hS : va_S (inB base 122) s.heap s.heap [] := va_S.rf
  refine lv_iload_n hx hb d_Sy_choose_0 rfl (lv_at hl 1 rfl) ?_
  refine lv_iconst (v := 4) hx hb d_Sy_choose_1 (by decide) ?_
  refine cs_PI C0 hP hS (cs_S C0 (As := [.int q, .int 4]) k_ml_Sy_64 k_st_Sy_needBelow k_cd_Sy_needBelow k_in_Sy z_Sy_needBelow rfl d_Sy_choose_2) (c_Sy_needBelow hlt) hl.1 d_Sy_choose_2 (Nat.le_of_ble_eq_true rfl) (⟨by decide, by decide⟩) (⟨by decide, by decide⟩) (fun k r hk hp => by obtain ⟨h1, h2⟩ := hp; obtain ⟨hc, h3⟩ := nz_k h2 hk; rw [h3]; unfold sChoose; rw [if_pos hc]) (fun r_2 h_1 => ?_)
  have g_3 := nz_ok h_1.2
  obtain rfl := h_1.1
  refine lv_iload_n hx hb d_Sy_choose_5 rfl (lv_at hl 2 rfl) ?_
  refine lv_sipush (v := 4096) hx hb d_Sy_choose_6 (by decide) ?_
  refine cs_PI C0 hP hS (cs_S C0 (As := [.int mask, .int 4096]) k_ml_Sy_64 k_st_Sy_needBelow k_cd_Sy_needBelow k_in_Sy z_Sy_needBelow rfl d_Sy_choose_9) (c_Sy_needBelow hlt) hl.1 d_Sy_choose_9 (Nat.le_of_ble_eq_true rfl) (⟨by decide, by decide⟩) (⟨by decide, by decide⟩) (fun k r hk hp => by obtain ⟨h1, h2⟩ := hp; obtain ⟨hc, h3⟩ := nz_k h2 hk; rw [h3]; unfold sChoose; rw [if_neg g_3, if_pos hc]) (fun r_5 h_4 => ?_)
  have g_6 := nz_ok h_4.2
  obtain rfl := h_4.1
  refine lv_aload_n hx hb d_Sy_choose_12 rfl (lv_at hl 0 rfl) ?_
  refine lv_iload_n hx hb d_Sy_choose_13 rfl (lv_at hl 1 rfl) ?_
  refine cs_PI C0 hP hS (cs_V C0 hP (kd := 0) (i := 0) (ci := 0) (As := [.int q]) (by decide) (by decide) rfl rfl k_ml_Sy_86 k_im_Sy_needAlive k_sl_Sy_Sy_needAlive k_cd_Sy_needAlive k_in_Sy z_Sy_needAlive rfl d_Sy_choose_14) (c_Sy_needAlive hlt (vin_b g_3)) hl.1 d_Sy_choose_14 (Nat.le_of_ble_eq_true rfl) (⟨by decide, by decide⟩) (⟨by decide, by decide⟩) (fun k r hk hp => by obtain ⟨h1, h2⟩ := hp; obtain ⟨hc, h3⟩ := nz_k h2 hk; rw [h3]; unfold sChoose; rw [if_neg g_3, if_neg g_6, if_pos hc]) (fun r_8 h_7 => ?_)
  have g_9 := nz_ok h_7.2
  obtain rfl := h_7.1
  refine lv_iconst (v := 0) hx hb d_Sy_choose_17 (by decide) ?_
  refine lv_istore_n (lv' := [(3, .int 0), (0, .ref (base + ad 0 0)), (1, .int q), (2, .int mask)]) hx hb d_Sy_choose_18 rfl hl (by decide) rfl (fun ls hl => ?_)
  have loop : ∀ (n k : Nat), k ≤ 12 → 12 + 1 ≤ k + n → chL σ q mask (12 - k) k = chL σ q mask 12 0 → ∀ (H : Heap) (locs : List Loc), va_P D classes (wl base 122 (mem ar base (σ))) H → va_S (inB base 122) s.heap H locs → ∀ ls : Array Slot, lv_has ls 5 [(3, .int (nI k)), (0, .ref (base + ad 0 0)), (1, .int q), (2, .int mask)] → W p l ev (rmK) s m ([.ref (base + ad 0 0), .int q, .int mask] : List Value).toArray below meth c H locs 0 0 (MQX below (QI D ar base (fun k r σ' => (k, r, σ') = sChoose σ q mask)) ([.ref (base + ad 0 0), .int q, .int mask] : List Value).toArray s (rmK).cells (rmK).slots (inB base 122)) (F0 m 19 ls []) := by
    intro n
    induction n with
    | zero => intro k h1 h2; omega
    | succ n ih =>
      intro k hk1 hk2 hinv H locs hP hS ls hl
      refine lv_iload_n hx hb d_Sy_choose_19 rfl (lv_at hl 0 rfl) ?_
      refine lv_bipush (v := 12) hx hb d_Sy_choose_20 (by decide) ?_
      refine lv_icmp_ge (tgt := 79) hx hb d_Sy_choose_22 (by decide) (fun c_22 => ?_) (fun c_22 => ?_)
      · skip
        have hkN : k = 12 := by have := ge_nI (N := 12) c_22; omega
        subst hkN
        exact tI_3 C0 hP hS k_sr_Sy_209 xs_209 hl.1 d_Sy_choose_79 d_Sy_choose_82 d_Sy_choose_83 d_Sy_choose_85 d_Sy_choose_88 (by decide) (by decide) (⟨by decide, by decide⟩) (by unfold sChoose; rw [if_neg g_3, if_neg g_6, if_neg g_9, ← hinv]; rfl)
      · skip
        have hkN : k < 12 := lt_nI (N := 12) c_22
        refine lv_iload_n hx hb d_Sy_choose_25 rfl (lv_at hl 3 rfl) ?_
        refine lv_iload_n hx hb d_Sy_choose_26 rfl (lv_at hl 0 rfl) ?_
        refine lv_ishr hx hb d_Sy_choose_27 ?_
        refine lv_iconst (v := 1) hx hb d_Sy_choose_28 (by decide) ?_
        refine lv_iand hx hb d_Sy_choose_29 ?_
        refine lv_iconst (v := 1) hx hb d_Sy_choose_30 (by decide) ?_
        refine lv_icmp_ne (tgt := 38) hx hb d_Sy_choose_31 (by decide) (fun c_31 => ?_) (fun c_31 => ?_)
        · skip
          refine lv_iconst (v := 0) hx hb d_Sy_choose_38 (by decide) ?_
          refine lv_istore (lv' := [(4, .int 0), (3, .int (nI k)), (0, .ref (base + ad 0 0)), (1, .int q), (2, .int mask)]) hx hb d_Sy_choose_39 hl (by decide) rfl (fun ls hl => ?_)
          refine lv_iload hx hb d_Sy_choose_41 (lv_at hl 0 rfl) ?_
          refine lv_if_eq (tgt := 73) hx hb d_Sy_choose_43 (by decide) (fun c_43 => ?_) (fun c_43 => ?_)
          · skip
            refine lv_iinc (v := nI (k + 1)) (lv' := [(3, .int (nI (k + 1))), (4, .int 0), (0, .ref (base + ad 0 0)), (1, .int q), (2, .int mask)]) hx hb d_Sy_choose_73 hl (k := 1) rfl (by exact nI_1 k) (by decide) rfl (fun ls hl => ?_)
            refine lv_goto (tgt := 19) hx hb d_Sy_choose_76 (by decide) ?_
            rw [show ((σ) : Mem) = σ from rfl] at hP
            exact ih (k + 1) (by omega) (by omega) (by rw [← hinv, chL_s hkN, if_neg (fun h => c_31 h.1)]) _ _ hP hS ls (lv_sub hl [0, 2, 3, 4] rfl)
          · skip
            exact absurd rfl c_43
        · skip
          refine lv_iconst (v := 1) hx hb d_Sy_choose_34 (by decide) ?_
          refine lv_goto (tgt := 39) hx hb d_Sy_choose_35 (by decide) ?_
          refine lv_istore (lv' := [(4, .int 1), (3, .int (nI k)), (0, .ref (base + ad 0 0)), (1, .int q), (2, .int mask)]) hx hb d_Sy_choose_39 hl (by decide) rfl (fun ls hl => ?_)
          refine lv_iload hx hb d_Sy_choose_41 (lv_at hl 0 rfl) ?_
          refine lv_if_eq (tgt := 73) hx hb d_Sy_choose_43 (by decide) (fun c_43 => ?_) (fun c_43 => ?_)
          · skip
            exact absurd c_43 (by decide)
          · skip
            refine lv_aload_n hx hb d_Sy_choose_46 rfl (lv_at hl 2 rfl) ?_
            refine q_get C0 hP (kd := 0) (i := 0) (ci := 0) (by decide) (by decide) rfl rfl 7 (by decide) rfl k_fl_Sy_40 rfl d_Sy_choose_47 ?_
            refine lv_iload_n hx hb d_Sy_choose_50 rfl (lv_at hl 1 rfl) ?_
            refine q_aald C0 hP (kd := 6) (i := 0) (t0 := 5) (v := base + ad 14 k) (by decide) (by decide) rfl rfl (by rw [nI_clamp (by omega)]) (vin_nI hkN) d_Sy_choose_51 ?_
            refine q_getN C0 hP (kd := 14) (i := k) (ci := 3) (by decide) (hkN) rfl rfl 2 (by decide) rfl k_fn_Sy_99 rfl d_Sy_choose_52 ?_
            refine lv_iload_n hx hb d_Sy_choose_55 rfl (lv_at hl 3 rfl) ?_
            refine lv_icmp_ne (tgt := 73) hx hb d_Sy_choose_56 (by decide) (fun c_56 => ?_) (fun c_56 => ?_)
            · skip
              refine lv_iinc (v := nI (k + 1)) (lv' := [(3, .int (nI (k + 1))), (4, .int 1), (0, .ref (base + ad 0 0)), (1, .int q), (2, .int mask)]) hx hb d_Sy_choose_73 hl (k := 1) rfl (by exact nI_1 k) (by decide) rfl (fun ls hl => ?_)
              refine lv_goto (tgt := 19) hx hb d_Sy_choose_76 (by decide) ?_
              rw [show ((σ) : Mem) = σ from rfl] at hP
              exact ih (k + 1) (by omega) (by omega) (by rw [← hinv, chL_s hkN, if_neg (fun h => c_56 h.2.1)]) _ _ hP hS ls (lv_sub hl [0, 2, 3, 4] rfl)
            · skip
              refine lv_aload_n hx hb d_Sy_choose_59 rfl (lv_at hl 2 rfl) ?_
              refine q_get C0 hP (kd := 0) (i := 0) (ci := 0) (by decide) (by decide) rfl rfl 7 (by decide) rfl k_fl_Sy_40 rfl d_Sy_choose_60 ?_
              refine lv_iload_n hx hb d_Sy_choose_63 rfl (lv_at hl 1 rfl) ?_
              refine q_aald C0 hP (kd := 6) (i := 0) (t0 := 5) (v := base + ad 14 k) (by decide) (by decide) rfl rfl (by rw [nI_clamp (by omega)]) (vin_nI hkN) d_Sy_choose_64 ?_
              refine q_getN C0 hP (kd := 14) (i := k) (ci := 3) (by decide) (hkN) rfl rfl 4 (by decide) rfl k_fn_Sy_178 rfl d_Sy_choose_65 ?_
              refine lv_if_le (tgt := 73) hx hb d_Sy_choose_68 (by decide) (fun c_68 => ?_) (fun c_68 => ?_)
              · skip
                refine lv_iinc (v := nI (k + 1)) (lv' := [(3, .int (nI (k + 1))), (4, .int 1), (0, .ref (base + ad 0 0)), (1, .int q), (2, .int mask)]) hx hb d_Sy_choose_73 hl (k := 1) rfl (by exact nI_1 k) (by decide) rfl (fun ls hl => ?_)
                refine lv_goto (tgt := 19) hx hb d_Sy_choose_76 (by decide) ?_
                rw [show ((σ) : Mem) = σ from rfl] at hP
                exact ih (k + 1) (by omega) (by omega) (by rw [← hinv, chL_s hkN, if_neg (fun h => h.2.2 c_68)]) _ _ hP hS ls (lv_sub hl [0, 2, 3, 4] rfl)
              · skip
                refine lv_iload_n hx hb d_Sy_choose_71 rfl (lv_at hl 1 rfl) ?_
                exact rI_i C0 hP hS (⟨by decide, by decide⟩) (by unfold sChoose; rw [if_neg g_3, if_neg g_6, if_neg g_9, ← hinv, chL_s hkN, if_pos ⟨c_31, c_56, c_68⟩]) d_Sy_choose_72
  rw [show (σ : Mem) = σ from rfl] at hP
  exact loop (12 + 1) 0 (by omega) (by omega) (rfl) _ _ hP hS ls (lv_sub hl [0, 1, 2, 3] rfl)
