/-! open, hear, count: laid by gen/m30.py. -/
/-- the first k from k0 on, below k0 + n, with P; k0 + n if there is none -/
def firstF (P : Nat → Prop) [DecidablePred P] : Nat → Nat → Nat
  | 0, k => k
  | n + 1, k => if P k then k else firstF P n (k + 1)
theorem firstF_eq {P : Nat → Prop} [DecidablePred P] {N b : Nat} (hb : b ≤ N) (h1 : ∀ j, j < b → ¬ P j) (h2 : b < N → P b) : ∀ n k, k + n = N → k ≤ b → firstF P n k = b := by
  intro n
  induction n with
  | zero => intro k h3 h4; show k = b; omega
  | succ n ih =>
    intro k h3 h4
    show (if P k then k else firstF P n (k + 1)) = b
    by_cases h5 : k = b
    · subst h5; rw [if_pos (h2 (by omega))]
    · rw [if_neg (h1 k (by omega))]; exact ih (k + 1) (by omega) (by omega)
def lfc (σ : Mem) : Nat := firstF (fun c => σ 11 (2 * c) 0 = -1 ∧ σ 11 (2 * c + 1) 0 = -1) 6 0
def lfb (σ : Mem) : Nat := firstF (fun b => σ 8 b 0 = -1) 12 0
def rul (σ : Mem) (c : Nat) (st lt : Int32) (sz : Nat) : Nat := firstF (fun j => σ 4 c j = st ∧ σ 5 c j = lt) sz 0
def nxt (σ : Mem) (c sz : Nat) (st lt sd : Int32) : Int32 := if rul σ c st lt sz < sz ∧ σ 6 c (rul σ c st lt sz) = sd then σ 7 c (rul σ c st lt sz) else -1
theorem LFC_eq {σ : Mem} {c : Nat} (h : LFC σ c) : c = lfc σ := (firstF_eq h.1 h.2.1 h.2.2 6 0 rfl (Nat.zero_le _)).symm
theorem LFB_eq {σ : Mem} {c : Nat} (h : LFB σ c) : c = lfb σ := (firstF_eq h.1 h.2.1 h.2.2 12 0 rfl (Nat.zero_le _)).symm
theorem RUL_eq {σ : Mem} {c sz r : Nat} {st lt : Int32} (h : RUL σ c st lt sz r) : r = rul σ c st lt sz := (firstF_eq h.1 h.2.1 h.2.2 sz 0 (Nat.zero_add _) (Nat.zero_le _)).symm
theorem NXT_eq {σ : Mem} {c sz : Nat} {st lt sd x : Int32} (h : NXT σ c sz st lt sd x) : x = nxt σ c sz st lt sd := by
  obtain ⟨q, h1, h2⟩ := h
  have h3 := RUL_eq h1
  subst h3
  unfold nxt
  rcases h2 with ⟨a, b, rfl⟩ | ⟨a, rfl⟩
  · rw [if_pos ⟨a, b⟩]
  · rw [if_neg a]
/-- every row of rules has at most nine -/
def CW (σ : Mem) : Prop := ∀ c, c < 11 → ∃ n : Nat, n ≤ 9 ∧ σ 3 c 0 = nI n
abbrev szC (σ : Mem) (c : Nat) : Nat := (σ 3 c 0).toNatClampNeg
theorem CW.at {σ : Mem} (h : CW σ) {c : Nat} (hc : c < 11) : σ 3 c 0 = nI (szC σ c) := by
  obtain ⟨n, hn, h2⟩ := h c hc
  unfold szC
  rw [h2, nI_clamp (by omega)]
theorem CW.le {σ : Mem} (h : CW σ) {c : Nat} (hc : c < 11) : szC σ c ≤ 9 := by
  obtain ⟨n, hn, h2⟩ := h c hc
  unfold szC
  rw [h2, nI_clamp (by omega)]
  exact hn
abbrev wtE (σ : Mem) (e : Nat) : Nat := (σ 13 e 0).toNatClampNeg
theorem QW.at {σ : Mem} (h : QW σ) {e : Nat} (he : e < 12) : σ 13 e 0 = nI (wtE σ e) := by
  obtain ⟨n, hn, h2, -⟩ := h e he
  unfold wtE
  rw [h2, nI_clamp (by omega)]
theorem QW.le {σ : Mem} (h : QW σ) {e : Nat} (he : e < 12) : wtE σ e ≤ 3 := by
  obtain ⟨n, hn, h2, -⟩ := h e he
  unfold wtE
  rw [h2, nI_clamp (by omega)]
  exact hn
theorem QW.ld {σ : Mem} (h : QW σ) {e k : Nat} (he : e < 12) (hk : k < wtE σ e) : isB (σ 14 e k) ∨ σ 14 e k = 6 → vp_in (σ 15 e k) 12 := by
  obtain ⟨n, hn, h2, h3⟩ := h e he
  unfold wtE at hk
  rw [h2, nI_clamp (by omega)] at hk
  exact h3 k hk
theorem vin_half {x : Int32} (h : vp_in x 12) : vp_in (x / 2) 6 := by
  obtain ⟨j, hj, hje⟩ := vp_in_of h (by decide)
  rw [hje]
  exact (by unfold vp_in; decide : ∀ j, j < 12 → vp_in (nI j / 2) 6) j hj
theorem vin_oth {x : Int32} (h : vp_in x 12) : vp_in (x ^^^ 1) 12 := by
  obtain ⟨j, hj, hje⟩ := vp_in_of h (by decide)
  rw [hje]
  exact (by unfold vp_in; decide : ∀ j, j < 12 → vp_in (nI j ^^^ 1) 12) j hj
theorem ne_toInt {x y : Int32} (h : ¬ x = y) : x.toInt ≠ y.toInt := fun h2 => h (Int32.toInt_inj.mp h2)
def cntF (σ : Mem) (x : Int32) : Int32 := if x = 0 then sAlive σ 4 else if x = 1 then sBlocks σ 12 else if x = 2 then sCells σ 12 else if x = 3 then sOpen σ 12 else if x = 4 then sWait σ 12 else if x = 5 then σ 0 0 1 else if x = 6 then σ 0 0 2 else if x = 7 then σ 0 0 3 else if x = 8 then σ 0 0 4 else if x = 9 then sMade σ 4 else -1
def sCount (σ : Mem) (x : Int32) : R3 := (0, some (cntF σ x), σ)
def opM (σ : Mem) (c k : Nat) (p q : Int32) : Mem := up (up (up (up (bec σ (c + 5) (k + 1) (szC σ (k + 1))) 11 (2 * c) 0 p) 12 (2 * c) 0 1) 11 (2 * c + 1) 0 q) 12 (2 * c + 1) 0 1
def sOpenC (σ : Mem) (p q k : Int32) : R3 := if bad p 4 then (1, none, σ) else if bad q 4 then (1, none, σ) else if bad k 4 then (1, none, σ) else if σ 2 0 p.toNatClampNeg = 0 then (2, none, σ) else if σ 2 0 q.toNatClampNeg = 0 then (2, none, σ) else
  if σ 3 (k.toNatClampNeg + 1) 0 = 0 then (3, none, σ) else if nI (lfc σ) = 6 then (4, none, σ) else (0, some (nI (lfc σ)), opM σ (lfc σ) k.toNatClampNeg p q)
def heM (σ : Mem) (q : Int32) (e : Nat) (nx : Int32) : Mem :=
  let σ2 := up (popM (up σ 12 e 0 nx) e (wtE σ e)) 13 e 0 (nI (wtE σ e - 1))
  let σ3 := giveM σ2 (σ 14 e 0) (σ 15 e 0) q
  up σ3 0 0 2 (σ3 0 0 2 + 1)
def heN (σ : Mem) (x : Int32) : Int32 := nxt σ ((x / 2).toNatClampNeg + 5) (szC σ ((x / 2).toNatClampNeg + 5)) (σ 12 x.toNatClampNeg 0) (σ 14 x.toNatClampNeg 0) ((x ^^^ 1) &&& 1)
def sHear (σ : Mem) (q x : Int32) : R3 := if kOwnE σ q x = 0 then (if σ 13 x.toNatClampNeg 0 = 0 then (3, none, σ) else if heN σ x = -1 then (2, none, σ) else
  (0, some (16 * σ 14 x.toNatClampNeg 0 + (σ 15 x.toNatClampNeg 0 &&& 15)), heM σ q x.toNatClampNeg (heN σ x))) else (kOwnE σ q x, none, σ)
set_option maxHeartbeats 4000000 in
set_option maxRecDepth 100000 in
theorem c_Sy_count {S0 : State} {A0 : Array Value} {D : va_G} {ar : Nat → ClassId} {base : Nat} {σ : Mem} {l : Launch} (hlt : l.stackTraces = false) {x : Int32} :
    MX l y_Sy_count [Cond.code y_Sy_count b_Sy_count 2 (some .int)] (rmK) (PS S0 A0 D ar base σ [.ref (base + ad 0 0), .int x]) (QI D ar base (fun k r σ' => (k, r, σ') = sCount σ x)) (inB base 122) := by
  refine cx_head hlt (by decide +kernel) (Nat.le_of_ble_eq_true rfl) ?_
  intro p ev s m below meth c ls C0 hP hl
  have C0 : Cx S0 A0 D ar base p l s m _ meth c R_Sy b_Sy_count 2 (some .int) := C0
  obtain ⟨hx, hb, -⟩ := id C0
  have hl : lv_has ls 2 [(0, .ref (base + ad 0 0)), (1, .int x)] := hl
  have hS : va_S (inB base 122) s.heap s.heap [] := va_S.rf
  refine lv_iload_n hx hb d_Sy_count_0 rfl (lv_at hl 1 rfl) ?_
  by_cases s_0 : x = 0
  · skip
    refine W.eq (g2 := F0 m 1 ls [.int 0]) (by rw [s_0]) ?_
    refine lv_tableIn (x := 0) (off := 55) (tgt := 56) hx hb d_Sy_count_1 (by decide) (by decide) (by decide) (by decide) ?_
    refine lv_aload_n hx hb d_Sy_count_56 rfl (lv_at hl 0 rfl) ?_
    refine cs_PI C0 hP hS (cs_V C0 hP (kd := 0) (i := 0) (ci := 0) (As := []) (by decide) (by decide) rfl rfl k_ml_Sy_212 k_im_Sy_processesAlive k_sl_Sy_Sy_processesAlive k_cd_Sy_processesAlive k_in_Sy z_Sy_processesAlive rfl d_Sy_count_57) (c_Sy_processesAlive hlt) hl.1 d_Sy_count_57 (Nat.le_of_ble_eq_true rfl) (⟨by decide, by decide⟩) (⟨by decide, by decide⟩) (fun k r hk hp => absurd hp.1 hk) (fun r_2 h_1 => ?_)
    obtain ⟨-, rfl⟩ := h_1
    exact rI_i C0 hP hS (⟨by decide, by decide⟩) (by unfold sCount cntF; rw [if_pos s_0]) d_Sy_count_60
  by_cases s_1 : x = 1
  · skip
    refine W.eq (g2 := F0 m 1 ls [.int 1]) (by rw [s_1]) ?_
    refine lv_tableIn (x := 1) (off := 60) (tgt := 61) hx hb d_Sy_count_1 (by decide) (by decide) (by decide) (by decide) ?_
    refine lv_aload_n hx hb d_Sy_count_61 rfl (lv_at hl 0 rfl) ?_
    refine cs_PI C0 hP hS (cs_V C0 hP (kd := 0) (i := 0) (ci := 0) (As := []) (by decide) (by decide) rfl rfl k_ml_Sy_215 k_im_Sy_blocksInUse k_sl_Sy_Sy_blocksInUse k_cd_Sy_blocksInUse k_in_Sy z_Sy_blocksInUse rfl d_Sy_count_62) (c_Sy_blocksInUse hlt) hl.1 d_Sy_count_62 (Nat.le_of_ble_eq_true rfl) (⟨by decide, by decide⟩) (⟨by decide, by decide⟩) (fun k r hk hp => absurd hp.1 hk) (fun r_4 h_3 => ?_)
    obtain ⟨-, rfl⟩ := h_3
    exact rI_i C0 hP hS (⟨by decide, by decide⟩) (by unfold sCount cntF; rw [if_neg s_0, if_pos s_1]) d_Sy_count_65
  by_cases s_2 : x = 2
  · skip
    refine W.eq (g2 := F0 m 1 ls [.int 2]) (by rw [s_2]) ?_
    refine lv_tableIn (x := 2) (off := 65) (tgt := 66) hx hb d_Sy_count_1 (by decide) (by decide) (by decide) (by decide) ?_
    refine lv_aload_n hx hb d_Sy_count_66 rfl (lv_at hl 0 rfl) ?_
    refine cs_PI C0 hP hS (cs_V C0 hP (kd := 0) (i := 0) (ci := 0) (As := []) (by decide) (by decide) rfl rfl k_ml_Sy_108 k_im_Sy_cellsInUse k_sl_Sy_Sy_cellsInUse k_cd_Sy_cellsInUse k_in_Sy z_Sy_cellsInUse rfl d_Sy_count_67) (c_Sy_cellsInUse hlt) hl.1 d_Sy_count_67 (Nat.le_of_ble_eq_true rfl) (⟨by decide, by decide⟩) (⟨by decide, by decide⟩) (fun k r hk hp => absurd hp.1 hk) (fun r_6 h_5 => ?_)
    obtain ⟨-, rfl⟩ := h_5
    exact rI_i C0 hP hS (⟨by decide, by decide⟩) (by unfold sCount cntF; rw [if_neg s_0, if_neg s_1, if_pos s_2]) d_Sy_count_70
  by_cases s_3 : x = 3
  · skip
    refine W.eq (g2 := F0 m 1 ls [.int 3]) (by rw [s_3]) ?_
    refine lv_tableIn (x := 3) (off := 70) (tgt := 71) hx hb d_Sy_count_1 (by decide) (by decide) (by decide) (by decide) ?_
    refine lv_aload_n hx hb d_Sy_count_71 rfl (lv_at hl 0 rfl) ?_
    refine cs_PI C0 hP hS (cs_V C0 hP (kd := 0) (i := 0) (ci := 0) (As := []) (by decide) (by decide) rfl rfl k_ml_Sy_218 k_im_Sy_endsOpen k_sl_Sy_Sy_endsOpen k_cd_Sy_endsOpen k_in_Sy z_Sy_endsOpen rfl d_Sy_count_72) (c_Sy_endsOpen hlt) hl.1 d_Sy_count_72 (Nat.le_of_ble_eq_true rfl) (⟨by decide, by decide⟩) (⟨by decide, by decide⟩) (fun k r hk hp => absurd hp.1 hk) (fun r_8 h_7 => ?_)
    obtain ⟨-, rfl⟩ := h_7
    exact rI_i C0 hP hS (⟨by decide, by decide⟩) (by unfold sCount cntF; rw [if_neg s_0, if_neg s_1, if_neg s_2, if_pos s_3]) d_Sy_count_75
  by_cases s_4 : x = 4
  · skip
    refine W.eq (g2 := F0 m 1 ls [.int 4]) (by rw [s_4]) ?_
    refine lv_tableIn (x := 4) (off := 75) (tgt := 76) hx hb d_Sy_count_1 (by decide) (by decide) (by decide) (by decide) ?_
    refine lv_aload_n hx hb d_Sy_count_76 rfl (lv_at hl 0 rfl) ?_
    refine cs_PI C0 hP hS (cs_V C0 hP (kd := 0) (i := 0) (ci := 0) (As := []) (by decide) (by decide) rfl rfl k_ml_Sy_221 k_im_Sy_messagesWaiting k_sl_Sy_Sy_messagesWaiting k_cd_Sy_messagesWaiting k_in_Sy z_Sy_messagesWaiting rfl d_Sy_count_77) (c_Sy_messagesWaiting hlt) hl.1 d_Sy_count_77 (Nat.le_of_ble_eq_true rfl) (⟨by decide, by decide⟩) (⟨by decide, by decide⟩) (fun k r hk hp => absurd hp.1 hk) (fun r_10 h_9 => ?_)
    obtain ⟨-, rfl⟩ := h_9
    exact rI_i C0 hP hS (⟨by decide, by decide⟩) (by unfold sCount cntF; rw [if_neg s_0, if_neg s_1, if_neg s_2, if_neg s_3, if_pos s_4]) d_Sy_count_80
  by_cases s_5 : x = 5
  · skip
    refine W.eq (g2 := F0 m 1 ls [.int 5]) (by rw [s_5]) ?_
    refine lv_tableIn (x := 5) (off := 80) (tgt := 81) hx hb d_Sy_count_1 (by decide) (by decide) (by decide) (by decide) ?_
    refine lv_aload_n hx hb d_Sy_count_81 rfl (lv_at hl 0 rfl) ?_
    refine q_get C0 hP (kd := 0) (i := 0) (ci := 0) (by decide) (by decide) rfl rfl 8 (by decide) rfl k_fl_Sy_192 rfl d_Sy_count_82 ?_
    exact rI_i C0 hP hS (⟨by decide, by decide⟩) (by unfold sCount cntF; rw [if_neg s_0, if_neg s_1, if_neg s_2, if_neg s_3, if_neg s_4, if_pos s_5]) d_Sy_count_85
  by_cases s_6 : x = 6
  · skip
    refine W.eq (g2 := F0 m 1 ls [.int 6]) (by rw [s_6]) ?_
    refine lv_tableIn (x := 6) (off := 85) (tgt := 86) hx hb d_Sy_count_1 (by decide) (by decide) (by decide) (by decide) ?_
    refine lv_aload_n hx hb d_Sy_count_86 rfl (lv_at hl 0 rfl) ?_
    refine q_get C0 hP (kd := 0) (i := 0) (ci := 0) (by decide) (by decide) rfl rfl 9 (by decide) rfl k_fl_Sy_206 rfl d_Sy_count_87 ?_
    exact rI_i C0 hP hS (⟨by decide, by decide⟩) (by unfold sCount cntF; rw [if_neg s_0, if_neg s_1, if_neg s_2, if_neg s_3, if_neg s_4, if_neg s_5, if_pos s_6]) d_Sy_count_90
  by_cases s_7 : x = 7
  · skip
    refine W.eq (g2 := F0 m 1 ls [.int 7]) (by rw [s_7]) ?_
    refine lv_tableIn (x := 7) (off := 90) (tgt := 91) hx hb d_Sy_count_1 (by decide) (by decide) (by decide) (by decide) ?_
    refine lv_aload_n hx hb d_Sy_count_91 rfl (lv_at hl 0 rfl) ?_
    refine q_get C0 hP (kd := 0) (i := 0) (ci := 0) (by decide) (by decide) rfl rfl 10 (by decide) rfl k_fl_Sy_224 rfl d_Sy_count_92 ?_
    exact rI_i C0 hP hS (⟨by decide, by decide⟩) (by unfold sCount cntF; rw [if_neg s_0, if_neg s_1, if_neg s_2, if_neg s_3, if_neg s_4, if_neg s_5, if_neg s_6, if_pos s_7]) d_Sy_count_95
  by_cases s_8 : x = 8
  · skip
    refine W.eq (g2 := F0 m 1 ls [.int 8]) (by rw [s_8]) ?_
    refine lv_tableIn (x := 8) (off := 95) (tgt := 96) hx hb d_Sy_count_1 (by decide) (by decide) (by decide) (by decide) ?_
    refine lv_aload_n hx hb d_Sy_count_96 rfl (lv_at hl 0 rfl) ?_
    refine q_get C0 hP (kd := 0) (i := 0) (ci := 0) (by decide) (by decide) rfl rfl 11 (by decide) rfl k_fl_Sy_90 rfl d_Sy_count_97 ?_
    exact rI_i C0 hP hS (⟨by decide, by decide⟩) (by unfold sCount cntF; rw [if_neg s_0, if_neg s_1, if_neg s_2, if_neg s_3, if_neg s_4, if_neg s_5, if_neg s_6, if_neg s_7, if_pos s_8]) d_Sy_count_100
  by_cases s_9 : x = 9
  · skip
    refine W.eq (g2 := F0 m 1 ls [.int 9]) (by rw [s_9]) ?_
    refine lv_tableIn (x := 9) (off := 100) (tgt := 101) hx hb d_Sy_count_1 (by decide) (by decide) (by decide) (by decide) ?_
    refine lv_aload_n hx hb d_Sy_count_101 rfl (lv_at hl 0 rfl) ?_
    refine cs_PI C0 hP hS (cs_V C0 hP (kd := 0) (i := 0) (ci := 0) (As := []) (by decide) (by decide) rfl rfl k_ml_Sy_227 k_im_Sy_contractsMade k_sl_Sy_Sy_contractsMade k_cd_Sy_contractsMade k_in_Sy z_Sy_contractsMade rfl d_Sy_count_102) (c_Sy_contractsMade hlt) hl.1 d_Sy_count_102 (Nat.le_of_ble_eq_true rfl) (⟨by decide, by decide⟩) (⟨by decide, by decide⟩) (fun k r hk hp => absurd hp.1 hk) (fun r_12 h_11 => ?_)
    obtain ⟨-, rfl⟩ := h_11
    exact rI_i C0 hP hS (⟨by decide, by decide⟩) (by unfold sCount cntF; rw [if_neg s_0, if_neg s_1, if_neg s_2, if_neg s_3, if_neg s_4, if_neg s_5, if_neg s_6, if_neg s_7, if_neg s_8, if_pos s_9]) d_Sy_count_105
  have t_0 : x.toInt ≠ 0 := by have h9 := ne_toInt s_0; rwa [show (0 : Int32).toInt = 0 from by decide] at h9
  have t_1 : x.toInt ≠ 1 := by have h9 := ne_toInt s_1; rwa [show (1 : Int32).toInt = 1 from by decide] at h9
  have t_2 : x.toInt ≠ 2 := by have h9 := ne_toInt s_2; rwa [show (2 : Int32).toInt = 2 from by decide] at h9
  have t_3 : x.toInt ≠ 3 := by have h9 := ne_toInt s_3; rwa [show (3 : Int32).toInt = 3 from by decide] at h9
  have t_4 : x.toInt ≠ 4 := by have h9 := ne_toInt s_4; rwa [show (4 : Int32).toInt = 4 from by decide] at h9
  have t_5 : x.toInt ≠ 5 := by have h9 := ne_toInt s_5; rwa [show (5 : Int32).toInt = 5 from by decide] at h9
  have t_6 : x.toInt ≠ 6 := by have h9 := ne_toInt s_6; rwa [show (6 : Int32).toInt = 6 from by decide] at h9
  have t_7 : x.toInt ≠ 7 := by have h9 := ne_toInt s_7; rwa [show (7 : Int32).toInt = 7 from by decide] at h9
  have t_8 : x.toInt ≠ 8 := by have h9 := ne_toInt s_8; rwa [show (8 : Int32).toInt = 8 from by decide] at h9
  have t_9 : x.toInt ≠ 9 := by have h9 := ne_toInt s_9; rwa [show (9 : Int32).toInt = 9 from by decide] at h9
  refine lv_tableOut (tgt := 106) hx hb d_Sy_count_1 (by omega) (by decide) ?_
  refine lv_iconst (v := (-1)) hx hb d_Sy_count_106 (by decide) ?_
  exact rI_i C0 hP hS (⟨by decide, by decide⟩) (by unfold sCount cntF; rw [if_neg s_0, if_neg s_1, if_neg s_2, if_neg s_3, if_neg s_4, if_neg s_5, if_neg s_6, if_neg s_7, if_neg s_8, if_neg s_9]) d_Sy_count_107
set_option maxHeartbeats 4000000 in
set_option maxRecDepth 100000 in
theorem c_Sy_open {S0 : State} {A0 : Array Value} {D : va_G} {ar : Nat → ClassId} {base : Nat} {σ : Mem} {l : Launch} (hlt : l.stackTraces = false) {p0 q0 k0 : Int32} (hcw : CW σ) :
    MX l y_Sy_open [Cond.code y_Sy_open b_Sy_open 5 (some .int)] (rmK) (PS S0 A0 D ar base σ [.ref (base + ad 0 0), .int p0, .int q0, .int k0]) (QI D ar base (fun k r σ' => (k, r, σ') = sOpenC σ p0 q0 k0)) (inB base 122) := by
  refine cx_head hlt (by decide +kernel) (Nat.le_of_ble_eq_true rfl) ?_
  intro p ev s m below meth c ls C0 hP hl
  have C0 : Cx S0 A0 D ar base p l s m _ meth c R_Sy b_Sy_open 5 (some .int) := C0
  obtain ⟨hx, hb, -⟩ := id C0
  have hl : lv_has ls 5 [(0, .ref (base + ad 0 0)), (1, .int p0), (2, .int q0), (3, .int k0)] := hl
  have hS : va_S (inB base 122) s.heap s.heap [] := va_S.rf
  refine lv_iload_n hx hb d_Sy_open_0 rfl (lv_at hl 1 rfl) ?_
  refine lv_iconst (v := 4) hx hb d_Sy_open_1 (by decide) ?_
  refine cs_PI C0 hP hS (cs_S C0 (As := [.int p0, .int 4]) k_ml_Sy_64 k_st_Sy_needBelow k_cd_Sy_needBelow k_in_Sy z_Sy_needBelow rfl d_Sy_open_2) (c_Sy_needBelow hlt) hl.1 d_Sy_open_2 (Nat.le_of_ble_eq_true rfl) (⟨by decide, by decide⟩) (⟨by decide, by decide⟩) (fun k r hk hp => by obtain ⟨h1, h2⟩ := hp; obtain ⟨hc, h3⟩ := nz_k h2 hk; rw [h3]; unfold sOpenC; rw [if_pos hc]) (fun r_2 h_1 => ?_)
  have g_3 := nz_ok h_1.2
  obtain rfl := h_1.1
  refine lv_iload_n hx hb d_Sy_open_5 rfl (lv_at hl 2 rfl) ?_
  refine lv_iconst (v := 4) hx hb d_Sy_open_6 (by decide) ?_
  refine cs_PI C0 hP hS (cs_S C0 (As := [.int q0, .int 4]) k_ml_Sy_64 k_st_Sy_needBelow k_cd_Sy_needBelow k_in_Sy z_Sy_needBelow rfl d_Sy_open_7) (c_Sy_needBelow hlt) hl.1 d_Sy_open_7 (Nat.le_of_ble_eq_true rfl) (⟨by decide, by decide⟩) (⟨by decide, by decide⟩) (fun k r hk hp => by obtain ⟨h1, h2⟩ := hp; obtain ⟨hc, h3⟩ := nz_k h2 hk; rw [h3]; unfold sOpenC; rw [if_neg g_3, if_pos hc]) (fun r_5 h_4 => ?_)
  have g_6 := nz_ok h_4.2
  obtain rfl := h_4.1
  refine lv_iload_n hx hb d_Sy_open_10 rfl (lv_at hl 3 rfl) ?_
  refine lv_iconst (v := 4) hx hb d_Sy_open_11 (by decide) ?_
  refine cs_PI C0 hP hS (cs_S C0 (As := [.int k0, .int 4]) k_ml_Sy_64 k_st_Sy_needBelow k_cd_Sy_needBelow k_in_Sy z_Sy_needBelow rfl d_Sy_open_12) (c_Sy_needBelow hlt) hl.1 d_Sy_open_12 (Nat.le_of_ble_eq_true rfl) (⟨by decide, by decide⟩) (⟨by decide, by decide⟩) (fun k r hk hp => by obtain ⟨h1, h2⟩ := hp; obtain ⟨hc, h3⟩ := nz_k h2 hk; rw [h3]; unfold sOpenC; rw [if_neg g_3, if_neg g_6, if_pos hc]) (fun r_8 h_7 => ?_)
  have g_9 := nz_ok h_7.2
  obtain rfl := h_7.1
  refine lv_aload_n hx hb d_Sy_open_15 rfl (lv_at hl 0 rfl) ?_
  refine lv_iload_n hx hb d_Sy_open_16 rfl (lv_at hl 1 rfl) ?_
  refine cs_PI C0 hP hS (cs_V C0 hP (kd := 0) (i := 0) (ci := 0) (As := [.int p0]) (by decide) (by decide) rfl rfl k_ml_Sy_86 k_im_Sy_needAlive k_sl_Sy_Sy_needAlive k_cd_Sy_needAlive k_in_Sy z_Sy_needAlive rfl d_Sy_open_17) (c_Sy_needAlive hlt (vin_b (n := 4) g_3)) hl.1 d_Sy_open_17 (Nat.le_of_ble_eq_true rfl) (⟨by decide, by decide⟩) (⟨by decide, by decide⟩) (fun k r hk hp => by obtain ⟨h1, h2⟩ := hp; obtain ⟨hc, h3⟩ := nz_k h2 hk; rw [h3]; unfold sOpenC; rw [if_neg g_3, if_neg g_6, if_neg g_9, if_pos hc]) (fun r_11 h_10 => ?_)
  have g_12 := nz_ok h_10.2
  obtain rfl := h_10.1
  refine lv_aload_n hx hb d_Sy_open_20 rfl (lv_at hl 0 rfl) ?_
  refine lv_iload_n hx hb d_Sy_open_21 rfl (lv_at hl 2 rfl) ?_
  refine cs_PI C0 hP hS (cs_V C0 hP (kd := 0) (i := 0) (ci := 0) (As := [.int q0]) (by decide) (by decide) rfl rfl k_ml_Sy_86 k_im_Sy_needAlive k_sl_Sy_Sy_needAlive k_cd_Sy_needAlive k_in_Sy z_Sy_needAlive rfl d_Sy_open_22) (c_Sy_needAlive hlt (vin_b (n := 4) g_6)) hl.1 d_Sy_open_22 (Nat.le_of_ble_eq_true rfl) (⟨by decide, by decide⟩) (⟨by decide, by decide⟩) (fun k r hk hp => by obtain ⟨h1, h2⟩ := hp; obtain ⟨hc, h3⟩ := nz_k h2 hk; rw [h3]; unfold sOpenC; rw [if_neg g_3, if_neg g_6, if_neg g_9, if_neg g_12, if_pos hc]) (fun r_14 h_13 => ?_)
  have g_15 := nz_ok h_13.2
  obtain rfl := h_13.1
  refine lv_aload_n hx hb d_Sy_open_25 rfl (lv_at hl 0 rfl) ?_
  refine q_get C0 hP (kd := 0) (i := 0) (ci := 0) (by decide) (by decide) rfl rfl 3 (by decide) rfl k_fl_Sy_20 rfl d_Sy_open_26 ?_
  refine lv_iload_n hx hb d_Sy_open_29 rfl (lv_at hl 3 rfl) ?_
  refine q_aald C0 hP (kd := 2) (i := 0) (t0 := 3) (v := base + ad 7 (k0.toNatClampNeg + 1)) (by decide) (by decide) rfl rfl (rfl) (vin_b (n := 4) g_9) d_Sy_open_30 ?_
  refine cs_PI C0 hP hS (cs_V C0 hP (kd := 7) (i := k0.toNatClampNeg + 1) (ci := 1) (As := []) (by decide) (vin_off (vin_b (n := 4) g_9) (by decide)) rfl rfl k_ml_Sy_126 k_im_Co_isNone k_sl_Co_Co_isNone k_cd_Co_isNone k_in_Co z_Co_isNone rfl d_Sy_open_31) (c_Co_isNone hlt (vin_off (vin_b (n := 4) g_9) (by decide))) hl.1 d_Sy_open_31 (Nat.le_of_ble_eq_true rfl) (⟨by decide, by decide⟩) (⟨by decide, by decide⟩) (fun k r hk hp => absurd hp.1 hk) (fun r_17 h_16 => ?_)
  obtain ⟨-, rfl⟩ := h_16
  refine lv_if_eq (tgt := 47) hx hb d_Sy_open_34 (by decide) (fun c_34 => ?_) (fun c_34 => ?_)
  · skip
    have c_34 := b2i_z.mp c_34
    refine lv_aload_n hx hb d_Sy_open_47 rfl (lv_at hl 0 rfl) ?_
    refine cs_PI C0 hP hS (cs_V C0 hP (kd := 0) (i := 0) (ci := 0) (As := []) (by decide) (by decide) rfl rfl k_ml_Sy_134 k_im_Sy_leastFreeChannel k_sl_Sy_Sy_leastFreeChannel k_cd_Sy_leastFreeChannel k_in_Sy z_Sy_leastFreeChannel rfl d_Sy_open_48) (c_Sy_leastFreeChannel hlt) hl.1 d_Sy_open_48 (Nat.le_of_ble_eq_true rfl) (⟨by decide, by decide⟩) (⟨by decide, by decide⟩) (fun k r hk hp => absurd hp.1 hk) (fun r_19 h_18 => ?_)
    obtain ⟨-, cc, rfl, hcc⟩ := h_18
    have hc6 := hcc.1
    have hce := LFC_eq hcc
    subst hce
    refine lv_istore (lv' := [(4, .int (nI (lfc σ))), (0, .ref (base + ad 0 0)), (1, .int p0), (2, .int q0), (3, .int k0)]) hx hb d_Sy_open_51 hl (by decide) rfl (fun ls hl => ?_)
    refine lv_iload hx hb d_Sy_open_53 (lv_at hl 0 rfl) ?_
    refine lv_bipush (v := 6) hx hb d_Sy_open_55 (by decide) ?_
    refine lv_icmp_ne (tgt := 70) hx hb d_Sy_open_57 (by decide) (fun c_57 => ?_) (fun c_57 => ?_)
    · skip
      have hc5 : lfc σ < 6 := Nat.lt_of_le_of_ne hc6 (fun h9 => c_57 (by rw [h9]; decide))
      refine lv_aload_n hx hb d_Sy_open_70 rfl (lv_at hl 1 rfl) ?_
      refine q_get C0 hP (kd := 0) (i := 0) (ci := 0) (by decide) (by decide) rfl rfl 6 (by decide) rfl k_fl_Sy_35 rfl d_Sy_open_71 ?_
      refine lv_iload hx hb d_Sy_open_74 (lv_at hl 0 rfl) ?_
      refine q_aald C0 hP (kd := 5) (i := 0) (t0 := 3) (v := base + ad 7 ((lfc σ) + 5)) (by decide) (by decide) rfl rfl (by rw [nI_clamp (by omega)]) (vin_nI hc5) d_Sy_open_76 ?_
      refine lv_aload_n hx hb d_Sy_open_77 rfl (lv_at hl 1 rfl) ?_
      refine q_get C0 hP (kd := 0) (i := 0) (ci := 0) (by decide) (by decide) rfl rfl 3 (by decide) rfl k_fl_Sy_20 rfl d_Sy_open_78 ?_
      refine lv_iload_n hx hb d_Sy_open_81 rfl (lv_at hl 4 rfl) ?_
      refine q_aald C0 hP (kd := 2) (i := 0) (t0 := 3) (v := base + ad 7 (k0.toNatClampNeg + 1)) (by decide) (by decide) rfl rfl (rfl) (vin_b (n := 4) g_9) d_Sy_open_82 ?_
      refine cs_I C0 hP hS (cs_V C0 hP (kd := 7) (i := (lfc σ) + 5) (ci := 1) (As := [.ref (base + ad 7 (k0.toNatClampNeg + 1))]) (by decide) (show lfc σ + 5 < 11 by omega) rfl rfl k_ml_Sy_77 k_im_Co_become k_sl_Co_Co_become k_cd_Co_become k_in_Co z_Co_become rfl d_Sy_open_83) (c_Co_become hlt (c0 := lfc σ + 5) (d0 := k0.toNatClampNeg + 1) (by omega) (vin_off (vin_b (n := 4) g_9) (by decide)) (by have := vin_lt (vin_b (n := 4) g_9); omega) (hcw.at (vin_off (vin_b (n := 4) g_9) (by decide))) (hcw.le (vin_off (vin_b (n := 4) g_9) (by decide)))) (fun k r σ h => h.1) ⟨rfl, rfl⟩ hl.1 d_Sy_open_83 (Nat.le_of_ble_eq_true rfl) (⟨by decide, by decide⟩) (⟨by decide, by decide⟩) (fun r_21 σ_22 H locs h_20 hP hS => ?_)
      obtain ⟨-, rfl, rfl⟩ := h_20
      refine lv_aload_n hx hb d_Sy_open_86 rfl (lv_at hl 1 rfl) ?_
      refine q_get C0 hP (kd := 0) (i := 0) (ci := 0) (by decide) (by decide) rfl rfl 7 (by decide) rfl k_fl_Sy_40 rfl d_Sy_open_87 ?_
      refine lv_iconst (v := 2) hx hb d_Sy_open_90 (by decide) ?_
      refine lv_iload hx hb d_Sy_open_91 (lv_at hl 0 rfl) ?_
      refine lv_imul hx hb d_Sy_open_93 ?_
      rw [show (2 * (nI (lfc σ)) : Int32) = nI (2 * lfc σ) from two_nI _]
      refine q_aald C0 hP (kd := 6) (i := 0) (t0 := 5) (v := base + ad 14 (2 * lfc σ)) (by decide) (by decide) rfl rfl (by rw [nI_clamp (by omega)]) (vin_nI (by omega)) d_Sy_open_94 ?_
      refine lv_iload_n hx hb d_Sy_open_95 rfl (lv_at hl 2 rfl) ?_
      refine cs_I C0 hP hS (cs_V C0 hP (kd := 14) (i := (2 * lfc σ)) (ci := 3) (As := [.int p0]) (by decide) (show 2 * lfc σ < 12 by omega) rfl rfl k_ml_Sy_139 k_im_En_begin k_sl_En_En_begin k_cd_En_begin k_in_En z_En_begin rfl d_Sy_open_96) (c_En_begin hlt (show 2 * lfc σ < 12 by omega)) (fun k r σ h => h.1) ⟨rfl, rfl⟩ hl.1 d_Sy_open_96 (Nat.le_of_ble_eq_true rfl) (⟨by decide, by decide⟩) (⟨by decide, by decide⟩) (fun r_24 σ_25 H locs h_23 hP hS => ?_)
      obtain ⟨-, rfl, rfl⟩ := h_23
      refine lv_aload_n hx hb d_Sy_open_99 rfl (lv_at hl 1 rfl) ?_
      refine q_get C0 hP (kd := 0) (i := 0) (ci := 0) (by decide) (by decide) rfl rfl 7 (by decide) rfl k_fl_Sy_40 rfl d_Sy_open_100 ?_
      refine lv_iconst (v := 2) hx hb d_Sy_open_103 (by decide) ?_
      refine lv_iload hx hb d_Sy_open_104 (lv_at hl 0 rfl) ?_
      refine lv_imul hx hb d_Sy_open_106 ?_
      rw [show (2 * (nI (lfc σ)) : Int32) = nI (2 * lfc σ) from two_nI _]
      refine lv_iconst (v := 1) hx hb d_Sy_open_107 (by decide) ?_
      refine lv_iadd hx hb d_Sy_open_108 ?_
      rw [show ((nI (2 * lfc σ)) + 1 : Int32) = nI (2 * lfc σ + 1) from nI_1 _]
      refine q_aald C0 hP (kd := 6) (i := 0) (t0 := 5) (v := base + ad 14 (2 * lfc σ + 1)) (by decide) (by decide) rfl rfl (by rw [nI_clamp (by omega)]) (vin_nI (by omega)) d_Sy_open_109 ?_
      refine lv_iload_n hx hb d_Sy_open_110 rfl (lv_at hl 3 rfl) ?_
      refine cs_I C0 hP hS (cs_V C0 hP (kd := 14) (i := (2 * lfc σ + 1)) (ci := 3) (As := [.int q0]) (by decide) (show 2 * lfc σ + 1 < 12 by omega) rfl rfl k_ml_Sy_139 k_im_En_begin k_sl_En_En_begin k_cd_En_begin k_in_En z_En_begin rfl d_Sy_open_111) (c_En_begin hlt (show 2 * lfc σ + 1 < 12 by omega)) (fun k r σ h => h.1) ⟨rfl, rfl⟩ hl.1 d_Sy_open_111 (Nat.le_of_ble_eq_true rfl) (⟨by decide, by decide⟩) (⟨by decide, by decide⟩) (fun r_27 σ_28 H locs h_26 hP hS => ?_)
      obtain ⟨-, rfl, rfl⟩ := h_26
      refine lv_iload hx hb d_Sy_open_114 (lv_at hl 0 rfl) ?_
      exact rI_i C0 hP hS (⟨by decide, by decide⟩) (by unfold sOpenC; rw [if_neg g_3, if_neg g_6, if_neg g_9, if_neg g_12, if_neg g_15, if_neg c_34, if_neg c_57]; first | done | rfl) d_Sy_open_116
    · skip
      exact tI_4 C0 hP hS k_sr_Sy_137 xs_137 hl.1 d_Sy_open_60 d_Sy_open_63 d_Sy_open_64 d_Sy_open_66 d_Sy_open_69 (by decide) (by decide) (⟨by decide, by decide⟩) (by unfold sOpenC; rw [if_neg g_3, if_neg g_6, if_neg g_9, if_neg g_12, if_neg g_15, if_neg c_34, if_pos c_57]; first | done | rfl)
  · skip
    have c_34 := b2i_ne.mp c_34
    exact tI_3 C0 hP hS k_sr_Sy_131 xs_131 hl.1 d_Sy_open_37 d_Sy_open_40 d_Sy_open_41 d_Sy_open_43 d_Sy_open_46 (by decide) (by decide) (⟨by decide, by decide⟩) (by unfold sOpenC; rw [if_neg g_3, if_neg g_6, if_neg g_9, if_neg g_12, if_neg g_15, if_pos c_34]; first | done | rfl)
set_option maxHeartbeats 4000000 in
set_option maxRecDepth 100000 in
theorem c_Sy_hear {S0 : State} {A0 : Array Value} {D : va_G} {ar : Nat → ClassId} {base : Nat} {σ : Mem} {l : Launch} (hlt : l.stackTraces = false) {q x : Int32} (hqw : QW σ) (hcw : CW σ) :
    MX l y_Sy_hear [Cond.code y_Sy_hear b_Sy_hear 7 (some .int)] (rmK) (PS S0 A0 D ar base σ [.ref (base + ad 0 0), .int q, .int x]) (QI D ar base (fun k r σ' => (k, r, σ') = sHear σ q x)) (inB base 122) := by
  refine cx_head hlt (by decide +kernel) (Nat.le_of_ble_eq_true rfl) ?_
  intro p ev s m below meth c ls C0 hP hl
  have C0 : Cx S0 A0 D ar base p l s m _ meth c R_Sy b_Sy_hear 7 (some .int) := C0
  obtain ⟨hx, hb, -⟩ := id C0
  have hl : lv_has ls 7 [(0, .ref (base + ad 0 0)), (1, .int q), (2, .int x)] := hl
  have hS : va_S (inB base 122) s.heap s.heap [] := va_S.rf
  refine lv_aload_n hx hb d_Sy_hear_0 rfl (lv_at hl 0 rfl) ?_
  refine lv_iload_n hx hb d_Sy_hear_1 rfl (lv_at hl 1 rfl) ?_
  refine lv_iload_n hx hb d_Sy_hear_2 rfl (lv_at hl 2 rfl) ?_
  refine cs_PI C0 hP hS (cs_V C0 hP (kd := 0) (i := 0) (ci := 0) (As := [.int q, .int x]) (by decide) (by decide) rfl rfl k_ml_Sy_149 k_im_Sy_needOwnEnd k_sl_Sy_Sy_needOwnEnd k_cd_Sy_needOwnEnd k_in_Sy z_Sy_needOwnEnd rfl d_Sy_hear_3) (c_Sy_needOwnEnd hlt) hl.1 d_Sy_hear_3 (Nat.le_of_ble_eq_true rfl) (⟨by decide, by decide⟩) (⟨by decide, by decide⟩) (fun k r hk hp => by obtain ⟨h1, h2⟩ := hp; rw [h2] at hk; rw [h2]; unfold sHear; rw [if_neg hk]) (fun r_2 h_1 => ?_)
  have g_3 := h_1.2.symm
  obtain rfl := h_1.1
  have hx12 := (kOwnE_0 g_3).2.1
  have hw1 := hqw.at (vin_lt hx12)
  have hw3 := hqw.le (vin_lt hx12)
  refine lv_aload_n hx hb d_Sy_hear_6 rfl (lv_at hl 0 rfl) ?_
  refine q_get C0 hP (kd := 0) (i := 0) (ci := 0) (by decide) (by decide) rfl rfl 7 (by decide) rfl k_fl_Sy_40 rfl d_Sy_hear_7 ?_
  refine lv_iload_n hx hb d_Sy_hear_10 rfl (lv_at hl 2 rfl) ?_
  refine q_aald C0 hP (kd := 6) (i := 0) (t0 := 5) (v := base + ad 14 x.toNatClampNeg) (by decide) (by decide) rfl rfl (rfl) (hx12) d_Sy_hear_11 ?_
  refine lv_astore_n (lv' := [(3, .ref (base + ad 14 x.toNatClampNeg)), (0, .ref (base + ad 0 0)), (1, .int q), (2, .int x)]) hx hb d_Sy_hear_12 rfl hl (by decide) rfl (fun ls hl => ?_)
  refine lv_aload_n hx hb d_Sy_hear_13 rfl (lv_at hl 0 rfl) ?_
  refine q_getN C0 hP (kd := 14) (i := x.toNatClampNeg) (ci := 3) (by decide) (vin_lt (hx12)) rfl rfl 4 (by decide) rfl k_fn_Sy_178 rfl d_Sy_hear_14 ?_
  refine lv_if_ne (tgt := 30) hx hb d_Sy_hear_17 (by decide) (fun c_17 => ?_) (fun c_17 => ?_)
  · skip
    have hw0 : 0 < wtE σ x.toNatClampNeg := Nat.pos_of_ne_zero (fun h9 => c_17 (by rw [hw1, h9]; decide))
    refine lv_aload_n hx hb d_Sy_hear_30 rfl (lv_at hl 0 rfl) ?_
    refine q_getN C0 hP (kd := 14) (i := x.toNatClampNeg) (ci := 3) (by decide) (vin_lt (hx12)) rfl rfl 0 (by decide) rfl k_fn_Sy_197 rfl d_Sy_hear_31 ?_
    refine lv_iconst (v := 0) hx hb d_Sy_hear_34 (by decide) ?_
    refine q_iald C0 hP (kd := 15) (i := x.toNatClampNeg) (by decide) (vin_lt hx12) rfl (by unfold vp_in; decide) d_Sy_hear_35 ?_
    rw [show (0 : Int32).toNatClampNeg = 0 from by decide]
    refine lv_istore (lv' := [(4, .int (σ 14 x.toNatClampNeg 0)), (3, .ref (base + ad 14 x.toNatClampNeg)), (0, .ref (base + ad 0 0)), (1, .int q), (2, .int x)]) hx hb d_Sy_hear_36 hl (by decide) rfl (fun ls hl => ?_)
    refine lv_aload_n hx hb d_Sy_hear_38 rfl (lv_at hl 1 rfl) ?_
    refine q_getN C0 hP (kd := 14) (i := x.toNatClampNeg) (ci := 3) (by decide) (vin_lt (hx12)) rfl rfl 1 (by decide) rfl k_fn_Sy_200 rfl d_Sy_hear_39 ?_
    refine lv_iconst (v := 0) hx hb d_Sy_hear_42 (by decide) ?_
    refine q_iald C0 hP (kd := 16) (i := x.toNatClampNeg) (by decide) (vin_lt hx12) rfl (by unfold vp_in; decide) d_Sy_hear_43 ?_
    rw [show (0 : Int32).toNatClampNeg = 0 from by decide]
    refine lv_istore (lv' := [(5, .int (σ 15 x.toNatClampNeg 0)), (4, .int (σ 14 x.toNatClampNeg 0)), (3, .ref (base + ad 14 x.toNatClampNeg)), (0, .ref (base + ad 0 0)), (1, .int q), (2, .int x)]) hx hb d_Sy_hear_44 hl (by decide) rfl (fun ls hl => ?_)
    refine lv_aload_n hx hb d_Sy_hear_46 rfl (lv_at hl 3 rfl) ?_
    refine q_get C0 hP (kd := 0) (i := 0) (ci := 0) (by decide) (by decide) rfl rfl 6 (by decide) rfl k_fl_Sy_35 rfl d_Sy_hear_47 ?_
    refine lv_iload_n hx hb d_Sy_hear_50 rfl (lv_at hl 5 rfl) ?_
    refine lv_iconst (v := 2) hx hb d_Sy_hear_51 (by decide) ?_
    refine lv_idiv hx hb d_Sy_hear_52 (by decide) ?_
    refine q_aald C0 hP (kd := 5) (i := 0) (t0 := 3) (v := base + ad 7 ((x / 2).toNatClampNeg + 5)) (by decide) (by decide) rfl rfl (rfl) (vin_half hx12) d_Sy_hear_53 ?_
    refine lv_aload_n hx hb d_Sy_hear_54 rfl (lv_at hl 2 rfl) ?_
    refine q_getN C0 hP (kd := 14) (i := x.toNatClampNeg) (ci := 3) (by decide) (vin_lt (hx12)) rfl rfl 3 (by decide) rfl k_fn_Sy_152 rfl d_Sy_hear_55 ?_
    refine lv_iload hx hb d_Sy_hear_58 (lv_at hl 1 rfl) ?_
    refine lv_iload_n hx hb d_Sy_hear_60 rfl (lv_at hl 5 rfl) ?_
    refine cs_PI C0 hP hS (cs_S C0 (As := [.int x]) k_ml_Sy_170 k_st_Sy_otherEnd k_cd_Sy_otherEnd k_in_Sy z_Sy_otherEnd rfl d_Sy_hear_61) (c_Sy_otherEnd hlt) hl.1 d_Sy_hear_61 (Nat.le_of_ble_eq_true rfl) (⟨by decide, by decide⟩) (⟨by decide, by decide⟩) (fun k r hk hp => absurd hp.1 hk) (fun r_5 h_4 => ?_)
    obtain ⟨-, rfl⟩ := h_4
    refine cs_PI C0 hP hS (cs_S C0 (As := [.int (x ^^^ 1)]) k_ml_Sy_155 k_st_Sy_sideOf k_cd_Sy_sideOf k_in_Sy z_Sy_sideOf rfl d_Sy_hear_64) (c_Sy_sideOf hlt) hl.1 d_Sy_hear_64 (Nat.le_of_ble_eq_true rfl) (⟨by decide, by decide⟩) (⟨by decide, by decide⟩) (fun k r hk hp => absurd hp.1 hk) (fun r_7 h_6 => ?_)
    obtain ⟨-, rfl⟩ := h_6
    refine cs_PI C0 hP hS (cs_V C0 hP (kd := 7) (i := (x / 2).toNatClampNeg + 5) (ci := 1) (As := [.int (σ 12 x.toNatClampNeg 0), .int (σ 14 x.toNatClampNeg 0), .int ((x ^^^ 1) &&& 1)]) (by decide) (vin_off (vin_half hx12) (by decide)) rfl rfl k_ml_Sy_159 k_im_Co_stateBehind k_sl_Co_Co_stateBehind k_cd_Co_stateBehind k_in_Co z_Co_stateBehind rfl d_Sy_hear_67) (c_Co_stateBehind hlt (c0 := (x / 2).toNatClampNeg + 5) (vin_off (vin_half hx12) (by decide)) (hcw.at (vin_off (vin_half hx12) (by decide))) (hcw.le (vin_off (vin_half hx12) (by decide)))) hl.1 d_Sy_hear_67 (Nat.le_of_ble_eq_true rfl) (⟨by decide, by decide⟩) (⟨by decide, by decide⟩) (fun k r hk hp => absurd hp.1 hk) (fun r_9 h_8 => ?_)
    obtain ⟨-, nx, rfl, hnx⟩ := h_8
    have hne := NXT_eq hnx
    replace hne : nx = heN σ x := hne
    subst hne
    refine lv_istore (lv' := [(6, .int (heN σ x)), (5, .int (σ 15 x.toNatClampNeg 0)), (4, .int (σ 14 x.toNatClampNeg 0)), (3, .ref (base + ad 14 x.toNatClampNeg)), (0, .ref (base + ad 0 0)), (1, .int q), (2, .int x)]) hx hb d_Sy_hear_70 hl (by decide) rfl (fun ls hl => ?_)
    refine lv_iload hx hb d_Sy_hear_72 (lv_at hl 0 rfl) ?_
    refine cs_PI C0 hP hS (cs_S C0 (As := [.int (heN σ x)]) k_ml_Sy_163 k_st_Sy_needAllowed k_cd_Sy_needAllowed k_in_Sy z_Sy_needAllowed rfl d_Sy_hear_74) (c_Sy_needAllowed hlt) hl.1 d_Sy_hear_74 (Nat.le_of_ble_eq_true rfl) (⟨by decide, by decide⟩) (⟨by decide, by decide⟩) (fun k r hk hp => by obtain ⟨h1, h2⟩ := hp; obtain ⟨hc, h3⟩ := nz_k h2 hk; rw [h3]; unfold sHear; rw [if_pos g_3, if_neg c_17, if_pos hc]) (fun r_11 h_10 => ?_)
    have g_12 := nz_ok h_10.2
    obtain rfl := h_10.1
    refine lv_aload_n hx hb d_Sy_hear_77 rfl (lv_at hl 3 rfl) ?_
    refine lv_iload hx hb d_Sy_hear_78 (lv_at hl 0 rfl) ?_
    refine q_putN C0 hP hS (kd := 14) (i := x.toNatClampNeg) (ci := 3) 12 0 (by decide) rfl (vin_lt (hx12)) rfl rfl t_En t_En_ok n_En 3 (by decide) rfl k_fn_Sy_152 rfl (by decide +kernel) (Nat.le_of_ble_eq_true rfl) (by simp [cont, up]) d_Sy_hear_80 (fun H locs hP hS => ?_)
    refine lv_aload_n hx hb d_Sy_hear_83 rfl (lv_at hl 3 rfl) ?_
    refine cs_I C0 hP hS (cs_V C0 hP (kd := 14) (i := x.toNatClampNeg) (ci := 3) (As := []) (by decide) (vin_lt (hx12)) rfl rfl k_ml_Sy_203 k_im_En_removeFirst k_sl_En_En_removeFirst k_cd_En_removeFirst k_in_En z_En_removeFirst rfl d_Sy_hear_84) (c_En_removeFirst hlt (e0 := x.toNatClampNeg) (vin_lt hx12) (wt := wtE σ x.toNatClampNeg) (by simp [up]; exact hw1) hw3 hw0) (fun k r σ h => h.1) ⟨rfl, rfl⟩ hl.1 d_Sy_hear_84 (Nat.le_of_ble_eq_true rfl) (⟨by decide, by decide⟩) (⟨by decide, by decide⟩) (fun r_14 σ_15 H locs h_13 hP hS => ?_)
    obtain ⟨-, rfl, rfl⟩ := h_13
    refine lv_aload_n hx hb d_Sy_hear_87 rfl (lv_at hl 4 rfl) ?_
    refine lv_iload hx hb d_Sy_hear_88 (lv_at hl 2 rfl) ?_
    refine lv_iload hx hb d_Sy_hear_90 (lv_at hl 1 rfl) ?_
    refine lv_iload_n hx hb d_Sy_hear_92 rfl (lv_at hl 5 rfl) ?_
    refine cs_I C0 hP hS (cs_V C0 hP (kd := 0) (i := 0) (ci := 0) (As := [.int (σ 14 x.toNatClampNeg 0), .int (σ 15 x.toNatClampNeg 0), .int q]) (by decide) (by decide) rfl rfl k_ml_Sy_186 k_im_Sy_giveLoad k_sl_Sy_Sy_giveLoad k_cd_Sy_giveLoad k_in_Sy z_Sy_giveLoad rfl d_Sy_hear_93) (c_Sy_giveLoad hlt (hqw.ld (vin_lt hx12) hw0)) (fun k r σ h => h.1) ⟨rfl, rfl⟩ hl.1 d_Sy_hear_93 (Nat.le_of_ble_eq_true rfl) (⟨by decide, by decide⟩) (⟨by decide, by decide⟩) (fun r_17 σ_18 H locs h_16 hP hS => ?_)
    obtain ⟨-, rfl, rfl⟩ := h_16
    refine lv_aload_n hx hb d_Sy_hear_96 rfl (lv_at hl 4 rfl) ?_
    refine lv_dup hx hb d_Sy_hear_97 rfl ?_
    refine q_get C0 hP (kd := 0) (i := 0) (ci := 0) (by decide) (by decide) rfl rfl 9 (by decide) rfl k_fl_Sy_206 rfl d_Sy_hear_98 ?_
    refine lv_iconst (v := 1) hx hb d_Sy_hear_101 (by decide) ?_
    refine lv_iadd hx hb d_Sy_hear_102 ?_
    refine q_put C0 hP hS (kd := 0) (i := 0) (ci := 0) 0 2 (by decide) rfl (by decide) rfl rfl t_Sy t_Sy_ok n_Sy 9 (by decide) rfl k_fl_Sy_206 rfl (by decide +kernel) (Nat.le_of_ble_eq_true rfl) (by simp [cont, up]) d_Sy_hear_103 (fun H locs hP hS => ?_)
    refine lv_bipush (v := 16) hx hb d_Sy_hear_106 (by decide) ?_
    refine lv_iload hx hb d_Sy_hear_108 (lv_at hl 2 rfl) ?_
    refine lv_imul hx hb d_Sy_hear_110 ?_
    refine lv_iload hx hb d_Sy_hear_111 (lv_at hl 1 rfl) ?_
    refine lv_bipush (v := 15) hx hb d_Sy_hear_113 (by decide) ?_
    refine lv_iand hx hb d_Sy_hear_115 ?_
    refine lv_iadd hx hb d_Sy_hear_116 ?_
    exact rI_i C0 hP hS (⟨by decide, by decide⟩) (by unfold sHear; rw [if_pos g_3, if_neg c_17, if_neg g_12]; first | done | rfl) d_Sy_hear_117
  · skip
    exact tI_3 C0 hP hS k_sr_Sy_195 xs_195 hl.1 d_Sy_hear_20 d_Sy_hear_23 d_Sy_hear_24 d_Sy_hear_26 d_Sy_hear_29 (by decide) (by decide) (⟨by decide, by decide⟩) (by unfold sHear; rw [if_pos g_3, if_pos c_17]; first | done | rfl)
