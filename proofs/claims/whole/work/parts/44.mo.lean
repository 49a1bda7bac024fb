/-! The model's rules in use: laid by gen/m44.py. -/
def MU (σ : Mem) : Prop := ∀ c, c < 6 → ∃ n : Nat, n ≤ 9 ∧ σ 5 0 c = nI n
theorem ix36 {c k : Nat} : nI c * 36 + nI k * 4 = nI (36 * c + 4 * k) := by
  rw [show (36 : Int32) = nI 36 from by decide, show (4 : Int32) = nI 4 from by decide, pk_mul, pk_mul, nI_aj, Nat.mul_comm c, Nat.mul_comm k]
abbrev mAt (σ : Mem) (x lt sd : Int32) (j : Nat) : Prop := σ 4 0 (36 * (x / 2).toNatClampNeg + 4 * j) = σ 11 0 x.toNatClampNeg ∧ σ 4 0 (36 * (x / 2).toNatClampNeg + 4 * j + 1) = lt ∧ σ 4 0 (36 * (x / 2).toNatClampNeg + 4 * j + 2) = sd
def mSz (σ : Mem) (x : Int32) : Nat := (σ 5 0 (x / 2).toNatClampNeg).toNatClampNeg
def mFi (σ : Mem) (x lt sd : Int32) : Nat := firstF (mAt σ x lt sd) (mSz σ x) 0
def mNx (σ : Mem) (x lt sd : Int32) : Int32 := σ 4 0 (36 * (x / 2).toNatClampNeg + 4 * mFi σ x lt sd + 3)
def mLets (σ : Mem) (x lt sd : Int32) : Int32 × Mem := if mFi σ x lt sd < mSz σ x then (1, up σ 0 0 8 (mNx σ x lt sd)) else (0, σ)
theorem nI_back {x : Int32} {n : Nat} (h : vp_in x n) (hn : n < 2 ^ 31 := by decide) : x = nI x.toNatClampNeg := by
  obtain ⟨j, hj, hje⟩ := vp_in_of h hn
  rw [hje, nI_clamp (by omega)]
theorem mLets_0 {σ : Mem} {x lt sd : Int32} (h : (mLets σ x lt sd).1 = 0) : (mLets σ x lt sd).2 = σ := by
  unfold mLets at h ⊢
  split at h
  · exact absurd h (show ¬ (1 : Int32) = 0 by decide)
  · rename_i h1; rw [if_neg h1]
theorem mLets_1 {σ : Mem} {x lt sd : Int32} (h : ¬ (mLets σ x lt sd).1 = 0) : (mLets σ x lt sd).2 = up σ 0 0 8 (mNx σ x lt sd) := by
  unfold mLets at h ⊢
  split at h
  · rename_i h1; rw [if_pos h1]
  · exact absurd rfl h
set_option maxHeartbeats 4000000 in
set_option maxRecDepth 100000 in
theorem c_Mo_lets {S0 : State} {A0 : Array Value} {D : va_G} {ar : Nat → ClassId} {base : Nat} {σ : Mem} {l : Launch} (hlt : l.stackTraces = false) {x lt sd : Int32} (hx0 : vp_in x 12) (hmu : MU σ) :
    MX l y_Mo_lets [Cond.code y_Mo_lets b_Mo_lets 7 (some .boolean)] (rmL 0) (PO S0 A0 D ar base σ [.ref (base + adm 0 0), .int x, .int lt, .int sd]) (QO D ar base (fun k r σ' => k = 0 ∧ r = some (mLets σ x lt sd).1 ∧ σ' = (mLets σ x lt sd).2)) (inB base 16) := by
  refine mx_head hlt (by decide +kernel) (Nat.le_of_ble_eq_true rfl) ?_
  intro p ev s m below meth c ls C0 hP hl
  have C0 : Cx S0 A0 D ar base p l s m _ meth c R_Mo b_Mo_lets 7 (some .boolean) := C0
  obtain ⟨hx, hb, -⟩ := id C0
  have hl : lv_has ls 7 [(0, .ref (base + adm 0 0)), (1, .int x), (2, .int lt), (3, .int sd)] := hl
  have hS : va_S (inB base 16) s.heap s.heap [] := va_S.rf
  have hc6 : (x / 2).toNatClampNeg < 6 := vin_lt (vin_half hx0)
  obtain ⟨u, hu9, hu⟩ := hmu _ hc6
  have hus : mSz σ x = u := by unfold mSz; rw [hu, nI_clamp (by omega)]
  refine lv_iload_n hx hb d_Mo_lets_0 rfl (lv_at hl 1 rfl) ?_
  refine lv_iconst (v := 2) hx hb d_Mo_lets_1 (by decide) ?_
  refine lv_idiv hx hb d_Mo_lets_2 (by decide) ?_
  rw [show (x / 2 : Int32) = nI ((x / 2).toNatClampNeg) from nI_back (vin_half hx0)]
  refine lv_istore (lv' := [(4, .int (nI ((x / 2).toNatClampNeg))), (0, .ref (base + adm 0 0)), (1, .int x), (2, .int lt), (3, .int sd)]) hx hb d_Mo_lets_3 hl (by decide) rfl (fun ls hl => ?_)
  refine lv_iconst (v := 0) hx hb d_Mo_lets_5 (by decide) ?_
  rw [show (0 : Int32) = nI 0 from by decide]
  refine lv_istore (lv' := [(5, .int (nI 0)), (4, .int (nI ((x / 2).toNatClampNeg))), (0, .ref (base + adm 0 0)), (1, .int x), (2, .int lt), (3, .int sd)]) hx hb d_Mo_lets_6 hl (by decide) rfl (fun ls hl => ?_)
  have loop : ∀ (n k : Nat), k ≤ u → u + 1 ≤ k + n → (∀ j, j < k → ¬ mAt σ x lt sd j) → ∀ (H : Heap) (locs : List Loc), va_P D classes (wl base 16 (memo ar base (σ))) H → va_S (inB base 16) s.heap H locs → ∀ ls : Array Slot, lv_has ls 7 [(5, .int (nI k)), (4, .int (nI ((x / 2).toNatClampNeg))), (0, .ref (base + adm 0 0)), (1, .int x), (2, .int lt), (3, .int sd)] → W p l ev (rmL 0) s m ([.ref (base + adm 0 0), .int x, .int lt, .int sd] : List Value).toArray below meth c H locs 0 0 (MQX below (QO D ar base (fun k r σ' => k = 0 ∧ r = some (mLets σ x lt sd).1 ∧ σ' = (mLets σ x lt sd).2)) ([.ref (base + adm 0 0), .int x, .int lt, .int sd] : List Value).toArray s (rmL 0).cells (rmL 0).slots (inB base 16)) (F0 m 8 ls []) := by
    intro n
    induction n with
    | zero => intro k h1 h2; omega
    | succ n ih =>
      intro k hk1 hk2 hinv H locs hP hS ls hl
      refine lv_iload hx hb d_Mo_lets_8 (lv_at hl 0 rfl) ?_
      refine lv_aload_n hx hb d_Mo_lets_10 rfl (lv_at hl 2 rfl) ?_
      refine mq_get C0 hP (kd := 0) (i := 0) (ci := 4) (by decide) (by decide) rfl rfl 4 (by decide) rfl k_fl_Mo_22 rfl d_Mo_lets_11 ?_
      refine lv_iload hx hb d_Mo_lets_14 (lv_at hl 1 rfl) ?_
      refine mq_iald C0 hP (kd := 5) (i := 0) (by decide) (by decide) rfl (vin_nI hc6) d_Mo_lets_16 ?_
      rw [show (nI ((x / 2).toNatClampNeg)).toNatClampNeg = ((x / 2).toNatClampNeg) from nI_clamp (by omega)]
      rw [show ((σ) 5 0 ((x / 2).toNatClampNeg) : Int32) = nI u from hu]
      refine lv_icmp_ge (tgt := 98) hx hb d_Mo_lets_17 (by decide) (fun c_17 => ?_) (fun c_17 => ?_)
      · skip
        have hkN : k = u := by have := (nI_leI (by omega) (by omega)).mp c_17; omega
        refine lv_iconst (v := 0) hx hb d_Mo_lets_98 (by decide) ?_
        exact mrI_z C0 hP hS (⟨by decide, by decide⟩) (Or.inl rfl) (⟨rfl, congrArg some (by unfold mLets mFi; rw [hus, firstF_eq (P := mAt σ x lt sd) (N := u) (b := k) (by omega) hinv (fun z => absurd z (by omega)) u 0 (Nat.zero_add _) (Nat.zero_le _), if_neg (by omega)]; first | done | rfl), by unfold mLets mFi; rw [hus, firstF_eq (P := mAt σ x lt sd) (N := u) (b := k) (by omega) hinv (fun z => absurd z (by omega)) u 0 (Nat.zero_add _) (Nat.zero_le _), if_neg (by omega)]; first | done | rfl⟩) d_Mo_lets_99
      · skip
        have hkN : k < u := Nat.lt_of_not_le fun z => c_17 ((nI_leI (by omega) (by omega)).mpr z)
        refine lv_iload hx hb d_Mo_lets_20 (lv_at hl 1 rfl) ?_
        refine lv_bipush (v := 36) hx hb d_Mo_lets_22 (by decide) ?_
        refine lv_imul hx hb d_Mo_lets_24 ?_
        refine lv_iload hx hb d_Mo_lets_25 (lv_at hl 0 rfl) ?_
        refine lv_iconst (v := 4) hx hb d_Mo_lets_27 (by decide) ?_
        refine lv_imul hx hb d_Mo_lets_28 ?_
        refine lv_iadd hx hb d_Mo_lets_29 ?_
        rw [show (((nI ((x / 2).toNatClampNeg)) * 36) + ((nI k) * 4) : Int32) = nI (36 * (x / 2).toNatClampNeg + 4 * k) from ix36]
        refine lv_istore (lv' := [(6, .int (nI (36 * (x / 2).toNatClampNeg + 4 * k))), (5, .int (nI k)), (4, .int (nI ((x / 2).toNatClampNeg))), (0, .ref (base + adm 0 0)), (1, .int x), (2, .int lt), (3, .int sd)]) hx hb d_Mo_lets_30 hl (by decide) rfl (fun ls hl => ?_)
        refine lv_aload_n hx hb d_Mo_lets_32 rfl (lv_at hl 3 rfl) ?_
        refine mq_get C0 hP (kd := 0) (i := 0) (ci := 4) (by decide) (by decide) rfl rfl 3 (by decide) rfl k_fl_Mo_19 rfl d_Mo_lets_33 ?_
        refine lv_iload hx hb d_Mo_lets_36 (lv_at hl 0 rfl) ?_
        refine mq_iald C0 hP (kd := 4) (i := 0) (by decide) (by decide) rfl (vin_nI (by omega)) d_Mo_lets_38 ?_
        rw [show (nI (36 * (x / 2).toNatClampNeg + 4 * k)).toNatClampNeg = (36 * (x / 2).toNatClampNeg + 4 * k) from nI_clamp (by omega)]
        refine lv_aload_n hx hb d_Mo_lets_39 rfl (lv_at hl 3 rfl) ?_
        refine mq_get C0 hP (kd := 0) (i := 0) (ci := 4) (by decide) (by decide) rfl rfl 10 (by decide) rfl k_fl_Mo_41 rfl d_Mo_lets_40 ?_
        refine lv_iload_n hx hb d_Mo_lets_43 rfl (lv_at hl 4 rfl) ?_
        refine mq_iald C0 hP (kd := 11) (i := 0) (by decide) (by decide) rfl (hx0) d_Mo_lets_44 ?_
        refine lv_icmp_ne (tgt := 92) hx hb d_Mo_lets_45 (by decide) (fun c_45 => ?_) (fun c_45 => ?_)
        · skip
          refine lv_iinc (v := nI (k + 1)) (lv' := [(5, .int (nI (k + 1))), (6, .int (nI (36 * (x / 2).toNatClampNeg + 4 * k))), (4, .int (nI ((x / 2).toNatClampNeg))), (0, .ref (base + adm 0 0)), (1, .int x), (2, .int lt), (3, .int sd)]) hx hb d_Mo_lets_92 hl (k := 1) rfl (by exact nI_1 k) (by decide) rfl (fun ls hl => ?_)
          refine lv_goto (tgt := 8) hx hb d_Mo_lets_95 (by decide) ?_
          rw [show ((σ) : Mem) = σ from rfl] at hP
          exact ih (k + 1) (by omega) (by omega) (lt_s hinv (fun z => c_45 z.1)) _ _ hP hS ls (lv_sub hl [0, 2, 3, 4, 5, 6] rfl)
        · skip
          refine lv_aload_n hx hb d_Mo_lets_48 rfl (lv_at hl 3 rfl) ?_
          refine mq_get C0 hP (kd := 0) (i := 0) (ci := 4) (by decide) (by decide) rfl rfl 3 (by decide) rfl k_fl_Mo_19 rfl d_Mo_lets_49 ?_
          refine lv_iload hx hb d_Mo_lets_52 (lv_at hl 0 rfl) ?_
          refine lv_iconst (v := 1) hx hb d_Mo_lets_54 (by decide) ?_
          refine lv_iadd hx hb d_Mo_lets_55 ?_
          rw [show ((nI (36 * (x / 2).toNatClampNeg + 4 * k)) + 1 : Int32) = nI (36 * (x / 2).toNatClampNeg + 4 * k + 1) from nI_aj (j := 1)]
          refine mq_iald C0 hP (kd := 4) (i := 0) (by decide) (by decide) rfl (vin_nI (by omega)) d_Mo_lets_56 ?_
          rw [show (nI (36 * (x / 2).toNatClampNeg + 4 * k + 1)).toNatClampNeg = (36 * (x / 2).toNatClampNeg + 4 * k + 1) from nI_clamp (by omega)]
          refine lv_iload_n hx hb d_Mo_lets_57 rfl (lv_at hl 5 rfl) ?_
          refine lv_icmp_ne (tgt := 92) hx hb d_Mo_lets_58 (by decide) (fun c_58 => ?_) (fun c_58 => ?_)
          · skip
            refine lv_iinc (v := nI (k + 1)) (lv' := [(5, .int (nI (k + 1))), (6, .int (nI (36 * (x / 2).toNatClampNeg + 4 * k))), (4, .int (nI ((x / 2).toNatClampNeg))), (0, .ref (base + adm 0 0)), (1, .int x), (2, .int lt), (3, .int sd)]) hx hb d_Mo_lets_92 hl (k := 1) rfl (by exact nI_1 k) (by decide) rfl (fun ls hl => ?_)
            refine lv_goto (tgt := 8) hx hb d_Mo_lets_95 (by decide) ?_
            rw [show ((σ) : Mem) = σ from rfl] at hP
            exact ih (k + 1) (by omega) (by omega) (lt_s hinv (fun z => c_58 z.2.1)) _ _ hP hS ls (lv_sub hl [0, 2, 3, 4, 5, 6] rfl)
          · skip
            refine lv_aload_n hx hb d_Mo_lets_61 rfl (lv_at hl 3 rfl) ?_
            refine mq_get C0 hP (kd := 0) (i := 0) (ci := 4) (by decide) (by decide) rfl rfl 3 (by decide) rfl k_fl_Mo_19 rfl d_Mo_lets_62 ?_
            refine lv_iload hx hb d_Mo_lets_65 (lv_at hl 0 rfl) ?_
            refine lv_iconst (v := 2) hx hb d_Mo_lets_67 (by decide) ?_
            refine lv_iadd hx hb d_Mo_lets_68 ?_
            rw [show ((nI (36 * (x / 2).toNatClampNeg + 4 * k)) + 2 : Int32) = nI (36 * (x / 2).toNatClampNeg + 4 * k + 2) from nI_aj (j := 2)]
            refine mq_iald C0 hP (kd := 4) (i := 0) (by decide) (by decide) rfl (vin_nI (by omega)) d_Mo_lets_69 ?_
            rw [show (nI (36 * (x / 2).toNatClampNeg + 4 * k + 2)).toNatClampNeg = (36 * (x / 2).toNatClampNeg + 4 * k + 2) from nI_clamp (by omega)]
            refine lv_iload_n hx hb d_Mo_lets_70 rfl (lv_at hl 6 rfl) ?_
            refine lv_icmp_eq (tgt := 77) hx hb d_Mo_lets_71 (by decide) (fun c_71 => ?_) (fun c_71 => ?_)
            · skip
              refine lv_aload_n hx hb d_Mo_lets_77 rfl (lv_at hl 3 rfl) ?_
              refine lv_aload_n hx hb d_Mo_lets_78 rfl (lv_at hl 3 rfl) ?_
              refine mq_get C0 hP (kd := 0) (i := 0) (ci := 4) (by decide) (by decide) rfl rfl 3 (by decide) rfl k_fl_Mo_19 rfl d_Mo_lets_79 ?_
              refine lv_iload hx hb d_Mo_lets_82 (lv_at hl 0 rfl) ?_
              refine lv_iconst (v := 3) hx hb d_Mo_lets_84 (by decide) ?_
              refine lv_iadd hx hb d_Mo_lets_85 ?_
              rw [show ((nI (36 * (x / 2).toNatClampNeg + 4 * k)) + 3 : Int32) = nI (36 * (x / 2).toNatClampNeg + 4 * k + 3) from nI_aj (j := 3)]
              refine mq_iald C0 hP (kd := 4) (i := 0) (by decide) (by decide) rfl (vin_nI (by omega)) d_Mo_lets_86 ?_
              rw [show (nI (36 * (x / 2).toNatClampNeg + 4 * k + 3)).toNatClampNeg = (36 * (x / 2).toNatClampNeg + 4 * k + 3) from nI_clamp (by omega)]
              refine mq_put C0 hP hS (kd := 0) (i := 0) (ci := 4) 0 8 (by decide) rfl (by decide) rfl rfl t_Mo t_Mo_ok n_Mo 23 (by decide) rfl k_fl_Mo_82 rfl (by decide +kernel) (Nat.le_of_ble_eq_true rfl) (by simp [conto, up]) d_Mo_lets_87 (fun H locs hP hS => ?_)
              refine lv_iconst (v := 1) hx hb d_Mo_lets_90 (by decide) ?_
              exact mrI_z C0 hP hS (⟨by decide, by decide⟩) (Or.inr rfl) (⟨rfl, congrArg some (by unfold mLets mNx mFi; rw [hus, firstF_eq (P := mAt σ x lt sd) (N := u) (b := k) (by omega) hinv (fun _ => ⟨c_45, c_58, c_71⟩) u 0 (Nat.zero_add _) (Nat.zero_le _), if_pos hkN]; first | done | rfl), by unfold mLets mNx mFi; rw [hus, firstF_eq (P := mAt σ x lt sd) (N := u) (b := k) (by omega) hinv (fun _ => ⟨c_45, c_58, c_71⟩) u 0 (Nat.zero_add _) (Nat.zero_le _), if_pos hkN]; first | done | rfl⟩) d_Mo_lets_91
            · skip
              refine lv_goto (tgt := 92) hx hb d_Mo_lets_74 (by decide) ?_
              refine lv_iinc (v := nI (k + 1)) (lv' := [(5, .int (nI (k + 1))), (6, .int (nI (36 * (x / 2).toNatClampNeg + 4 * k))), (4, .int (nI ((x / 2).toNatClampNeg))), (0, .ref (base + adm 0 0)), (1, .int x), (2, .int lt), (3, .int sd)]) hx hb d_Mo_lets_92 hl (k := 1) rfl (by exact nI_1 k) (by decide) rfl (fun ls hl => ?_)
              refine lv_goto (tgt := 8) hx hb d_Mo_lets_95 (by decide) ?_
              rw [show ((σ) : Mem) = σ from rfl] at hP
              exact ih (k + 1) (by omega) (by omega) (lt_s hinv (fun z => c_71 z.2.2)) _ _ hP hS ls (lv_sub hl [0, 2, 3, 4, 5, 6] rfl)
  rw [show (σ : Mem) = σ from rfl] at hP
  exact loop (u + 1) 0 (by omega) (by omega) (fun j hj => absurd hj (Nat.not_lt_zero j)) _ _ hP hS ls (lv_sub hl [0, 1, 2, 3, 4, 5] rfl)
/-- the model's queues are in order -/
def MQW (σ : Mem) : Prop := ∀ e, e < 12 → ∃ wt : Nat, wt ≤ 3 ∧ σ 12 0 e = nI wt ∧ ∀ k, k < wt → (σ 13 0 (3 * e + k) = 6 → vp_in (σ 14 0 (3 * e + k)) 12) ∧ (¬ σ 13 0 (3 * e + k) ≤ 2 → vp_in (σ 14 0 (3 * e + k)) 12)
def mPop (σ : Mem) (e k : Nat) : Mem := fun a i j => if (a = 13 ∨ a = 14) ∧ i = 0 ∧ 3 * e ≤ j ∧ j < 3 * e + k then σ a i (j + 1) else σ a i j
theorem mPop_0 {σ : Mem} {e : Nat} : σ = mPop σ e 0 := by
  funext a i j
  unfold mPop
  rw [if_neg (fun z => by omega)]
theorem mPop_s {σ : Mem} {e k : Nat} : up (up (mPop σ e k) 13 0 (3 * e + k) (mPop σ e k 13 0 (3 * e + k + 1))) 14 0 (3 * e + k) (mPop σ e k 14 0 (3 * e + k + 1)) = mPop σ e (k + 1) := by
  funext a i j
  unfold up
  by_cases h : a = 14 ∧ i = 0 ∧ j = 3 * e + k
  · obtain ⟨rfl, rfl, rfl⟩ := h
    rw [if_pos ⟨rfl, rfl, rfl⟩]
    unfold mPop
    rw [if_neg (by omega), if_pos (by omega)]
  · rw [if_neg h]
    by_cases h2 : a = 13 ∧ i = 0 ∧ j = 3 * e + k
    · obtain ⟨rfl, rfl, rfl⟩ := h2
      rw [if_pos ⟨rfl, rfl, rfl⟩]
      unfold mPop
      rw [if_neg (by omega), if_pos (by omega)]
    · rw [if_neg h2]
      unfold mPop
      by_cases h3 : (a = 13 ∨ a = 14) ∧ i = 0 ∧ 3 * e ≤ j ∧ j < 3 * e + k
      · rw [if_pos h3, if_pos (by omega)]
      · rw [if_neg h3, if_neg (fun z => by omega)]
theorem ix3 {e k : Nat} : nI e * 3 + nI k = nI (3 * e + k) := by rw [show (3 : Int32) = nI 3 from by decide, pk_mul, nI_aj, Nat.mul_comm]
theorem ix30 {e : Nat} : nI e * 3 = nI (3 * e + 0) := by rw [show (3 : Int32) = nI 3 from by decide, pk_mul, Nat.mul_comm]; rfl
def mGive (σ : Mem) (lt v q : Int32) : Mem := if lt = 6 then up σ 10 0 v.toNatClampNeg q else if lt ≤ 2 then σ else up σ 7 0 v.toNatClampNeg q
def hl0 (σ : Mem) (x : Int32) : Int32 := σ 13 0 (3 * x.toNatClampNeg + 0)
def hv0 (σ : Mem) (x : Int32) : Int32 := σ 14 0 (3 * x.toNatClampNeg + 0)
def mwt (σ : Mem) (x : Int32) : Nat := (σ 12 0 x.toNatClampNeg).toNatClampNeg
def mHe1 (σ : Mem) (x : Int32) : Mem := up (up (up (up σ 0 0 1 0) 0 0 8 (mNx (up σ 0 0 1 0) x (hl0 σ x) (1 - (x - x / 2 * 2)))) 11 0 x.toNatClampNeg (mNx (up σ 0 0 1 0) x (hl0 σ x) (1 - (x - x / 2 * 2)))) 12 0 x.toNatClampNeg (nI (mwt σ x - 1))
def mHe2 (σ : Mem) (q x : Int32) : Mem := mGive (mPop (mHe1 σ x) x.toNatClampNeg (mwt σ x - 1)) (hl0 σ x) (hv0 σ x) q
def mHear (σ : Mem) (q x : Int32) : Int32 × Mem := if (mNE σ q x).1 = 0 then (if σ 12 0 x.toNatClampNeg = 0 then mFail (up σ 0 0 1 0) 3 else
  if (mLets (up σ 0 0 1 0) x (hl0 σ x) (1 - (x - x / 2 * 2))).1 = 0 then mFail (up σ 0 0 1 0) 2 else
  (16 * hl0 σ x + (if hl0 σ x < 3 then hv0 σ x &&& 15 else hv0 σ x), up (mHe2 σ q x) 0 0 3 (mHe2 σ q x 0 0 3 + 1))) else (0, (mNE σ q x).2)
set_option maxHeartbeats 4000000 in
set_option maxRecDepth 100000 in
theorem c_Mo_hear {S0 : State} {A0 : Array Value} {D : va_G} {ar : Nat → ClassId} {base : Nat} {σ : Mem} {l : Launch} (hlt : l.stackTraces = false) {q x : Int32} (hqw : MQW σ) (hmu : MU σ) :
    MX l y_Mo_hear [Cond.code y_Mo_hear b_Mo_hear 6 (some .int)] (rmL 2) (PO S0 A0 D ar base σ [.ref (base + adm 0 0), .int q, .int x]) (QO D ar base (fun k r σ' => k = 0 ∧ r = some (mHear σ q x).1 ∧ σ' = (mHear σ q x).2)) (inB base 16) := by
  refine mx_head hlt (by decide +kernel) (Nat.le_of_ble_eq_true rfl) ?_
  intro p ev s m below meth c ls C0 hP hl
  have C0 : Cx S0 A0 D ar base p l s m _ meth c R_Mo b_Mo_hear 6 (some .int) := C0
  obtain ⟨hx, hb, -⟩ := id C0
  have hl : lv_has ls 6 [(0, .ref (base + adm 0 0)), (1, .int q), (2, .int x)] := hl
  have hS : va_S (inB base 16) s.heap s.heap [] := va_S.rf
  refine lv_aload_n hx hb d_Mo_hear_0 rfl (lv_at hl 0 rfl) ?_
  refine lv_iload_n hx hb d_Mo_hear_1 rfl (lv_at hl 1 rfl) ?_
  refine lv_iload_n hx hb d_Mo_hear_2 rfl (lv_at hl 2 rfl) ?_
  refine ms_I C0 hP hS (ms_V C0 hP (kd := 0) (i := 0) (ci := 4) (As := [.int q, .int x]) (by decide) (by decide) rfl rfl k_ml_Mo_114 k_im_Mo_notYourEnd k_sl_Mo_Mo_notYourEnd k_cd_Mo_notYourEnd k_in_Mo z_Mo_notYourEnd rfl d_Mo_hear_3) (c_Mo_notYourEnd hlt) (fun k r σ h => h.1) ⟨rfl, rfl⟩ hl.1 d_Mo_hear_3 (Nat.le_of_ble_eq_true rfl) (⟨by decide, by decide⟩) (⟨by decide, by decide⟩) (fun r_2 σ_3 H locs h_1 hP hS => ?_)
  obtain ⟨-, rfl, rfl⟩ := h_1
  refine lv_if_eq (tgt := 11) hx hb d_Mo_hear_6 (by decide) (fun c_6 => ?_) (fun c_6 => ?_)
  · skip
    obtain ⟨hq4, hx12, hne⟩ := NE_0 c_6
    rw [hne] at hP
    have hxb := nI_back hx12
    have hx9 := vin_lt hx12
    obtain ⟨wt, hw3, hwt, hwl⟩ := hqw _ hx9
    have hmw : mwt σ x = wt := by unfold mwt; rw [hwt, nI_clamp (by omega)]
    refine lv_aload_n hx hb d_Mo_hear_11 rfl (lv_at hl 0 rfl) ?_
    refine mq_get C0 hP (kd := 0) (i := 0) (ci := 4) (by decide) (by decide) rfl rfl 11 (by decide) rfl k_fl_Mo_44 rfl d_Mo_hear_12 ?_
    refine lv_iload_n hx hb d_Mo_hear_15 rfl (lv_at hl 2 rfl) ?_
    refine mq_iald C0 hP (kd := 12) (i := 0) (by decide) (by decide) rfl (hx12) d_Mo_hear_16 ?_
    refine W.eq (g2 := F0 m 17 ls [.int (σ 12 0 x.toNatClampNeg)]) rfl ?_
    refine lv_if_ne (tgt := 26) hx hb d_Mo_hear_17 (by decide) (fun c_17 => ?_) (fun c_17 => ?_)
    · skip
      have hw0 : 0 < wt := Nat.pos_of_ne_zero (fun z => c_17 (by rw [hwt, z]; decide))
      refine lv_aload_n hx hb d_Mo_hear_26 rfl (lv_at hl 0 rfl) ?_
      refine mq_get C0 hP (kd := 0) (i := 0) (ci := 4) (by decide) (by decide) rfl rfl 12 (by decide) rfl k_fl_Mo_47 rfl d_Mo_hear_27 ?_
      refine lv_iload_n hx hb d_Mo_hear_30 rfl (lv_at hl 2 rfl) ?_
      refine lv_iconst (v := 3) hx hb d_Mo_hear_31 (by decide) ?_
      refine lv_imul hx hb d_Mo_hear_32 ?_
      rw [show (x * 3 : Int32) = nI (3 * x.toNatClampNeg + 0) from (congrArg (· * 3) hxb).trans ix30]
      refine mq_iald C0 hP (kd := 13) (i := 0) (by decide) (by decide) rfl (vin_nI (by omega)) d_Mo_hear_33 ?_
      rw [show (nI (3 * x.toNatClampNeg + 0)).toNatClampNeg = (3 * x.toNatClampNeg + 0) from nI_clamp (by omega)]
      refine W.eq (g2 := F0 m 34 ls [.int (σ 13 0 (3 * x.toNatClampNeg + 0))]) rfl ?_
      rw [show (σ 13 0 (3 * x.toNatClampNeg + 0) : Int32) = hl0 σ x from rfl]
      refine lv_istore_n (lv' := [(3, .int (hl0 σ x)), (0, .ref (base + adm 0 0)), (1, .int q), (2, .int x)]) hx hb d_Mo_hear_34 rfl hl (by decide) rfl (fun ls hl => ?_)
      refine lv_aload_n hx hb d_Mo_hear_35 rfl (lv_at hl 1 rfl) ?_
      refine mq_get C0 hP (kd := 0) (i := 0) (ci := 4) (by decide) (by decide) rfl rfl 13 (by decide) rfl k_fl_Mo_50 rfl d_Mo_hear_36 ?_
      refine lv_iload_n hx hb d_Mo_hear_39 rfl (lv_at hl 3 rfl) ?_
      refine lv_iconst (v := 3) hx hb d_Mo_hear_40 (by decide) ?_
      refine lv_imul hx hb d_Mo_hear_41 ?_
      rw [show (x * 3 : Int32) = nI (3 * x.toNatClampNeg + 0) from (congrArg (· * 3) hxb).trans ix30]
      refine mq_iald C0 hP (kd := 14) (i := 0) (by decide) (by decide) rfl (vin_nI (by omega)) d_Mo_hear_42 ?_
      rw [show (nI (3 * x.toNatClampNeg + 0)).toNatClampNeg = (3 * x.toNatClampNeg + 0) from nI_clamp (by omega)]
      refine W.eq (g2 := F0 m 43 ls [.int (σ 14 0 (3 * x.toNatClampNeg + 0))]) rfl ?_
      rw [show (σ 14 0 (3 * x.toNatClampNeg + 0) : Int32) = hv0 σ x from rfl]
      refine lv_istore (lv' := [(4, .int (hv0 σ x)), (3, .int (hl0 σ x)), (0, .ref (base + adm 0 0)), (1, .int q), (2, .int x)]) hx hb d_Mo_hear_43 hl (by decide) rfl (fun ls hl => ?_)
      refine lv_aload_n hx hb d_Mo_hear_45 rfl (lv_at hl 2 rfl) ?_
      refine lv_iload_n hx hb d_Mo_hear_46 rfl (lv_at hl 4 rfl) ?_
      refine lv_iload_n hx hb d_Mo_hear_47 rfl (lv_at hl 1 rfl) ?_
      refine lv_iconst (v := 1) hx hb d_Mo_hear_48 (by decide) ?_
      refine lv_iload_n hx hb d_Mo_hear_49 rfl (lv_at hl 4 rfl) ?_
      refine lv_iconst (v := 2) hx hb d_Mo_hear_50 (by decide) ?_
      refine lv_irem hx hb d_Mo_hear_51 (by decide) ?_
      refine lv_isub hx hb d_Mo_hear_52 ?_
      refine ms_I C0 hP hS (ms_V C0 hP (kd := 0) (i := 0) (ci := 4) (As := [.int x, .int (hl0 σ x), .int (1 - (x - x / 2 * 2))]) (by decide) (by decide) rfl rfl k_ml_Mo_117 k_im_Mo_lets k_sl_Mo_Mo_lets k_cd_Mo_lets k_in_Mo z_Mo_lets rfl d_Mo_hear_53) (c_Mo_lets hlt hx12 hmu (lt := hl0 σ x) (sd := 1 - (x - x / 2 * 2))) (fun k r σ h => h.1) ⟨rfl, rfl⟩ hl.1 d_Mo_hear_53 (Nat.le_of_ble_eq_true rfl) (⟨by decide, by decide⟩) (⟨by decide, by decide⟩) (fun r_5 σ_6 H locs h_4 hP hS => ?_)
      obtain ⟨-, rfl, rfl⟩ := h_4
      refine lv_if_ne (tgt := 65) hx hb d_Mo_hear_56 (by decide) (fun c_56 => ?_) (fun c_56 => ?_)
      · skip
        rw [mLets_1 c_56] at hP
        refine lv_aload_n hx hb d_Mo_hear_65 rfl (lv_at hl 2 rfl) ?_
        refine mq_get C0 hP (kd := 0) (i := 0) (ci := 4) (by decide) (by decide) rfl rfl 10 (by decide) rfl k_fl_Mo_41 rfl d_Mo_hear_66 ?_
        refine lv_iload_n hx hb d_Mo_hear_69 rfl (lv_at hl 4 rfl) ?_
        refine lv_aload_n hx hb d_Mo_hear_70 rfl (lv_at hl 2 rfl) ?_
        refine mq_get C0 hP (kd := 0) (i := 0) (ci := 4) (by decide) (by decide) rfl rfl 23 (by decide) rfl k_fl_Mo_82 rfl d_Mo_hear_71 ?_
        refine W.eq (g2 := F0 m 74 ls [.int (mNx (up σ 0 0 1 0) x (hl0 σ x) (1 - (x - x / 2 * 2))), .int x, .ref (base + adm 11 0)]) rfl ?_
        refine mq_iast C0 hP hS (kd := 11) (i := 0) 11 (by decide) rfl (by decide) rfl (hx12) (by rw [ast_fn]; rfl) d_Mo_hear_74 (fun H locs hP hS => ?_)
        refine lv_aload_n hx hb d_Mo_hear_75 rfl (lv_at hl 2 rfl) ?_
        refine mq_get C0 hP (kd := 0) (i := 0) (ci := 4) (by decide) (by decide) rfl rfl 11 (by decide) rfl k_fl_Mo_44 rfl d_Mo_hear_76 ?_
        refine lv_iload_n hx hb d_Mo_hear_79 rfl (lv_at hl 4 rfl) ?_
        refine lv_dup2_11 hx hb d_Mo_hear_80 rfl rfl ?_
        refine mq_iald C0 hP (kd := 12) (i := 0) (by decide) (by decide) rfl (hx12) d_Mo_hear_81 ?_
        refine W.eq (g2 := F0 m 82 ls [.int (σ 12 0 x.toNatClampNeg), .int x, .ref (base + adm 12 0)]) rfl ?_
        refine lv_iconst (v := 1) hx hb d_Mo_hear_82 (by decide) ?_
        refine lv_isub hx hb d_Mo_hear_83 ?_
        refine W.eq (g2 := F0 m 84 ls [.int (nI (wt - 1)), .int x, .ref (base + adm 12 0)]) (by rw [show (nI (wt - 1) : Int32) = σ 12 0 x.toNatClampNeg - 1 from by rw [hwt, show wt = (wt - 1) + 1 from by omega]; exact (nI_pred _).symm]) ?_
        refine mq_iast C0 hP hS (kd := 12) (i := 0) 12 (by decide) rfl (by decide) rfl (hx12) (by rw [ast_fn]; rfl) d_Mo_hear_84 (fun H locs hP hS => ?_)
        refine lv_iload_n hx hb d_Mo_hear_85 rfl (lv_at hl 4 rfl) ?_
        refine lv_iconst (v := 3) hx hb d_Mo_hear_86 (by decide) ?_
        refine lv_imul hx hb d_Mo_hear_87 ?_
        rw [show (x * 3 : Int32) = nI (3 * x.toNatClampNeg + 0) from (congrArg (· * 3) hxb).trans ix30]
        refine lv_istore (lv' := [(5, .int (nI (3 * x.toNatClampNeg + 0))), (4, .int (hv0 σ x)), (3, .int (hl0 σ x)), (0, .ref (base + adm 0 0)), (1, .int q), (2, .int x)]) hx hb d_Mo_hear_88 hl (by decide) rfl (fun ls hl => ?_)
        have loop : ∀ (n k : Nat), k ≤ wt - 1 → wt - 1 + 1 ≤ k + n → ∀ (H : Heap) (locs : List Loc), va_P D classes (wl base 16 (memo ar base (mPop (mHe1 σ x) x.toNatClampNeg k))) H → va_S (inB base 16) s.heap H locs → ∀ ls : Array Slot, lv_has ls 6 [(5, .int (nI (3 * x.toNatClampNeg + k))), (3, .int (hl0 σ x)), (4, .int (hv0 σ x)), (0, .ref (base + adm 0 0)), (1, .int q), (2, .int x)] → W p l ev (rmL 2) s m ([.ref (base + adm 0 0), .int q, .int x] : List Value).toArray below meth c H locs 0 0 (MQX below (QO D ar base (fun k r σ' => k = 0 ∧ r = some (mHear σ q x).1 ∧ σ' = (mHear σ q x).2)) ([.ref (base + adm 0 0), .int q, .int x] : List Value).toArray s (rmL 2).cells (rmL 2).slots (inB base 16)) (F0 m 90 ls []) := by
          intro n
          induction n with
          | zero => intro k h1 h2; omega
          | succ n ih =>
            intro k hk1 hk2 H locs hP hS ls hl
            refine lv_iload hx hb d_Mo_hear_90 (lv_at hl 0 rfl) ?_
            refine lv_iload_n hx hb d_Mo_hear_92 rfl (lv_at hl 5 rfl) ?_
            refine lv_iconst (v := 3) hx hb d_Mo_hear_93 (by decide) ?_
            refine lv_imul hx hb d_Mo_hear_94 ?_
            refine lv_aload_n hx hb d_Mo_hear_95 rfl (lv_at hl 3 rfl) ?_
            refine mq_get C0 hP (kd := 0) (i := 0) (ci := 4) (by decide) (by decide) rfl rfl 11 (by decide) rfl k_fl_Mo_44 rfl d_Mo_hear_96 ?_
            refine lv_iload_n hx hb d_Mo_hear_99 rfl (lv_at hl 5 rfl) ?_
            refine mq_iald C0 hP (kd := 12) (i := 0) (by decide) (by decide) rfl (hx12) d_Mo_hear_100 ?_
            refine lv_iadd hx hb d_Mo_hear_101 ?_
            refine W.eq (g2 := F0 m 102 ls [.int (nI (3 * x.toNatClampNeg + (wt - 1))), .int (nI (3 * x.toNatClampNeg + k))]) (by rw [show nI (3 * x.toNatClampNeg + (wt - 1)) = x * 3 + nI (wt - 1) from by rw [← ix3, ← hxb], show (mPop (mHe1 σ x) x.toNatClampNeg k 12 0 x.toNatClampNeg : Int32) = nI (wt - 1) from by rw [show mPop (mHe1 σ x) x.toNatClampNeg k 12 0 x.toNatClampNeg = mHe1 σ x 12 0 x.toNatClampNeg from by unfold mPop; rw [if_neg (by omega)]]; unfold mHe1; rw [up_self, hmw]]) ?_
            refine lv_icmp_ge (tgt := 143) hx hb d_Mo_hear_102 (by decide) (fun c_102 => ?_) (fun c_102 => ?_)
            · skip
              have hkN : k = wt - 1 := by have := (nI_leI (by omega) (by omega)).mp c_102; omega
              refine lv_iload_n hx hb d_Mo_hear_143 rfl (lv_at hl 1 rfl) ?_
              refine lv_bipush (v := 6) hx hb d_Mo_hear_144 (by decide) ?_
              refine lv_icmp_ne (tgt := 160) hx hb d_Mo_hear_146 (by decide) (fun c_146 => ?_) (fun c_146 => ?_)
              · skip
                refine lv_iload_n hx hb d_Mo_hear_160 rfl (lv_at hl 1 rfl) ?_
                refine lv_iconst (v := 2) hx hb d_Mo_hear_161 (by decide) ?_
                refine lv_icmp_le (tgt := 173) hx hb d_Mo_hear_162 (by decide) (fun c_162 => ?_) (fun c_162 => ?_)
                · skip
                  refine lv_aload_n hx hb d_Mo_hear_173 rfl (lv_at hl 3 rfl) ?_
                  refine lv_dup hx hb d_Mo_hear_174 rfl ?_
                  refine mq_get C0 hP (kd := 0) (i := 0) (ci := 4) (by decide) (by decide) rfl rfl 18 (by decide) rfl k_fl_Mo_123 rfl d_Mo_hear_175 ?_
                  refine lv_iconst (v := 1) hx hb d_Mo_hear_178 (by decide) ?_
                  refine lv_iadd hx hb d_Mo_hear_179 ?_
                  refine mq_put C0 hP hS (kd := 0) (i := 0) (ci := 4) 0 3 (by decide) rfl (by decide) rfl rfl t_Mo t_Mo_ok n_Mo 18 (by decide) rfl k_fl_Mo_123 rfl (by decide +kernel) (Nat.le_of_ble_eq_true rfl) (by simp [conto, up]) d_Mo_hear_180 (fun H locs hP hS => ?_)
                  refine lv_bipush (v := 16) hx hb d_Mo_hear_183 (by decide) ?_
                  refine lv_iload_n hx hb d_Mo_hear_185 rfl (lv_at hl 1 rfl) ?_
                  refine lv_imul hx hb d_Mo_hear_186 ?_
                  refine lv_iload_n hx hb d_Mo_hear_187 rfl (lv_at hl 1 rfl) ?_
                  refine lv_iconst (v := 3) hx hb d_Mo_hear_188 (by decide) ?_
                  refine lv_icmp_ge (tgt := 200) hx hb d_Mo_hear_189 (by decide) (fun c_189 => ?_) (fun c_189 => ?_)
                  · skip
                    refine lv_iload hx hb d_Mo_hear_200 (lv_at hl 2 rfl) ?_
                    refine lv_iadd hx hb d_Mo_hear_202 ?_
                    exact mrI_i C0 hP hS (⟨by decide, by decide⟩) (⟨rfl, congrArg some (by unfold mHear; rw [if_pos c_6, if_neg c_17, if_neg c_56]; show _ = 16 * hl0 σ x + (if hl0 σ x < 3 then hv0 σ x &&& 15 else hv0 σ x); rw [if_neg (fun z => absurd c_189 (Int32.not_le.mpr z))]), by unfold mHear; rw [if_pos c_6, if_neg c_17, if_neg c_56]; unfold mHe2 mGive; rw [hmw, ← hkN, if_neg c_146, if_pos c_162]; first | done | rfl⟩) d_Mo_hear_203
                  · skip
                    refine lv_iload hx hb d_Mo_hear_192 (lv_at hl 2 rfl) ?_
                    refine lv_bipush (v := 15) hx hb d_Mo_hear_194 (by decide) ?_
                    refine lv_iand hx hb d_Mo_hear_196 ?_
                    refine lv_goto (tgt := 202) hx hb d_Mo_hear_197 (by decide) ?_
                    refine lv_iadd hx hb d_Mo_hear_202 ?_
                    exact mrI_i C0 hP hS (⟨by decide, by decide⟩) (⟨rfl, congrArg some (by unfold mHear; rw [if_pos c_6, if_neg c_17, if_neg c_56]; show _ = 16 * hl0 σ x + (if hl0 σ x < 3 then hv0 σ x &&& 15 else hv0 σ x); rw [if_pos (Int32.not_le.mp c_189)]), by unfold mHear; rw [if_pos c_6, if_neg c_17, if_neg c_56]; unfold mHe2 mGive; rw [hmw, ← hkN, if_neg c_146, if_pos c_162]; first | done | rfl⟩) d_Mo_hear_203
                · skip
                  refine lv_aload_n hx hb d_Mo_hear_165 rfl (lv_at hl 3 rfl) ?_
                  refine mq_get C0 hP (kd := 0) (i := 0) (ci := 4) (by decide) (by decide) rfl rfl 6 (by decide) rfl k_fl_Mo_29 rfl d_Mo_hear_166 ?_
                  refine lv_iload hx hb d_Mo_hear_169 (lv_at hl 2 rfl) ?_
                  refine lv_iload_n hx hb d_Mo_hear_171 rfl (lv_at hl 4 rfl) ?_
                  refine mq_iast C0 hP hS (kd := 7) (i := 0) 7 (by decide) rfl (by decide) rfl ((hwl 0 hw0).2 c_162) (by rw [ast_fn]; rfl) d_Mo_hear_172 (fun H locs hP hS => ?_)
                  refine lv_aload_n hx hb d_Mo_hear_173 rfl (lv_at hl 3 rfl) ?_
                  refine lv_dup hx hb d_Mo_hear_174 rfl ?_
                  refine mq_get C0 hP (kd := 0) (i := 0) (ci := 4) (by decide) (by decide) rfl rfl 18 (by decide) rfl k_fl_Mo_123 rfl d_Mo_hear_175 ?_
                  refine W.eq (g2 := F0 m 178 ls [.int ((mPop (mHe1 σ x) x.toNatClampNeg k) 0 0 3), .ref (base + adm 0 0)]) rfl ?_
                  refine lv_iconst (v := 1) hx hb d_Mo_hear_178 (by decide) ?_
                  refine lv_iadd hx hb d_Mo_hear_179 ?_
                  refine mq_put C0 hP hS (kd := 0) (i := 0) (ci := 4) 0 3 (by decide) rfl (by decide) rfl rfl t_Mo t_Mo_ok n_Mo 18 (by decide) rfl k_fl_Mo_123 rfl (by decide +kernel) (Nat.le_of_ble_eq_true rfl) (by simp [conto, up]) d_Mo_hear_180 (fun H locs hP hS => ?_)
                  refine lv_bipush (v := 16) hx hb d_Mo_hear_183 (by decide) ?_
                  refine lv_iload_n hx hb d_Mo_hear_185 rfl (lv_at hl 1 rfl) ?_
                  refine lv_imul hx hb d_Mo_hear_186 ?_
                  refine lv_iload_n hx hb d_Mo_hear_187 rfl (lv_at hl 1 rfl) ?_
                  refine lv_iconst (v := 3) hx hb d_Mo_hear_188 (by decide) ?_
                  refine lv_icmp_ge (tgt := 200) hx hb d_Mo_hear_189 (by decide) (fun c_189 => ?_) (fun c_189 => ?_)
                  · skip
                    refine lv_iload hx hb d_Mo_hear_200 (lv_at hl 2 rfl) ?_
                    refine lv_iadd hx hb d_Mo_hear_202 ?_
                    exact mrI_i C0 hP hS (⟨by decide, by decide⟩) (⟨rfl, congrArg some (by unfold mHear; rw [if_pos c_6, if_neg c_17, if_neg c_56]; show _ = 16 * hl0 σ x + (if hl0 σ x < 3 then hv0 σ x &&& 15 else hv0 σ x); rw [if_neg (fun z => absurd c_189 (Int32.not_le.mpr z))]), by unfold mHear; rw [if_pos c_6, if_neg c_17, if_neg c_56]; unfold mHe2 mGive; rw [hmw, ← hkN, if_neg c_146, if_neg c_162]; first | done | rfl⟩) d_Mo_hear_203
                  · skip
                    refine lv_iload hx hb d_Mo_hear_192 (lv_at hl 2 rfl) ?_
                    refine lv_bipush (v := 15) hx hb d_Mo_hear_194 (by decide) ?_
                    refine lv_iand hx hb d_Mo_hear_196 ?_
                    refine lv_goto (tgt := 202) hx hb d_Mo_hear_197 (by decide) ?_
                    refine lv_iadd hx hb d_Mo_hear_202 ?_
                    exact mrI_i C0 hP hS (⟨by decide, by decide⟩) (⟨rfl, congrArg some (by unfold mHear; rw [if_pos c_6, if_neg c_17, if_neg c_56]; show _ = 16 * hl0 σ x + (if hl0 σ x < 3 then hv0 σ x &&& 15 else hv0 σ x); rw [if_pos (Int32.not_le.mp c_189)]), by unfold mHear; rw [if_pos c_6, if_neg c_17, if_neg c_56]; unfold mHe2 mGive; rw [hmw, ← hkN, if_neg c_146, if_neg c_162]; first | done | rfl⟩) d_Mo_hear_203
              · skip
                refine lv_aload_n hx hb d_Mo_hear_149 rfl (lv_at hl 3 rfl) ?_
                refine mq_get C0 hP (kd := 0) (i := 0) (ci := 4) (by decide) (by decide) rfl rfl 9 (by decide) rfl k_fl_Mo_38 rfl d_Mo_hear_150 ?_
                refine lv_iload hx hb d_Mo_hear_153 (lv_at hl 2 rfl) ?_
                refine lv_iload_n hx hb d_Mo_hear_155 rfl (lv_at hl 4 rfl) ?_
                refine mq_iast C0 hP hS (kd := 10) (i := 0) 10 (by decide) rfl (by decide) rfl ((hwl 0 hw0).1 c_146) (by rw [ast_fn]; rfl) d_Mo_hear_156 (fun H locs hP hS => ?_)
                refine lv_goto (tgt := 173) hx hb d_Mo_hear_157 (by decide) ?_
                refine lv_aload_n hx hb d_Mo_hear_173 rfl (lv_at hl 3 rfl) ?_
                refine lv_dup hx hb d_Mo_hear_174 rfl ?_
                refine mq_get C0 hP (kd := 0) (i := 0) (ci := 4) (by decide) (by decide) rfl rfl 18 (by decide) rfl k_fl_Mo_123 rfl d_Mo_hear_175 ?_
                refine W.eq (g2 := F0 m 178 ls [.int ((mPop (mHe1 σ x) x.toNatClampNeg k) 0 0 3), .ref (base + adm 0 0)]) rfl ?_
                refine lv_iconst (v := 1) hx hb d_Mo_hear_178 (by decide) ?_
                refine lv_iadd hx hb d_Mo_hear_179 ?_
                refine mq_put C0 hP hS (kd := 0) (i := 0) (ci := 4) 0 3 (by decide) rfl (by decide) rfl rfl t_Mo t_Mo_ok n_Mo 18 (by decide) rfl k_fl_Mo_123 rfl (by decide +kernel) (Nat.le_of_ble_eq_true rfl) (by simp [conto, up]) d_Mo_hear_180 (fun H locs hP hS => ?_)
                refine lv_bipush (v := 16) hx hb d_Mo_hear_183 (by decide) ?_
                refine lv_iload_n hx hb d_Mo_hear_185 rfl (lv_at hl 1 rfl) ?_
                refine lv_imul hx hb d_Mo_hear_186 ?_
                refine lv_iload_n hx hb d_Mo_hear_187 rfl (lv_at hl 1 rfl) ?_
                refine lv_iconst (v := 3) hx hb d_Mo_hear_188 (by decide) ?_
                refine lv_icmp_ge (tgt := 200) hx hb d_Mo_hear_189 (by decide) (fun c_189 => ?_) (fun c_189 => ?_)
                · skip
                  refine lv_iload hx hb d_Mo_hear_200 (lv_at hl 2 rfl) ?_
                  refine lv_iadd hx hb d_Mo_hear_202 ?_
                  exact mrI_i C0 hP hS (⟨by decide, by decide⟩) (⟨rfl, congrArg some (by unfold mHear; rw [if_pos c_6, if_neg c_17, if_neg c_56]; show _ = 16 * hl0 σ x + (if hl0 σ x < 3 then hv0 σ x &&& 15 else hv0 σ x); rw [if_neg (fun z => absurd c_189 (Int32.not_le.mpr z))]), by unfold mHear; rw [if_pos c_6, if_neg c_17, if_neg c_56]; unfold mHe2 mGive; rw [hmw, ← hkN, if_pos c_146]; first | done | rfl⟩) d_Mo_hear_203
                · skip
                  refine lv_iload hx hb d_Mo_hear_192 (lv_at hl 2 rfl) ?_
                  refine lv_bipush (v := 15) hx hb d_Mo_hear_194 (by decide) ?_
                  refine lv_iand hx hb d_Mo_hear_196 ?_
                  refine lv_goto (tgt := 202) hx hb d_Mo_hear_197 (by decide) ?_
                  refine lv_iadd hx hb d_Mo_hear_202 ?_
                  exact mrI_i C0 hP hS (⟨by decide, by decide⟩) (⟨rfl, congrArg some (by unfold mHear; rw [if_pos c_6, if_neg c_17, if_neg c_56]; show _ = 16 * hl0 σ x + (if hl0 σ x < 3 then hv0 σ x &&& 15 else hv0 σ x); rw [if_pos (Int32.not_le.mp c_189)]), by unfold mHear; rw [if_pos c_6, if_neg c_17, if_neg c_56]; unfold mHe2 mGive; rw [hmw, ← hkN, if_pos c_146]; first | done | rfl⟩) d_Mo_hear_203
            · skip
              have hkN : k < wt - 1 := Nat.lt_of_not_le fun z => c_102 ((nI_leI (by omega) (by omega)).mpr (by omega))
              refine lv_aload_n hx hb d_Mo_hear_105 rfl (lv_at hl 3 rfl) ?_
              refine mq_get C0 hP (kd := 0) (i := 0) (ci := 4) (by decide) (by decide) rfl rfl 12 (by decide) rfl k_fl_Mo_47 rfl d_Mo_hear_106 ?_
              refine lv_iload hx hb d_Mo_hear_109 (lv_at hl 0 rfl) ?_
              refine lv_aload_n hx hb d_Mo_hear_111 rfl (lv_at hl 3 rfl) ?_
              refine mq_get C0 hP (kd := 0) (i := 0) (ci := 4) (by decide) (by decide) rfl rfl 12 (by decide) rfl k_fl_Mo_47 rfl d_Mo_hear_112 ?_
              refine lv_iload hx hb d_Mo_hear_115 (lv_at hl 0 rfl) ?_
              refine lv_iconst (v := 1) hx hb d_Mo_hear_117 (by decide) ?_
              refine lv_iadd hx hb d_Mo_hear_118 ?_
              rw [show ((nI (3 * x.toNatClampNeg + k)) + 1 : Int32) = nI (3 * x.toNatClampNeg + k + 1) from nI_1 _]
              refine mq_iald C0 hP (kd := 13) (i := 0) (by decide) (by decide) rfl (vin_nI (by omega)) d_Mo_hear_119 ?_
              rw [show (nI (3 * x.toNatClampNeg + k + 1)).toNatClampNeg = (3 * x.toNatClampNeg + k + 1) from nI_clamp (by omega)]
              refine mq_iast C0 hP hS (kd := 13) (i := 0) 13 (by decide) rfl (by decide) rfl (vin_nI (by omega)) (by rw [ast_fn]; rfl) d_Mo_hear_120 (fun H locs hP hS => ?_)
              rw [show (nI (3 * x.toNatClampNeg + k)).toNatClampNeg = (3 * x.toNatClampNeg + k) from nI_clamp (by omega)] at hP
              refine lv_aload_n hx hb d_Mo_hear_121 rfl (lv_at hl 3 rfl) ?_
              refine mq_get C0 hP (kd := 0) (i := 0) (ci := 4) (by decide) (by decide) rfl rfl 13 (by decide) rfl k_fl_Mo_50 rfl d_Mo_hear_122 ?_
              refine lv_iload hx hb d_Mo_hear_125 (lv_at hl 0 rfl) ?_
              refine lv_aload_n hx hb d_Mo_hear_127 rfl (lv_at hl 3 rfl) ?_
              refine mq_get C0 hP (kd := 0) (i := 0) (ci := 4) (by decide) (by decide) rfl rfl 13 (by decide) rfl k_fl_Mo_50 rfl d_Mo_hear_128 ?_
              refine lv_iload hx hb d_Mo_hear_131 (lv_at hl 0 rfl) ?_
              refine lv_iconst (v := 1) hx hb d_Mo_hear_133 (by decide) ?_
              refine lv_iadd hx hb d_Mo_hear_134 ?_
              rw [show ((nI (3 * x.toNatClampNeg + k)) + 1 : Int32) = nI (3 * x.toNatClampNeg + k + 1) from nI_1 _]
              refine mq_iald C0 hP (kd := 14) (i := 0) (by decide) (by decide) rfl (vin_nI (by omega)) d_Mo_hear_135 ?_
              rw [show (nI (3 * x.toNatClampNeg + k + 1)).toNatClampNeg = (3 * x.toNatClampNeg + k + 1) from nI_clamp (by omega)]
              refine W.eq (g2 := F0 m 136 ls [.int ((mPop (mHe1 σ x) x.toNatClampNeg k) 14 0 (3 * x.toNatClampNeg + k + 1)), .int (nI (3 * x.toNatClampNeg + k)), .ref (base + adm 14 0)]) rfl ?_
              refine mq_iast C0 hP hS (kd := 14) (i := 0) 14 (by decide) rfl (by decide) rfl (vin_nI (by omega)) (by rw [ast_fn]; rfl) d_Mo_hear_136 (fun H locs hP hS => ?_)
              rw [show (nI (3 * x.toNatClampNeg + k)).toNatClampNeg = (3 * x.toNatClampNeg + k) from nI_clamp (by omega)] at hP
              refine lv_iinc (v := nI (3 * x.toNatClampNeg + (k + 1))) (lv' := [(5, .int (nI (3 * x.toNatClampNeg + (k + 1)))), (3, .int (hl0 σ x)), (4, .int (hv0 σ x)), (0, .ref (base + adm 0 0)), (1, .int q), (2, .int x)]) hx hb d_Mo_hear_137 hl (k := 0) rfl (by exact nI_1 _) (by decide) rfl (fun ls hl => ?_)
              refine lv_goto (tgt := 90) hx hb d_Mo_hear_140 (by decide) ?_
              rw [show ((up (up (mPop (mHe1 σ x) x.toNatClampNeg k) 13 0 (3 * x.toNatClampNeg + k) ((mPop (mHe1 σ x) x.toNatClampNeg k) 13 0 (3 * x.toNatClampNeg + k + 1))) 14 0 (3 * x.toNatClampNeg + k) ((mPop (mHe1 σ x) x.toNatClampNeg k) 14 0 (3 * x.toNatClampNeg + k + 1))) : Mem) = mPop (mHe1 σ x) x.toNatClampNeg (k + 1) from by rw [← mPop_s]] at hP
              exact ih (k + 1) (by omega) (by omega) _ _ hP hS ls (lv_sub hl [0, 1, 2, 3, 4, 5] rfl)
        rw [show ((up (up (up (up σ 0 0 1 0) 0 0 8 (mNx (up σ 0 0 1 0) x (hl0 σ x) (1 - (x - x / 2 * 2)))) 11 0 x.toNatClampNeg (mNx (up σ 0 0 1 0) x (hl0 σ x) (1 - (x - x / 2 * 2)))) 12 0 x.toNatClampNeg (nI (wt - 1))) : Mem) = mPop (mHe1 σ x) x.toNatClampNeg 0 from by rw [← mPop_0]; unfold mHe1; rw [hmw]] at hP
        exact loop (wt - 1 + 1) 0 (by omega) (by omega) _ _ hP hS ls (lv_sub hl [0, 2, 1, 3, 4, 5] rfl)
      · skip
        rw [mLets_0 c_56] at hP
        refine lv_aload_n hx hb d_Mo_hear_59 rfl (lv_at hl 2 rfl) ?_
        refine lv_iconst (v := 2) hx hb d_Mo_hear_60 (by decide) ?_
        refine ms_I C0 hP hS (ms_V C0 hP (kd := 0) (i := 0) (ci := 4) (As := [.int 2]) (by decide) (by decide) rfl rfl k_ml_Mo_71 k_im_Mo_fail k_sl_Mo_Mo_fail k_cd_Mo_fail k_in_Mo z_Mo_fail rfl d_Mo_hear_61) (c_Mo_fail hlt) (fun k r σ h => h.1) ⟨rfl, rfl⟩ hl.1 d_Mo_hear_61 (Nat.le_of_ble_eq_true rfl) (⟨by decide, by decide⟩) (⟨by decide, by decide⟩) (fun r_8 σ_9 H locs h_7 hP hS => ?_)
        obtain ⟨-, rfl, rfl⟩ := h_7
        exact mrI_i C0 hP hS (⟨by decide, by decide⟩) (⟨rfl, congrArg some (by unfold mHear; rw [if_pos c_6, if_neg c_17, if_pos c_56]; first | done | rfl), by unfold mHear; rw [if_pos c_6, if_neg c_17, if_pos c_56]; first | done | rfl⟩) d_Mo_hear_64
    · skip
      refine lv_aload_n hx hb d_Mo_hear_20 rfl (lv_at hl 0 rfl) ?_
      refine lv_iconst (v := 3) hx hb d_Mo_hear_21 (by decide) ?_
      refine ms_I C0 hP hS (ms_V C0 hP (kd := 0) (i := 0) (ci := 4) (As := [.int 3]) (by decide) (by decide) rfl rfl k_ml_Mo_71 k_im_Mo_fail k_sl_Mo_Mo_fail k_cd_Mo_fail k_in_Mo z_Mo_fail rfl d_Mo_hear_22) (c_Mo_fail hlt) (fun k r σ h => h.1) ⟨rfl, rfl⟩ hl.1 d_Mo_hear_22 (Nat.le_of_ble_eq_true rfl) (⟨by decide, by decide⟩) (⟨by decide, by decide⟩) (fun r_11 σ_12 H locs h_10 hP hS => ?_)
      obtain ⟨-, rfl, rfl⟩ := h_10
      exact mrI_i C0 hP hS (⟨by decide, by decide⟩) (⟨rfl, congrArg some (by unfold mHear; rw [if_pos c_6, if_pos c_17]; first | done | rfl), by unfold mHear; rw [if_pos c_6, if_pos c_17]; first | done | rfl⟩) d_Mo_hear_25
  · skip
    refine lv_iconst (v := 0) hx hb d_Mo_hear_9 (by decide) ?_
    exact mrI_i C0 hP hS (⟨by decide, by decide⟩) (⟨rfl, congrArg some (by unfold mHear; rw [if_neg c_6]; first | done | rfl), by unfold mHear; rw [if_neg c_6]; first | done | rfl⟩) d_Mo_hear_10
