/-! The model's count: laid by gen/m51.py. -/
def mf0 (σ : Mem) (j : Nat) : Int32 := if 4 ≤ nI j then 0 else if σ 6 0 j = 0 then 0 else 1
def mf1 (σ : Mem) (j : Nat) : Int32 := if σ 7 0 j < 0 then 0 else 1
def mf3 (σ : Mem) (j : Nat) : Int32 := if σ 10 0 j < 0 then 0 else 1
def mf4 (σ : Mem) (j : Nat) : Int32 := σ 12 0 j
def mf9 (σ : Mem) (j : Nat) : Int32 := if 4 ≤ nI j then 0 else if σ 3 0 j ≤ 0 then 0 else 1
theorem bx_s {f : Nat → Int32} {k : Nat} {a : Int32} (h : a = bx_sum f k) : a + f k = bx_sum f (k + 1) := by rw [h]; rfl
theorem bx_s0 {f : Nat → Int32} {k : Nat} {a : Int32} (h : a = bx_sum f k) (h0 : f k = 0) : a = bx_sum f (k + 1) := by rw [← bx_s h, h0, Int32.add_zero]
theorem bx_s1 {f : Nat → Int32} {k : Nat} {a : Int32} (h : a = bx_sum f k) (h0 : f k = 1) : a + 1 = bx_sum f (k + 1) := by rw [← bx_s h, h0]
def mCntF (σ : Mem) (x : Int32) : Int32 := if x = 0 then bx_sum (mf0 σ) 12 else if x = 1 then bx_sum (mf1 σ) 12 else if x = 2 then mCells σ 12 else if x = 3 then bx_sum (mf3 σ) 12 else if x = 4 then bx_sum (mf4 σ) 12 else if x = 5 then σ 0 0 2 else if x = 6 then σ 0 0 3 else if x = 7 then σ 0 0 4 else if x = 8 then σ 0 0 5 else if x = 9 then bx_sum (mf9 σ) 12 else -1
def mCount (σ : Mem) (x : Int32) : Int32 × Mem := (mCntF (up σ 0 0 1 0) x, up σ 0 0 1 0)
set_option maxHeartbeats 4000000 in
set_option maxRecDepth 100000 in
theorem c_Mo_count_0 {S0 : State} {A0 : Array Value} {D : va_G} {ar : Nat → ClassId} {base : Nat} {σ : Mem} {l : Launch} (hlt : l.stackTraces = false)  :
    MX l y_Mo_count [Cond.code y_Mo_count b_Mo_count 4 (some .int)] (rmL 1) (PO S0 A0 D ar base σ [.ref (base + adm 0 0), .int 0]) (QO D ar base (fun k r σ' => k = 0 ∧ r = some (mCount σ 0).1 ∧ σ' = (mCount σ 0).2)) (inB base 16) := by
  refine mx_head hlt (by decide +kernel) (Nat.le_of_ble_eq_true rfl) ?_
  intro p ev s m below meth c ls C0 hP hl
  have C0 : Cx S0 A0 D ar base p l s m _ meth c R_Mo b_Mo_count 4 (some .int) := C0
  obtain ⟨hx, hb, -⟩ := id C0
  have hl : lv_has ls 4 [(0, .ref (base + adm 0 0)), (1, .int 0)] := hl
  have hS : va_S (inB base 16) s.heap s.heap [] := va_S.rf
  refine lv_aload_n hx hb d_Mo_count_0 rfl (lv_at hl 0 rfl) ?_
  refine lv_iconst (v := 0) hx hb d_Mo_count_1 (by decide) ?_
  refine mq_put C0 hP hS (kd := 0) (i := 0) (ci := 4) 0 1 (by decide) rfl (by decide) rfl rfl t_Mo t_Mo_ok n_Mo 16 (by decide) rfl k_fl_Mo_56 rfl (by decide +kernel) (Nat.le_of_ble_eq_true rfl) (by simp [conto, up]) d_Mo_count_2 (fun H locs hP hS => ?_)
  refine lv_iconst (v := 0) hx hb d_Mo_count_5 (by decide) ?_
  refine lv_istore_n (lv' := [(2, .int 0), (0, .ref (base + adm 0 0)), (1, .int 0)]) hx hb d_Mo_count_6 rfl hl (by decide) rfl (fun ls hl => ?_)
  refine lv_iconst (v := 0) hx hb d_Mo_count_7 (by decide) ?_
  refine lv_istore_n (lv' := [(3, .int 0), (2, .int 0), (0, .ref (base + adm 0 0)), (1, .int 0)]) hx hb d_Mo_count_8 rfl hl (by decide) rfl (fun ls hl => ?_)
  have loop : ∀ (n k : Nat), k ≤ 12 → 12 + 1 ≤ k + n → ∀ (a : Int32), a = bx_sum (mf0 (up σ 0 0 1 0)) k → ∀ (H : Heap) (locs : List Loc), va_P D classes (wl base 16 (memo ar base (up σ 0 0 1 0))) H → va_S (inB base 16) s.heap H locs → ∀ ls : Array Slot, lv_has ls 4 [(3, .int (nI k)), (2, .int a), (0, .ref (base + adm 0 0)), (1, .int 0)] → W p l ev (rmL 1) s m ([.ref (base + adm 0 0), .int 0] : List Value).toArray below meth c H locs 0 0 (MQX below (QO D ar base (fun k r σ' => k = 0 ∧ r = some (mCount σ 0).1 ∧ σ' = (mCount σ 0).2)) ([.ref (base + adm 0 0), .int 0] : List Value).toArray s (rmL 1).cells (rmL 1).slots (inB base 16)) (F0 m 9 ls []) := by
    intro n
    induction n with
    | zero => intro k h1 h2; omega
    | succ n ih =>
      intro k hk1 hk2 a hinv H locs hP hS ls hl
      refine lv_iload_n hx hb d_Mo_count_9 rfl (lv_at hl 0 rfl) ?_
      refine lv_bipush (v := 12) hx hb d_Mo_count_10 (by decide) ?_
      refine lv_icmp_ge (tgt := 113) hx hb d_Mo_count_12 (by decide) (fun c_12 => ?_) (fun c_12 => ?_)
      · skip
        have hkN : k = 12 := by have := ge_nI (N := 12) c_12; omega
        subst hkN
        refine lv_iload_n hx hb d_Mo_count_113 rfl (lv_at hl 3 rfl) ?_
        refine lv_tableIn (x := 0) (off := 54) (tgt := 168) hx hb d_Mo_count_114 (by decide) (by decide) (by decide) (by decide) ?_
        refine lv_iload_n hx hb d_Mo_count_168 rfl (lv_at hl 1 rfl) ?_
        exact mrI_i C0 hP hS (⟨by decide, by decide⟩) (⟨rfl, congrArg some (by unfold mCount mCntF; rw [if_pos rfl]; first | done | exact hinv), rfl⟩) d_Mo_count_169
      · skip
        have hkN : k < 12 := lt_nI (N := 12) c_12
        refine lv_iload_n hx hb d_Mo_count_15 rfl (lv_at hl 3 rfl) ?_
        refine lv_if_ne (tgt := 36) hx hb d_Mo_count_16 (by decide) (fun c_16 => ?_) (fun c_16 => ?_)
        · skip
          exact absurd rfl c_16
        · skip
          refine lv_iload_n hx hb d_Mo_count_19 rfl (lv_at hl 0 rfl) ?_
          refine lv_iconst (v := 4) hx hb d_Mo_count_20 (by decide) ?_
          refine lv_icmp_ge (tgt := 36) hx hb d_Mo_count_21 (by decide) (fun c_21 => ?_) (fun c_21 => ?_)
          · skip
            refine lv_iload_n hx hb d_Mo_count_36 rfl (lv_at hl 3 rfl) ?_
            refine lv_iconst (v := 1) hx hb d_Mo_count_37 (by decide) ?_
            refine lv_icmp_ne (tgt := 53) hx hb d_Mo_count_38 (by decide) (fun c_38 => ?_) (fun c_38 => ?_)
            · skip
              refine lv_iload_n hx hb d_Mo_count_53 rfl (lv_at hl 3 rfl) ?_
              refine lv_iconst (v := 3) hx hb d_Mo_count_54 (by decide) ?_
              refine lv_icmp_ne (tgt := 70) hx hb d_Mo_count_55 (by decide) (fun c_55 => ?_) (fun c_55 => ?_)
              · skip
                refine lv_iload_n hx hb d_Mo_count_70 rfl (lv_at hl 3 rfl) ?_
                refine lv_iconst (v := 4) hx hb d_Mo_count_71 (by decide) ?_
                refine lv_icmp_ne (tgt := 84) hx hb d_Mo_count_72 (by decide) (fun c_72 => ?_) (fun c_72 => ?_)
                · skip
                  refine lv_iload_n hx hb d_Mo_count_84 rfl (lv_at hl 3 rfl) ?_
                  refine lv_bipush (v := 9) hx hb d_Mo_count_85 (by decide) ?_
                  refine lv_icmp_ne (tgt := 107) hx hb d_Mo_count_87 (by decide) (fun c_87 => ?_) (fun c_87 => ?_)
                  · skip
                    refine lv_iinc (v := nI (k + 1)) (lv' := [(3, .int (nI (k + 1))), (2, .int a), (0, .ref (base + adm 0 0)), (1, .int 0)]) hx hb d_Mo_count_107 hl (k := 0) rfl (by exact nI_1 k) (by decide) rfl (fun ls hl => ?_)
                    refine lv_goto (tgt := 9) hx hb d_Mo_count_110 (by decide) ?_
                    exact ih (k + 1) (by omega) (by omega) a (bx_s0 hinv (if_pos c_21)) _ _ hP hS ls (lv_sub hl [0, 1, 2, 3] rfl)
                  · skip
                    exact absurd c_87 (by decide)
                · skip
                  exact absurd c_72 (by decide)
              · skip
                exact absurd c_55 (by decide)
            · skip
              exact absurd c_38 (by decide)
          · skip
            refine lv_aload_n hx hb d_Mo_count_24 rfl (lv_at hl 2 rfl) ?_
            refine mq_get C0 hP (kd := 0) (i := 0) (ci := 4) (by decide) (by decide) rfl rfl 5 (by decide) rfl k_fl_Mo_25 rfl d_Mo_count_25 ?_
            refine lv_iload_n hx hb d_Mo_count_28 rfl (lv_at hl 0 rfl) ?_
            refine mq_zald C0 hP (kd := 6) (i := 0) (by decide) (by decide) rfl (vin_nI (lt_nI (N := 4) c_21)) d_Mo_count_29 ?_
            rw [show (nI k).toNatClampNeg = k from nI_clamp (by omega)]
            refine W.eq (g2 := F0 m 30 ls [.int (σ 6 0 k)]) rfl ?_
            refine lv_if_eq (tgt := 36) hx hb d_Mo_count_30 (by decide) (fun c_30 => ?_) (fun c_30 => ?_)
            · skip
              refine lv_iload_n hx hb d_Mo_count_36 rfl (lv_at hl 3 rfl) ?_
              refine lv_iconst (v := 1) hx hb d_Mo_count_37 (by decide) ?_
              refine lv_icmp_ne (tgt := 53) hx hb d_Mo_count_38 (by decide) (fun c_38 => ?_) (fun c_38 => ?_)
              · skip
                refine lv_iload_n hx hb d_Mo_count_53 rfl (lv_at hl 3 rfl) ?_
                refine lv_iconst (v := 3) hx hb d_Mo_count_54 (by decide) ?_
                refine lv_icmp_ne (tgt := 70) hx hb d_Mo_count_55 (by decide) (fun c_55 => ?_) (fun c_55 => ?_)
                · skip
                  refine lv_iload_n hx hb d_Mo_count_70 rfl (lv_at hl 3 rfl) ?_
                  refine lv_iconst (v := 4) hx hb d_Mo_count_71 (by decide) ?_
                  refine lv_icmp_ne (tgt := 84) hx hb d_Mo_count_72 (by decide) (fun c_72 => ?_) (fun c_72 => ?_)
                  · skip
                    refine lv_iload_n hx hb d_Mo_count_84 rfl (lv_at hl 3 rfl) ?_
                    refine lv_bipush (v := 9) hx hb d_Mo_count_85 (by decide) ?_
                    refine lv_icmp_ne (tgt := 107) hx hb d_Mo_count_87 (by decide) (fun c_87 => ?_) (fun c_87 => ?_)
                    · skip
                      refine lv_iinc (v := nI (k + 1)) (lv' := [(3, .int (nI (k + 1))), (2, .int a), (0, .ref (base + adm 0 0)), (1, .int 0)]) hx hb d_Mo_count_107 hl (k := 0) rfl (by exact nI_1 k) (by decide) rfl (fun ls hl => ?_)
                      refine lv_goto (tgt := 9) hx hb d_Mo_count_110 (by decide) ?_
                      exact ih (k + 1) (by omega) (by omega) a (bx_s0 hinv (by unfold mf0; rw [if_neg c_21]; exact if_pos c_30)) _ _ hP hS ls (lv_sub hl [0, 1, 2, 3] rfl)
                    · skip
                      exact absurd c_87 (by decide)
                  · skip
                    exact absurd c_72 (by decide)
                · skip
                  exact absurd c_55 (by decide)
              · skip
                exact absurd c_38 (by decide)
            · skip
              refine lv_iinc (v := a + 1) (lv' := [(2, .int (a + 1)), (3, .int (nI k)), (0, .ref (base + adm 0 0)), (1, .int 0)]) hx hb d_Mo_count_33 hl (k := 1) rfl (by exact rfl) (by decide) rfl (fun ls hl => ?_)
              refine lv_iload_n hx hb d_Mo_count_36 rfl (lv_at hl 3 rfl) ?_
              refine lv_iconst (v := 1) hx hb d_Mo_count_37 (by decide) ?_
              refine lv_icmp_ne (tgt := 53) hx hb d_Mo_count_38 (by decide) (fun c_38 => ?_) (fun c_38 => ?_)
              · skip
                refine lv_iload_n hx hb d_Mo_count_53 rfl (lv_at hl 3 rfl) ?_
                refine lv_iconst (v := 3) hx hb d_Mo_count_54 (by decide) ?_
                refine lv_icmp_ne (tgt := 70) hx hb d_Mo_count_55 (by decide) (fun c_55 => ?_) (fun c_55 => ?_)
                · skip
                  refine lv_iload_n hx hb d_Mo_count_70 rfl (lv_at hl 3 rfl) ?_
                  refine lv_iconst (v := 4) hx hb d_Mo_count_71 (by decide) ?_
                  refine lv_icmp_ne (tgt := 84) hx hb d_Mo_count_72 (by decide) (fun c_72 => ?_) (fun c_72 => ?_)
                  · skip
                    refine lv_iload_n hx hb d_Mo_count_84 rfl (lv_at hl 3 rfl) ?_
                    refine lv_bipush (v := 9) hx hb d_Mo_count_85 (by decide) ?_
                    refine lv_icmp_ne (tgt := 107) hx hb d_Mo_count_87 (by decide) (fun c_87 => ?_) (fun c_87 => ?_)
                    · skip
                      refine lv_iinc (v := nI (k + 1)) (lv' := [(3, .int (nI (k + 1))), (2, .int (a + 1)), (0, .ref (base + adm 0 0)), (1, .int 0)]) hx hb d_Mo_count_107 hl (k := 1) rfl (by exact nI_1 k) (by decide) rfl (fun ls hl => ?_)
                      refine lv_goto (tgt := 9) hx hb d_Mo_count_110 (by decide) ?_
                      exact ih (k + 1) (by omega) (by omega) (a + 1) (bx_s1 hinv (by unfold mf0; rw [if_neg c_21]; exact if_neg c_30)) _ _ hP hS ls (lv_sub hl [0, 1, 2, 3] rfl)
                    · skip
                      exact absurd c_87 (by decide)
                  · skip
                    exact absurd c_72 (by decide)
                · skip
                  exact absurd c_55 (by decide)
              · skip
                exact absurd c_38 (by decide)
  exact loop (12 + 1) 0 (by omega) (by omega) 0 (rfl) _ _ hP hS ls (lv_sub hl [0, 1, 2, 3] rfl)
set_option maxHeartbeats 4000000 in
set_option maxRecDepth 100000 in
theorem c_Mo_count_1 {S0 : State} {A0 : Array Value} {D : va_G} {ar : Nat → ClassId} {base : Nat} {σ : Mem} {l : Launch} (hlt : l.stackTraces = false)  :
    MX l y_Mo_count [Cond.code y_Mo_count b_Mo_count 4 (some .int)] (rmL 1) (PO S0 A0 D ar base σ [.ref (base + adm 0 0), .int 1]) (QO D ar base (fun k r σ' => k = 0 ∧ r = some (mCount σ 1).1 ∧ σ' = (mCount σ 1).2)) (inB base 16) := by
  refine mx_head hlt (by decide +kernel) (Nat.le_of_ble_eq_true rfl) ?_
  intro p ev s m below meth c ls C0 hP hl
  have C0 : Cx S0 A0 D ar base p l s m _ meth c R_Mo b_Mo_count 4 (some .int) := C0
  obtain ⟨hx, hb, -⟩ := id C0
  have hl : lv_has ls 4 [(0, .ref (base + adm 0 0)), (1, .int 1)] := hl
  have hS : va_S (inB base 16) s.heap s.heap [] := va_S.rf
  refine lv_aload_n hx hb d_Mo_count_0 rfl (lv_at hl 0 rfl) ?_
  refine lv_iconst (v := 0) hx hb d_Mo_count_1 (by decide) ?_
  refine mq_put C0 hP hS (kd := 0) (i := 0) (ci := 4) 0 1 (by decide) rfl (by decide) rfl rfl t_Mo t_Mo_ok n_Mo 16 (by decide) rfl k_fl_Mo_56 rfl (by decide +kernel) (Nat.le_of_ble_eq_true rfl) (by simp [conto, up]) d_Mo_count_2 (fun H locs hP hS => ?_)
  refine lv_iconst (v := 0) hx hb d_Mo_count_5 (by decide) ?_
  refine lv_istore_n (lv' := [(2, .int 0), (0, .ref (base + adm 0 0)), (1, .int 1)]) hx hb d_Mo_count_6 rfl hl (by decide) rfl (fun ls hl => ?_)
  refine lv_iconst (v := 0) hx hb d_Mo_count_7 (by decide) ?_
  refine lv_istore_n (lv' := [(3, .int 0), (2, .int 0), (0, .ref (base + adm 0 0)), (1, .int 1)]) hx hb d_Mo_count_8 rfl hl (by decide) rfl (fun ls hl => ?_)
  have loop : ∀ (n k : Nat), k ≤ 12 → 12 + 1 ≤ k + n → ∀ (a : Int32), a = bx_sum (mf1 (up σ 0 0 1 0)) k → ∀ (H : Heap) (locs : List Loc), va_P D classes (wl base 16 (memo ar base (up σ 0 0 1 0))) H → va_S (inB base 16) s.heap H locs → ∀ ls : Array Slot, lv_has ls 4 [(3, .int (nI k)), (2, .int a), (0, .ref (base + adm 0 0)), (1, .int 1)] → W p l ev (rmL 1) s m ([.ref (base + adm 0 0), .int 1] : List Value).toArray below meth c H locs 0 0 (MQX below (QO D ar base (fun k r σ' => k = 0 ∧ r = some (mCount σ 1).1 ∧ σ' = (mCount σ 1).2)) ([.ref (base + adm 0 0), .int 1] : List Value).toArray s (rmL 1).cells (rmL 1).slots (inB base 16)) (F0 m 9 ls []) := by
    intro n
    induction n with
    | zero => intro k h1 h2; omega
    | succ n ih =>
      intro k hk1 hk2 a hinv H locs hP hS ls hl
      refine lv_iload_n hx hb d_Mo_count_9 rfl (lv_at hl 0 rfl) ?_
      refine lv_bipush (v := 12) hx hb d_Mo_count_10 (by decide) ?_
      refine lv_icmp_ge (tgt := 113) hx hb d_Mo_count_12 (by decide) (fun c_12 => ?_) (fun c_12 => ?_)
      · skip
        have hkN : k = 12 := by have := ge_nI (N := 12) c_12; omega
        subst hkN
        refine lv_iload_n hx hb d_Mo_count_113 rfl (lv_at hl 3 rfl) ?_
        refine lv_tableIn (x := 1) (off := 54) (tgt := 168) hx hb d_Mo_count_114 (by decide) (by decide) (by decide) (by decide) ?_
        refine lv_iload_n hx hb d_Mo_count_168 rfl (lv_at hl 1 rfl) ?_
        exact mrI_i C0 hP hS (⟨by decide, by decide⟩) (⟨rfl, congrArg some (by unfold mCount mCntF; rw [if_neg (show ¬ (1 : Int32) = 0 by decide), if_pos rfl]; first | done | exact hinv), rfl⟩) d_Mo_count_169
      · skip
        have hkN : k < 12 := lt_nI (N := 12) c_12
        refine lv_iload_n hx hb d_Mo_count_15 rfl (lv_at hl 3 rfl) ?_
        refine lv_if_ne (tgt := 36) hx hb d_Mo_count_16 (by decide) (fun c_16 => ?_) (fun c_16 => ?_)
        · skip
          refine lv_iload_n hx hb d_Mo_count_36 rfl (lv_at hl 3 rfl) ?_
          refine lv_iconst (v := 1) hx hb d_Mo_count_37 (by decide) ?_
          refine lv_icmp_ne (tgt := 53) hx hb d_Mo_count_38 (by decide) (fun c_38 => ?_) (fun c_38 => ?_)
          · skip
            exact absurd rfl c_38
          · skip
            refine lv_aload_n hx hb d_Mo_count_41 rfl (lv_at hl 2 rfl) ?_
            refine mq_get C0 hP (kd := 0) (i := 0) (ci := 4) (by decide) (by decide) rfl rfl 6 (by decide) rfl k_fl_Mo_29 rfl d_Mo_count_42 ?_
            refine lv_iload_n hx hb d_Mo_count_45 rfl (lv_at hl 0 rfl) ?_
            refine mq_iald C0 hP (kd := 7) (i := 0) (by decide) (by decide) rfl (vin_nI hkN) d_Mo_count_46 ?_
            rw [show (nI k).toNatClampNeg = k from nI_clamp (by omega)]
            refine W.eq (g2 := F0 m 47 ls [.int (σ 7 0 k)]) rfl ?_
            refine lv_if_lt (tgt := 53) hx hb d_Mo_count_47 (by decide) (fun c_47 => ?_) (fun c_47 => ?_)
            · skip
              refine lv_iload_n hx hb d_Mo_count_53 rfl (lv_at hl 3 rfl) ?_
              refine lv_iconst (v := 3) hx hb d_Mo_count_54 (by decide) ?_
              refine lv_icmp_ne (tgt := 70) hx hb d_Mo_count_55 (by decide) (fun c_55 => ?_) (fun c_55 => ?_)
              · skip
                refine lv_iload_n hx hb d_Mo_count_70 rfl (lv_at hl 3 rfl) ?_
                refine lv_iconst (v := 4) hx hb d_Mo_count_71 (by decide) ?_
                refine lv_icmp_ne (tgt := 84) hx hb d_Mo_count_72 (by decide) (fun c_72 => ?_) (fun c_72 => ?_)
                · skip
                  refine lv_iload_n hx hb d_Mo_count_84 rfl (lv_at hl 3 rfl) ?_
                  refine lv_bipush (v := 9) hx hb d_Mo_count_85 (by decide) ?_
                  refine lv_icmp_ne (tgt := 107) hx hb d_Mo_count_87 (by decide) (fun c_87 => ?_) (fun c_87 => ?_)
                  · skip
                    refine lv_iinc (v := nI (k + 1)) (lv' := [(3, .int (nI (k + 1))), (2, .int a), (0, .ref (base + adm 0 0)), (1, .int 1)]) hx hb d_Mo_count_107 hl (k := 0) rfl (by exact nI_1 k) (by decide) rfl (fun ls hl => ?_)
                    refine lv_goto (tgt := 9) hx hb d_Mo_count_110 (by decide) ?_
                    exact ih (k + 1) (by omega) (by omega) a (bx_s0 hinv (if_pos c_47)) _ _ hP hS ls (lv_sub hl [0, 1, 2, 3] rfl)
                  · skip
                    exact absurd c_87 (by decide)
                · skip
                  exact absurd c_72 (by decide)
              · skip
                exact absurd c_55 (by decide)
            · skip
              refine lv_iinc (v := a + 1) (lv' := [(2, .int (a + 1)), (3, .int (nI k)), (0, .ref (base + adm 0 0)), (1, .int 1)]) hx hb d_Mo_count_50 hl (k := 1) rfl (by exact rfl) (by decide) rfl (fun ls hl => ?_)
              refine lv_iload_n hx hb d_Mo_count_53 rfl (lv_at hl 3 rfl) ?_
              refine lv_iconst (v := 3) hx hb d_Mo_count_54 (by decide) ?_
              refine lv_icmp_ne (tgt := 70) hx hb d_Mo_count_55 (by decide) (fun c_55 => ?_) (fun c_55 => ?_)
              · skip
                refine lv_iload_n hx hb d_Mo_count_70 rfl (lv_at hl 3 rfl) ?_
                refine lv_iconst (v := 4) hx hb d_Mo_count_71 (by decide) ?_
                refine lv_icmp_ne (tgt := 84) hx hb d_Mo_count_72 (by decide) (fun c_72 => ?_) (fun c_72 => ?_)
                · skip
                  refine lv_iload_n hx hb d_Mo_count_84 rfl (lv_at hl 3 rfl) ?_
                  refine lv_bipush (v := 9) hx hb d_Mo_count_85 (by decide) ?_
                  refine lv_icmp_ne (tgt := 107) hx hb d_Mo_count_87 (by decide) (fun c_87 => ?_) (fun c_87 => ?_)
                  · skip
                    refine lv_iinc (v := nI (k + 1)) (lv' := [(3, .int (nI (k + 1))), (2, .int (a + 1)), (0, .ref (base + adm 0 0)), (1, .int 1)]) hx hb d_Mo_count_107 hl (k := 1) rfl (by exact nI_1 k) (by decide) rfl (fun ls hl => ?_)
                    refine lv_goto (tgt := 9) hx hb d_Mo_count_110 (by decide) ?_
                    exact ih (k + 1) (by omega) (by omega) (a + 1) (bx_s1 hinv (if_neg c_47)) _ _ hP hS ls (lv_sub hl [0, 1, 2, 3] rfl)
                  · skip
                    exact absurd c_87 (by decide)
                · skip
                  exact absurd c_72 (by decide)
              · skip
                exact absurd c_55 (by decide)
        · skip
          exact absurd c_16 (by decide)
  exact loop (12 + 1) 0 (by omega) (by omega) 0 (rfl) _ _ hP hS ls (lv_sub hl [0, 1, 2, 3] rfl)
set_option maxHeartbeats 4000000 in
set_option maxRecDepth 100000 in
theorem c_Mo_count_3 {S0 : State} {A0 : Array Value} {D : va_G} {ar : Nat → ClassId} {base : Nat} {σ : Mem} {l : Launch} (hlt : l.stackTraces = false)  :
    MX l y_Mo_count [Cond.code y_Mo_count b_Mo_count 4 (some .int)] (rmL 1) (PO S0 A0 D ar base σ [.ref (base + adm 0 0), .int 3]) (QO D ar base (fun k r σ' => k = 0 ∧ r = some (mCount σ 3).1 ∧ σ' = (mCount σ 3).2)) (inB base 16) := by
  refine mx_head hlt (by decide +kernel) (Nat.le_of_ble_eq_true rfl) ?_
  intro p ev s m below meth c ls C0 hP hl
  have C0 : Cx S0 A0 D ar base p l s m _ meth c R_Mo b_Mo_count 4 (some .int) := C0
  obtain ⟨hx, hb, -⟩ := id C0
  have hl : lv_has ls 4 [(0, .ref (base + adm 0 0)), (1, .int 3)] := hl
  have hS : va_S (inB base 16) s.heap s.heap [] := va_S.rf
  refine lv_aload_n hx hb d_Mo_count_0 rfl (lv_at hl 0 rfl) ?_
  refine lv_iconst (v := 0) hx hb d_Mo_count_1 (by decide) ?_
  refine mq_put C0 hP hS (kd := 0) (i := 0) (ci := 4) 0 1 (by decide) rfl (by decide) rfl rfl t_Mo t_Mo_ok n_Mo 16 (by decide) rfl k_fl_Mo_56 rfl (by decide +kernel) (Nat.le_of_ble_eq_true rfl) (by simp [conto, up]) d_Mo_count_2 (fun H locs hP hS => ?_)
  refine lv_iconst (v := 0) hx hb d_Mo_count_5 (by decide) ?_
  refine lv_istore_n (lv' := [(2, .int 0), (0, .ref (base + adm 0 0)), (1, .int 3)]) hx hb d_Mo_count_6 rfl hl (by decide) rfl (fun ls hl => ?_)
  refine lv_iconst (v := 0) hx hb d_Mo_count_7 (by decide) ?_
  refine lv_istore_n (lv' := [(3, .int 0), (2, .int 0), (0, .ref (base + adm 0 0)), (1, .int 3)]) hx hb d_Mo_count_8 rfl hl (by decide) rfl (fun ls hl => ?_)
  have loop : ∀ (n k : Nat), k ≤ 12 → 12 + 1 ≤ k + n → ∀ (a : Int32), a = bx_sum (mf3 (up σ 0 0 1 0)) k → ∀ (H : Heap) (locs : List Loc), va_P D classes (wl base 16 (memo ar base (up σ 0 0 1 0))) H → va_S (inB base 16) s.heap H locs → ∀ ls : Array Slot, lv_has ls 4 [(3, .int (nI k)), (2, .int a), (0, .ref (base + adm 0 0)), (1, .int 3)] → W p l ev (rmL 1) s m ([.ref (base + adm 0 0), .int 3] : List Value).toArray below meth c H locs 0 0 (MQX below (QO D ar base (fun k r σ' => k = 0 ∧ r = some (mCount σ 3).1 ∧ σ' = (mCount σ 3).2)) ([.ref (base + adm 0 0), .int 3] : List Value).toArray s (rmL 1).cells (rmL 1).slots (inB base 16)) (F0 m 9 ls []) := by
    intro n
    induction n with
    | zero => intro k h1 h2; omega
    | succ n ih =>
      intro k hk1 hk2 a hinv H locs hP hS ls hl
      refine lv_iload_n hx hb d_Mo_count_9 rfl (lv_at hl 0 rfl) ?_
      refine lv_bipush (v := 12) hx hb d_Mo_count_10 (by decide) ?_
      refine lv_icmp_ge (tgt := 113) hx hb d_Mo_count_12 (by decide) (fun c_12 => ?_) (fun c_12 => ?_)
      · skip
        have hkN : k = 12 := by have := ge_nI (N := 12) c_12; omega
        subst hkN
        refine lv_iload_n hx hb d_Mo_count_113 rfl (lv_at hl 3 rfl) ?_
        refine lv_tableIn (x := 3) (off := 54) (tgt := 168) hx hb d_Mo_count_114 (by decide) (by decide) (by decide) (by decide) ?_
        refine lv_iload_n hx hb d_Mo_count_168 rfl (lv_at hl 1 rfl) ?_
        exact mrI_i C0 hP hS (⟨by decide, by decide⟩) (⟨rfl, congrArg some (by unfold mCount mCntF; rw [if_neg (show ¬ (3 : Int32) = 0 by decide), if_neg (show ¬ (3 : Int32) = 1 by decide), if_neg (show ¬ (3 : Int32) = 2 by decide), if_pos rfl]; first | done | exact hinv), rfl⟩) d_Mo_count_169
      · skip
        have hkN : k < 12 := lt_nI (N := 12) c_12
        refine lv_iload_n hx hb d_Mo_count_15 rfl (lv_at hl 3 rfl) ?_
        refine lv_if_ne (tgt := 36) hx hb d_Mo_count_16 (by decide) (fun c_16 => ?_) (fun c_16 => ?_)
        · skip
          refine lv_iload_n hx hb d_Mo_count_36 rfl (lv_at hl 3 rfl) ?_
          refine lv_iconst (v := 1) hx hb d_Mo_count_37 (by decide) ?_
          refine lv_icmp_ne (tgt := 53) hx hb d_Mo_count_38 (by decide) (fun c_38 => ?_) (fun c_38 => ?_)
          · skip
            refine lv_iload_n hx hb d_Mo_count_53 rfl (lv_at hl 3 rfl) ?_
            refine lv_iconst (v := 3) hx hb d_Mo_count_54 (by decide) ?_
            refine lv_icmp_ne (tgt := 70) hx hb d_Mo_count_55 (by decide) (fun c_55 => ?_) (fun c_55 => ?_)
            · skip
              exact absurd rfl c_55
            · skip
              refine lv_aload_n hx hb d_Mo_count_58 rfl (lv_at hl 2 rfl) ?_
              refine mq_get C0 hP (kd := 0) (i := 0) (ci := 4) (by decide) (by decide) rfl rfl 9 (by decide) rfl k_fl_Mo_38 rfl d_Mo_count_59 ?_
              refine lv_iload_n hx hb d_Mo_count_62 rfl (lv_at hl 0 rfl) ?_
              refine mq_iald C0 hP (kd := 10) (i := 0) (by decide) (by decide) rfl (vin_nI hkN) d_Mo_count_63 ?_
              rw [show (nI k).toNatClampNeg = k from nI_clamp (by omega)]
              refine W.eq (g2 := F0 m 64 ls [.int (σ 10 0 k)]) rfl ?_
              refine lv_if_lt (tgt := 70) hx hb d_Mo_count_64 (by decide) (fun c_64 => ?_) (fun c_64 => ?_)
              · skip
                refine lv_iload_n hx hb d_Mo_count_70 rfl (lv_at hl 3 rfl) ?_
                refine lv_iconst (v := 4) hx hb d_Mo_count_71 (by decide) ?_
                refine lv_icmp_ne (tgt := 84) hx hb d_Mo_count_72 (by decide) (fun c_72 => ?_) (fun c_72 => ?_)
                · skip
                  refine lv_iload_n hx hb d_Mo_count_84 rfl (lv_at hl 3 rfl) ?_
                  refine lv_bipush (v := 9) hx hb d_Mo_count_85 (by decide) ?_
                  refine lv_icmp_ne (tgt := 107) hx hb d_Mo_count_87 (by decide) (fun c_87 => ?_) (fun c_87 => ?_)
                  · skip
                    refine lv_iinc (v := nI (k + 1)) (lv' := [(3, .int (nI (k + 1))), (2, .int a), (0, .ref (base + adm 0 0)), (1, .int 3)]) hx hb d_Mo_count_107 hl (k := 0) rfl (by exact nI_1 k) (by decide) rfl (fun ls hl => ?_)
                    refine lv_goto (tgt := 9) hx hb d_Mo_count_110 (by decide) ?_
                    exact ih (k + 1) (by omega) (by omega) a (bx_s0 hinv (if_pos c_64)) _ _ hP hS ls (lv_sub hl [0, 1, 2, 3] rfl)
                  · skip
                    exact absurd c_87 (by decide)
                · skip
                  exact absurd c_72 (by decide)
              · skip
                refine lv_iinc (v := a + 1) (lv' := [(2, .int (a + 1)), (3, .int (nI k)), (0, .ref (base + adm 0 0)), (1, .int 3)]) hx hb d_Mo_count_67 hl (k := 1) rfl (by exact rfl) (by decide) rfl (fun ls hl => ?_)
                refine lv_iload_n hx hb d_Mo_count_70 rfl (lv_at hl 3 rfl) ?_
                refine lv_iconst (v := 4) hx hb d_Mo_count_71 (by decide) ?_
                refine lv_icmp_ne (tgt := 84) hx hb d_Mo_count_72 (by decide) (fun c_72 => ?_) (fun c_72 => ?_)
                · skip
                  refine lv_iload_n hx hb d_Mo_count_84 rfl (lv_at hl 3 rfl) ?_
                  refine lv_bipush (v := 9) hx hb d_Mo_count_85 (by decide) ?_
                  refine lv_icmp_ne (tgt := 107) hx hb d_Mo_count_87 (by decide) (fun c_87 => ?_) (fun c_87 => ?_)
                  · skip
                    refine lv_iinc (v := nI (k + 1)) (lv' := [(3, .int (nI (k + 1))), (2, .int (a + 1)), (0, .ref (base + adm 0 0)), (1, .int 3)]) hx hb d_Mo_count_107 hl (k := 1) rfl (by exact nI_1 k) (by decide) rfl (fun ls hl => ?_)
                    refine lv_goto (tgt := 9) hx hb d_Mo_count_110 (by decide) ?_
                    exact ih (k + 1) (by omega) (by omega) (a + 1) (bx_s1 hinv (if_neg c_64)) _ _ hP hS ls (lv_sub hl [0, 1, 2, 3] rfl)
                  · skip
                    exact absurd c_87 (by decide)
                · skip
                  exact absurd c_72 (by decide)
          · skip
            exact absurd c_38 (by decide)
        · skip
          exact absurd c_16 (by decide)
  exact loop (12 + 1) 0 (by omega) (by omega) 0 (rfl) _ _ hP hS ls (lv_sub hl [0, 1, 2, 3] rfl)
set_option maxHeartbeats 4000000 in
set_option maxRecDepth 100000 in
theorem c_Mo_count_4 {S0 : State} {A0 : Array Value} {D : va_G} {ar : Nat → ClassId} {base : Nat} {σ : Mem} {l : Launch} (hlt : l.stackTraces = false)  :
    MX l y_Mo_count [Cond.code y_Mo_count b_Mo_count 4 (some .int)] (rmL 1) (PO S0 A0 D ar base σ [.ref (base + adm 0 0), .int 4]) (QO D ar base (fun k r σ' => k = 0 ∧ r = some (mCount σ 4).1 ∧ σ' = (mCount σ 4).2)) (inB base 16) := by
  refine mx_head hlt (by decide +kernel) (Nat.le_of_ble_eq_true rfl) ?_
  intro p ev s m below meth c ls C0 hP hl
  have C0 : Cx S0 A0 D ar base p l s m _ meth c R_Mo b_Mo_count 4 (some .int) := C0
  obtain ⟨hx, hb, -⟩ := id C0
  have hl : lv_has ls 4 [(0, .ref (base + adm 0 0)), (1, .int 4)] := hl
  have hS : va_S (inB base 16) s.heap s.heap [] := va_S.rf
  refine lv_aload_n hx hb d_Mo_count_0 rfl (lv_at hl 0 rfl) ?_
  refine lv_iconst (v := 0) hx hb d_Mo_count_1 (by decide) ?_
  refine mq_put C0 hP hS (kd := 0) (i := 0) (ci := 4) 0 1 (by decide) rfl (by decide) rfl rfl t_Mo t_Mo_ok n_Mo 16 (by decide) rfl k_fl_Mo_56 rfl (by decide +kernel) (Nat.le_of_ble_eq_true rfl) (by simp [conto, up]) d_Mo_count_2 (fun H locs hP hS => ?_)
  refine lv_iconst (v := 0) hx hb d_Mo_count_5 (by decide) ?_
  refine lv_istore_n (lv' := [(2, .int 0), (0, .ref (base + adm 0 0)), (1, .int 4)]) hx hb d_Mo_count_6 rfl hl (by decide) rfl (fun ls hl => ?_)
  refine lv_iconst (v := 0) hx hb d_Mo_count_7 (by decide) ?_
  refine lv_istore_n (lv' := [(3, .int 0), (2, .int 0), (0, .ref (base + adm 0 0)), (1, .int 4)]) hx hb d_Mo_count_8 rfl hl (by decide) rfl (fun ls hl => ?_)
  have loop : ∀ (n k : Nat), k ≤ 12 → 12 + 1 ≤ k + n → ∀ (a : Int32), a = bx_sum (mf4 (up σ 0 0 1 0)) k → ∀ (H : Heap) (locs : List Loc), va_P D classes (wl base 16 (memo ar base (up σ 0 0 1 0))) H → va_S (inB base 16) s.heap H locs → ∀ ls : Array Slot, lv_has ls 4 [(3, .int (nI k)), (2, .int a), (0, .ref (base + adm 0 0)), (1, .int 4)] → W p l ev (rmL 1) s m ([.ref (base + adm 0 0), .int 4] : List Value).toArray below meth c H locs 0 0 (MQX below (QO D ar base (fun k r σ' => k = 0 ∧ r = some (mCount σ 4).1 ∧ σ' = (mCount σ 4).2)) ([.ref (base + adm 0 0), .int 4] : List Value).toArray s (rmL 1).cells (rmL 1).slots (inB base 16)) (F0 m 9 ls []) := by
    intro n
    induction n with
    | zero => intro k h1 h2; omega
    | succ n ih =>
      intro k hk1 hk2 a hinv H locs hP hS ls hl
      refine lv_iload_n hx hb d_Mo_count_9 rfl (lv_at hl 0 rfl) ?_
      refine lv_bipush (v := 12) hx hb d_Mo_count_10 (by decide) ?_
      refine lv_icmp_ge (tgt := 113) hx hb d_Mo_count_12 (by decide) (fun c_12 => ?_) (fun c_12 => ?_)
      · skip
        have hkN : k = 12 := by have := ge_nI (N := 12) c_12; omega
        subst hkN
        refine lv_iload_n hx hb d_Mo_count_113 rfl (lv_at hl 3 rfl) ?_
        refine lv_tableIn (x := 4) (off := 54) (tgt := 168) hx hb d_Mo_count_114 (by decide) (by decide) (by decide) (by decide) ?_
        refine lv_iload_n hx hb d_Mo_count_168 rfl (lv_at hl 1 rfl) ?_
        exact mrI_i C0 hP hS (⟨by decide, by decide⟩) (⟨rfl, congrArg some (by unfold mCount mCntF; rw [if_neg (show ¬ (4 : Int32) = 0 by decide), if_neg (show ¬ (4 : Int32) = 1 by decide), if_neg (show ¬ (4 : Int32) = 2 by decide), if_neg (show ¬ (4 : Int32) = 3 by decide), if_pos rfl]; first | done | exact hinv), rfl⟩) d_Mo_count_169
      · skip
        have hkN : k < 12 := lt_nI (N := 12) c_12
        refine lv_iload_n hx hb d_Mo_count_15 rfl (lv_at hl 3 rfl) ?_
        refine lv_if_ne (tgt := 36) hx hb d_Mo_count_16 (by decide) (fun c_16 => ?_) (fun c_16 => ?_)
        · skip
          refine lv_iload_n hx hb d_Mo_count_36 rfl (lv_at hl 3 rfl) ?_
          refine lv_iconst (v := 1) hx hb d_Mo_count_37 (by decide) ?_
          refine lv_icmp_ne (tgt := 53) hx hb d_Mo_count_38 (by decide) (fun c_38 => ?_) (fun c_38 => ?_)
          · skip
            refine lv_iload_n hx hb d_Mo_count_53 rfl (lv_at hl 3 rfl) ?_
            refine lv_iconst (v := 3) hx hb d_Mo_count_54 (by decide) ?_
            refine lv_icmp_ne (tgt := 70) hx hb d_Mo_count_55 (by decide) (fun c_55 => ?_) (fun c_55 => ?_)
            · skip
              refine lv_iload_n hx hb d_Mo_count_70 rfl (lv_at hl 3 rfl) ?_
              refine lv_iconst (v := 4) hx hb d_Mo_count_71 (by decide) ?_
              refine lv_icmp_ne (tgt := 84) hx hb d_Mo_count_72 (by decide) (fun c_72 => ?_) (fun c_72 => ?_)
              · skip
                exact absurd rfl c_72
              · skip
                refine lv_iload_n hx hb d_Mo_count_75 rfl (lv_at hl 1 rfl) ?_
                refine lv_aload_n hx hb d_Mo_count_76 rfl (lv_at hl 2 rfl) ?_
                refine mq_get C0 hP (kd := 0) (i := 0) (ci := 4) (by decide) (by decide) rfl rfl 11 (by decide) rfl k_fl_Mo_44 rfl d_Mo_count_77 ?_
                refine lv_iload_n hx hb d_Mo_count_80 rfl (lv_at hl 0 rfl) ?_
                refine mq_iald C0 hP (kd := 12) (i := 0) (by decide) (by decide) rfl (vin_nI hkN) d_Mo_count_81 ?_
                rw [show (nI k).toNatClampNeg = k from nI_clamp (by omega)]
                refine W.eq (g2 := F0 m 82 ls [.int (σ 12 0 k), .int a]) rfl ?_
                refine lv_iadd hx hb d_Mo_count_82 ?_
                refine lv_istore_n (lv' := [(2, .int (a + (σ 12 0 k))), (3, .int (nI k)), (0, .ref (base + adm 0 0)), (1, .int 4)]) hx hb d_Mo_count_83 rfl hl (by decide) rfl (fun ls hl => ?_)
                refine lv_iload_n hx hb d_Mo_count_84 rfl (lv_at hl 3 rfl) ?_
                refine lv_bipush (v := 9) hx hb d_Mo_count_85 (by decide) ?_
                refine lv_icmp_ne (tgt := 107) hx hb d_Mo_count_87 (by decide) (fun c_87 => ?_) (fun c_87 => ?_)
                · skip
                  refine lv_iinc (v := nI (k + 1)) (lv' := [(3, .int (nI (k + 1))), (2, .int (a + (σ 12 0 k))), (0, .ref (base + adm 0 0)), (1, .int 4)]) hx hb d_Mo_count_107 hl (k := 1) rfl (by exact nI_1 k) (by decide) rfl (fun ls hl => ?_)
                  refine lv_goto (tgt := 9) hx hb d_Mo_count_110 (by decide) ?_
                  exact ih (k + 1) (by omega) (by omega) (a + (σ 12 0 k)) (bx_s hinv) _ _ hP hS ls (lv_sub hl [0, 1, 2, 3] rfl)
                · skip
                  exact absurd c_87 (by decide)
            · skip
              exact absurd c_55 (by decide)
          · skip
            exact absurd c_38 (by decide)
        · skip
          exact absurd c_16 (by decide)
  exact loop (12 + 1) 0 (by omega) (by omega) 0 (rfl) _ _ hP hS ls (lv_sub hl [0, 1, 2, 3] rfl)
set_option maxHeartbeats 4000000 in
set_option maxRecDepth 100000 in
theorem c_Mo_count_9 {S0 : State} {A0 : Array Value} {D : va_G} {ar : Nat → ClassId} {base : Nat} {σ : Mem} {l : Launch} (hlt : l.stackTraces = false)  :
    MX l y_Mo_count [Cond.code y_Mo_count b_Mo_count 4 (some .int)] (rmL 1) (PO S0 A0 D ar base σ [.ref (base + adm 0 0), .int 9]) (QO D ar base (fun k r σ' => k = 0 ∧ r = some (mCount σ 9).1 ∧ σ' = (mCount σ 9).2)) (inB base 16) := by
  refine mx_head hlt (by decide +kernel) (Nat.le_of_ble_eq_true rfl) ?_
  intro p ev s m below meth c ls C0 hP hl
  have C0 : Cx S0 A0 D ar base p l s m _ meth c R_Mo b_Mo_count 4 (some .int) := C0
  obtain ⟨hx, hb, -⟩ := id C0
  have hl : lv_has ls 4 [(0, .ref (base + adm 0 0)), (1, .int 9)] := hl
  have hS : va_S (inB base 16) s.heap s.heap [] := va_S.rf
  refine lv_aload_n hx hb d_Mo_count_0 rfl (lv_at hl 0 rfl) ?_
  refine lv_iconst (v := 0) hx hb d_Mo_count_1 (by decide) ?_
  refine mq_put C0 hP hS (kd := 0) (i := 0) (ci := 4) 0 1 (by decide) rfl (by decide) rfl rfl t_Mo t_Mo_ok n_Mo 16 (by decide) rfl k_fl_Mo_56 rfl (by decide +kernel) (Nat.le_of_ble_eq_true rfl) (by simp [conto, up]) d_Mo_count_2 (fun H locs hP hS => ?_)
  refine lv_iconst (v := 0) hx hb d_Mo_count_5 (by decide) ?_
  refine lv_istore_n (lv' := [(2, .int 0), (0, .ref (base + adm 0 0)), (1, .int 9)]) hx hb d_Mo_count_6 rfl hl (by decide) rfl (fun ls hl => ?_)
  refine lv_iconst (v := 0) hx hb d_Mo_count_7 (by decide) ?_
  refine lv_istore_n (lv' := [(3, .int 0), (2, .int 0), (0, .ref (base + adm 0 0)), (1, .int 9)]) hx hb d_Mo_count_8 rfl hl (by decide) rfl (fun ls hl => ?_)
  have loop : ∀ (n k : Nat), k ≤ 12 → 12 + 1 ≤ k + n → ∀ (a : Int32), a = bx_sum (mf9 (up σ 0 0 1 0)) k → ∀ (H : Heap) (locs : List Loc), va_P D classes (wl base 16 (memo ar base (up σ 0 0 1 0))) H → va_S (inB base 16) s.heap H locs → ∀ ls : Array Slot, lv_has ls 4 [(3, .int (nI k)), (2, .int a), (0, .ref (base + adm 0 0)), (1, .int 9)] → W p l ev (rmL 1) s m ([.ref (base + adm 0 0), .int 9] : List Value).toArray below meth c H locs 0 0 (MQX below (QO D ar base (fun k r σ' => k = 0 ∧ r = some (mCount σ 9).1 ∧ σ' = (mCount σ 9).2)) ([.ref (base + adm 0 0), .int 9] : List Value).toArray s (rmL 1).cells (rmL 1).slots (inB base 16)) (F0 m 9 ls []) := by
    intro n
    induction n with
    | zero => intro k h1 h2; omega
    | succ n ih =>
      intro k hk1 hk2 a hinv H locs hP hS ls hl
      refine lv_iload_n hx hb d_Mo_count_9 rfl (lv_at hl 0 rfl) ?_
      refine lv_bipush (v := 12) hx hb d_Mo_count_10 (by decide) ?_
      refine lv_icmp_ge (tgt := 113) hx hb d_Mo_count_12 (by decide) (fun c_12 => ?_) (fun c_12 => ?_)
      · skip
        have hkN : k = 12 := by have := ge_nI (N := 12) c_12; omega
        subst hkN
        refine lv_iload_n hx hb d_Mo_count_113 rfl (lv_at hl 3 rfl) ?_
        refine lv_tableIn (x := 9) (off := 54) (tgt := 168) hx hb d_Mo_count_114 (by decide) (by decide) (by decide) (by decide) ?_
        refine lv_iload_n hx hb d_Mo_count_168 rfl (lv_at hl 1 rfl) ?_
        exact mrI_i C0 hP hS (⟨by decide, by decide⟩) (⟨rfl, congrArg some (by unfold mCount mCntF; rw [if_neg (show ¬ (9 : Int32) = 0 by decide), if_neg (show ¬ (9 : Int32) = 1 by decide), if_neg (show ¬ (9 : Int32) = 2 by decide), if_neg (show ¬ (9 : Int32) = 3 by decide), if_neg (show ¬ (9 : Int32) = 4 by decide), if_neg (show ¬ (9 : Int32) = 5 by decide), if_neg (show ¬ (9 : Int32) = 6 by decide), if_neg (show ¬ (9 : Int32) = 7 by decide), if_neg (show ¬ (9 : Int32) = 8 by decide), if_pos rfl]; first | done | exact hinv), rfl⟩) d_Mo_count_169
      · skip
        have hkN : k < 12 := lt_nI (N := 12) c_12
        refine lv_iload_n hx hb d_Mo_count_15 rfl (lv_at hl 3 rfl) ?_
        refine lv_if_ne (tgt := 36) hx hb d_Mo_count_16 (by decide) (fun c_16 => ?_) (fun c_16 => ?_)
        · skip
          refine lv_iload_n hx hb d_Mo_count_36 rfl (lv_at hl 3 rfl) ?_
          refine lv_iconst (v := 1) hx hb d_Mo_count_37 (by decide) ?_
          refine lv_icmp_ne (tgt := 53) hx hb d_Mo_count_38 (by decide) (fun c_38 => ?_) (fun c_38 => ?_)
          · skip
            refine lv_iload_n hx hb d_Mo_count_53 rfl (lv_at hl 3 rfl) ?_
            refine lv_iconst (v := 3) hx hb d_Mo_count_54 (by decide) ?_
            refine lv_icmp_ne (tgt := 70) hx hb d_Mo_count_55 (by decide) (fun c_55 => ?_) (fun c_55 => ?_)
            · skip
              refine lv_iload_n hx hb d_Mo_count_70 rfl (lv_at hl 3 rfl) ?_
              refine lv_iconst (v := 4) hx hb d_Mo_count_71 (by decide) ?_
              refine lv_icmp_ne (tgt := 84) hx hb d_Mo_count_72 (by decide) (fun c_72 => ?_) (fun c_72 => ?_)
              · skip
                refine lv_iload_n hx hb d_Mo_count_84 rfl (lv_at hl 3 rfl) ?_
                refine lv_bipush (v := 9) hx hb d_Mo_count_85 (by decide) ?_
                refine lv_icmp_ne (tgt := 107) hx hb d_Mo_count_87 (by decide) (fun c_87 => ?_) (fun c_87 => ?_)
                · skip
                  exact absurd rfl c_87
                · skip
                  refine lv_iload_n hx hb d_Mo_count_90 rfl (lv_at hl 0 rfl) ?_
                  refine lv_iconst (v := 4) hx hb d_Mo_count_91 (by decide) ?_
                  refine lv_icmp_ge (tgt := 107) hx hb d_Mo_count_92 (by decide) (fun c_92 => ?_) (fun c_92 => ?_)
                  · skip
                    refine lv_iinc (v := nI (k + 1)) (lv' := [(3, .int (nI (k + 1))), (2, .int a), (0, .ref (base + adm 0 0)), (1, .int 9)]) hx hb d_Mo_count_107 hl (k := 0) rfl (by exact nI_1 k) (by decide) rfl (fun ls hl => ?_)
                    refine lv_goto (tgt := 9) hx hb d_Mo_count_110 (by decide) ?_
                    exact ih (k + 1) (by omega) (by omega) a (bx_s0 hinv (if_pos c_92)) _ _ hP hS ls (lv_sub hl [0, 1, 2, 3] rfl)
                  · skip
                    refine lv_aload_n hx hb d_Mo_count_95 rfl (lv_at hl 2 rfl) ?_
                    refine mq_get C0 hP (kd := 0) (i := 0) (ci := 4) (by decide) (by decide) rfl rfl 2 (by decide) rfl k_fl_Mo_16 rfl d_Mo_count_96 ?_
                    refine lv_iload_n hx hb d_Mo_count_99 rfl (lv_at hl 0 rfl) ?_
                    refine mq_iald C0 hP (kd := 3) (i := 0) (by decide) (by decide) rfl (vin_nI (lt_nI (N := 4) c_92)) d_Mo_count_100 ?_
                    rw [show (nI k).toNatClampNeg = k from nI_clamp (by omega)]
                    refine W.eq (g2 := F0 m 101 ls [.int (σ 3 0 k)]) rfl ?_
                    refine lv_if_le (tgt := 107) hx hb d_Mo_count_101 (by decide) (fun c_101 => ?_) (fun c_101 => ?_)
                    · skip
                      refine lv_iinc (v := nI (k + 1)) (lv' := [(3, .int (nI (k + 1))), (2, .int a), (0, .ref (base + adm 0 0)), (1, .int 9)]) hx hb d_Mo_count_107 hl (k := 0) rfl (by exact nI_1 k) (by decide) rfl (fun ls hl => ?_)
                      refine lv_goto (tgt := 9) hx hb d_Mo_count_110 (by decide) ?_
                      exact ih (k + 1) (by omega) (by omega) a (bx_s0 hinv (by unfold mf9; rw [if_neg c_92]; exact if_pos c_101)) _ _ hP hS ls (lv_sub hl [0, 1, 2, 3] rfl)
                    · skip
                      refine lv_iinc (v := a + 1) (lv' := [(2, .int (a + 1)), (3, .int (nI k)), (0, .ref (base + adm 0 0)), (1, .int 9)]) hx hb d_Mo_count_104 hl (k := 1) rfl (by exact rfl) (by decide) rfl (fun ls hl => ?_)
                      refine lv_iinc (v := nI (k + 1)) (lv' := [(3, .int (nI (k + 1))), (2, .int (a + 1)), (0, .ref (base + adm 0 0)), (1, .int 9)]) hx hb d_Mo_count_107 hl (k := 1) rfl (by exact nI_1 k) (by decide) rfl (fun ls hl => ?_)
                      refine lv_goto (tgt := 9) hx hb d_Mo_count_110 (by decide) ?_
                      exact ih (k + 1) (by omega) (by omega) (a + 1) (bx_s1 hinv (by unfold mf9; rw [if_neg c_92]; exact if_neg c_101)) _ _ hP hS ls (lv_sub hl [0, 1, 2, 3] rfl)
              · skip
                exact absurd c_72 (by decide)
            · skip
              exact absurd c_55 (by decide)
          · skip
            exact absurd c_38 (by decide)
        · skip
          exact absurd c_16 (by decide)
  exact loop (12 + 1) 0 (by omega) (by omega) 0 (rfl) _ _ hP hS ls (lv_sub hl [0, 1, 2, 3] rfl)
set_option maxHeartbeats 4000000 in
set_option maxRecDepth 100000 in
theorem c_Mo_count_x {S0 : State} {A0 : Array Value} {D : va_G} {ar : Nat → ClassId} {base : Nat} {σ : Mem} {l : Launch} (hlt : l.stackTraces = false) {x : Int32} (s_0 : ¬ x = 0) (s_1 : ¬ x = 1) (s_3 : ¬ x = 3) (s_4 : ¬ x = 4) (s_9 : ¬ x = 9) :
    MX l y_Mo_count [Cond.code y_Mo_count b_Mo_count 4 (some .int)] (rmL 1) (PO S0 A0 D ar base σ [.ref (base + adm 0 0), .int x]) (QO D ar base (fun k r σ' => k = 0 ∧ r = some (mCount σ x).1 ∧ σ' = (mCount σ x).2)) (inB base 16) := by
  refine mx_head hlt (by decide +kernel) (Nat.le_of_ble_eq_true rfl) ?_
  intro p ev s m below meth c ls C0 hP hl
  have C0 : Cx S0 A0 D ar base p l s m _ meth c R_Mo b_Mo_count 4 (some .int) := C0
  obtain ⟨hx, hb, -⟩ := id C0
  have hl : lv_has ls 4 [(0, .ref (base + adm 0 0)), (1, .int x)] := hl
  have hS : va_S (inB base 16) s.heap s.heap [] := va_S.rf
  refine lv_aload_n hx hb d_Mo_count_0 rfl (lv_at hl 0 rfl) ?_
  refine lv_iconst (v := 0) hx hb d_Mo_count_1 (by decide) ?_
  refine mq_put C0 hP hS (kd := 0) (i := 0) (ci := 4) 0 1 (by decide) rfl (by decide) rfl rfl t_Mo t_Mo_ok n_Mo 16 (by decide) rfl k_fl_Mo_56 rfl (by decide +kernel) (Nat.le_of_ble_eq_true rfl) (by simp [conto, up]) d_Mo_count_2 (fun H locs hP hS => ?_)
  refine lv_iconst (v := 0) hx hb d_Mo_count_5 (by decide) ?_
  refine lv_istore_n (lv' := [(2, .int 0), (0, .ref (base + adm 0 0)), (1, .int x)]) hx hb d_Mo_count_6 rfl hl (by decide) rfl (fun ls hl => ?_)
  refine lv_iconst (v := 0) hx hb d_Mo_count_7 (by decide) ?_
  refine lv_istore_n (lv' := [(3, .int 0), (2, .int 0), (0, .ref (base + adm 0 0)), (1, .int x)]) hx hb d_Mo_count_8 rfl hl (by decide) rfl (fun ls hl => ?_)
  have loop : ∀ (n k : Nat), k ≤ 12 → 12 + 1 ≤ k + n → ∀ (a : Int32), True → ∀ (H : Heap) (locs : List Loc), va_P D classes (wl base 16 (memo ar base (up σ 0 0 1 0))) H → va_S (inB base 16) s.heap H locs → ∀ ls : Array Slot, lv_has ls 4 [(3, .int (nI k)), (2, .int a), (0, .ref (base + adm 0 0)), (1, .int x)] → W p l ev (rmL 1) s m ([.ref (base + adm 0 0), .int x] : List Value).toArray below meth c H locs 0 0 (MQX below (QO D ar base (fun k r σ' => k = 0 ∧ r = some (mCount σ x).1 ∧ σ' = (mCount σ x).2)) ([.ref (base + adm 0 0), .int x] : List Value).toArray s (rmL 1).cells (rmL 1).slots (inB base 16)) (F0 m 9 ls []) := by
    intro n
    induction n with
    | zero => intro k h1 h2; omega
    | succ n ih =>
      intro k hk1 hk2 a hinv H locs hP hS ls hl
      refine lv_iload_n hx hb d_Mo_count_9 rfl (lv_at hl 0 rfl) ?_
      refine lv_bipush (v := 12) hx hb d_Mo_count_10 (by decide) ?_
      refine lv_icmp_ge (tgt := 113) hx hb d_Mo_count_12 (by decide) (fun c_12 => ?_) (fun c_12 => ?_)
      · skip
        have hkN : k = 12 := by have := ge_nI (N := 12) c_12; omega
        subst hkN
        refine lv_iload_n hx hb d_Mo_count_113 rfl (lv_at hl 3 rfl) ?_
        by_cases s_2 : x = 2
        · skip
          refine W.eq (g2 := F0 m 114 ls [.int 2]) (by rw [s_2]) ?_
          refine lv_tableIn (x := 2) (off := 56) (tgt := 170) hx hb d_Mo_count_114 (by decide) (by decide) (by decide) (by decide) ?_
          refine lv_aload_n hx hb d_Mo_count_170 rfl (lv_at hl 2 rfl) ?_
          refine ms_P C0 hP hS (ms_V C0 hP (kd := 0) (i := 0) (ci := 4) (As := []) (by decide) (by decide) rfl rfl k_ml_Mo_107 k_im_Mo_allCells k_sl_Mo_Mo_allCells k_cd_Mo_allCells k_in_Mo z_Mo_allCells rfl d_Mo_count_171) (c_Mo_allCells hlt) hl.1 d_Mo_count_171 (Nat.le_of_ble_eq_true rfl) (⟨by decide, by decide⟩) (⟨by decide, by decide⟩) (fun k r x t hk hp => absurd hp.1 hk) (fun r_2 h_1 => ?_)
          obtain ⟨-, rfl⟩ := h_1
          exact mrI_i C0 hP hS (⟨by decide, by decide⟩) (⟨rfl, congrArg some (by unfold mCount mCntF; rw [if_neg s_0, if_neg s_1, if_pos s_2]; first | done | rfl), rfl⟩) d_Mo_count_174
        by_cases s_5 : x = 5
        · skip
          refine W.eq (g2 := F0 m 114 ls [.int 5]) (by rw [s_5]) ?_
          refine lv_tableIn (x := 5) (off := 61) (tgt := 175) hx hb d_Mo_count_114 (by decide) (by decide) (by decide) (by decide) ?_
          refine lv_aload_n hx hb d_Mo_count_175 rfl (lv_at hl 2 rfl) ?_
          refine mq_get C0 hP (kd := 0) (i := 0) (ci := 4) (by decide) (by decide) rfl rfl 17 (by decide) rfl k_fl_Mo_120 rfl d_Mo_count_176 ?_
          refine W.eq (g2 := F0 m 179 ls [.int (σ 0 0 2)]) rfl ?_
          exact mrI_i C0 hP hS (⟨by decide, by decide⟩) (⟨rfl, congrArg some (by unfold mCount mCntF; rw [if_neg s_0, if_neg s_1, if_neg s_2, if_neg s_3, if_neg s_4, if_pos s_5]; first | done | rfl), rfl⟩) d_Mo_count_179
        by_cases s_6 : x = 6
        · skip
          refine W.eq (g2 := F0 m 114 ls [.int 6]) (by rw [s_6]) ?_
          refine lv_tableIn (x := 6) (off := 66) (tgt := 180) hx hb d_Mo_count_114 (by decide) (by decide) (by decide) (by decide) ?_
          refine lv_aload_n hx hb d_Mo_count_180 rfl (lv_at hl 2 rfl) ?_
          refine mq_get C0 hP (kd := 0) (i := 0) (ci := 4) (by decide) (by decide) rfl rfl 18 (by decide) rfl k_fl_Mo_123 rfl d_Mo_count_181 ?_
          refine W.eq (g2 := F0 m 184 ls [.int (σ 0 0 3)]) rfl ?_
          exact mrI_i C0 hP hS (⟨by decide, by decide⟩) (⟨rfl, congrArg some (by unfold mCount mCntF; rw [if_neg s_0, if_neg s_1, if_neg s_2, if_neg s_3, if_neg s_4, if_neg s_5, if_pos s_6]; first | done | rfl), rfl⟩) d_Mo_count_184
        by_cases s_7 : x = 7
        · skip
          refine W.eq (g2 := F0 m 114 ls [.int 7]) (by rw [s_7]) ?_
          refine lv_tableIn (x := 7) (off := 71) (tgt := 185) hx hb d_Mo_count_114 (by decide) (by decide) (by decide) (by decide) ?_
          refine lv_aload_n hx hb d_Mo_count_185 rfl (lv_at hl 2 rfl) ?_
          refine mq_get C0 hP (kd := 0) (i := 0) (ci := 4) (by decide) (by decide) rfl rfl 19 (by decide) rfl k_fl_Mo_91 rfl d_Mo_count_186 ?_
          refine W.eq (g2 := F0 m 189 ls [.int (σ 0 0 4)]) rfl ?_
          exact mrI_i C0 hP hS (⟨by decide, by decide⟩) (⟨rfl, congrArg some (by unfold mCount mCntF; rw [if_neg s_0, if_neg s_1, if_neg s_2, if_neg s_3, if_neg s_4, if_neg s_5, if_neg s_6, if_pos s_7]; first | done | rfl), rfl⟩) d_Mo_count_189
        by_cases s_8 : x = 8
        · skip
          refine W.eq (g2 := F0 m 114 ls [.int 8]) (by rw [s_8]) ?_
          refine lv_tableIn (x := 8) (off := 76) (tgt := 190) hx hb d_Mo_count_114 (by decide) (by decide) (by decide) (by decide) ?_
          refine lv_aload_n hx hb d_Mo_count_190 rfl (lv_at hl 2 rfl) ?_
          refine mq_get C0 hP (kd := 0) (i := 0) (ci := 4) (by decide) (by decide) rfl rfl 20 (by decide) rfl k_fl_Mo_101 rfl d_Mo_count_191 ?_
          refine W.eq (g2 := F0 m 194 ls [.int (σ 0 0 5)]) rfl ?_
          exact mrI_i C0 hP hS (⟨by decide, by decide⟩) (⟨rfl, congrArg some (by unfold mCount mCntF; rw [if_neg s_0, if_neg s_1, if_neg s_2, if_neg s_3, if_neg s_4, if_neg s_5, if_neg s_6, if_neg s_7, if_pos s_8]; first | done | rfl), rfl⟩) d_Mo_count_194
        have t_0 : x.toInt ≠ 0 := by have h9 := ne_toInt s_0; rwa [show (0 : Int32).toInt = 0 from by decide] at h9
        have t_1 : x.toInt ≠ 1 := by have h9 := ne_toInt s_1; rwa [show (1 : Int32).toInt = 1 from by decide] at h9
        have t_2 : x.toInt ≠ 2 := by have h9 := ne_toInt s_2; rwa [show (2 : Int32).toInt = 2 from by decide] at h9
        have t_3 : x.toInt ≠ 3 := by have h9 := ne_toInt s_3; rwa [show (3 : Int32).toInt = 3 from by decide] at h9
        have t_4 : x.toInt ≠ 4 := by have h9 := ne_toInt s_4; rwa [show (4 : Int32).toInt = 4 from by decide] at h9
        have t_5 : x.toInt ≠ 5 := by have h9 := ne_toInt s_5; rwa [show (5 : Int32).toInt = 5 from by decide] at h9
        have t_6 : x.toInt ≠ 6 := by have h9 := ne_toInt s_6; rwa [show (6 : Int32).toInt = 6 from by decide] at h9
        have t_7 : x.toInt ≠ 7 := by have h9 := ne_toInt s_7; rwa [show (7 : Int32).toInt = 7 from by decide] at h9
        have t_8 : x.toInt ≠ 8 := by have h9 := ne_toInt s_8; rwa [show (8 : Int32).toInt = 8 from by decide] at h9
        have t_9 : x.toInt ≠ 9 := by have h9 := ne_toInt s_9; rwa [show (9 : Int32).toInt = 9 from by decide] at h9
        refine lv_tableOut (tgt := 195) hx hb d_Mo_count_114 (by omega) (by decide) ?_
        refine lv_iconst (v := (-1)) hx hb d_Mo_count_195 (by decide) ?_
        exact mrI_i C0 hP hS (⟨by decide, by decide⟩) (⟨rfl, congrArg some (by unfold mCount mCntF; rw [if_neg s_0, if_neg s_1, if_neg s_2, if_neg s_3, if_neg s_4, if_neg s_5, if_neg s_6, if_neg s_7, if_neg s_8, if_neg s_9]; first | done | rfl), rfl⟩) d_Mo_count_196
      · skip
        have hkN : k < 12 := lt_nI (N := 12) c_12
        refine lv_iload_n hx hb d_Mo_count_15 rfl (lv_at hl 3 rfl) ?_
        refine lv_if_ne (tgt := 36) hx hb d_Mo_count_16 (by decide) (fun c_16 => ?_) (fun c_16 => ?_)
        · skip
          refine lv_iload_n hx hb d_Mo_count_36 rfl (lv_at hl 3 rfl) ?_
          refine lv_iconst (v := 1) hx hb d_Mo_count_37 (by decide) ?_
          refine lv_icmp_ne (tgt := 53) hx hb d_Mo_count_38 (by decide) (fun c_38 => ?_) (fun c_38 => ?_)
          · skip
            refine lv_iload_n hx hb d_Mo_count_53 rfl (lv_at hl 3 rfl) ?_
            refine lv_iconst (v := 3) hx hb d_Mo_count_54 (by decide) ?_
            refine lv_icmp_ne (tgt := 70) hx hb d_Mo_count_55 (by decide) (fun c_55 => ?_) (fun c_55 => ?_)
            · skip
              refine lv_iload_n hx hb d_Mo_count_70 rfl (lv_at hl 3 rfl) ?_
              refine lv_iconst (v := 4) hx hb d_Mo_count_71 (by decide) ?_
              refine lv_icmp_ne (tgt := 84) hx hb d_Mo_count_72 (by decide) (fun c_72 => ?_) (fun c_72 => ?_)
              · skip
                refine lv_iload_n hx hb d_Mo_count_84 rfl (lv_at hl 3 rfl) ?_
                refine lv_bipush (v := 9) hx hb d_Mo_count_85 (by decide) ?_
                refine lv_icmp_ne (tgt := 107) hx hb d_Mo_count_87 (by decide) (fun c_87 => ?_) (fun c_87 => ?_)
                · skip
                  refine lv_iinc (v := nI (k + 1)) (lv' := [(3, .int (nI (k + 1))), (2, .int a), (0, .ref (base + adm 0 0)), (1, .int x)]) hx hb d_Mo_count_107 hl (k := 0) rfl (by exact nI_1 k) (by decide) rfl (fun ls hl => ?_)
                  refine lv_goto (tgt := 9) hx hb d_Mo_count_110 (by decide) ?_
                  exact ih (k + 1) (by omega) (by omega) a (trivial) _ _ hP hS ls (lv_sub hl [0, 1, 2, 3] rfl)
                · skip
                  exact absurd c_87 s_9
              · skip
                exact absurd c_72 s_4
            · skip
              exact absurd c_55 s_3
          · skip
            exact absurd c_38 s_1
        · skip
          exact absurd c_16 s_0
  exact loop (12 + 1) 0 (by omega) (by omega) 0 (trivial) _ _ hP hS ls (lv_sub hl [0, 1, 2, 3] rfl)
theorem c_Mo_count {S0 : State} {A0 : Array Value} {D : va_G} {ar : Nat → ClassId} {base : Nat} {σ : Mem} {l : Launch} (hlt : l.stackTraces = false) {x : Int32} :
    MX l y_Mo_count [Cond.code y_Mo_count b_Mo_count 4 (some .int)] (rmL 1) (PO S0 A0 D ar base σ [.ref (base + adm 0 0), .int x]) (QO D ar base (fun k r σ' => k = 0 ∧ r = some (mCount σ x).1 ∧ σ' = (mCount σ x).2)) (inB base 16) := by
  by_cases s0 : x = 0
  · subst s0; exact c_Mo_count_0 hlt
  by_cases s1 : x = 1
  · subst s1; exact c_Mo_count_1 hlt
  by_cases s3 : x = 3
  · subst s3; exact c_Mo_count_3 hlt
  by_cases s4 : x = 4
  · subst s4; exact c_Mo_count_4 hlt
  by_cases s9 : x = 9
  · subst s9; exact c_Mo_count_9 hlt
  exact c_Mo_count_x hlt s0 s1 s3 s4 s9
