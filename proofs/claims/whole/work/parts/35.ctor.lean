/-! The constructors of the nested classes: laid by gen/m35.py. -/
def rmN (c s : Nat) : Room := { frames := 1, cells := c, slots := s, locals := 32 }
def coM (ar : Nat → ClassId) (base : Nat) (M : Nat → va_E) (n : Nat) : Nat → va_E := fun k => if k = n then .inr (1, [.ref (base + (n + 1)), .ref (base + (n + 2)), .ref (base + (n + 3)), .ref (base + (n + 4)), .int 0]) else if k = n + 1 ∨ k = n + 2 ∨ k = n + 3 ∨ k = n + 4 then .inl (ar 0, 9, .inl (fun _ => 0)) else M k
def blM (ar : Nat → ClassId) (base : Nat) (M : Nat → va_E) (n : Nat) : Nat → va_E := fun k => if k = n then .inr (2, [.ref (base + (n + 1)), .int (-1), .int 0]) else if k = n + 1 then .inl (ar 0, 8, .inl (fun _ => 0)) else M k
def enM (ar : Nat → ClassId) (base : Nat) (M : Nat → va_E) (n : Nat) : Nat → va_E := fun k => if k = n then .inr (3, [.ref (base + (n + 1)), .ref (base + (n + 2)), .int (-1), .int 0, .int 0]) else if k = n + 1 ∨ k = n + 2 then .inl (ar 0, 3, .inl (fun _ => 0)) else M k
set_option maxHeartbeats 4000000 in
theorem c_Co_init {S0 : State} {A0 : Array Value} {D : va_G} {ar : Nat → ClassId} {base : Nat} {l : Launch} (hlt : l.stackTraces = false) {n : Nat} {M : Nat → va_E} (hM : M n = .inr (1, [.null, .null, .null, .null, .int 0])) :
    MX l y_Co_init [Cond.code y_Co_init b_Co_init 1 none] (rmN 4 36) (PN S0 A0 D ar base (n + 1) M [.ref (base + n)]) (QN D base (n + 5) (coM ar base M n)) (nB base) := by
  refine n_head hlt (by decide +kernel) (Nat.le_of_ble_eq_true rfl) ?_
  intro p ev s m below meth c ls C0 hnm hsz hP hl
  have C0 : Cx S0 A0 D ar base p l s m _ meth c R_Co b_Co_init 1 none := C0
  obtain ⟨hx, hb, -⟩ := id C0
  have hnm : meth.name = "<init>" := hnm
  have hl : lv_has ls 1 [(0, .ref (base + n))] := hl
  have hS : va_S (nB base) s.heap s.heap [] := va_S.rf
  have hz := hsz
  refine lv_aload_n hx hb d_Co_init_0 rfl (lv_at hl 0 rfl) ?_
  refine n_obj C0 k_ml_Co_3 hl.1 (by decide) (by decide) d_Co_init_1 ?_
  refine lv_aload_n hx hb d_Co_init_4 rfl (lv_at hl 0 rfl) ?_
  refine lv_bipush (v := 9) hx hb d_Co_init_5 (by decide) ?_
  refine n_newa C0 hP hz hS 0 k_ac_int rfl rfl rfl rfl (N := 9) (by decide) (by decide) (by decide) ⟨by decide, by decide⟩ d_Co_init_7 (fun H hz hP hS => ?_)
  refine n_putF C0 hnm hP hS (ci := 1) t_Co t_Co_ok n_Co n (by omega) (fs := [.null, .null, .null, .null, .int 0]) (by simp [va_up, hM] <;> omega) rfl 0 (by decide) rfl rfl k_fl_Co_9 rfl (ty := .array .int) (v := .ref (base + (n + 1))) (by decide +kernel) rfl rfl (Nat.le_of_ble_eq_true rfl) d_Co_init_9 (by omega) (fun H locs hz hP hS => ?_)
  refine lv_aload_n hx hb d_Co_init_12 rfl (lv_at hl 0 rfl) ?_
  refine lv_bipush (v := 9) hx hb d_Co_init_13 (by decide) ?_
  refine n_newa C0 hP hz hS 0 k_ac_int rfl rfl rfl rfl (N := 9) (by decide) (by decide) (by decide) ⟨by decide, by decide⟩ d_Co_init_15 (fun H hz hP hS => ?_)
  refine n_putF C0 hnm hP hS (ci := 1) t_Co t_Co_ok n_Co n (by omega) (fs := [.ref (base + (n + 1)), .null, .null, .null, .int 0]) (by simp [va_up, hM] <;> omega) rfl 1 (by decide) rfl rfl k_fl_Co_15 rfl (ty := .array .int) (v := .ref (base + (n + 2))) (by decide +kernel) rfl rfl (Nat.le_of_ble_eq_true rfl) d_Co_init_17 (by omega) (fun H locs hz hP hS => ?_)
  refine lv_aload_n hx hb d_Co_init_20 rfl (lv_at hl 0 rfl) ?_
  refine lv_bipush (v := 9) hx hb d_Co_init_21 (by decide) ?_
  refine n_newa C0 hP hz hS 0 k_ac_int rfl rfl rfl rfl (N := 9) (by decide) (by decide) (by decide) ⟨by decide, by decide⟩ d_Co_init_23 (fun H hz hP hS => ?_)
  refine n_putF C0 hnm hP hS (ci := 1) t_Co t_Co_ok n_Co n (by omega) (fs := [.ref (base + (n + 1)), .ref (base + (n + 2)), .null, .null, .int 0]) (by simp [va_up, hM] <;> omega) rfl 2 (by decide) rfl rfl k_fl_Co_18 rfl (ty := .array .int) (v := .ref (base + (n + 3))) (by decide +kernel) rfl rfl (Nat.le_of_ble_eq_true rfl) d_Co_init_25 (by omega) (fun H locs hz hP hS => ?_)
  refine lv_aload_n hx hb d_Co_init_28 rfl (lv_at hl 0 rfl) ?_
  refine lv_bipush (v := 9) hx hb d_Co_init_29 (by decide) ?_
  refine n_newa C0 hP hz hS 0 k_ac_int rfl rfl rfl rfl (N := 9) (by decide) (by decide) (by decide) ⟨by decide, by decide⟩ d_Co_init_31 (fun H hz hP hS => ?_)
  refine n_putF C0 hnm hP hS (ci := 1) t_Co t_Co_ok n_Co n (by omega) (fs := [.ref (base + (n + 1)), .ref (base + (n + 2)), .ref (base + (n + 3)), .null, .int 0]) (by simp [va_up, hM] <;> omega) rfl 3 (by decide) rfl rfl k_fl_Co_21 rfl (ty := .array .int) (v := .ref (base + (n + 4))) (by decide +kernel) rfl rfl (Nat.le_of_ble_eq_true rfl) d_Co_init_33 (by omega) (fun H locs hz hP hS => ?_)
  refine n_ret C0 hP hz hS (fun k hk => ?_) ⟨by decide, by decide⟩ d_Co_init_36
  unfold coM va_up
  by_cases h0 : k = n
  · subst h0; simp
  · skip
    by_cases h1 : k = n + 1
    · subst h1; simp
    · skip
      by_cases h2 : k = n + 2
      · subst h2; simp
      · skip
        by_cases h3 : k = n + 3
        · subst h3; simp
        · skip
          by_cases h4 : k = n + 4
          · subst h4; simp
          · skip
            simp [h0, h1, h2, h3, h4]
set_option maxHeartbeats 4000000 in
theorem c_Bl_init {S0 : State} {A0 : Array Value} {D : va_G} {ar : Nat → ClassId} {base : Nat} {l : Launch} (hlt : l.stackTraces = false) {n : Nat} {M : Nat → va_E} (hM : M n = .inr (2, [.null, .int 0, .int 0])) :
    MX l y_Bl_init [Cond.code y_Bl_init b_Bl_init 1 none] (rmN 1 8) (PN S0 A0 D ar base (n + 1) M [.ref (base + n)]) (QN D base (n + 2) (blM ar base M n)) (nB base) := by
  refine n_head hlt (by decide +kernel) (Nat.le_of_ble_eq_true rfl) ?_
  intro p ev s m below meth c ls C0 hnm hsz hP hl
  have C0 : Cx S0 A0 D ar base p l s m _ meth c R_Bl b_Bl_init 1 none := C0
  obtain ⟨hx, hb, -⟩ := id C0
  have hnm : meth.name = "<init>" := hnm
  have hl : lv_has ls 1 [(0, .ref (base + n))] := hl
  have hS : va_S (nB base) s.heap s.heap [] := va_S.rf
  have hz := hsz
  refine lv_aload_n hx hb d_Bl_init_0 rfl (lv_at hl 0 rfl) ?_
  refine n_obj C0 k_ml_Bl_3 hl.1 (by decide) (by decide) d_Bl_init_1 ?_
  refine lv_aload_n hx hb d_Bl_init_4 rfl (lv_at hl 0 rfl) ?_
  refine lv_bipush (v := 8) hx hb d_Bl_init_5 (by decide) ?_
  refine n_newa C0 hP hz hS 0 k_ac_int rfl rfl rfl rfl (N := 8) (by decide) (by decide) (by decide) ⟨by decide, by decide⟩ d_Bl_init_7 (fun H hz hP hS => ?_)
  refine n_putF C0 hnm hP hS (ci := 2) t_Bl t_Bl_ok n_Bl n (by omega) (fs := [.null, .int 0, .int 0]) (by simp [va_up, hM] <;> omega) rfl 0 (by decide) rfl rfl k_fl_Bl_9 rfl (ty := .array .int) (v := .ref (base + (n + 1))) (by decide +kernel) rfl rfl (Nat.le_of_ble_eq_true rfl) d_Bl_init_9 (by omega) (fun H locs hz hP hS => ?_)
  refine lv_aload_n hx hb d_Bl_init_12 rfl (lv_at hl 0 rfl) ?_
  refine lv_iconst (v := (-1)) hx hb d_Bl_init_13 (by decide) ?_
  refine n_put C0 hP hS (ci := 2) t_Bl t_Bl_ok n_Bl n (by omega) (fs := [.ref (base + (n + 1)), .int 0, .int 0]) (by simp [va_up, hM] <;> omega) rfl 1 (by decide) rfl k_fl_Bl_15 rfl (ty := .int) (v := .int (-1)) (by decide +kernel) rfl rfl (Nat.le_of_ble_eq_true rfl) d_Bl_init_14 (by omega) (fun H locs hz hP hS => ?_)
  refine n_ret C0 hP hz hS (fun k hk => ?_) ⟨by decide, by decide⟩ d_Bl_init_17
  unfold blM va_up
  by_cases h0 : k = n
  · subst h0; simp
  · skip
    by_cases h1 : k = n + 1
    · subst h1; simp
    · skip
      simp [h0, h1]
set_option maxHeartbeats 4000000 in
theorem c_En_init {S0 : State} {A0 : Array Value} {D : va_G} {ar : Nat → ClassId} {base : Nat} {l : Launch} (hlt : l.stackTraces = false) {n : Nat} {M : Nat → va_E} (hM : M n = .inr (3, [.null, .null, .int 0, .int 0, .int 0])) :
    MX l y_En_init [Cond.code y_En_init b_En_init 1 none] (rmN 2 6) (PN S0 A0 D ar base (n + 1) M [.ref (base + n)]) (QN D base (n + 3) (enM ar base M n)) (nB base) := by
  refine n_head hlt (by decide +kernel) (Nat.le_of_ble_eq_true rfl) ?_
  intro p ev s m below meth c ls C0 hnm hsz hP hl
  have C0 : Cx S0 A0 D ar base p l s m _ meth c R_En b_En_init 1 none := C0
  obtain ⟨hx, hb, -⟩ := id C0
  have hnm : meth.name = "<init>" := hnm
  have hl : lv_has ls 1 [(0, .ref (base + n))] := hl
  have hS : va_S (nB base) s.heap s.heap [] := va_S.rf
  have hz := hsz
  refine lv_aload_n hx hb d_En_init_0 rfl (lv_at hl 0 rfl) ?_
  refine n_obj C0 k_ml_En_3 hl.1 (by decide) (by decide) d_En_init_1 ?_
  refine lv_aload_n hx hb d_En_init_4 rfl (lv_at hl 0 rfl) ?_
  refine lv_iconst (v := 3) hx hb d_En_init_5 (by decide) ?_
  refine n_newa C0 hP hz hS 0 k_ac_int rfl rfl rfl rfl (N := 3) (by decide) (by decide) (by decide) ⟨by decide, by decide⟩ d_En_init_6 (fun H hz hP hS => ?_)
  refine n_putF C0 hnm hP hS (ci := 3) t_En t_En_ok n_En n (by omega) (fs := [.null, .null, .int 0, .int 0, .int 0]) (by simp [va_up, hM] <;> omega) rfl 0 (by decide) rfl rfl k_fl_En_9 rfl (ty := .array .int) (v := .ref (base + (n + 1))) (by decide +kernel) rfl rfl (Nat.le_of_ble_eq_true rfl) d_En_init_8 (by omega) (fun H locs hz hP hS => ?_)
  refine lv_aload_n hx hb d_En_init_11 rfl (lv_at hl 0 rfl) ?_
  refine lv_iconst (v := 3) hx hb d_En_init_12 (by decide) ?_
  refine n_newa C0 hP hz hS 0 k_ac_int rfl rfl rfl rfl (N := 3) (by decide) (by decide) (by decide) ⟨by decide, by decide⟩ d_En_init_13 (fun H hz hP hS => ?_)
  refine n_putF C0 hnm hP hS (ci := 3) t_En t_En_ok n_En n (by omega) (fs := [.ref (base + (n + 1)), .null, .int 0, .int 0, .int 0]) (by simp [va_up, hM] <;> omega) rfl 1 (by decide) rfl rfl k_fl_En_15 rfl (ty := .array .int) (v := .ref (base + (n + 2))) (by decide +kernel) rfl rfl (Nat.le_of_ble_eq_true rfl) d_En_init_15 (by omega) (fun H locs hz hP hS => ?_)
  refine lv_aload_n hx hb d_En_init_18 rfl (lv_at hl 0 rfl) ?_
  refine lv_iconst (v := (-1)) hx hb d_En_init_19 (by decide) ?_
  refine n_put C0 hP hS (ci := 3) t_En t_En_ok n_En n (by omega) (fs := [.ref (base + (n + 1)), .ref (base + (n + 2)), .int 0, .int 0, .int 0]) (by simp [va_up, hM] <;> omega) rfl 2 (by decide) rfl k_fl_En_18 rfl (ty := .int) (v := .int (-1)) (by decide +kernel) rfl rfl (Nat.le_of_ble_eq_true rfl) d_En_init_20 (by omega) (fun H locs hz hP hS => ?_)
  refine n_ret C0 hP hz hS (fun k hk => ?_) ⟨by decide, by decide⟩ d_En_init_23
  unfold enM va_up
  by_cases h0 : k = n
  · subst h0; simp
  · skip
    by_cases h1 : k = n + 1
    · subst h1; simp
    · skip
      by_cases h2 : k = n + 2
      · subst h2; simp
      · skip
        simp [h0, h1, h2]
