/-! The model's constructor: laid by gen/m52.py. -/
def z0M : Mem := fun _ _ _ => 0
def zA : Mem := up (up (up (up z0M 6 0 0 1) 6 0 1 0) 6 0 2 0) 6 0 3 0
def oM (k : Nat) : Mem := fun a i j => if (a = 7 ∨ a = 10) ∧ i = 0 ∧ j < k then -1 else zA a i j
theorem oM_0 : zA = oM 0 := by
  funext a i j
  unfold oM
  rw [if_neg (fun z => by omega)]
theorem oM_s {k : Nat} : up (up (oM k) 10 0 k (-1)) 7 0 k (-1) = oM (k + 1) := by
  funext a i j
  unfold up oM
  by_cases h : a = 7 ∧ i = 0 ∧ j = k
  · rw [if_pos h, if_pos (by omega)]
  · rw [if_neg h]
    by_cases h2 : a = 10 ∧ i = 0 ∧ j = k
    · rw [if_pos h2, if_pos (by omega)]
    · rw [if_neg h2]
      by_cases h3 : (a = 7 ∨ a = 10) ∧ i = 0 ∧ j < k
      · rw [if_pos h3, if_pos (by omega)]
      · rw [if_neg h3, if_neg (fun z => h3 (by omega))]
def stO (ar : Nat → ClassId) (base : Nat) (σ : Mem) (fl : List Value) : Nat → va_E := fun k => if k = 0 then .inr (4, fl) else memo ar base σ k
def rmMo : Room := { frames := 1, cells := 15, slots := 650, locals := 32 }
section SO
variable {D : va_G} {ar : Nat → ClassId} {base n : Nat} {H : Heap} {σ : Mem} {fl : List Value} {x : va_E}
theorem so_fld {fl' : List Value} (h : va_P D classes (wl base n (va_up (stO ar base σ fl) 0 (.inr (4, fl')))) H) : va_P D classes (wl base n (stO ar base σ fl')) H := by
  rw [wl_congr (M' := stO ar base σ fl')] at h
  · exact h
  · intro k hk
    by_cases h1 : k = 0
    · subst h1; rw [va_up_self]; rfl
    · rw [va_up_ne _ _ h1]; unfold stO; rw [if_neg h1, if_neg h1]
theorem so_arr {k j : Nat} {v : Int32} (hk : 0 < k ∧ k < 16) (hn : n ≤ 16) (he : x = conto ar base (up σ k 0 j v) k 0) (h : va_P D classes (wl base n (va_up (stO ar base σ fl) k x)) H) : va_P D classes (wl base n (stO ar base (up σ k 0 j v) fl)) H := by
  rw [wl_congr (M' := stO ar base (up σ k 0 j v) fl)] at h
  · exact h
  · intro a ha
    by_cases h1 : a = k
    · subst h1; rw [va_up_self, he]; unfold stO; rw [if_neg (by omega)]; rfl
    · rw [va_up_ne _ _ h1]; unfold stO
      by_cases h2 : a = 0
      · rw [if_pos h2, if_pos h2]
      · rw [if_neg h2, if_neg h2]; exact (conto_ne hk.2 h1 (by omega)).symm
end SO
set_option maxHeartbeats 8000000 in
set_option maxRecDepth 100000 in
theorem c_Mo_init {S0 : State} {A0 : Array Value} {D : va_G} {ar : Nat → ClassId} {base : Nat} {l : Launch} (hlt : l.stackTraces = false) {M : Nat → va_E} (hM : M 0 = .inr (4, [.null, .null, .null, .null, .null, .null, .null, .null, .null, .null, .null, .null, .null, .null, .null, .int 0, .int 0, .int 0, .int 0, .int 0, .int 0, .int 0, .int 0, .int 0])) :
    MX l y_Mo_init [Cond.code y_Mo_init b_Mo_init 2 none] rmMo (PN S0 A0 D ar base 1 M [.ref (base + 0)]) (QN D base 16 (memo ar base (oM 12))) (nB base) := by
  refine n_head hlt (by decide +kernel) (Nat.le_of_ble_eq_true rfl) ?_
  intro p ev s m below meth c ls C0 hnm hsz hP hl
  have C0 : Cx S0 A0 D ar base p l s m _ meth c R_Mo b_Mo_init 2 none := C0
  obtain ⟨hx, hb, -⟩ := id C0
  have hnm : meth.name = "<init>" := hnm
  have hl : lv_has ls 2 [(0, .ref (base + 0))] := hl
  have hS : va_S (nB base) s.heap s.heap [] := va_S.rf
  have hz := hsz
  rw [wl_congr (M' := stO ar base z0M [.null, .null, .null, .null, .null, .null, .null, .null, .null, .null, .null, .null, .null, .null, .null, .int 0, .int 0, .int 0, .int 0, .int 0, .int 0, .int 0, .int 0, .int 0]) (fun k hk => by rw [show k = 0 from by omega, hM]; rfl)] at hP
  refine lv_aload_n hx hb d_Mo_init_0 rfl (lv_at hl 0 rfl) ?_
  refine n_obj C0 k_ml_Mo_1 hl.1 (by decide) (by decide) d_Mo_init_1 ?_
  refine lv_aload_n hx hb d_Mo_init_4 rfl (lv_at hl 0 rfl) ?_
  refine lv_bipush (v := 36) hx hb d_Mo_init_5 (by decide) ?_
  refine n_newa C0 hP hz hS 0 k_ac_int rfl rfl rfl rfl (N := 36) (by decide) (by decide) (by decide) ⟨by simp only [rmMo]; omega, by simp only [rmMo]; omega⟩ d_Mo_init_7 (fun H hz hP hS => ?_)
  replace hP := st_push (F := stO ar base z0M [.null, .null, .null, .null, .null, .null, .null, .null, .null, .null, .null, .null, .null, .null, .null, .int 0, .int 0, .int 0, .int 0, .int 0, .int 0, .int 0, .int 0, .int 0]) (by rfl) hP
  refine n_putF C0 hnm hP hS (ci := 4) t_Mo t_Mo_ok n_Mo 0 (by omega) (fs := [.null, .null, .null, .null, .null, .null, .null, .null, .null, .null, .null, .null, .null, .null, .null, .int 0, .int 0, .int 0, .int 0, .int 0, .int 0, .int 0, .int 0, .int 0]) rfl rfl 0 (by decide) rfl rfl k_fl_Mo_7 rfl (ty := .array .int) (v := .ref (base + 1)) (by decide +kernel) rfl rfl (Nat.le_of_ble_eq_true rfl) d_Mo_init_9 (by (try simp only [rmMo]); omega) (fun H locs hz hP hS => ?_)
  replace hP : va_P D classes (wl base 2 (stO ar base z0M [.ref (base + 1), .null, .null, .null, .null, .null, .null, .null, .null, .null, .null, .null, .null, .null, .null, .int 0, .int 0, .int 0, .int 0, .int 0, .int 0, .int 0, .int 0, .int 0])) H := so_fld hP
  refine lv_aload_n hx hb d_Mo_init_12 rfl (lv_at hl 0 rfl) ?_
  refine lv_sipush (v := 144) hx hb d_Mo_init_13 (by decide) ?_
  refine n_newa C0 hP hz hS 0 k_ac_int rfl rfl rfl rfl (N := 144) (by decide) (by decide) (by decide) ⟨by simp only [rmMo]; omega, by simp only [rmMo]; omega⟩ d_Mo_init_16 (fun H hz hP hS => ?_)
  replace hP := st_push (F := stO ar base z0M [.ref (base + 1), .null, .null, .null, .null, .null, .null, .null, .null, .null, .null, .null, .null, .null, .null, .int 0, .int 0, .int 0, .int 0, .int 0, .int 0, .int 0, .int 0, .int 0]) (by rfl) hP
  refine n_putF C0 hnm hP hS (ci := 4) t_Mo t_Mo_ok n_Mo 0 (by omega) (fs := [.ref (base + 1), .null, .null, .null, .null, .null, .null, .null, .null, .null, .null, .null, .null, .null, .null, .int 0, .int 0, .int 0, .int 0, .int 0, .int 0, .int 0, .int 0, .int 0]) rfl rfl 1 (by decide) rfl rfl k_fl_Mo_13 rfl (ty := .array .int) (v := .ref (base + 2)) (by decide +kernel) rfl rfl (Nat.le_of_ble_eq_true rfl) d_Mo_init_18 (by (try simp only [rmMo]); omega) (fun H locs hz hP hS => ?_)
  replace hP : va_P D classes (wl base 3 (stO ar base z0M [.ref (base + 1), .ref (base + 2), .null, .null, .null, .null, .null, .null, .null, .null, .null, .null, .null, .null, .null, .int 0, .int 0, .int 0, .int 0, .int 0, .int 0, .int 0, .int 0, .int 0])) H := so_fld hP
  refine lv_aload_n hx hb d_Mo_init_21 rfl (lv_at hl 0 rfl) ?_
  refine lv_iconst (v := 4) hx hb d_Mo_init_22 (by decide) ?_
  refine n_newa C0 hP hz hS 0 k_ac_int rfl rfl rfl rfl (N := 4) (by decide) (by decide) (by decide) ⟨by simp only [rmMo]; omega, by simp only [rmMo]; omega⟩ d_Mo_init_23 (fun H hz hP hS => ?_)
  replace hP := st_push (F := stO ar base z0M [.ref (base + 1), .ref (base + 2), .null, .null, .null, .null, .null, .null, .null, .null, .null, .null, .null, .null, .null, .int 0, .int 0, .int 0, .int 0, .int 0, .int 0, .int 0, .int 0, .int 0]) (by rfl) hP
  refine n_putF C0 hnm hP hS (ci := 4) t_Mo t_Mo_ok n_Mo 0 (by omega) (fs := [.ref (base + 1), .ref (base + 2), .null, .null, .null, .null, .null, .null, .null, .null, .null, .null, .null, .null, .null, .int 0, .int 0, .int 0, .int 0, .int 0, .int 0, .int 0, .int 0, .int 0]) rfl rfl 2 (by decide) rfl rfl k_fl_Mo_16 rfl (ty := .array .int) (v := .ref (base + 3)) (by decide +kernel) rfl rfl (Nat.le_of_ble_eq_true rfl) d_Mo_init_25 (by (try simp only [rmMo]); omega) (fun H locs hz hP hS => ?_)
  replace hP : va_P D classes (wl base 4 (stO ar base z0M [.ref (base + 1), .ref (base + 2), .ref (base + 3), .null, .null, .null, .null, .null, .null, .null, .null, .null, .null, .null, .null, .int 0, .int 0, .int 0, .int 0, .int 0, .int 0, .int 0, .int 0, .int 0])) H := so_fld hP
  refine lv_aload_n hx hb d_Mo_init_28 rfl (lv_at hl 0 rfl) ?_
  refine lv_sipush (v := 216) hx hb d_Mo_init_29 (by decide) ?_
  refine n_newa C0 hP hz hS 0 k_ac_int rfl rfl rfl rfl (N := 216) (by decide) (by decide) (by decide) ⟨by simp only [rmMo]; omega, by simp only [rmMo]; omega⟩ d_Mo_init_32 (fun H hz hP hS => ?_)
  replace hP := st_push (F := stO ar base z0M [.ref (base + 1), .ref (base + 2), .ref (base + 3), .null, .null, .null, .null, .null, .null, .null, .null, .null, .null, .null, .null, .int 0, .int 0, .int 0, .int 0, .int 0, .int 0, .int 0, .int 0, .int 0]) (by rfl) hP
  refine n_putF C0 hnm hP hS (ci := 4) t_Mo t_Mo_ok n_Mo 0 (by omega) (fs := [.ref (base + 1), .ref (base + 2), .ref (base + 3), .null, .null, .null, .null, .null, .null, .null, .null, .null, .null, .null, .null, .int 0, .int 0, .int 0, .int 0, .int 0, .int 0, .int 0, .int 0, .int 0]) rfl rfl 3 (by decide) rfl rfl k_fl_Mo_19 rfl (ty := .array .int) (v := .ref (base + 4)) (by decide +kernel) rfl rfl (Nat.le_of_ble_eq_true rfl) d_Mo_init_34 (by (try simp only [rmMo]); omega) (fun H locs hz hP hS => ?_)
  replace hP : va_P D classes (wl base 5 (stO ar base z0M [.ref (base + 1), .ref (base + 2), .ref (base + 3), .ref (base + 4), .null, .null, .null, .null, .null, .null, .null, .null, .null, .null, .null, .int 0, .int 0, .int 0, .int 0, .int 0, .int 0, .int 0, .int 0, .int 0])) H := so_fld hP
  refine lv_aload_n hx hb d_Mo_init_37 rfl (lv_at hl 0 rfl) ?_
  refine lv_bipush (v := 6) hx hb d_Mo_init_38 (by decide) ?_
  refine n_newa C0 hP hz hS 0 k_ac_int rfl rfl rfl rfl (N := 6) (by decide) (by decide) (by decide) ⟨by simp only [rmMo]; omega, by simp only [rmMo]; omega⟩ d_Mo_init_40 (fun H hz hP hS => ?_)
  replace hP := st_push (F := stO ar base z0M [.ref (base + 1), .ref (base + 2), .ref (base + 3), .ref (base + 4), .null, .null, .null, .null, .null, .null, .null, .null, .null, .null, .null, .int 0, .int 0, .int 0, .int 0, .int 0, .int 0, .int 0, .int 0, .int 0]) (by rfl) hP
  refine n_putF C0 hnm hP hS (ci := 4) t_Mo t_Mo_ok n_Mo 0 (by omega) (fs := [.ref (base + 1), .ref (base + 2), .ref (base + 3), .ref (base + 4), .null, .null, .null, .null, .null, .null, .null, .null, .null, .null, .null, .int 0, .int 0, .int 0, .int 0, .int 0, .int 0, .int 0, .int 0, .int 0]) rfl rfl 4 (by decide) rfl rfl k_fl_Mo_22 rfl (ty := .array .int) (v := .ref (base + 5)) (by decide +kernel) rfl rfl (Nat.le_of_ble_eq_true rfl) d_Mo_init_42 (by (try simp only [rmMo]); omega) (fun H locs hz hP hS => ?_)
  replace hP : va_P D classes (wl base 6 (stO ar base z0M [.ref (base + 1), .ref (base + 2), .ref (base + 3), .ref (base + 4), .ref (base + 5), .null, .null, .null, .null, .null, .null, .null, .null, .null, .null, .int 0, .int 0, .int 0, .int 0, .int 0, .int 0, .int 0, .int 0, .int 0])) H := so_fld hP
  refine lv_aload_n hx hb d_Mo_init_45 rfl (lv_at hl 0 rfl) ?_
  refine lv_iconst (v := 4) hx hb d_Mo_init_46 (by decide) ?_
  refine n_newa C0 hP hz hS 2 k_ac_boolean rfl rfl rfl rfl (N := 4) (by decide) (by decide) (by decide) ⟨by simp only [rmMo]; omega, by simp only [rmMo]; omega⟩ d_Mo_init_47 (fun H hz hP hS => ?_)
  replace hP := st_push (F := stO ar base z0M [.ref (base + 1), .ref (base + 2), .ref (base + 3), .ref (base + 4), .ref (base + 5), .null, .null, .null, .null, .null, .null, .null, .null, .null, .null, .int 0, .int 0, .int 0, .int 0, .int 0, .int 0, .int 0, .int 0, .int 0]) (by rfl) hP
  refine lv_dup hx hb d_Mo_init_49 rfl ?_
  refine lv_iconst (v := 0) hx hb d_Mo_init_50 (by decide) ?_
  refine lv_iconst (v := 1) hx hb d_Mo_init_51 (by decide) ?_
  refine n_zast C0 hP hS 6 (by omega) (N := 4) (f := fun j => z0M 6 0 j) rfl (i := 0) (x := 1) (by unfold vp_in; decide) d_Mo_init_52 (by (try simp only [rmMo]); omega) (fun H locs hz hP hS => ?_)
  replace hP := so_arr (k := 6) (j := 0) (v := 1) (by decide) (by decide) (by rw [show (0 : Int32).toNatClampNeg = 0 from by decide, ast_fn]; rfl) hP
  refine lv_dup hx hb d_Mo_init_53 rfl ?_
  refine lv_iconst (v := 1) hx hb d_Mo_init_54 (by decide) ?_
  refine lv_iconst (v := 0) hx hb d_Mo_init_55 (by decide) ?_
  refine n_zast C0 hP hS 6 (by omega) (N := 4) (f := fun j => (up z0M 6 0 0 1) 6 0 j) rfl (i := 1) (x := 0) (by unfold vp_in; decide) d_Mo_init_56 (by (try simp only [rmMo]); omega) (fun H locs hz hP hS => ?_)
  replace hP := so_arr (k := 6) (j := 1) (v := 0) (by decide) (by decide) (by rw [show (1 : Int32).toNatClampNeg = 1 from by decide, ast_fn]; rfl) hP
  refine lv_dup hx hb d_Mo_init_57 rfl ?_
  refine lv_iconst (v := 2) hx hb d_Mo_init_58 (by decide) ?_
  refine lv_iconst (v := 0) hx hb d_Mo_init_59 (by decide) ?_
  refine n_zast C0 hP hS 6 (by omega) (N := 4) (f := fun j => (up (up z0M 6 0 0 1) 6 0 1 0) 6 0 j) rfl (i := 2) (x := 0) (by unfold vp_in; decide) d_Mo_init_60 (by (try simp only [rmMo]); omega) (fun H locs hz hP hS => ?_)
  replace hP := so_arr (k := 6) (j := 2) (v := 0) (by decide) (by decide) (by rw [show (2 : Int32).toNatClampNeg = 2 from by decide, ast_fn]; rfl) hP
  refine lv_dup hx hb d_Mo_init_61 rfl ?_
  refine lv_iconst (v := 3) hx hb d_Mo_init_62 (by decide) ?_
  refine lv_iconst (v := 0) hx hb d_Mo_init_63 (by decide) ?_
  refine n_zast C0 hP hS 6 (by omega) (N := 4) (f := fun j => (up (up (up z0M 6 0 0 1) 6 0 1 0) 6 0 2 0) 6 0 j) rfl (i := 3) (x := 0) (by unfold vp_in; decide) d_Mo_init_64 (by (try simp only [rmMo]); omega) (fun H locs hz hP hS => ?_)
  replace hP := so_arr (k := 6) (j := 3) (v := 0) (by decide) (by decide) (by rw [show (3 : Int32).toNatClampNeg = 3 from by decide, ast_fn]; rfl) hP
  refine n_putF C0 hnm hP hS (ci := 4) t_Mo t_Mo_ok n_Mo 0 (by omega) (fs := [.ref (base + 1), .ref (base + 2), .ref (base + 3), .ref (base + 4), .ref (base + 5), .null, .null, .null, .null, .null, .null, .null, .null, .null, .null, .int 0, .int 0, .int 0, .int 0, .int 0, .int 0, .int 0, .int 0, .int 0]) rfl rfl 5 (by decide) rfl rfl k_fl_Mo_25 rfl (ty := .array .boolean) (v := .ref (base + 6)) (by decide +kernel) rfl rfl (Nat.le_of_ble_eq_true rfl) d_Mo_init_65 (by (try simp only [rmMo]); omega) (fun H locs hz hP hS => ?_)
  replace hP : va_P D classes (wl base 7 (stO ar base (up (up (up (up z0M 6 0 0 1) 6 0 1 0) 6 0 2 0) 6 0 3 0) [.ref (base + 1), .ref (base + 2), .ref (base + 3), .ref (base + 4), .ref (base + 5), .ref (base + 6), .null, .null, .null, .null, .null, .null, .null, .null, .null, .int 0, .int 0, .int 0, .int 0, .int 0, .int 0, .int 0, .int 0, .int 0])) H := so_fld hP
  refine lv_aload_n hx hb d_Mo_init_68 rfl (lv_at hl 0 rfl) ?_
  refine lv_bipush (v := 12) hx hb d_Mo_init_69 (by decide) ?_
  refine n_newa C0 hP hz hS 0 k_ac_int rfl rfl rfl rfl (N := 12) (by decide) (by decide) (by decide) ⟨by simp only [rmMo]; omega, by simp only [rmMo]; omega⟩ d_Mo_init_71 (fun H hz hP hS => ?_)
  replace hP := st_push (F := stO ar base (up (up (up (up z0M 6 0 0 1) 6 0 1 0) 6 0 2 0) 6 0 3 0) [.ref (base + 1), .ref (base + 2), .ref (base + 3), .ref (base + 4), .ref (base + 5), .ref (base + 6), .null, .null, .null, .null, .null, .null, .null, .null, .null, .int 0, .int 0, .int 0, .int 0, .int 0, .int 0, .int 0, .int 0, .int 0]) (by rfl) hP
  refine n_putF C0 hnm hP hS (ci := 4) t_Mo t_Mo_ok n_Mo 0 (by omega) (fs := [.ref (base + 1), .ref (base + 2), .ref (base + 3), .ref (base + 4), .ref (base + 5), .ref (base + 6), .null, .null, .null, .null, .null, .null, .null, .null, .null, .int 0, .int 0, .int 0, .int 0, .int 0, .int 0, .int 0, .int 0, .int 0]) rfl rfl 6 (by decide) rfl rfl k_fl_Mo_29 rfl (ty := .array .int) (v := .ref (base + 7)) (by decide +kernel) rfl rfl (Nat.le_of_ble_eq_true rfl) d_Mo_init_73 (by (try simp only [rmMo]); omega) (fun H locs hz hP hS => ?_)
  replace hP : va_P D classes (wl base 8 (stO ar base (up (up (up (up z0M 6 0 0 1) 6 0 1 0) 6 0 2 0) 6 0 3 0) [.ref (base + 1), .ref (base + 2), .ref (base + 3), .ref (base + 4), .ref (base + 5), .ref (base + 6), .ref (base + 7), .null, .null, .null, .null, .null, .null, .null, .null, .int 0, .int 0, .int 0, .int 0, .int 0, .int 0, .int 0, .int 0, .int 0])) H := so_fld hP
  refine lv_aload_n hx hb d_Mo_init_76 rfl (lv_at hl 0 rfl) ?_
  refine lv_bipush (v := 12) hx hb d_Mo_init_77 (by decide) ?_
  refine n_newa C0 hP hz hS 0 k_ac_int rfl rfl rfl rfl (N := 12) (by decide) (by decide) (by decide) ⟨by simp only [rmMo]; omega, by simp only [rmMo]; omega⟩ d_Mo_init_79 (fun H hz hP hS => ?_)
  replace hP := st_push (F := stO ar base (up (up (up (up z0M 6 0 0 1) 6 0 1 0) 6 0 2 0) 6 0 3 0) [.ref (base + 1), .ref (base + 2), .ref (base + 3), .ref (base + 4), .ref (base + 5), .ref (base + 6), .ref (base + 7), .null, .null, .null, .null, .null, .null, .null, .null, .int 0, .int 0, .int 0, .int 0, .int 0, .int 0, .int 0, .int 0, .int 0]) (by rfl) hP
  refine n_putF C0 hnm hP hS (ci := 4) t_Mo t_Mo_ok n_Mo 0 (by omega) (fs := [.ref (base + 1), .ref (base + 2), .ref (base + 3), .ref (base + 4), .ref (base + 5), .ref (base + 6), .ref (base + 7), .null, .null, .null, .null, .null, .null, .null, .null, .int 0, .int 0, .int 0, .int 0, .int 0, .int 0, .int 0, .int 0, .int 0]) rfl rfl 7 (by decide) rfl rfl k_fl_Mo_32 rfl (ty := .array .int) (v := .ref (base + 8)) (by decide +kernel) rfl rfl (Nat.le_of_ble_eq_true rfl) d_Mo_init_81 (by (try simp only [rmMo]); omega) (fun H locs hz hP hS => ?_)
  replace hP : va_P D classes (wl base 9 (stO ar base (up (up (up (up z0M 6 0 0 1) 6 0 1 0) 6 0 2 0) 6 0 3 0) [.ref (base + 1), .ref (base + 2), .ref (base + 3), .ref (base + 4), .ref (base + 5), .ref (base + 6), .ref (base + 7), .ref (base + 8), .null, .null, .null, .null, .null, .null, .null, .int 0, .int 0, .int 0, .int 0, .int 0, .int 0, .int 0, .int 0, .int 0])) H := so_fld hP
  refine lv_aload_n hx hb d_Mo_init_84 rfl (lv_at hl 0 rfl) ?_
  refine lv_bipush (v := 96) hx hb d_Mo_init_85 (by decide) ?_
  refine n_newa C0 hP hz hS 0 k_ac_int rfl rfl rfl rfl (N := 96) (by decide) (by decide) (by decide) ⟨by simp only [rmMo]; omega, by simp only [rmMo]; omega⟩ d_Mo_init_87 (fun H hz hP hS => ?_)
  replace hP := st_push (F := stO ar base (up (up (up (up z0M 6 0 0 1) 6 0 1 0) 6 0 2 0) 6 0 3 0) [.ref (base + 1), .ref (base + 2), .ref (base + 3), .ref (base + 4), .ref (base + 5), .ref (base + 6), .ref (base + 7), .ref (base + 8), .null, .null, .null, .null, .null, .null, .null, .int 0, .int 0, .int 0, .int 0, .int 0, .int 0, .int 0, .int 0, .int 0]) (by rfl) hP
  refine n_putF C0 hnm hP hS (ci := 4) t_Mo t_Mo_ok n_Mo 0 (by omega) (fs := [.ref (base + 1), .ref (base + 2), .ref (base + 3), .ref (base + 4), .ref (base + 5), .ref (base + 6), .ref (base + 7), .ref (base + 8), .null, .null, .null, .null, .null, .null, .null, .int 0, .int 0, .int 0, .int 0, .int 0, .int 0, .int 0, .int 0, .int 0]) rfl rfl 8 (by decide) rfl rfl k_fl_Mo_35 rfl (ty := .array .int) (v := .ref (base + 9)) (by decide +kernel) rfl rfl (Nat.le_of_ble_eq_true rfl) d_Mo_init_89 (by (try simp only [rmMo]); omega) (fun H locs hz hP hS => ?_)
  replace hP : va_P D classes (wl base 10 (stO ar base (up (up (up (up z0M 6 0 0 1) 6 0 1 0) 6 0 2 0) 6 0 3 0) [.ref (base + 1), .ref (base + 2), .ref (base + 3), .ref (base + 4), .ref (base + 5), .ref (base + 6), .ref (base + 7), .ref (base + 8), .ref (base + 9), .null, .null, .null, .null, .null, .null, .int 0, .int 0, .int 0, .int 0, .int 0, .int 0, .int 0, .int 0, .int 0])) H := so_fld hP
  refine lv_aload_n hx hb d_Mo_init_92 rfl (lv_at hl 0 rfl) ?_
  refine lv_bipush (v := 12) hx hb d_Mo_init_93 (by decide) ?_
  refine n_newa C0 hP hz hS 0 k_ac_int rfl rfl rfl rfl (N := 12) (by decide) (by decide) (by decide) ⟨by simp only [rmMo]; omega, by simp only [rmMo]; omega⟩ d_Mo_init_95 (fun H hz hP hS => ?_)
  replace hP := st_push (F := stO ar base (up (up (up (up z0M 6 0 0 1) 6 0 1 0) 6 0 2 0) 6 0 3 0) [.ref (base + 1), .ref (base + 2), .ref (base + 3), .ref (base + 4), .ref (base + 5), .ref (base + 6), .ref (base + 7), .ref (base + 8), .ref (base + 9), .null, .null, .null, .null, .null, .null, .int 0, .int 0, .int 0, .int 0, .int 0, .int 0, .int 0, .int 0, .int 0]) (by rfl) hP
  refine n_putF C0 hnm hP hS (ci := 4) t_Mo t_Mo_ok n_Mo 0 (by omega) (fs := [.ref (base + 1), .ref (base + 2), .ref (base + 3), .ref (base + 4), .ref (base + 5), .ref (base + 6), .ref (base + 7), .ref (base + 8), .ref (base + 9), .null, .null, .null, .null, .null, .null, .int 0, .int 0, .int 0, .int 0, .int 0, .int 0, .int 0, .int 0, .int 0]) rfl rfl 9 (by decide) rfl rfl k_fl_Mo_38 rfl (ty := .array .int) (v := .ref (base + 10)) (by decide +kernel) rfl rfl (Nat.le_of_ble_eq_true rfl) d_Mo_init_97 (by (try simp only [rmMo]); omega) (fun H locs hz hP hS => ?_)
  replace hP : va_P D classes (wl base 11 (stO ar base (up (up (up (up z0M 6 0 0 1) 6 0 1 0) 6 0 2 0) 6 0 3 0) [.ref (base + 1), .ref (base + 2), .ref (base + 3), .ref (base + 4), .ref (base + 5), .ref (base + 6), .ref (base + 7), .ref (base + 8), .ref (base + 9), .ref (base + 10), .null, .null, .null, .null, .null, .int 0, .int 0, .int 0, .int 0, .int 0, .int 0, .int 0, .int 0, .int 0])) H := so_fld hP
  refine lv_aload_n hx hb d_Mo_init_100 rfl (lv_at hl 0 rfl) ?_
  refine lv_bipush (v := 12) hx hb d_Mo_init_101 (by decide) ?_
  refine n_newa C0 hP hz hS 0 k_ac_int rfl rfl rfl rfl (N := 12) (by decide) (by decide) (by decide) ⟨by simp only [rmMo]; omega, by simp only [rmMo]; omega⟩ d_Mo_init_103 (fun H hz hP hS => ?_)
  replace hP := st_push (F := stO ar base (up (up (up (up z0M 6 0 0 1) 6 0 1 0) 6 0 2 0) 6 0 3 0) [.ref (base + 1), .ref (base + 2), .ref (base + 3), .ref (base + 4), .ref (base + 5), .ref (base + 6), .ref (base + 7), .ref (base + 8), .ref (base + 9), .ref (base + 10), .null, .null, .null, .null, .null, .int 0, .int 0, .int 0, .int 0, .int 0, .int 0, .int 0, .int 0, .int 0]) (by rfl) hP
  refine n_putF C0 hnm hP hS (ci := 4) t_Mo t_Mo_ok n_Mo 0 (by omega) (fs := [.ref (base + 1), .ref (base + 2), .ref (base + 3), .ref (base + 4), .ref (base + 5), .ref (base + 6), .ref (base + 7), .ref (base + 8), .ref (base + 9), .ref (base + 10), .null, .null, .null, .null, .null, .int 0, .int 0, .int 0, .int 0, .int 0, .int 0, .int 0, .int 0, .int 0]) rfl rfl 10 (by decide) rfl rfl k_fl_Mo_41 rfl (ty := .array .int) (v := .ref (base + 11)) (by decide +kernel) rfl rfl (Nat.le_of_ble_eq_true rfl) d_Mo_init_105 (by (try simp only [rmMo]); omega) (fun H locs hz hP hS => ?_)
  replace hP : va_P D classes (wl base 12 (stO ar base (up (up (up (up z0M 6 0 0 1) 6 0 1 0) 6 0 2 0) 6 0 3 0) [.ref (base + 1), .ref (base + 2), .ref (base + 3), .ref (base + 4), .ref (base + 5), .ref (base + 6), .ref (base + 7), .ref (base + 8), .ref (base + 9), .ref (base + 10), .ref (base + 11), .null, .null, .null, .null, .int 0, .int 0, .int 0, .int 0, .int 0, .int 0, .int 0, .int 0, .int 0])) H := so_fld hP
  refine lv_aload_n hx hb d_Mo_init_108 rfl (lv_at hl 0 rfl) ?_
  refine lv_bipush (v := 12) hx hb d_Mo_init_109 (by decide) ?_
  refine n_newa C0 hP hz hS 0 k_ac_int rfl rfl rfl rfl (N := 12) (by decide) (by decide) (by decide) ⟨by simp only [rmMo]; omega, by simp only [rmMo]; omega⟩ d_Mo_init_111 (fun H hz hP hS => ?_)
  replace hP := st_push (F := stO ar base (up (up (up (up z0M 6 0 0 1) 6 0 1 0) 6 0 2 0) 6 0 3 0) [.ref (base + 1), .ref (base + 2), .ref (base + 3), .ref (base + 4), .ref (base + 5), .ref (base + 6), .ref (base + 7), .ref (base + 8), .ref (base + 9), .ref (base + 10), .ref (base + 11), .null, .null, .null, .null, .int 0, .int 0, .int 0, .int 0, .int 0, .int 0, .int 0, .int 0, .int 0]) (by rfl) hP
  refine n_putF C0 hnm hP hS (ci := 4) t_Mo t_Mo_ok n_Mo 0 (by omega) (fs := [.ref (base + 1), .ref (base + 2), .ref (base + 3), .ref (base + 4), .ref (base + 5), .ref (base + 6), .ref (base + 7), .ref (base + 8), .ref (base + 9), .ref (base + 10), .ref (base + 11), .null, .null, .null, .null, .int 0, .int 0, .int 0, .int 0, .int 0, .int 0, .int 0, .int 0, .int 0]) rfl rfl 11 (by decide) rfl rfl k_fl_Mo_44 rfl (ty := .array .int) (v := .ref (base + 12)) (by decide +kernel) rfl rfl (Nat.le_of_ble_eq_true rfl) d_Mo_init_113 (by (try simp only [rmMo]); omega) (fun H locs hz hP hS => ?_)
  replace hP : va_P D classes (wl base 13 (stO ar base (up (up (up (up z0M 6 0 0 1) 6 0 1 0) 6 0 2 0) 6 0 3 0) [.ref (base + 1), .ref (base + 2), .ref (base + 3), .ref (base + 4), .ref (base + 5), .ref (base + 6), .ref (base + 7), .ref (base + 8), .ref (base + 9), .ref (base + 10), .ref (base + 11), .ref (base + 12), .null, .null, .null, .int 0, .int 0, .int 0, .int 0, .int 0, .int 0, .int 0, .int 0, .int 0])) H := so_fld hP
  refine lv_aload_n hx hb d_Mo_init_116 rfl (lv_at hl 0 rfl) ?_
  refine lv_bipush (v := 36) hx hb d_Mo_init_117 (by decide) ?_
  refine n_newa C0 hP hz hS 0 k_ac_int rfl rfl rfl rfl (N := 36) (by decide) (by decide) (by decide) ⟨by simp only [rmMo]; omega, by simp only [rmMo]; omega⟩ d_Mo_init_119 (fun H hz hP hS => ?_)
  replace hP := st_push (F := stO ar base (up (up (up (up z0M 6 0 0 1) 6 0 1 0) 6 0 2 0) 6 0 3 0) [.ref (base + 1), .ref (base + 2), .ref (base + 3), .ref (base + 4), .ref (base + 5), .ref (base + 6), .ref (base + 7), .ref (base + 8), .ref (base + 9), .ref (base + 10), .ref (base + 11), .ref (base + 12), .null, .null, .null, .int 0, .int 0, .int 0, .int 0, .int 0, .int 0, .int 0, .int 0, .int 0]) (by rfl) hP
  refine n_putF C0 hnm hP hS (ci := 4) t_Mo t_Mo_ok n_Mo 0 (by omega) (fs := [.ref (base + 1), .ref (base + 2), .ref (base + 3), .ref (base + 4), .ref (base + 5), .ref (base + 6), .ref (base + 7), .ref (base + 8), .ref (base + 9), .ref (base + 10), .ref (base + 11), .ref (base + 12), .null, .null, .null, .int 0, .int 0, .int 0, .int 0, .int 0, .int 0, .int 0, .int 0, .int 0]) rfl rfl 12 (by decide) rfl rfl k_fl_Mo_47 rfl (ty := .array .int) (v := .ref (base + 13)) (by decide +kernel) rfl rfl (Nat.le_of_ble_eq_true rfl) d_Mo_init_121 (by (try simp only [rmMo]); omega) (fun H locs hz hP hS => ?_)
  replace hP : va_P D classes (wl base 14 (stO ar base (up (up (up (up z0M 6 0 0 1) 6 0 1 0) 6 0 2 0) 6 0 3 0) [.ref (base + 1), .ref (base + 2), .ref (base + 3), .ref (base + 4), .ref (base + 5), .ref (base + 6), .ref (base + 7), .ref (base + 8), .ref (base + 9), .ref (base + 10), .ref (base + 11), .ref (base + 12), .ref (base + 13), .null, .null, .int 0, .int 0, .int 0, .int 0, .int 0, .int 0, .int 0, .int 0, .int 0])) H := so_fld hP
  refine lv_aload_n hx hb d_Mo_init_124 rfl (lv_at hl 0 rfl) ?_
  refine lv_bipush (v := 36) hx hb d_Mo_init_125 (by decide) ?_
  refine n_newa C0 hP hz hS 0 k_ac_int rfl rfl rfl rfl (N := 36) (by decide) (by decide) (by decide) ⟨by simp only [rmMo]; omega, by simp only [rmMo]; omega⟩ d_Mo_init_127 (fun H hz hP hS => ?_)
  replace hP := st_push (F := stO ar base (up (up (up (up z0M 6 0 0 1) 6 0 1 0) 6 0 2 0) 6 0 3 0) [.ref (base + 1), .ref (base + 2), .ref (base + 3), .ref (base + 4), .ref (base + 5), .ref (base + 6), .ref (base + 7), .ref (base + 8), .ref (base + 9), .ref (base + 10), .ref (base + 11), .ref (base + 12), .ref (base + 13), .null, .null, .int 0, .int 0, .int 0, .int 0, .int 0, .int 0, .int 0, .int 0, .int 0]) (by rfl) hP
  refine n_putF C0 hnm hP hS (ci := 4) t_Mo t_Mo_ok n_Mo 0 (by omega) (fs := [.ref (base + 1), .ref (base + 2), .ref (base + 3), .ref (base + 4), .ref (base + 5), .ref (base + 6), .ref (base + 7), .ref (base + 8), .ref (base + 9), .ref (base + 10), .ref (base + 11), .ref (base + 12), .ref (base + 13), .null, .null, .int 0, .int 0, .int 0, .int 0, .int 0, .int 0, .int 0, .int 0, .int 0]) rfl rfl 13 (by decide) rfl rfl k_fl_Mo_50 rfl (ty := .array .int) (v := .ref (base + 14)) (by decide +kernel) rfl rfl (Nat.le_of_ble_eq_true rfl) d_Mo_init_129 (by (try simp only [rmMo]); omega) (fun H locs hz hP hS => ?_)
  replace hP : va_P D classes (wl base 15 (stO ar base (up (up (up (up z0M 6 0 0 1) 6 0 1 0) 6 0 2 0) 6 0 3 0) [.ref (base + 1), .ref (base + 2), .ref (base + 3), .ref (base + 4), .ref (base + 5), .ref (base + 6), .ref (base + 7), .ref (base + 8), .ref (base + 9), .ref (base + 10), .ref (base + 11), .ref (base + 12), .ref (base + 13), .ref (base + 14), .null, .int 0, .int 0, .int 0, .int 0, .int 0, .int 0, .int 0, .int 0, .int 0])) H := so_fld hP
  refine lv_aload_n hx hb d_Mo_init_132 rfl (lv_at hl 0 rfl) ?_
  refine lv_bipush (v := 12) hx hb d_Mo_init_133 (by decide) ?_
  refine n_newa C0 hP hz hS 0 k_ac_int rfl rfl rfl rfl (N := 12) (by decide) (by decide) (by decide) ⟨by simp only [rmMo]; omega, by simp only [rmMo]; omega⟩ d_Mo_init_135 (fun H hz hP hS => ?_)
  replace hP := st_push (F := stO ar base (up (up (up (up z0M 6 0 0 1) 6 0 1 0) 6 0 2 0) 6 0 3 0) [.ref (base + 1), .ref (base + 2), .ref (base + 3), .ref (base + 4), .ref (base + 5), .ref (base + 6), .ref (base + 7), .ref (base + 8), .ref (base + 9), .ref (base + 10), .ref (base + 11), .ref (base + 12), .ref (base + 13), .ref (base + 14), .null, .int 0, .int 0, .int 0, .int 0, .int 0, .int 0, .int 0, .int 0, .int 0]) (by rfl) hP
  refine n_putF C0 hnm hP hS (ci := 4) t_Mo t_Mo_ok n_Mo 0 (by omega) (fs := [.ref (base + 1), .ref (base + 2), .ref (base + 3), .ref (base + 4), .ref (base + 5), .ref (base + 6), .ref (base + 7), .ref (base + 8), .ref (base + 9), .ref (base + 10), .ref (base + 11), .ref (base + 12), .ref (base + 13), .ref (base + 14), .null, .int 0, .int 0, .int 0, .int 0, .int 0, .int 0, .int 0, .int 0, .int 0]) rfl rfl 14 (by decide) rfl rfl k_fl_Mo_53 rfl (ty := .array .int) (v := .ref (base + 15)) (by decide +kernel) rfl rfl (Nat.le_of_ble_eq_true rfl) d_Mo_init_137 (by (try simp only [rmMo]); omega) (fun H locs hz hP hS => ?_)
  replace hP : va_P D classes (wl base 16 (stO ar base (up (up (up (up z0M 6 0 0 1) 6 0 1 0) 6 0 2 0) 6 0 3 0) [.ref (base + 1), .ref (base + 2), .ref (base + 3), .ref (base + 4), .ref (base + 5), .ref (base + 6), .ref (base + 7), .ref (base + 8), .ref (base + 9), .ref (base + 10), .ref (base + 11), .ref (base + 12), .ref (base + 13), .ref (base + 14), .ref (base + 15), .int 0, .int 0, .int 0, .int 0, .int 0, .int 0, .int 0, .int 0, .int 0])) H := so_fld hP
  refine lv_iconst (v := 0) hx hb d_Mo_init_140 (by decide) ?_
  rw [show (0 : Int32) = nI 0 from by decide]
  refine lv_istore_n (lv' := [(1, .int (nI 0)), (0, .ref (base + 0))]) hx hb d_Mo_init_141 rfl hl (by decide) rfl (fun ls hl => ?_)
  rw [show (up (up (up (up z0M 6 0 0 1) 6 0 1 0) 6 0 2 0) 6 0 3 0 : Mem) = oM 0 from oM_0] at hP
  have loop : ∀ (f k : Nat), k ≤ 12 → 12 + 1 ≤ k + f → ∀ (H : Heap) (locs : List Loc), H.size = base + 16 → va_P D classes (wl base 16 (stO ar base (oM k) [.ref (base + 1), .ref (base + 2), .ref (base + 3), .ref (base + 4), .ref (base + 5), .ref (base + 6), .ref (base + 7), .ref (base + 8), .ref (base + 9), .ref (base + 10), .ref (base + 11), .ref (base + 12), .ref (base + 13), .ref (base + 14), .ref (base + 15), .int 0, .int 0, .int 0, .int 0, .int 0, .int 0, .int 0, .int 0, .int 0])) H → va_S (nB base) s.heap H locs → ∀ ls : Array Slot, lv_has ls 2 [(1, .int (nI k)), (0, .ref (base + 0))] → W p l ev rmMo s m ([.ref (base + 0)] : List Value).toArray below meth c H locs 15 650 (MQX below (QN D base 16 (memo ar base (oM 12))) ([.ref (base + 0)] : List Value).toArray s rmMo.cells rmMo.slots (nB base)) (F0 m 142 ls []) := by
    intro f
    induction f with
    | zero => intro k h1 h2; omega
    | succ f ih =>
      intro k hk1 hk2 H locs hz hP hS ls hl
      refine lv_iload_n hx hb d_Mo_init_142 rfl (lv_at hl 0 rfl) ?_
      refine lv_bipush (v := 12) hx hb d_Mo_init_143 (by decide) ?_
      refine lv_icmp_ge (tgt := 168) hx hb d_Mo_init_145 (by decide) (fun c_145 => ?_) (fun c_145 => ?_)
      · skip
        have hkN : k = 12 := by have := ge_nI (N := 12) c_145; omega
        subst hkN
        refine n_ret C0 hP hz hS (fun k hk => ?_) ⟨by simp only [rmMo]; omega, by simp only [rmMo]; omega⟩ d_Mo_init_168
        unfold stO
        by_cases h0 : k = 0
        · subst h0; rfl
        · rw [if_neg h0]
      · skip
        have hkN : k < 12 := lt_nI (N := 12) c_145
        refine lv_aload_n hx hb d_Mo_init_148 rfl (lv_at hl 1 rfl) ?_
        refine n_get C0 hP (ci := 4) 0 (by omega) (fs := [.ref (base + 1), .ref (base + 2), .ref (base + 3), .ref (base + 4), .ref (base + 5), .ref (base + 6), .ref (base + 7), .ref (base + 8), .ref (base + 9), .ref (base + 10), .ref (base + 11), .ref (base + 12), .ref (base + 13), .ref (base + 14), .ref (base + 15), .int 0, .int 0, .int 0, .int 0, .int 0, .int 0, .int 0, .int 0, .int 0]) rfl rfl 6 (by decide) rfl k_fl_Mo_29 rfl d_Mo_init_149 ?_
        refine lv_iload_n hx hb d_Mo_init_152 rfl (lv_at hl 0 rfl) ?_
        refine lv_aload_n hx hb d_Mo_init_153 rfl (lv_at hl 1 rfl) ?_
        refine n_get C0 hP (ci := 4) 0 (by omega) (fs := [.ref (base + 1), .ref (base + 2), .ref (base + 3), .ref (base + 4), .ref (base + 5), .ref (base + 6), .ref (base + 7), .ref (base + 8), .ref (base + 9), .ref (base + 10), .ref (base + 11), .ref (base + 12), .ref (base + 13), .ref (base + 14), .ref (base + 15), .int 0, .int 0, .int 0, .int 0, .int 0, .int 0, .int 0, .int 0, .int 0]) rfl rfl 9 (by decide) rfl k_fl_Mo_38 rfl d_Mo_init_154 ?_
        refine lv_iload_n hx hb d_Mo_init_157 rfl (lv_at hl 0 rfl) ?_
        refine lv_iconst (v := (-1)) hx hb d_Mo_init_158 (by decide) ?_
        refine lv_dup_x2 hx hb d_Mo_init_159 rfl rfl rfl ?_
        refine n_iast C0 hP hS 10 (by omega) (N := 12) (f := fun j => (oM k) 10 0 j) rfl (i := nI k) (x := -1) (vin_nI hkN) d_Mo_init_160 (by (try simp only [rmMo]); omega) (fun H locs hz hP hS => ?_)
        rw [show (nI k).toNatClampNeg = k from nI_clamp (by omega)] at hP
        replace hP := so_arr (k := 10) (j := k) (v := -1) (by decide) (by decide) (by rw [ast_fn]; rfl) hP
        refine n_iast C0 hP hS 7 (by omega) (N := 12) (f := fun j => (up (oM k) 10 0 k (-1)) 7 0 j) rfl (i := nI k) (x := -1) (vin_nI hkN) d_Mo_init_161 (by (try simp only [rmMo]); omega) (fun H locs hz hP hS => ?_)
        rw [show (nI k).toNatClampNeg = k from nI_clamp (by omega)] at hP
        replace hP := so_arr (k := 7) (j := k) (v := -1) (by decide) (by decide) (by rw [ast_fn]; rfl) hP
        refine lv_iinc (v := nI (k + 1)) (lv' := [(1, .int (nI (k + 1))), (0, .ref (base + 0))]) hx hb d_Mo_init_162 hl (k := 0) rfl (by exact nI_1 k) (by decide) rfl (fun ls hl => ?_)
        refine lv_goto (tgt := 142) hx hb d_Mo_init_165 (by decide) ?_
        rw [show (up (up (oM k) 10 0 k (-1)) 7 0 k (-1) : Mem) = oM (k + 1) from oM_s] at hP
        exact ih (k + 1) (by omega) (by omega) _ _ hz hP hS ls (lv_sub hl [0, 1] rfl)
  exact loop (12 + 1) 0 (by omega) (by omega) _ _ hz hP hS ls (lv_sub hl [0, 1] rfl)
