/-! The class's constructor, walked: laid by gen/m37.py. -/
theorem s_01 {σ : Mem} (h : σ = s0M ∨ σ = s1M) {a i j : Nat} (h2 : a ≠ 2) : σ a i j = if a = 8 ∨ a = 11 then -1 else 0 := by
  rcases h with rfl | rfl
  · rfl
  · unfold s1M; rw [upK (fun z => h2 z.1)]; rfl
set_option maxHeartbeats 8000000 in
set_option maxRecDepth 100000 in
theorem c_Sy_init {S0 : State} {A0 : Array Value} {D : va_G} {ar : Nat → ClassId} {base : Nat} {l : Launch} (hlt : l.stackTraces = false) {M : Nat → va_E} (hM : M 0 = .inr (0, [.null, .int 0, .null, .null, .null, .null, .null, .null, .int 0, .int 0, .int 0, .int 0])) :
    MX l y_Sy_init [Cond.code y_Sy_init b_Sy_init 2 none] rmSy (PN S0 A0 D ar base 1 M [.ref (base + 0)]) (QN D base 122 (mem ar base s1M)) (nB base) := by
  refine n_head hlt (by decide +kernel) (Nat.le_of_ble_eq_true rfl) ?_
  intro p ev s m below meth c ls C0 hnm hsz hP hl
  have C0 : Cx S0 A0 D ar base p l s m _ meth c R_Sy b_Sy_init 2 none := C0
  obtain ⟨hx, hb, -⟩ := id C0
  have hnm : meth.name = "<init>" := hnm
  have hl : lv_has ls 2 [(0, .ref (base + 0))] := hl
  have hS : va_S (nB base) s.heap s.heap [] := va_S.rf
  have hz := hsz
  rw [wl_congr (M' := stM ar base s0M [.null, .int 0, .null, .null, .null, .null, .null, .null, .int 0, .int 0, .int 0, .int 0] 0 0 0 0) (fun k hk => by rw [show k = 0 from by omega, hM]; rfl)] at hP
  refine lv_aload_n hx hb d_Sy_init_0 rfl (lv_at hl 0 rfl) ?_
  refine n_obj C0 k_ml_Sy_3 hl.1 (by decide) (by decide) d_Sy_init_1 ?_
  refine lv_aload_n hx hb d_Sy_init_4 rfl (lv_at hl 0 rfl) ?_
  refine lv_bipush (v := 36) hx hb d_Sy_init_5 (by decide) ?_
  refine n_newa C0 hP hz hS 1 k_ac_char rfl rfl rfl rfl (N := 36) (by decide) (by decide) (by decide) ⟨by simp only [rmN, rmSy]; omega, by simp only [rmN, rmSy]; omega⟩ d_Sy_init_7 (fun H hz hP hS => ?_)
  replace hP := st_push (by rw [st_mem (by decide)]; rfl) hP
  refine n_putF C0 hnm hP hS (ci := 0) t_Sy t_Sy_ok n_Sy 0 (by omega) (fs := [.null, .int 0, .null, .null, .null, .null, .null, .null, .int 0, .int 0, .int 0, .int 0]) rfl rfl 0 (by decide) rfl rfl k_fl_Sy_9 rfl (ty := .array .char) (v := .ref (base + 1)) (by decide +kernel) rfl rfl (Nat.le_of_ble_eq_true rfl) d_Sy_init_9 (by (try simp only [rmN]); omega) (fun H locs hz hP hS => ?_)
  replace hP : va_P D classes (wl base 2 (stM ar base s0M [.ref (base + 1), .int 0, .null, .null, .null, .null, .null, .null, .int 0, .int 0, .int 0, .int 0] 0 0 0 0)) H := st_fld hP
  refine lv_aload_n hx hb d_Sy_init_12 rfl (lv_at hl 0 rfl) ?_
  refine n_new C0 hP hz hS (ci := 1) t_Co t_Co_ok k_cl_Sy_13 k_ia_Co k_in_Co rfl (fs := [.null, .null, .null, .null, .int 0]) (by decide) ⟨by simp only [rmN, rmSy]; omega, by simp only [rmN, rmSy]; omega⟩ d_Sy_init_13 (fun H hz hP hS => ?_)
  refine lv_dup hx hb d_Sy_init_16 rfl ?_
  refine n_call C0 hP hz hS k_mn_Sy_15 k_im_Co_init k_cd_Co_init k_in_Co rfl z_Co_init (c_Co_init hlt (by rw [va_up_self])) hl.1 d_Sy_init_17 (Nat.le_of_ble_eq_true rfl) ⟨by decide, by decide⟩ ⟨by simp only [rmN, rmSy]; omega, by simp only [rmN, rmSy]; omega⟩ (fun H locs hz hP hS => ?_)
  replace hP : va_P D classes (wl base (2 + 5) (stM ar base s0M [.ref (base + 1), .int 0, .null, .null, .null, .null, .null, .null, .int 0, .int 0, .int 0, .int 0] 0 0 0 0)) H := st_co (σ := s0M) (c := 0) (by omega) (rfl) (fun a j ha => by rw [s_01 (Or.inl rfl) (by omega), if_neg (by omega)]) (fun j hj => st_mem (by omega)) hP
  refine n_putF C0 hnm hP hS (ci := 0) t_Sy t_Sy_ok n_Sy 0 (by omega) (fs := [.ref (base + 1), .int 0, .null, .null, .null, .null, .null, .null, .int 0, .int 0, .int 0, .int 0]) rfl rfl 2 (by decide) rfl rfl k_fl_Sy_16 rfl (ty := .object "ExchangeSystem$Contract") (v := .ref (base + 2)) (by decide +kernel) rfl rfl (Nat.le_of_ble_eq_true rfl) d_Sy_init_20 (by (try simp only [rmN]); omega) (fun H locs hz hP hS => ?_)
  replace hP : va_P D classes (wl base 7 (stM ar base s0M [.ref (base + 1), .int 0, .ref (base + 2), .null, .null, .null, .null, .null, .int 0, .int 0, .int 0, .int 0] 0 0 0 0)) H := st_fld hP
  refine lv_aload_n hx hb d_Sy_init_23 rfl (lv_at hl 0 rfl) ?_
  refine lv_iconst (v := 4) hx hb d_Sy_init_24 (by decide) ?_
  refine n_newq C0 hP hz hS 3 k_cl_Sy_13 k_ao_Co rfl (N := 4) (by decide) (by decide) (by decide) ⟨by simp only [rmN, rmSy]; omega, by simp only [rmN, rmSy]; omega⟩ d_Sy_init_25 (fun H hz hP hS => ?_)
  replace hP := st_push (by rfl) hP
  refine n_putF C0 hnm hP hS (ci := 0) t_Sy t_Sy_ok n_Sy 0 (by omega) (fs := [.ref (base + 1), .int 0, .ref (base + 2), .null, .null, .null, .null, .null, .int 0, .int 0, .int 0, .int 0]) rfl rfl 3 (by decide) rfl rfl k_fl_Sy_20 rfl (ty := .array (.object "ExchangeSystem$Contract")) (v := .ref (base + 7)) (by decide +kernel) rfl rfl (Nat.le_of_ble_eq_true rfl) d_Sy_init_28 (by (try simp only [rmN]); omega) (fun H locs hz hP hS => ?_)
  replace hP : va_P D classes (wl base 8 (stM ar base s0M [.ref (base + 1), .int 0, .ref (base + 2), .ref (base + 7), .null, .null, .null, .null, .int 0, .int 0, .int 0, .int 0] 0 0 0 0)) H := st_fld hP
  refine lv_iconst (v := 0) hx hb d_Sy_init_31 (by decide) ?_
  rw [show (0 : Int32) = nI 0 from by decide]
  refine lv_istore_n (lv' := [(1, .int (nI 0)), (0, .ref (base + 0))]) hx hb d_Sy_init_32 rfl hl (by decide) rfl (fun ls hl => ?_)
  have loop33 : ∀ (f k : Nat), k ≤ 4 → 4 + 1 ≤ k + f → ∀ (H : Heap) (locs : List Loc), H.size = base + (8 + 5 * k) → va_P D classes (wl base (8 + 5 * k) (stM ar base s0M [.ref (base + 1), .int 0, .ref (base + 2), .ref (base + 7), .null, .null, .null, .null, .int 0, .int 0, .int 0, .int 0] k 0 0 0)) H → va_S (nB base) s.heap H locs → ∀ ls : Array Slot, lv_has ls 2 [(1, .int (nI k)), (0, .ref (base + 0))] → W p l ev rmSy s m ([.ref (base + 0)] : List Value).toArray below meth c H locs (7 + 5 * k) (81 + 41 * k) (MQX below (QN D base 122 (mem ar base s1M)) ([.ref (base + 0)] : List Value).toArray s rmSy.cells rmSy.slots (nB base)) (F0 m 33 ls []) := by
    intro f
    induction f with
    | zero => intro k h1 h2; omega
    | succ f ih =>
      intro k hk1 hk2 H locs hz hP hS ls hl
      refine lv_iload_n hx hb d_Sy_init_33 rfl (lv_at hl 0 rfl) ?_
      refine lv_iconst (v := 4) hx hb d_Sy_init_34 (by decide) ?_
      refine lv_icmp_ge (tgt := 57) hx hb d_Sy_init_35 (by decide) (fun c_35 => ?_) (fun c_35 => ?_)
      · skip
        have hkN : k = 4 := by have := ge_nI (N := 4) c_35; omega
        subst hkN
        refine lv_aload_n hx hb d_Sy_init_57 rfl (lv_at hl 1 rfl) ?_
        refine lv_iconst (v := 4) hx hb d_Sy_init_58 (by decide) ?_
        refine n_newa C0 hP hz hS 2 k_ac_boolean rfl rfl rfl rfl (N := 4) (by decide) (by decide) (by decide) ⟨by simp only [rmN, rmSy]; omega, by simp only [rmN, rmSy]; omega⟩ d_Sy_init_59 (fun H hz hP hS => ?_)
        replace hP := st_push (by rw [st_mem (by decide)]; rfl) hP
        refine n_putF C0 hnm hP hS (ci := 0) t_Sy t_Sy_ok n_Sy 0 (by omega) (fs := [.ref (base + 1), .int 0, .ref (base + 2), .ref (base + 7), .null, .null, .null, .null, .int 0, .int 0, .int 0, .int 0]) rfl rfl 4 (by decide) rfl rfl k_fl_Sy_24 rfl (ty := .array .boolean) (v := .ref (base + 28)) (by decide +kernel) rfl rfl (Nat.le_of_ble_eq_true rfl) d_Sy_init_61 (by (try simp only [rmN]); omega) (fun H locs hz hP hS => ?_)
        replace hP : va_P D classes (wl base 29 (stM ar base s0M [.ref (base + 1), .int 0, .ref (base + 2), .ref (base + 7), .ref (base + 28), .null, .null, .null, .int 0, .int 0, .int 0, .int 0] 4 0 0 0)) H := st_fld hP
        refine lv_aload_n hx hb d_Sy_init_64 rfl (lv_at hl 1 rfl) ?_
        refine n_get C0 hP (ci := 0) 0 (by omega) (fs := [.ref (base + 1), .int 0, .ref (base + 2), .ref (base + 7), .ref (base + 28), .null, .null, .null, .int 0, .int 0, .int 0, .int 0]) rfl rfl 4 (by decide) rfl k_fl_Sy_24 rfl d_Sy_init_65 ?_
        refine lv_iconst (v := 0) hx hb d_Sy_init_68 (by decide) ?_
        refine lv_iconst (v := 1) hx hb d_Sy_init_69 (by decide) ?_
        refine n_zast C0 hP hS 28 (by omega) (N := 4) (f := fun _ => 0) rfl (i := 0) (x := 1) (by unfold vp_in; decide) d_Sy_init_70 (by (try simp only [rmN]); omega) (fun H locs hz hP hS => ?_)
        replace hP : va_P D classes (wl base 29 (stM ar base s1M [.ref (base + 1), .int 0, .ref (base + 2), .ref (base + 7), .ref (base + 28), .null, .null, .null, .int 0, .int 0, .int 0, .int 0] 4 0 0 0)) H := st_al (by decide) (by rw [show (fun j => s1M 2 0 j) = upd (fun _ => 0) (0 : Int32).toNatClampNeg (vp_nar .boolean 1) from by funext j; by_cases h : j = 0 <;> simp [s1M, up, upd, h] <;> rfl]; exact hP)
        refine lv_aload_n hx hb d_Sy_init_71 rfl (lv_at hl 1 rfl) ?_
        refine lv_bipush (v := 12) hx hb d_Sy_init_72 (by decide) ?_
        refine n_newq C0 hP hz hS 4 k_cl_Sy_28 k_ao_Bl rfl (N := 12) (by decide) (by decide) (by decide) ⟨by simp only [rmN, rmSy]; omega, by simp only [rmN, rmSy]; omega⟩ d_Sy_init_74 (fun H hz hP hS => ?_)
        replace hP := st_push (by rfl) hP
        refine n_putF C0 hnm hP hS (ci := 0) t_Sy t_Sy_ok n_Sy 0 (by omega) (fs := [.ref (base + 1), .int 0, .ref (base + 2), .ref (base + 7), .ref (base + 28), .null, .null, .null, .int 0, .int 0, .int 0, .int 0]) rfl rfl 5 (by decide) rfl rfl k_fl_Sy_30 rfl (ty := .array (.object "ExchangeSystem$Block")) (v := .ref (base + 29)) (by decide +kernel) rfl rfl (Nat.le_of_ble_eq_true rfl) d_Sy_init_77 (by (try simp only [rmN]); omega) (fun H locs hz hP hS => ?_)
        replace hP : va_P D classes (wl base 30 (stM ar base s1M [.ref (base + 1), .int 0, .ref (base + 2), .ref (base + 7), .ref (base + 28), .ref (base + 29), .null, .null, .int 0, .int 0, .int 0, .int 0] 4 0 0 0)) H := st_fld hP
        refine lv_iconst (v := 0) hx hb d_Sy_init_80 (by decide) ?_
        rw [show (0 : Int32) = nI 0 from by decide]
        refine lv_istore_n (lv' := [(1, .int (nI 0)), (0, .ref (base + 0))]) hx hb d_Sy_init_81 rfl hl (by decide) rfl (fun ls hl => ?_)
        have loop82 : ∀ (f k : Nat), k ≤ 12 → 12 + 1 ≤ k + f → ∀ (H : Heap) (locs : List Loc), H.size = base + (30 + 2 * k) → va_P D classes (wl base (30 + 2 * k) (stM ar base s1M [.ref (base + 1), .int 0, .ref (base + 2), .ref (base + 7), .ref (base + 28), .ref (base + 29), .null, .null, .int 0, .int 0, .int 0, .int 0] 4 k 0 0)) H → va_S (nB base) s.heap H locs → ∀ ls : Array Slot, lv_has ls 2 [(1, .int (nI k)), (0, .ref (base + 0))] → W p l ev rmSy s m ([.ref (base + 0)] : List Value).toArray below meth c H locs (29 + 2 * k) (261 + 11 * k) (MQX below (QN D base 122 (mem ar base s1M)) ([.ref (base + 0)] : List Value).toArray s rmSy.cells rmSy.slots (nB base)) (F0 m 82 ls []) := by
          intro f
          induction f with
          | zero => intro k h1 h2; omega
          | succ f ih =>
            intro k hk1 hk2 H locs hz hP hS ls hl
            refine lv_iload_n hx hb d_Sy_init_82 rfl (lv_at hl 0 rfl) ?_
            refine lv_bipush (v := 12) hx hb d_Sy_init_83 (by decide) ?_
            refine lv_icmp_ge (tgt := 107) hx hb d_Sy_init_85 (by decide) (fun c_85 => ?_) (fun c_85 => ?_)
            · skip
              have hkN : k = 12 := by have := ge_nI (N := 12) c_85; omega
              subst hkN
              refine lv_aload_n hx hb d_Sy_init_107 rfl (lv_at hl 1 rfl) ?_
              refine lv_bipush (v := 6) hx hb d_Sy_init_108 (by decide) ?_
              refine n_newq C0 hP hz hS 3 k_cl_Sy_13 k_ao_Co rfl (N := 6) (by decide) (by decide) (by decide) ⟨by simp only [rmN, rmSy]; omega, by simp only [rmN, rmSy]; omega⟩ d_Sy_init_110 (fun H hz hP hS => ?_)
              replace hP := st_push (by rfl) hP
              refine n_putF C0 hnm hP hS (ci := 0) t_Sy t_Sy_ok n_Sy 0 (by omega) (fs := [.ref (base + 1), .int 0, .ref (base + 2), .ref (base + 7), .ref (base + 28), .ref (base + 29), .null, .null, .int 0, .int 0, .int 0, .int 0]) rfl rfl 6 (by decide) rfl rfl k_fl_Sy_35 rfl (ty := .array (.object "ExchangeSystem$Contract")) (v := .ref (base + 54)) (by decide +kernel) rfl rfl (Nat.le_of_ble_eq_true rfl) d_Sy_init_113 (by (try simp only [rmN]); omega) (fun H locs hz hP hS => ?_)
              replace hP : va_P D classes (wl base 55 (stM ar base s1M [.ref (base + 1), .int 0, .ref (base + 2), .ref (base + 7), .ref (base + 28), .ref (base + 29), .ref (base + 54), .null, .int 0, .int 0, .int 0, .int 0] 4 12 0 0)) H := st_fld hP
              refine lv_iconst (v := 0) hx hb d_Sy_init_116 (by decide) ?_
              rw [show (0 : Int32) = nI 0 from by decide]
              refine lv_istore_n (lv' := [(1, .int (nI 0)), (0, .ref (base + 0))]) hx hb d_Sy_init_117 rfl hl (by decide) rfl (fun ls hl => ?_)
              have loop118 : ∀ (f k : Nat), k ≤ 6 → 6 + 1 ≤ k + f → ∀ (H : Heap) (locs : List Loc), H.size = base + (55 + 5 * k) → va_P D classes (wl base (55 + 5 * k) (stM ar base s1M [.ref (base + 1), .int 0, .ref (base + 2), .ref (base + 7), .ref (base + 28), .ref (base + 29), .ref (base + 54), .null, .int 0, .int 0, .int 0, .int 0] 4 12 k 0)) H → va_S (nB base) s.heap H locs → ∀ ls : Array Slot, lv_has ls 2 [(1, .int (nI k)), (0, .ref (base + 0))] → W p l ev rmSy s m ([.ref (base + 0)] : List Value).toArray below meth c H locs (54 + 5 * k) (399 + 41 * k) (MQX below (QN D base 122 (mem ar base s1M)) ([.ref (base + 0)] : List Value).toArray s rmSy.cells rmSy.slots (nB base)) (F0 m 118 ls []) := by
                intro f
                induction f with
                | zero => intro k h1 h2; omega
                | succ f ih =>
                  intro k hk1 hk2 H locs hz hP hS ls hl
                  refine lv_iload_n hx hb d_Sy_init_118 rfl (lv_at hl 0 rfl) ?_
                  refine lv_bipush (v := 6) hx hb d_Sy_init_119 (by decide) ?_
                  refine lv_icmp_ge (tgt := 143) hx hb d_Sy_init_121 (by decide) (fun c_121 => ?_) (fun c_121 => ?_)
                  · skip
                    have hkN : k = 6 := by have := ge_nI (N := 6) c_121; omega
                    subst hkN
                    refine lv_aload_n hx hb d_Sy_init_143 rfl (lv_at hl 1 rfl) ?_
                    refine lv_bipush (v := 12) hx hb d_Sy_init_144 (by decide) ?_
                    refine n_newq C0 hP hz hS 5 k_cl_Sy_38 k_ao_En rfl (N := 12) (by decide) (by decide) (by decide) ⟨by simp only [rmN, rmSy]; omega, by simp only [rmN, rmSy]; omega⟩ d_Sy_init_146 (fun H hz hP hS => ?_)
                    replace hP := st_push (by rfl) hP
                    refine n_putF C0 hnm hP hS (ci := 0) t_Sy t_Sy_ok n_Sy 0 (by omega) (fs := [.ref (base + 1), .int 0, .ref (base + 2), .ref (base + 7), .ref (base + 28), .ref (base + 29), .ref (base + 54), .null, .int 0, .int 0, .int 0, .int 0]) rfl rfl 7 (by decide) rfl rfl k_fl_Sy_40 rfl (ty := .array (.object "ExchangeSystem$End")) (v := .ref (base + 85)) (by decide +kernel) rfl rfl (Nat.le_of_ble_eq_true rfl) d_Sy_init_149 (by (try simp only [rmN]); omega) (fun H locs hz hP hS => ?_)
                    replace hP : va_P D classes (wl base 86 (stM ar base s1M [.ref (base + 1), .int 0, .ref (base + 2), .ref (base + 7), .ref (base + 28), .ref (base + 29), .ref (base + 54), .ref (base + 85), .int 0, .int 0, .int 0, .int 0] 4 12 6 0)) H := st_fld hP
                    refine lv_iconst (v := 0) hx hb d_Sy_init_152 (by decide) ?_
                    rw [show (0 : Int32) = nI 0 from by decide]
                    refine lv_istore_n (lv' := [(1, .int (nI 0)), (0, .ref (base + 0))]) hx hb d_Sy_init_153 rfl hl (by decide) rfl (fun ls hl => ?_)
                    have loop154 : ∀ (f k : Nat), k ≤ 12 → 12 + 1 ≤ k + f → ∀ (H : Heap) (locs : List Loc), H.size = base + (86 + 3 * k) → va_P D classes (wl base (86 + 3 * k) (stM ar base s1M [.ref (base + 1), .int 0, .ref (base + 2), .ref (base + 7), .ref (base + 28), .ref (base + 29), .ref (base + 54), .ref (base + 85), .int 0, .int 0, .int 0, .int 0] 4 12 6 k)) H → va_S (nB base) s.heap H locs → ∀ ls : Array Slot, lv_has ls 2 [(1, .int (nI k)), (0, .ref (base + 0))] → W p l ev rmSy s m ([.ref (base + 0)] : List Value).toArray below meth c H locs (85 + 3 * k) (657 + 11 * k) (MQX below (QN D base 122 (mem ar base s1M)) ([.ref (base + 0)] : List Value).toArray s rmSy.cells rmSy.slots (nB base)) (F0 m 154 ls []) := by
                      intro f
                      induction f with
                      | zero => intro k h1 h2; omega
                      | succ f ih =>
                        intro k hk1 hk2 H locs hz hP hS ls hl
                        refine lv_iload_n hx hb d_Sy_init_154 rfl (lv_at hl 0 rfl) ?_
                        refine lv_bipush (v := 12) hx hb d_Sy_init_155 (by decide) ?_
                        refine lv_icmp_ge (tgt := 179) hx hb d_Sy_init_157 (by decide) (fun c_157 => ?_) (fun c_157 => ?_)
                        · skip
                          have hkN : k = 12 := by have := ge_nI (N := 12) c_157; omega
                          subst hkN
                          refine n_ret C0 (st_fin hP) hz hS (fun k hk => rfl) ⟨by simp only [rmN, rmSy]; omega, by simp only [rmN, rmSy]; omega⟩ d_Sy_init_179
                        · skip
                          have hkN : k < 12 := lt_nI (N := 12) c_157
                          refine lv_aload_n hx hb d_Sy_init_160 rfl (lv_at hl 1 rfl) ?_
                          refine n_get C0 hP (ci := 0) 0 (by omega) (fs := [.ref (base + 1), .int 0, .ref (base + 2), .ref (base + 7), .ref (base + 28), .ref (base + 29), .ref (base + 54), .ref (base + 85), .int 0, .int 0, .int 0, .int 0]) rfl rfl 7 (by decide) rfl k_fl_Sy_40 rfl d_Sy_init_161 ?_
                          refine lv_iload_n hx hb d_Sy_init_164 rfl (lv_at hl 0 rfl) ?_
                          refine n_new C0 hP hz hS (ci := 3) t_En t_En_ok k_cl_Sy_38 k_ia_En k_in_En rfl (fs := [.null, .null, .int 0, .int 0, .int 0]) (by decide) ⟨by simp only [rmN, rmSy]; omega, by simp only [rmN, rmSy]; omega⟩ d_Sy_init_165 (fun H hz hP hS => ?_)
                          refine lv_dup hx hb d_Sy_init_168 rfl ?_
                          refine n_call C0 hP hz hS k_mn_Sy_44 k_im_En_init k_cd_En_init k_in_En rfl z_En_init (c_En_init hlt (by rw [va_up_self])) hl.1 d_Sy_init_169 (Nat.le_of_ble_eq_true rfl) ⟨by decide, by decide⟩ ⟨by simp only [rmN, rmSy]; omega, by simp only [rmN, rmSy]; omega⟩ (fun H locs hz hP hS => ?_)
                          replace hP : va_P D classes (wl base (86 + 3 * k + 3) (stM ar base s1M [.ref (base + 1), .int 0, .ref (base + 2), .ref (base + 7), .ref (base + 28), .ref (base + 29), .ref (base + 54), .ref (base + 85), .int 0, .int 0, .int 0, .int 0] 4 12 6 k)) H := st_en (σ := s1M) (b := k) (by omega) rfl (by rw [s_01 (Or.inr rfl) (by decide)]; rfl) (by rw [s_01 (Or.inr rfl) (by decide)]; rfl) (by rw [s_01 (Or.inr rfl) (by decide)]; rfl) (by funext j; rw [s_01 (Or.inr rfl) (by decide)]; rfl) (by funext j; rw [s_01 (Or.inr rfl) (by decide)]; rfl) (fun j hj => st_mem (by omega)) hP
                          refine n_aast C0 hP hS 85 5 (86 + 3 * k) 3 (by omega) (by omega) (N := 12) (f := fun j => if j < k then some (base + ad 14 j) else none) rfl rfl (by rw [st_mem (by omega), show 86 + 3 * k = ad 14 (k) from rfl, mem_at (by decide) (show k < 12 by omega)]; rfl) rfl (vin_nI hkN) d_Sy_init_172 (by simp only [rmN, rmSy]; omega) (fun H locs hz hP hS => ?_)
                          rw [show (nI k).toNatClampNeg = k from nI_clamp (by omega)] at hP
                          replace hP : va_P D classes (wl base (86 + 3 * k + 3) (stM ar base s1M [.ref (base + 1), .int 0, .ref (base + 2), .ref (base + 7), .ref (base + 28), .ref (base + 29), .ref (base + 54), .ref (base + 85), .int 0, .int 0, .int 0, .int 0] 4 12 6 (k + 1))) H := st_a6 (rfl) hP
                          refine lv_iinc (v := nI (k + 1)) (lv' := [(1, .int (nI (k + 1))), (0, .ref (base + 0))]) hx hb d_Sy_init_173 hl (k := 0) rfl (by exact nI_1 k) (by decide) rfl (fun ls hl => ?_)
                          refine lv_goto (tgt := 154) hx hb d_Sy_init_176 (by decide) ?_
                          refine W.cnt (85 + 3 * (k + 1)) (657 + 11 * (k + 1)) (by (try simp only [rmN]); omega) (by (try simp only [rmN]); omega) ?_
                          exact ih (k + 1) (by omega) (by omega) _ _ (by rw [hz]; omega) (by rw [show 86 + 3 * (k + 1) = 86 + 3 * k + 3 from by omega]; exact hP) hS ls (lv_sub hl [0, 1] rfl)
                    exact loop154 (12 + 1) 0 (by omega) (by omega) _ _ hz hP hS ls (lv_sub hl [0, 1] rfl)
                  · skip
                    have hkN : k < 6 := lt_nI (N := 6) c_121
                    refine lv_aload_n hx hb d_Sy_init_124 rfl (lv_at hl 1 rfl) ?_
                    refine n_get C0 hP (ci := 0) 0 (by omega) (fs := [.ref (base + 1), .int 0, .ref (base + 2), .ref (base + 7), .ref (base + 28), .ref (base + 29), .ref (base + 54), .null, .int 0, .int 0, .int 0, .int 0]) rfl rfl 6 (by decide) rfl k_fl_Sy_35 rfl d_Sy_init_125 ?_
                    refine lv_iload_n hx hb d_Sy_init_128 rfl (lv_at hl 0 rfl) ?_
                    refine n_new C0 hP hz hS (ci := 1) t_Co t_Co_ok k_cl_Sy_13 k_ia_Co k_in_Co rfl (fs := [.null, .null, .null, .null, .int 0]) (by decide) ⟨by simp only [rmN, rmSy]; omega, by simp only [rmN, rmSy]; omega⟩ d_Sy_init_129 (fun H hz hP hS => ?_)
                    refine lv_dup hx hb d_Sy_init_132 rfl ?_
                    refine n_call C0 hP hz hS k_mn_Sy_15 k_im_Co_init k_cd_Co_init k_in_Co rfl z_Co_init (c_Co_init hlt (by rw [va_up_self])) hl.1 d_Sy_init_133 (Nat.le_of_ble_eq_true rfl) ⟨by decide, by decide⟩ ⟨by simp only [rmN, rmSy]; omega, by simp only [rmN, rmSy]; omega⟩ (fun H locs hz hP hS => ?_)
                    replace hP : va_P D classes (wl base (55 + 5 * k + 5) (stM ar base s1M [.ref (base + 1), .int 0, .ref (base + 2), .ref (base + 7), .ref (base + 28), .ref (base + 29), .ref (base + 54), .null, .int 0, .int 0, .int 0, .int 0] 4 12 k 0)) H := st_co (σ := s1M) (c := k + 5) (by omega) (by unfold cad; rw [if_neg (by omega)]; first | (rw [if_pos (by omega)]; omega) | (rw [if_neg (by omega)]; omega)) (fun a j ha => by rw [s_01 (Or.inr rfl) (by omega), if_neg (by omega)]) (fun j hj => st_mem (by omega)) hP
                    refine n_aast C0 hP hS 54 3 (55 + 5 * k) 1 (by omega) (by omega) (N := 6) (f := fun j => if j < k then some (base + ad 7 (j + 5)) else none) rfl rfl (by rw [st_mem (by omega), show 55 + 5 * k = ad 7 (k + 5) from by show _ = cad _; unfold cad; rw [if_neg (by omega)]; first | (rw [if_pos (by omega)]; omega) | (rw [if_neg (by omega)]; omega), mem_at (by decide) (show k + 5 < 11 by omega)]; rfl) rfl (vin_nI hkN) d_Sy_init_136 (by simp only [rmN, rmSy]; omega) (fun H locs hz hP hS => ?_)
                    rw [show (nI k).toNatClampNeg = k from nI_clamp (by omega)] at hP
                    replace hP : va_P D classes (wl base (55 + 5 * k + 5) (stM ar base s1M [.ref (base + 1), .int 0, .ref (base + 2), .ref (base + 7), .ref (base + 28), .ref (base + 29), .ref (base + 54), .null, .int 0, .int 0, .int 0, .int 0] 4 12 (k + 1) 0)) H := st_a5 (by show _ = cad _; unfold cad; rw [if_neg (by omega)]; first | (rw [if_pos (by omega)]; omega) | (rw [if_neg (by omega)]; omega)) hP
                    refine lv_iinc (v := nI (k + 1)) (lv' := [(1, .int (nI (k + 1))), (0, .ref (base + 0))]) hx hb d_Sy_init_137 hl (k := 0) rfl (by exact nI_1 k) (by decide) rfl (fun ls hl => ?_)
                    refine lv_goto (tgt := 118) hx hb d_Sy_init_140 (by decide) ?_
                    refine W.cnt (54 + 5 * (k + 1)) (399 + 41 * (k + 1)) (by (try simp only [rmN]); omega) (by (try simp only [rmN]); omega) ?_
                    exact ih (k + 1) (by omega) (by omega) _ _ (by rw [hz]; omega) (by rw [show 55 + 5 * (k + 1) = 55 + 5 * k + 5 from by omega]; exact hP) hS ls (lv_sub hl [0, 1] rfl)
              exact loop118 (6 + 1) 0 (by omega) (by omega) _ _ hz hP hS ls (lv_sub hl [0, 1] rfl)
            · skip
              have hkN : k < 12 := lt_nI (N := 12) c_85
              refine lv_aload_n hx hb d_Sy_init_88 rfl (lv_at hl 1 rfl) ?_
              refine n_get C0 hP (ci := 0) 0 (by omega) (fs := [.ref (base + 1), .int 0, .ref (base + 2), .ref (base + 7), .ref (base + 28), .ref (base + 29), .null, .null, .int 0, .int 0, .int 0, .int 0]) rfl rfl 5 (by decide) rfl k_fl_Sy_30 rfl d_Sy_init_89 ?_
              refine lv_iload_n hx hb d_Sy_init_92 rfl (lv_at hl 0 rfl) ?_
              refine n_new C0 hP hz hS (ci := 2) t_Bl t_Bl_ok k_cl_Sy_28 k_ia_Bl k_in_Bl rfl (fs := [.null, .int 0, .int 0]) (by decide) ⟨by simp only [rmN, rmSy]; omega, by simp only [rmN, rmSy]; omega⟩ d_Sy_init_93 (fun H hz hP hS => ?_)
              refine lv_dup hx hb d_Sy_init_96 rfl ?_
              refine n_call C0 hP hz hS k_mn_Sy_34 k_im_Bl_init k_cd_Bl_init k_in_Bl rfl z_Bl_init (c_Bl_init hlt (by rw [va_up_self])) hl.1 d_Sy_init_97 (Nat.le_of_ble_eq_true rfl) ⟨by decide, by decide⟩ ⟨by simp only [rmN, rmSy]; omega, by simp only [rmN, rmSy]; omega⟩ (fun H locs hz hP hS => ?_)
              replace hP : va_P D classes (wl base (30 + 2 * k + 2) (stM ar base s1M [.ref (base + 1), .int 0, .ref (base + 2), .ref (base + 7), .ref (base + 28), .ref (base + 29), .null, .null, .int 0, .int 0, .int 0, .int 0] 4 k 0 0)) H := st_bl (σ := s1M) (b := k) (by omega) rfl (by rw [s_01 (Or.inr rfl) (by decide)]; rfl) (by rw [s_01 (Or.inr rfl) (by decide)]; rfl) (by funext j; rw [s_01 (Or.inr rfl) (by decide)]; rfl) (fun j hj => st_mem (by omega)) hP
              refine n_aast C0 hP hS 29 4 (30 + 2 * k) 2 (by omega) (by omega) (N := 12) (f := fun j => if j < k then some (base + ad 12 j) else none) rfl rfl (by rw [st_mem (by omega), show 30 + 2 * k = ad 12 (k) from rfl, mem_at (by decide) (show k < 12 by omega)]; rfl) rfl (vin_nI hkN) d_Sy_init_100 (by simp only [rmN, rmSy]; omega) (fun H locs hz hP hS => ?_)
              rw [show (nI k).toNatClampNeg = k from nI_clamp (by omega)] at hP
              replace hP : va_P D classes (wl base (30 + 2 * k + 2) (stM ar base s1M [.ref (base + 1), .int 0, .ref (base + 2), .ref (base + 7), .ref (base + 28), .ref (base + 29), .null, .null, .int 0, .int 0, .int 0, .int 0] 4 (k + 1) 0 0)) H := st_a4 (rfl) hP
              refine lv_iinc (v := nI (k + 1)) (lv' := [(1, .int (nI (k + 1))), (0, .ref (base + 0))]) hx hb d_Sy_init_101 hl (k := 0) rfl (by exact nI_1 k) (by decide) rfl (fun ls hl => ?_)
              refine lv_goto (tgt := 82) hx hb d_Sy_init_104 (by decide) ?_
              refine W.cnt (29 + 2 * (k + 1)) (261 + 11 * (k + 1)) (by (try simp only [rmN]); omega) (by (try simp only [rmN]); omega) ?_
              exact ih (k + 1) (by omega) (by omega) _ _ (by rw [hz]; omega) (by rw [show 30 + 2 * (k + 1) = 30 + 2 * k + 2 from by omega]; exact hP) hS ls (lv_sub hl [0, 1] rfl)
        exact loop82 (12 + 1) 0 (by omega) (by omega) _ _ hz hP hS ls (lv_sub hl [0, 1] rfl)
      · skip
        have hkN : k < 4 := lt_nI (N := 4) c_35
        refine lv_aload_n hx hb d_Sy_init_38 rfl (lv_at hl 1 rfl) ?_
        refine n_get C0 hP (ci := 0) 0 (by omega) (fs := [.ref (base + 1), .int 0, .ref (base + 2), .ref (base + 7), .null, .null, .null, .null, .int 0, .int 0, .int 0, .int 0]) rfl rfl 3 (by decide) rfl k_fl_Sy_20 rfl d_Sy_init_39 ?_
        refine lv_iload_n hx hb d_Sy_init_42 rfl (lv_at hl 0 rfl) ?_
        refine n_new C0 hP hz hS (ci := 1) t_Co t_Co_ok k_cl_Sy_13 k_ia_Co k_in_Co rfl (fs := [.null, .null, .null, .null, .int 0]) (by decide) ⟨by simp only [rmN, rmSy]; omega, by simp only [rmN, rmSy]; omega⟩ d_Sy_init_43 (fun H hz hP hS => ?_)
        refine lv_dup hx hb d_Sy_init_46 rfl ?_
        refine n_call C0 hP hz hS k_mn_Sy_15 k_im_Co_init k_cd_Co_init k_in_Co rfl z_Co_init (c_Co_init hlt (by rw [va_up_self])) hl.1 d_Sy_init_47 (Nat.le_of_ble_eq_true rfl) ⟨by decide, by decide⟩ ⟨by simp only [rmN, rmSy]; omega, by simp only [rmN, rmSy]; omega⟩ (fun H locs hz hP hS => ?_)
        replace hP : va_P D classes (wl base (8 + 5 * k + 5) (stM ar base s0M [.ref (base + 1), .int 0, .ref (base + 2), .ref (base + 7), .null, .null, .null, .null, .int 0, .int 0, .int 0, .int 0] k 0 0 0)) H := st_co (σ := s0M) (c := k + 1) (by omega) (by unfold cad; rw [if_neg (by omega)]; first | (rw [if_pos (by omega)]; omega) | (rw [if_neg (by omega)]; omega)) (fun a j ha => by rw [s_01 (Or.inl rfl) (by omega), if_neg (by omega)]) (fun j hj => st_mem (by omega)) hP
        refine n_aast C0 hP hS 7 3 (8 + 5 * k) 1 (by omega) (by omega) (N := 4) (f := fun j => if j < k then some (base + ad 7 (j + 1)) else none) rfl rfl (by rw [st_mem (by omega), show 8 + 5 * k = ad 7 (k + 1) from by show _ = cad _; unfold cad; rw [if_neg (by omega)]; first | (rw [if_pos (by omega)]; omega) | (rw [if_neg (by omega)]; omega), mem_at (by decide) (show k + 1 < 11 by omega)]; rfl) rfl (vin_nI hkN) d_Sy_init_50 (by simp only [rmN, rmSy]; omega) (fun H locs hz hP hS => ?_)
        rw [show (nI k).toNatClampNeg = k from nI_clamp (by omega)] at hP
        replace hP : va_P D classes (wl base (8 + 5 * k + 5) (stM ar base s0M [.ref (base + 1), .int 0, .ref (base + 2), .ref (base + 7), .null, .null, .null, .null, .int 0, .int 0, .int 0, .int 0] (k + 1) 0 0 0)) H := st_a2 (by show _ = cad _; unfold cad; rw [if_neg (by omega)]; first | (rw [if_pos (by omega)]; omega) | (rw [if_neg (by omega)]; omega)) hP
        refine lv_iinc (v := nI (k + 1)) (lv' := [(1, .int (nI (k + 1))), (0, .ref (base + 0))]) hx hb d_Sy_init_51 hl (k := 0) rfl (by exact nI_1 k) (by decide) rfl (fun ls hl => ?_)
        refine lv_goto (tgt := 33) hx hb d_Sy_init_54 (by decide) ?_
        refine W.cnt (7 + 5 * (k + 1)) (81 + 41 * (k + 1)) (by (try simp only [rmN]); omega) (by (try simp only [rmN]); omega) ?_
        exact ih (k + 1) (by omega) (by omega) _ _ (by rw [hz]; omega) (by rw [show 8 + 5 * (k + 1) = 8 + 5 * k + 5 from by omega]; exact hP) hS ls (lv_sub hl [0, 1] rfl)
  exact loop33 (4 + 1) 0 (by omega) (by omega) _ _ hz hP hS ls (lv_sub hl [0, 1] rfl)
