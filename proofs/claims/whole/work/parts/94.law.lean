/-! The law's beginning: laid by gen/m93.py. -/
section LStart
variable {S0 : State} {A0 : Array Value} {D : va_G} {ar : Nat → ClassId} {base : Nat} {b L : Nat} {xs : Nat → Int32}
variable {p : Program} {l : Launch} {e : Env} {R : Room} {s : State} {m : MethodId} {args : Array Value} {below : List Frame} {meth : Method} {c : Code} {Q : State → Prop}
set_option maxHeartbeats 4000000 in
theorem law_start (hlt : l.stackTraces = false) {aK aV : Nat → Nat} (hs : SX S0 aK aV) (hz0 : (Term.string R_Sy 142).eval A0 S0 none [] S0 = some (.ref (aK 0))) (hz1 : (Term.string R_Sy 273).eval A0 S0 none [] S0 = some (.ref (aK 1))) (C0 : Cl S0 A0 D ar base p s m c code 7) (hX : va_X b L xs s s.heap) (hbl : b < s.heap.size) (hz : s.heap.size = base) (hLn : L ≤ 2560) (hR : 50 ≤ R.frames ∧ 2000 ≤ R.locals) (hRc : 1000 ≤ R.cells ∧ 6000 ≤ R.slots) {ls : Array Slot} (hl : lv_has ls 7 [(0, .ref b)])
    (kk : ∀ (H : Heap) (locs : List Loc) (cells slots : Nat) (ls : Array Slot), va_S (nB base) s.heap H locs → cells ≤ 652 → slots ≤ 4560 → W p l e R s m args below meth c H locs cells slots Q (F0 m 1151 ls [])) : W p l e R s m args below meth c s.heap [] 0 0 Q (F0 m 0 ls []) := by
  obtain ⟨hx, hb, hml, hown, h0, hbase⟩ := id C0
  have hS : va_S (nB base) s.heap s.heap [] := va_S.rf
  refine l_new C0 hz hS t_Sy t_Sy_ok k_cl_La_8 k_ia_Sy k_in_Sy (ci := 0) rfl (fs := [.null, .int 0, .null, .null, .null, .null, .null, .null, .int 0, .int 0, .int 0, .int 0]) (by decide) ⟨Nat.le_trans (by decide) hRc.1, Nat.le_trans (by decide) hRc.2⟩ d_La_law_0 (fun H1 z1 hP1 o1 hS => ?_)
  refine lv_dup hx hb d_La_law_3 rfl ?_
  refine l_init (bs := base) (rest := [.ref base]) C0 (Nat.le_refl _) hP1 z1 hS k_ml_La_69 k_im_Sy_init k_cd_Sy_init k_in_Sy rfl z_Sy_init (c_Sy_init hlt rfl) hl.1 d_La_law_4 (Nat.le_of_ble_eq_true rfl) ⟨Nat.le_trans (by decide) hR.1, Nat.le_trans (by decide) hR.2⟩ ⟨Nat.le_trans (by decide) hRc.1, Nat.le_trans (by decide) hRc.2⟩ (fun H2 locs z2 hP2 o2 hS => ?_)
  refine lv_astore_n (lv' := [(1, .ref (base + ad 0 0)), (0, .ref b)]) hx hb d_La_law_7 rfl hl (by decide) rfl (fun ls hl => ?_)
  refine l_new C0 z2 hS t_Mo t_Mo_ok k_cl_La_70 k_ia_Mo k_in_Mo (ci := 4) rfl (fs := [.null, .null, .null, .null, .null, .null, .null, .null, .null, .null, .null, .null, .null, .null, .null, .int 0, .int 0, .int 0, .int 0, .int 0, .int 0, .int 0, .int 0, .int 0]) (by decide) ⟨Nat.le_trans (by decide) hRc.1, Nat.le_trans (by decide) hRc.2⟩ d_La_law_8 (fun H3 z3 hP3 o3 hS => ?_)
  refine lv_dup hx hb d_La_law_11 rfl ?_
  refine l_init (bs := base + 122) (rest := [.ref (base + 122)]) C0 (by omega) hP3 z3 hS k_ml_La_72 k_im_Mo_init k_cd_Mo_init k_in_Mo rfl z_Mo_init (c_Mo_init hlt rfl) hl.1 d_La_law_12 (Nat.le_of_ble_eq_true rfl) ⟨Nat.le_trans (by decide) hR.1, Nat.le_trans (by decide) hR.2⟩ ⟨Nat.le_trans (by decide) hRc.1, Nat.le_trans (by decide) hRc.2⟩ (fun H4 locs z4 hP4 o4 hS => ?_)
  refine lv_astore_n (lv' := [(2, .ref (base + 122 + adm 0 0)), (1, .ref (base + ad 0 0)), (0, .ref b)]) hx hb d_La_law_15 rfl hl (by decide) rfl (fun ls hl => ?_)
  refine lv_iconst (v := 1) hx hb d_La_law_16 (by decide) ?_
  refine l_newL (bs := base + 138) C0 (by omega) hS ⟨Nat.le_trans (by decide) hRc.1, Nat.le_trans (by decide) hRc.2⟩ d_La_law_17 (fun H5 z5 hP5 o5 hS => ?_)
  refine lv_astore_n (lv' := [(3, .ref (base + 138)), (2, .ref (base + 122 + adm 0 0)), (1, .ref (base + ad 0 0)), (0, .ref b)]) hx hb d_La_law_19 rfl hl (by decide) rfl (fun ls hl => ?_)
  refine lv_iconst (v := 0) hx hb d_La_law_20 (by decide) ?_
  refine lv_istore (lv' := lvL base b (nI (5 * 0))) hx hb d_La_law_21 hl (by decide) rfl (fun ls hl => ?_)
  refine W.widen (k := 139 + 0) (n := 1476 + 6 * 0) (by decide) (by decide) ?_
  have hL : LWd D ar base s1M (oM 12) 0 H5 := ⟨wl_kept hP2 (fun q g1 g2 => (o5 q (by omega)).trans ((o4 q (by omega)).trans (o3 q (by omega)))), wl_kept hP4 (fun q g1 g2 => o5 q (by omega)), hP5⟩
  exact law_loop hlt hs hz0 hz1 C0 hX hbl (fun z => by unfold nB at z; omega) hLn hR hRc kk 513 0 rfl (Nat.zero_le _) _ _ _ _ _ ls IV_0 RL_0 hL hS hl
end LStart
