/-! The law's loop: laid by gen/m93.py. -/
theorem and15n (x : Int32) : ∃ j : Nat, j < 16 ∧ x &&& 15 = nI j := by
  refine ⟨(x.toBitVec &&& 15#32).toNat, ?_, ?_⟩
  · rw [BitVec.toNat_and]
    exact Nat.and_lt_two_pow _ (n := 4) (by decide)
  · refine Int32.toBitVec_inj.mp ?_
    rw [Int32.toBitVec_and]
    show x.toBitVec &&& 15#32 = BitVec.ofNat 32 _
    rw [BitVec.ofNat_toNat, BitVec.setWidth_eq]
theorem sub5 {L k : Nat} (hL : L ≤ 2560) (hk : k ≤ 2560) (h : ¬ Int32.ofNat L - 5 < nI k) : k + 5 ≤ L := by
  have h1 := Int32.toInt_sub (Int32.ofNat L) 5
  have h2 : (Int32.ofNat L).toInt = (L : Int) := nI_toInt (n := L) (by omega)
  have h3 : (nI k).toInt = (k : Int) := nI_toInt (by omega)
  have h5 : (5 : Int32).toInt = 5 := by decide
  rw [Int32.lt_iff_toInt_lt, h1, h2, h3, h5] at h
  dsimp only [Int.bmod] at h
  split at h <;> omega
section LLoop
variable {S0 : State} {A0 : Array Value} {D : va_G} {ar : Nat → ClassId} {base : Nat} {b L : Nat} {xs : Nat → Int32}
variable {p : Program} {l : Launch} {e : Env} {R : Room} {s : State} {m : MethodId} {args : Array Value} {below : List Frame} {meth : Method} {c : Code} {Q : State → Prop}
set_option maxHeartbeats 4000000 in
theorem law_loop (hlt : l.stackTraces = false) {aK aV : Nat → Nat} (hs : SX S0 aK aV) (hz0 : (Term.string R_Sy 142).eval A0 S0 none [] S0 = some (.ref (aK 0))) (hz1 : (Term.string R_Sy 273).eval A0 S0 none [] S0 = some (.ref (aK 1))) (C0 : Cl S0 A0 D ar base p s m c code 7) (hX : va_X b L xs s s.heap) (hbl : b < s.heap.size) (hbA : ¬ nB base b) (hLn : L ≤ 2560) (hR : 50 ≤ R.frames ∧ 2000 ≤ R.locals) (hRc : 1000 ≤ R.cells ∧ 6000 ≤ R.slots)
    (kk : ∀ (H : Heap) (locs : List Loc) (cells slots : Nat) (ls : Array Slot), va_S (nB base) s.heap H locs → cells ≤ 652 → slots ≤ 4560 → W p l e R s m args below meth c H locs cells slots Q (F0 m 1151 ls [])) :
    ∀ (n k : Nat), n + k = 513 → 5 * k ≤ L → ∀ (σ τ : Mem) (v : Int64) (H : Heap) (locs : List Loc) (ls : Array Slot), IV σ → RL σ τ → LWd D ar base σ τ v H → va_S (nB base) s.heap H locs → lv_has ls 7 (lvL base b (nI (5 * k))) → W p l e R s m args below meth c H locs (139 + k) (1476 + 6 * k) Q (F0 m 23 ls []) := by
  intro n
  induction n with
  | zero => intro k h1 h2; omega
  | succ n ih =>
    intro k hk1 hk2 σ τ v H locs ls hi hr hL hS hl
    obtain ⟨hx, hb, hml, hown, h0, hbase⟩ := id C0
    refine lv_iload hx hb d_La_law_23 (lv_at hl 0 rfl) ?_
    refine lv_aload_n hx hb d_La_law_25 rfl (lv_at hl 4 rfl) ?_
    refine va_slen hx hb hX hbl hbA hS d_La_law_26 ?_
    refine lv_iconst (v := 5) hx hb d_La_law_27 (by decide) ?_
    refine lv_isub hx hb d_La_law_28 ?_
    refine lv_icmp_gt (tgt := 1151) hx hb d_La_law_29 (by decide) (fun _ => kk H locs _ _ ls hS (by omega) (by omega)) (fun c9 => ?_)
    have h5 : 5 * k + 5 ≤ L := sub5 hLn (by omega) c9
    have hv : ∀ j : Nat, j < 5 → vp_in (nI (5 * k) + nI j) L := fun j hj => by rw [nI_add]; exact vp_in_nI (by omega) (by omega)
    have h0v : vp_in (nI (5 * k)) L := vp_in_nI (by omega) (by omega)
    refine lv_aload_n hx hb d_La_law_32 rfl (lv_at hl 4 rfl) ?_
    refine lv_iload hx hb d_La_law_33 (lv_at hl 0 rfl) ?_
    refine va_sld hx hb hX hbl hbA hS h0v d_La_law_35 ?_
    refine lv_bipush (v := 15) hx hb d_La_law_36 (by decide) ?_
    refine lv_iand hx hb d_La_law_38 ?_
    have hf : 139 + k + 1 ≤ R.cells ∧ 1476 + 6 * k + 6 ≤ R.slots := ⟨by omega, by omega⟩
    have KK : Kon D ar base b (nI (5 * k)) p l e R s m args below meth c (139 + k) (1476 + 6 * k) Q := by
      intro σ' τ' v' H' locs' ls' hi hr hL hS hl
      refine lv_iinc (v := nI (5 * (k + 1))) (lv' := lvL base b (nI (5 * (k + 1)))) hx hb d_La_law_1145 hl (k := 0) rfl (by show nI (5 * k) + nI 5 = _; rw [nI_add]; rfl) (by decide) rfl (fun ls hl => ?_)
      refine lv_goto (tgt := 23) hx hb d_La_law_1148 (by decide) ?_
      refine W.widen (k := 139 + (k + 1)) (n := 1476 + 6 * (k + 1)) (by omega) (by omega) ?_
      exact ih (k + 1) (by omega) (by omega) σ' τ' v' H' locs' ls hi hr hL hS hl
    have h1 : vp_in (nI (5 * k) + 1) L := hv 1 (by omega)
    have h2 : vp_in (nI (5 * k) + 2) L := hv 2 (by omega)
    have h3 : vp_in (nI (5 * k) + 3) L := hv 3 (by omega)
    have h4 : vp_in (nI (5 * k) + 4) L := hv 4 (by omega)
    obtain ⟨j, hj, hje⟩ := and15n (xs (nI (5 * k)).toNatClampNeg)
    rw [hje]
    rcases (show j = 0 ∨ j = 1 ∨ j = 2 ∨ j = 3 ∨ j = 4 ∨ j = 5 ∨ j = 6 ∨ j = 7 ∨ j = 8 ∨ j = 9 ∨ j = 10 ∨ j = 11 ∨ j = 12 ∨ j = 13 ∨ j = 14 ∨ j = 15 by omega) with rfl | rfl | rfl | rfl | rfl | rfl | rfl | rfl | rfl | rfl | rfl | rfl | rfl | rfl | rfl | rfl
    · refine lv_tableIn (x := 0) (off := 77) (tgt := 116) hx hb d_La_law_39 (by decide) (by decide) (by decide) (by decide) ?_
      exact lc_type hlt hs hz0 hz1 C0 hX hbl hbA hi hr hL hS h1 h2 h3 h4 hl hR hf KK
    · refine lv_tableIn (x := 1) (off := 165) (tgt := 204) hx hb d_La_law_39 (by decide) (by decide) (by decide) (by decide) ?_
      exact lc_contract hlt hs hz0 hz1 C0 hX hbl hbA hi hr hL hS h1 h2 h3 h4 hl hR hf KK
    · refine lv_tableIn (x := 2) (off := 221) (tgt := 260) hx hb d_La_law_39 (by decide) (by decide) (by decide) (by decide) ?_
      exact lc_start hlt hs hz0 hz1 C0 hX hbl hbA hi hr hL hS h1 h2 h3 h4 hl hR hf KK
    · refine lv_tableIn (x := 3) (off := 265) (tgt := 304) hx hb d_La_law_39 (by decide) (by decide) (by decide) (by decide) ?_
      exact lc_kill hlt hs hz0 hz1 C0 hX hbl hbA hi hr hL hS h1 h2 h3 h4 hl hR hf KK
    · refine lv_tableIn (x := 4) (off := 321) (tgt := 360) hx hb d_La_law_39 (by decide) (by decide) (by decide) (by decide) ?_
      exact lc_block hlt hs hz0 hz1 C0 hX hbl hbA hi hr hL hS h1 h2 h3 h4 hl hR hf KK
    · refine lv_tableIn (x := 5) (off := 389) (tgt := 428) hx hb d_La_law_39 (by decide) (by decide) (by decide) (by decide) ?_
      exact lc_free hlt hs hz0 hz1 C0 hX hbl hbA hi hr hL hS h1 h2 h3 h4 hl hR hf KK
    · refine lv_tableIn (x := 6) (off := 437) (tgt := 476) hx hb d_La_law_39 (by decide) (by decide) (by decide) (by decide) ?_
      exact lc_read hlt hs hz0 hz1 C0 hX hbl hbA hi hr hL hS h1 h2 h3 h4 hl hR hf KK
    · refine lv_tableIn (x := 7) (off := 517) (tgt := 556) hx hb d_La_law_39 (by decide) (by decide) (by decide) (by decide) ?_
      exact lc_write hlt hs hz0 hz1 C0 hX hbl hbA hi hr hL hS h1 h2 h3 h4 hl hR hf KK
    · refine lv_tableIn (x := 8) (off := 589) (tgt := 628) hx hb d_La_law_39 (by decide) (by decide) (by decide) (by decide) ?_
      exact lc_open hlt hs hz0 hz1 C0 hX hbl hbA hi hr hL hS h1 h2 h3 h4 hl hR hf KK
    · refine lv_tableIn (x := 9) (off := 669) (tgt := 708) hx hb d_La_law_39 (by decide) (by decide) (by decide) (by decide) ?_
      exact lc_say hlt hs hz0 hz1 C0 hX hbl hbA hi hr hL hS h1 h2 h3 h4 hl hR hf KK
    · refine lv_tableIn (x := 10) (off := 741) (tgt := 780) hx hb d_La_law_39 (by decide) (by decide) (by decide) (by decide) ?_
      exact lc_hear hlt hs hz0 hz1 C0 hX hbl hbA hi hr hL hS h1 h2 h3 h4 hl hR hf KK
    · refine lv_tableIn (x := 11) (off := 809) (tgt := 848) hx hb d_La_law_39 (by decide) (by decide) (by decide) (by decide) ?_
      exact lc_choose hlt hs hz0 hz1 C0 hX hbl hbA hi hr hL hS h1 h2 h3 h4 hl hR hf KK
    · refine lv_tableIn (x := 12) (off := 877) (tgt := 916) hx hb d_La_law_39 (by decide) (by decide) (by decide) (by decide) ?_
      exact lc_close hlt hs hz0 hz1 C0 hX hbl hbA hi hr hL hS h1 h2 h3 h4 hl hR hf KK
    · refine lv_tableIn (x := 13) (off := 945) (tgt := 984) hx hb d_La_law_39 (by decide) (by decide) (by decide) (by decide) ?_
      exact lc_ofBlock hlt hs hz0 hz1 C0 hX hbl hbA hi hr hL hS h1 h2 h3 h4 hl hR hf KK
    · refine lv_tableIn (x := 14) (off := 1013) (tgt := 1052) hx hb d_La_law_39 (by decide) (by decide) (by decide) (by decide) ?_
      exact lc_ofEnd hlt hs hz0 hz1 C0 hX hbl hbA hi hr hL hS h1 h2 h3 h4 hl hR hf KK
    · refine lv_tableIn (x := 15) (off := 1081) (tgt := 1120) hx hb d_La_law_39 (by decide) (by decide) (by decide) (by decide) ?_
      exact lc_count hlt C0 hX hbl hbA hi hr hL hS h1 hl hR hf KK
end LLoop
