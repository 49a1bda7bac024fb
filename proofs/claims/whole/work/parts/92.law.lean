/-! The law's cases: laid by gen/m92.py. -/
theorem lcmp_self {x : Int64} : lg_cmp x x = 0 := by simp [lg_cmp]
theorem w0_type {σ τ : Mem} {v : Int64} {a1 : Int64} (hm : Sim w_type (sType σ a1) (mType τ a1)) (h : w_type (sType σ a1).1 = 0) : outV (sType σ a1).1 (sType σ a1).2.1 v = (mType τ a1).1.toInt64 := by
  have hk := sType_k (σ := σ) (x := a1)
  have h0 : (sType σ a1).1 = 0 ∧ ∃ y, (sType σ a1).2.1 = some y := by
    repeat (rcases hk with hk | hk; · first | exact hk | (rw [hk] at h; exact absurd h (by decide)))
    first | exact hk | (rw [hk] at h; exact absurd h (by decide))
  obtain ⟨h1, y, h2⟩ := h0
  rw [h1, h2, ← hm.2.1 h1 y h2]
  rfl
theorem w0_contract {σ τ : Mem} {v : Int64} {a1 : Int32} (hm : Sim w_contract (sContract σ a1) (mCon τ a1)) (h : w_contract (sContract σ a1).1 = 0) : outV (sContract σ a1).1 (sContract σ a1).2.1 v = (mCon τ a1).1.toInt64 := by
  have hk := sContract_k (σ := σ) (k0 := a1)
  have h0 : (sContract σ a1).1 = 0 ∧ ∃ y, (sContract σ a1).2.1 = some y := by
    repeat (rcases hk with hk | hk; · first | exact hk | (rw [hk] at h; exact absurd h (by decide)))
    first | exact hk | (rw [hk] at h; exact absurd h (by decide))
  obtain ⟨h1, y, h2⟩ := h0
  rw [h1, h2, ← hm.2.1 h1 y h2]
  rfl
theorem w0_start {σ τ : Mem} {v : Int64}  (hm : Sim w_start (sStart σ ) (mStart τ )) (h : w_start (sStart σ ).1 = 0) : outV (sStart σ ).1 (sStart σ ).2.1 v = (mStart τ ).1.toInt64 := by
  have hk := sStart_k (σ := σ)
  have h0 : (sStart σ ).1 = 0 ∧ ∃ y, (sStart σ ).2.1 = some y := by
    repeat (rcases hk with hk | hk; · first | exact hk | (rw [hk] at h; exact absurd h (by decide)))
    first | exact hk | (rw [hk] at h; exact absurd h (by decide))
  obtain ⟨h1, y, h2⟩ := h0
  rw [h1, h2, ← hm.2.1 h1 y h2]
  rfl
theorem w0_kill {σ τ : Mem} {v : Int64} {a1 : Int32} (hm : Sim w_kill (sKill σ a1) (mKill τ a1)) (h : w_kill (sKill σ a1).1 = 0) : outV (sKill σ a1).1 (sKill σ a1).2.1 v = (mKill τ a1).1.toInt64 := by
  have hk := sKill_k (σ := σ) (q := a1)
  have h0 : (sKill σ a1).1 = 0 ∧ ∃ y, (sKill σ a1).2.1 = some y := by
    repeat (rcases hk with hk | hk; · first | exact hk | (rw [hk] at h; exact absurd h (by decide)))
    first | exact hk | (rw [hk] at h; exact absurd h (by decide))
  obtain ⟨h1, y, h2⟩ := h0
  rw [h1, h2, ← hm.2.1 h1 y h2]
  rfl
theorem w0_block {σ τ : Mem} {v : Int64} {a1 a2 : Int32} (hm : Sim w_block (sBlock σ a1 a2) (mBlock τ a1 a2)) (h : w_block (sBlock σ a1 a2).1 = 0) : outV (sBlock σ a1 a2).1 (sBlock σ a1 a2).2.1 v = (mBlock τ a1 a2).1.toInt64 := by
  have hk := sBlock_k (σ := σ) (q := a1) (n := a2)
  have h0 : (sBlock σ a1 a2).1 = 0 ∧ ∃ y, (sBlock σ a1 a2).2.1 = some y := by
    repeat (rcases hk with hk | hk; · first | exact hk | (rw [hk] at h; exact absurd h (by decide)))
    first | exact hk | (rw [hk] at h; exact absurd h (by decide))
  obtain ⟨h1, y, h2⟩ := h0
  rw [h1, h2, ← hm.2.1 h1 y h2]
  rfl
theorem w0_read {σ τ : Mem} {v : Int64} {a1 a2 a3 : Int32} (hm : Sim w_read (sRead σ a1 a2 a3) (mRead τ a1 a2 a3)) (h : w_read (sRead σ a1 a2 a3).1 = 0) : outV (sRead σ a1 a2 a3).1 (sRead σ a1 a2 a3).2.1 v = (mRead τ a1 a2 a3).1.toInt64 := by
  have hk := sRead_k (σ := σ) (q := a1) (b := a2) (i := a3)
  have h0 : (sRead σ a1 a2 a3).1 = 0 ∧ ∃ y, (sRead σ a1 a2 a3).2.1 = some y := by
    repeat (rcases hk with hk | hk; · first | exact hk | (rw [hk] at h; exact absurd h (by decide)))
    first | exact hk | (rw [hk] at h; exact absurd h (by decide))
  obtain ⟨h1, y, h2⟩ := h0
  rw [h1, h2, ← hm.2.1 h1 y h2]
  rfl
theorem w0_open {σ τ : Mem} {v : Int64} {a1 a2 a3 : Int32} (hm : Sim w_open (sOpenC σ a1 a2 a3) (mOpen τ a1 a2 a3)) (h : w_open (sOpenC σ a1 a2 a3).1 = 0) : outV (sOpenC σ a1 a2 a3).1 (sOpenC σ a1 a2 a3).2.1 v = (mOpen τ a1 a2 a3).1.toInt64 := by
  have hk := sOpenC_k (σ := σ) (p0 := a1) (q0 := a2) (k0 := a3)
  have h0 : (sOpenC σ a1 a2 a3).1 = 0 ∧ ∃ y, (sOpenC σ a1 a2 a3).2.1 = some y := by
    repeat (rcases hk with hk | hk; · first | exact hk | (rw [hk] at h; exact absurd h (by decide)))
    first | exact hk | (rw [hk] at h; exact absurd h (by decide))
  obtain ⟨h1, y, h2⟩ := h0
  rw [h1, h2, ← hm.2.1 h1 y h2]
  rfl
theorem w0_hear {σ τ : Mem} {v : Int64} {a1 a2 : Int32} (hm : Sim w_hear (sHear σ a1 a2) (mHear τ a1 a2)) (h : w_hear (sHear σ a1 a2).1 = 0) : outV (sHear σ a1 a2).1 (sHear σ a1 a2).2.1 v = (mHear τ a1 a2).1.toInt64 := by
  have hk := sHear_k (σ := σ) (q := a1) (x := a2)
  have h0 : (sHear σ a1 a2).1 = 0 ∧ ∃ y, (sHear σ a1 a2).2.1 = some y := by
    repeat (rcases hk with hk | hk; · first | exact hk | (rw [hk] at h; exact absurd h (by decide)))
    first | exact hk | (rw [hk] at h; exact absurd h (by decide))
  obtain ⟨h1, y, h2⟩ := h0
  rw [h1, h2, ← hm.2.1 h1 y h2]
  rfl
theorem w0_choose {σ τ : Mem} {v : Int64} {a1 a2 : Int32} (hm : Sim w_choose (sChoose σ a1 a2) (mChoose τ a1 a2)) (h : w_choose (sChoose σ a1 a2).1 = 0) : outV (sChoose σ a1 a2).1 (sChoose σ a1 a2).2.1 v = (mChoose τ a1 a2).1.toInt64 := by
  have hk := sChoose_k (σ := σ) (q := a1) (mask := a2)
  have h0 : (sChoose σ a1 a2).1 = 0 ∧ ∃ y, (sChoose σ a1 a2).2.1 = some y := by
    repeat (rcases hk with hk | hk; · first | exact hk | (rw [hk] at h; exact absurd h (by decide)))
    first | exact hk | (rw [hk] at h; exact absurd h (by decide))
  obtain ⟨h1, y, h2⟩ := h0
  rw [h1, h2, ← hm.2.1 h1 y h2]
  rfl
theorem w0_close {σ τ : Mem} {v : Int64} {a1 a2 : Int32} (hm : Sim w_close (sClose σ a1 a2) (mClose τ a1 a2)) (h : w_close (sClose σ a1 a2).1 = 0) : outV (sClose σ a1 a2).1 (sClose σ a1 a2).2.1 v = (mClose τ a1 a2).1.toInt64 := by
  have hk := sClose_k (σ := σ) (q := a1) (x := a2)
  have h0 : (sClose σ a1 a2).1 = 0 ∧ ∃ y, (sClose σ a1 a2).2.1 = some y := by
    repeat (rcases hk with hk | hk; · first | exact hk | (rw [hk] at h; exact absurd h (by decide)))
    first | exact hk | (rw [hk] at h; exact absurd h (by decide))
  obtain ⟨h1, y, h2⟩ := h0
  rw [h1, h2, ← hm.2.1 h1 y h2]
  rfl
theorem w0_ofBlock {σ τ : Mem} {v : Int64} {a1 a2 : Int32} (hm : Sim w_ofBlock (sOfBlock σ a1 a2) (mOfB τ a1 a2)) (h : w_ofBlock (sOfBlock σ a1 a2).1 = 0) : outV (sOfBlock σ a1 a2).1 (sOfBlock σ a1 a2).2.1 v = (mOfB τ a1 a2).1.toInt64 := by
  have hk := sOfBlock_k (σ := σ) (b := a1) (x := a2)
  have h0 : (sOfBlock σ a1 a2).1 = 0 ∧ ∃ y, (sOfBlock σ a1 a2).2.1 = some y := by
    repeat (rcases hk with hk | hk; · first | exact hk | (rw [hk] at h; exact absurd h (by decide)))
    first | exact hk | (rw [hk] at h; exact absurd h (by decide))
  obtain ⟨h1, y, h2⟩ := h0
  rw [h1, h2, ← hm.2.1 h1 y h2]
  rfl
theorem w0_ofEnd {σ τ : Mem} {v : Int64} {a1 a2 : Int32} (hm : Sim w_ofEnd (sOfEnd σ a1 a2) (mOfE τ a1 a2)) (h : w_ofEnd (sOfEnd σ a1 a2).1 = 0) : outV (sOfEnd σ a1 a2).1 (sOfEnd σ a1 a2).2.1 v = (mOfE τ a1 a2).1.toInt64 := by
  have hk := sOfEnd_k (σ := σ) (b := a1) (x := a2)
  have h0 : (sOfEnd σ a1 a2).1 = 0 ∧ ∃ y, (sOfEnd σ a1 a2).2.1 = some y := by
    repeat (rcases hk with hk | hk; · first | exact hk | (rw [hk] at h; exact absurd h (by decide)))
    first | exact hk | (rw [hk] at h; exact absurd h (by decide))
  obtain ⟨h1, y, h2⟩ := h0
  rw [h1, h2, ← hm.2.1 h1 y h2]
  rfl
section LCase
variable {S0 : State} {A0 : Array Value} {D : va_G} {ar : Nat → ClassId} {base : Nat} {σ τ : Mem} {v : Int64} {b L : Nat} {xs : Nat → Int32}
variable {p : Program} {l : Launch} {e : Env} {R : Room} {s : State} {m : MethodId} {args : Array Value} {below : List Frame} {meth : Method} {c : Code} {H : Heap} {locs : List Loc} {cells slots : Nat} {Q : State → Prop} {ls : Array Slot} {i : Int32}
/-- the law's locals at the loop's head -/
abbrev lvL (base b : Nat) (i : Int32) : List (Nat × Value) := [(4, .int i), (3, .ref (base + 138)), (2, .ref (base + 122 + adm 0 0)), (1, .ref (base + ad 0 0)), (0, .ref b)]
/-- how the law goes on behind a case -/
def Kon (D : va_G) (ar : Nat → ClassId) (base b : Nat) (i : Int32) (p : Program) (l : Launch) (e : Env) (R : Room) (s : State) (m : MethodId) (args : Array Value) (below : List Frame) (meth : Method) (c : Code) (cells slots : Nat) (Q : State → Prop) : Prop :=
  ∀ (σ' τ' : Mem) (v' : Int64) (H' : Heap) (locs' : List Loc) (ls' : Array Slot), IV σ' → RL σ' τ' → LWd D ar base σ' τ' v' H' → va_S (nB base) s.heap H' locs' → lv_has ls' 7 (lvL base b i) → W p l e R s m args below meth c H' locs' (cells + 1) (slots + 6) Q (F0 m 1145 ls' [])
set_option maxHeartbeats 4000000 in
theorem lc_type (hlt : l.stackTraces = false) {aK aV : Nat → Nat} (hs : SX S0 aK aV) (hz0 : (Term.string R_Sy 142).eval A0 S0 none [] S0 = some (.ref (aK 0))) (hz1 : (Term.string R_Sy 273).eval A0 S0 none [] S0 = some (.ref (aK 1))) (C0 : Cl S0 A0 D ar base p s m c code 7) (hX : va_X b L xs s s.heap) (hbl : b < s.heap.size) (hbA : ¬ nB base b) (hi : IV σ) (hr : RL σ τ) (hL : LWd D ar base σ τ v H) (hS : va_S (nB base) s.heap H locs) (h1 : vp_in (i + 1) L) (h2 : vp_in (i + 2) L) (h3 : vp_in (i + 3) L) (h4 : vp_in (i + 4) L) (hl : lv_has ls 7 (lvL base b i)) (hR : 50 ≤ R.frames ∧ 2000 ≤ R.locals) (hf : cells + 1 ≤ R.cells ∧ slots + 6 ≤ R.slots)
    (kk : Kon D ar base b i p l e R s m args below meth c cells slots Q) : W p l e R s m args below meth c H locs cells slots Q (F0 m 116 ls []) := by
  obtain ⟨hx, hb, hml, hown, h0, hbase⟩ := id C0
  have hm : Sim w_type (sType σ ((xs (i + 1).toNatClampNeg).toInt64 <<< ((32 : Int32).toInt64 &&& 63) ||| (xs (i + 2).toNatClampNeg).toInt64 &&& 4294967295)) (mType τ ((xs (i + 1).toNatClampNeg).toInt64 <<< ((32 : Int32).toInt64 &&& 63) ||| (xs (i + 2).toNatClampNeg).toInt64 &&& 4294967295)) := sim_type hi hr
  refine lv_aload_n hx hb d_La_law_116 rfl (lv_at hl 3 rfl) ?_
  refine lv_aload_n hx hb d_La_law_117 rfl (lv_at hl 4 rfl) ?_
  refine lv_iload hx hb d_La_law_118 (lv_at hl 0 rfl) ?_
  refine lv_iconst (v := 1) hx hb d_La_law_120 (by decide) ?_
  refine lv_iadd hx hb d_La_law_121 ?_
  refine va_sld hx hb hX hbl hbA hS h1 d_La_law_122 ?_
  refine lv_i2l hx hb d_La_law_123 rfl ?_
  refine lv_bipush (v := 32) hx hb d_La_law_124 (by decide) ?_
  refine lv_lshl hx hb d_La_law_126 rfl ?_
  refine lv_aload_n hx hb d_La_law_127 rfl (lv_at hl 4 rfl) ?_
  refine lv_iload hx hb d_La_law_128 (lv_at hl 0 rfl) ?_
  refine lv_iconst (v := 2) hx hb d_La_law_130 (by decide) ?_
  refine lv_iadd hx hb d_La_law_131 ?_
  refine va_sld hx hb hX hbl hbA hS h2 d_La_law_132 ?_
  refine lv_i2l hx hb d_La_law_133 rfl ?_
  refine lv_ldc2 hx hb hown (h0.word k_kl_La_73 rfl) d_La_law_134 ?_
  refine lv_land hx hb d_La_law_137 ?_
  refine lv_lor hx hb d_La_law_138 ?_
  refine lv_aload_n hx hb d_La_law_139 rfl (lv_at hl 1 rfl) ?_
  refine l_wrap C0 hL hS (As := [.ref (base + ad 0 0), .long ((xs (i + 1).toNatClampNeg).toInt64 <<< ((32 : Int32).toInt64 &&& 63) ||| (xs (i + 2).toNatClampNeg).toInt64 &&& 4294967295), .ref (base + 138)]) (rest := []) k_ml_La_75 k_st_La_type k_cd_La_type k_in_La z_La_type rfl d_La_law_140 (c_La_type hlt (by omega) hi.TW) hl.1 (Nat.le_of_ble_eq_true rfl) ⟨Nat.le_trans (by decide) hR.1, Nat.le_trans (by decide) hR.2⟩ hf (fun w9 σ9 v9 H locs hp hL hS => ?_)
  obtain ⟨rfl, rfl, rfl⟩ := hp
  refine lv_istore (lv' := [(5, .int (w_type (sType σ ((xs (i + 1).toNatClampNeg).toInt64 <<< ((32 : Int32).toInt64 &&& 63) ||| (xs (i + 2).toNatClampNeg).toInt64 &&& 4294967295)).1)), (4, .int i), (3, .ref (base + 138)), (2, .ref (base + 122 + adm 0 0)), (1, .ref (base + ad 0 0)), (0, .ref b)]) hx hb d_La_law_143 hl (by decide) rfl (fun ls hl => ?_)
  refine lv_aload_n hx hb d_La_law_145 rfl (lv_at hl 3 rfl) ?_
  refine lv_aload_n hx hb d_La_law_146 rfl (lv_at hl 5 rfl) ?_
  refine lv_iload hx hb d_La_law_147 (lv_at hl 1 rfl) ?_
  refine lv_iconst (v := 1) hx hb d_La_law_149 (by decide) ?_
  refine lv_iadd hx hb d_La_law_150 ?_
  refine va_sld hx hb hX hbl hbA hS h1 d_La_law_151 ?_
  refine lv_i2l hx hb d_La_law_152 rfl ?_
  refine lv_bipush (v := 32) hx hb d_La_law_153 (by decide) ?_
  refine lv_lshl hx hb d_La_law_155 rfl ?_
  refine lv_aload_n hx hb d_La_law_156 rfl (lv_at hl 5 rfl) ?_
  refine lv_iload hx hb d_La_law_157 (lv_at hl 1 rfl) ?_
  refine lv_iconst (v := 2) hx hb d_La_law_159 (by decide) ?_
  refine lv_iadd hx hb d_La_law_160 ?_
  refine va_sld hx hb hX hbl hbA hS h2 d_La_law_161 ?_
  refine lv_i2l hx hb d_La_law_162 rfl ?_
  refine lv_ldc2 hx hb hown (h0.word k_kl_La_73 rfl) d_La_law_163 ?_
  refine lv_land hx hb d_La_law_166 ?_
  refine lv_lor hx hb d_La_law_167 ?_
  refine l_mod C0 hL hS (As := [.long ((xs (i + 1).toNatClampNeg).toInt64 <<< ((32 : Int32).toInt64 &&& 63) ||| (xs (i + 2).toNatClampNeg).toInt64 &&& 4294967295)]) (rest := []) k_ml_La_80 k_im_Mo_type k_sl_Mo_Mo_type k_cd_Mo_type k_in_Mo z_Mo_type rfl d_La_law_168 (c_Mo_type hlt (hr.TWm hi)) (fun k r σ h => h.1) hl.1 (Nat.le_of_ble_eq_true rfl) ⟨Nat.le_trans (by decide) hR.1, Nat.le_trans (by decide) hR.2⟩ hf (fun r9 τ9 H locs hp hL hS => ?_)
  obtain ⟨-, rfl, rfl⟩ := hp
  refine W.eq (g2 := F0 m 171 ls [.int (mType τ ((xs (i + 1).toNatClampNeg).toInt64 <<< ((32 : Int32).toInt64 &&& 63) ||| (xs (i + 2).toNatClampNeg).toInt64 &&& 4294967295)).1]) rfl ?_
  refine lv_istore (lv' := [(6, .int ((mType τ ((xs (i + 1).toNatClampNeg).toInt64 <<< ((32 : Int32).toInt64 &&& 63) ||| (xs (i + 2).toNatClampNeg).toInt64 &&& 4294967295)).1)), (5, .int (w_type (sType σ ((xs (i + 1).toNatClampNeg).toInt64 <<< ((32 : Int32).toInt64 &&& 63) ||| (xs (i + 2).toNatClampNeg).toInt64 &&& 4294967295)).1)), (4, .int i), (3, .ref (base + 138)), (2, .ref (base + 122 + adm 0 0)), (1, .ref (base + ad 0 0)), (0, .ref b)]) hx hb d_La_law_171 hl (by decide) rfl (fun ls hl => ?_)
  refine lv_aload_n hx hb d_La_law_173 rfl (lv_at hl 4 rfl) ?_
  refine l_modP C0 hL hS (As := []) (rest := []) k_ml_La_81 k_im_Mo_thrown k_sl_Mo_Mo_thrown k_cd_Mo_thrown k_in_Mo z_Mo_thrown rfl d_La_law_174 (c_Mo_thrown hlt) (fun k r h => h.1) hl.1 (Nat.le_of_ble_eq_true rfl) ⟨Nat.le_trans (by decide) hR.1, Nat.le_trans (by decide) hR.2⟩ hf (fun r9 H locs hp hL hS => ?_)
  obtain ⟨-, rfl⟩ := hp
  refine W.eq (g2 := F0 m 177 ls [.int ((mType τ ((xs (i + 1).toNatClampNeg).toInt64 <<< ((32 : Int32).toInt64 &&& 63) ||| (xs (i + 2).toNatClampNeg).toInt64 &&& 4294967295)).2 0 0 1)]) rfl ?_
  refine lv_iload hx hb d_La_law_177 (lv_at hl 1 rfl) ?_
  refine lv_icmp_eq (tgt := 184) hx hb d_La_law_179 (by decide) (fun _ => ?_) (fun c9 => absurd hm.1.symm c9)
  refine lv_iload hx hb d_La_law_184 (lv_at hl 1 rfl) ?_
  refine lv_if_ne (tgt := 201) hx hb d_La_law_186 (by decide) (fun _ => ?_) (fun c9 => ?_)
  · skip
    refine lv_goto (tgt := 1145) hx hb d_La_law_201 (by decide) ?_
    exact kk _ _ _ _ _ _ hm.2.2.1 hm.2.2.2 hL hS (lv_sub hl [2, 3, 4, 5, 6] rfl)
  · skip
    refine lv_aload_n hx hb d_La_law_189 rfl (lv_at hl 3 rfl) ?_
    refine lv_iconst (v := 0) hx hb d_La_law_190 (by decide) ?_
    refine va_lald hx hb h0.K hL.2.2 0 6 (wl_get (by decide)) rfl (by unfold vp_in; decide) d_La_law_191 ?_
    refine lv_iload hx hb d_La_law_192 (lv_at hl 0 rfl) ?_
    refine lv_i2l hx hb d_La_law_194 rfl ?_
    refine W.lcmp hx hb d_La_law_195 ?_
    rw [w0_type hm c9, lcmp_self]
    refine lv_if_eq (tgt := 201) hx hb d_La_law_196 (by decide) (fun _ => ?_) (fun z => absurd rfl z)
    refine lv_goto (tgt := 1145) hx hb d_La_law_201 (by decide) ?_
    exact kk _ _ _ _ _ _ hm.2.2.1 hm.2.2.2 hL hS (lv_sub hl [2, 3, 4, 5, 6] rfl)
set_option maxHeartbeats 4000000 in
theorem lc_contract (hlt : l.stackTraces = false) {aK aV : Nat → Nat} (hs : SX S0 aK aV) (hz0 : (Term.string R_Sy 142).eval A0 S0 none [] S0 = some (.ref (aK 0))) (hz1 : (Term.string R_Sy 273).eval A0 S0 none [] S0 = some (.ref (aK 1))) (C0 : Cl S0 A0 D ar base p s m c code 7) (hX : va_X b L xs s s.heap) (hbl : b < s.heap.size) (hbA : ¬ nB base b) (hi : IV σ) (hr : RL σ τ) (hL : LWd D ar base σ τ v H) (hS : va_S (nB base) s.heap H locs) (h1 : vp_in (i + 1) L) (h2 : vp_in (i + 2) L) (h3 : vp_in (i + 3) L) (h4 : vp_in (i + 4) L) (hl : lv_has ls 7 (lvL base b i)) (hR : 50 ≤ R.frames ∧ 2000 ≤ R.locals) (hf : cells + 1 ≤ R.cells ∧ slots + 6 ≤ R.slots)
    (kk : Kon D ar base b i p l e R s m args below meth c cells slots Q) : W p l e R s m args below meth c H locs cells slots Q (F0 m 204 ls []) := by
  obtain ⟨hx, hb, hml, hown, h0, hbase⟩ := id C0
  have hm : Sim w_contract (sContract σ (xs (i + 1).toNatClampNeg)) (mCon τ (xs (i + 1).toNatClampNeg)) := sim_contract hi hr
  refine lv_aload_n hx hb d_La_law_204 rfl (lv_at hl 3 rfl) ?_
  refine lv_aload_n hx hb d_La_law_205 rfl (lv_at hl 4 rfl) ?_
  refine lv_iload hx hb d_La_law_206 (lv_at hl 0 rfl) ?_
  refine lv_iconst (v := 1) hx hb d_La_law_208 (by decide) ?_
  refine lv_iadd hx hb d_La_law_209 ?_
  refine va_sld hx hb hX hbl hbA hS h1 d_La_law_210 ?_
  refine lv_aload_n hx hb d_La_law_211 rfl (lv_at hl 1 rfl) ?_
  refine l_wrap C0 hL hS (As := [.ref (base + ad 0 0), .int (xs (i + 1).toNatClampNeg), .ref (base + 138)]) (rest := []) k_ml_La_84 k_st_La_contract k_cd_La_contract k_in_La z_La_contract rfl d_La_law_212 (c_La_contract hlt (by omega) hs hz0 hz1 hi.TW) hl.1 (Nat.le_of_ble_eq_true rfl) ⟨Nat.le_trans (by decide) hR.1, Nat.le_trans (by decide) hR.2⟩ hf (fun w9 σ9 v9 H locs hp hL hS => ?_)
  obtain ⟨rfl, rfl, rfl⟩ := hp
  refine lv_istore (lv' := [(5, .int (w_contract (sContract σ (xs (i + 1).toNatClampNeg)).1)), (4, .int i), (3, .ref (base + 138)), (2, .ref (base + 122 + adm 0 0)), (1, .ref (base + ad 0 0)), (0, .ref b)]) hx hb d_La_law_215 hl (by decide) rfl (fun ls hl => ?_)
  refine lv_aload_n hx hb d_La_law_217 rfl (lv_at hl 3 rfl) ?_
  refine lv_aload_n hx hb d_La_law_218 rfl (lv_at hl 5 rfl) ?_
  refine lv_iload hx hb d_La_law_219 (lv_at hl 1 rfl) ?_
  refine lv_iconst (v := 1) hx hb d_La_law_221 (by decide) ?_
  refine lv_iadd hx hb d_La_law_222 ?_
  refine va_sld hx hb hX hbl hbA hS h1 d_La_law_223 ?_
  refine l_mod C0 hL hS (As := [.int (xs (i + 1).toNatClampNeg)]) (rest := []) k_ml_La_87 k_im_Mo_contract k_sl_Mo_Mo_contract k_cd_Mo_contract k_in_Mo z_Mo_contract rfl d_La_law_224 (c_Mo_contract hlt (hr.TWm hi)) (fun k r σ h => h.1) hl.1 (Nat.le_of_ble_eq_true rfl) ⟨Nat.le_trans (by decide) hR.1, Nat.le_trans (by decide) hR.2⟩ hf (fun r9 τ9 H locs hp hL hS => ?_)
  obtain ⟨-, rfl, rfl⟩ := hp
  refine W.eq (g2 := F0 m 227 ls [.int (mCon τ (xs (i + 1).toNatClampNeg)).1]) rfl ?_
  refine lv_istore (lv' := [(6, .int ((mCon τ (xs (i + 1).toNatClampNeg)).1)), (5, .int (w_contract (sContract σ (xs (i + 1).toNatClampNeg)).1)), (4, .int i), (3, .ref (base + 138)), (2, .ref (base + 122 + adm 0 0)), (1, .ref (base + ad 0 0)), (0, .ref b)]) hx hb d_La_law_227 hl (by decide) rfl (fun ls hl => ?_)
  refine lv_aload_n hx hb d_La_law_229 rfl (lv_at hl 4 rfl) ?_
  refine l_modP C0 hL hS (As := []) (rest := []) k_ml_La_81 k_im_Mo_thrown k_sl_Mo_Mo_thrown k_cd_Mo_thrown k_in_Mo z_Mo_thrown rfl d_La_law_230 (c_Mo_thrown hlt) (fun k r h => h.1) hl.1 (Nat.le_of_ble_eq_true rfl) ⟨Nat.le_trans (by decide) hR.1, Nat.le_trans (by decide) hR.2⟩ hf (fun r9 H locs hp hL hS => ?_)
  obtain ⟨-, rfl⟩ := hp
  refine W.eq (g2 := F0 m 233 ls [.int ((mCon τ (xs (i + 1).toNatClampNeg)).2 0 0 1)]) rfl ?_
  refine lv_iload hx hb d_La_law_233 (lv_at hl 1 rfl) ?_
  refine lv_icmp_eq (tgt := 240) hx hb d_La_law_235 (by decide) (fun _ => ?_) (fun c9 => absurd hm.1.symm c9)
  refine lv_iload hx hb d_La_law_240 (lv_at hl 1 rfl) ?_
  refine lv_if_ne (tgt := 257) hx hb d_La_law_242 (by decide) (fun _ => ?_) (fun c9 => ?_)
  · skip
    refine lv_goto (tgt := 1145) hx hb d_La_law_257 (by decide) ?_
    exact kk _ _ _ _ _ _ hm.2.2.1 hm.2.2.2 hL hS (lv_sub hl [2, 3, 4, 5, 6] rfl)
  · skip
    refine lv_aload_n hx hb d_La_law_245 rfl (lv_at hl 3 rfl) ?_
    refine lv_iconst (v := 0) hx hb d_La_law_246 (by decide) ?_
    refine va_lald hx hb h0.K hL.2.2 0 6 (wl_get (by decide)) rfl (by unfold vp_in; decide) d_La_law_247 ?_
    refine lv_iload hx hb d_La_law_248 (lv_at hl 0 rfl) ?_
    refine lv_i2l hx hb d_La_law_250 rfl ?_
    refine W.lcmp hx hb d_La_law_251 ?_
    rw [w0_contract hm c9, lcmp_self]
    refine lv_if_eq (tgt := 257) hx hb d_La_law_252 (by decide) (fun _ => ?_) (fun z => absurd rfl z)
    refine lv_goto (tgt := 1145) hx hb d_La_law_257 (by decide) ?_
    exact kk _ _ _ _ _ _ hm.2.2.1 hm.2.2.2 hL hS (lv_sub hl [2, 3, 4, 5, 6] rfl)
set_option maxHeartbeats 4000000 in
theorem lc_start (hlt : l.stackTraces = false) {aK aV : Nat → Nat} (hs : SX S0 aK aV) (hz0 : (Term.string R_Sy 142).eval A0 S0 none [] S0 = some (.ref (aK 0))) (hz1 : (Term.string R_Sy 273).eval A0 S0 none [] S0 = some (.ref (aK 1))) (C0 : Cl S0 A0 D ar base p s m c code 7) (hX : va_X b L xs s s.heap) (hbl : b < s.heap.size) (hbA : ¬ nB base b) (hi : IV σ) (hr : RL σ τ) (hL : LWd D ar base σ τ v H) (hS : va_S (nB base) s.heap H locs) (h1 : vp_in (i + 1) L) (h2 : vp_in (i + 2) L) (h3 : vp_in (i + 3) L) (h4 : vp_in (i + 4) L) (hl : lv_has ls 7 (lvL base b i)) (hR : 50 ≤ R.frames ∧ 2000 ≤ R.locals) (hf : cells + 1 ≤ R.cells ∧ slots + 6 ≤ R.slots)
    (kk : Kon D ar base b i p l e R s m args below meth c cells slots Q) : W p l e R s m args below meth c H locs cells slots Q (F0 m 260 ls []) := by
  obtain ⟨hx, hb, hml, hown, h0, hbase⟩ := id C0
  have hm : Sim w_start (sStart σ ) (mStart τ ) := sim_start hi hr
  refine lv_aload_n hx hb d_La_law_260 rfl (lv_at hl 3 rfl) ?_
  refine lv_aload_n hx hb d_La_law_261 rfl (lv_at hl 1 rfl) ?_
  refine l_wrap C0 hL hS (As := [.ref (base + ad 0 0), .ref (base + 138)]) (rest := []) k_ml_La_88 k_st_La_start k_cd_La_start k_in_La z_La_start rfl d_La_law_262 (c_La_start hlt (by omega) ) hl.1 (Nat.le_of_ble_eq_true rfl) ⟨Nat.le_trans (by decide) hR.1, Nat.le_trans (by decide) hR.2⟩ hf (fun w9 σ9 v9 H locs hp hL hS => ?_)
  obtain ⟨rfl, rfl, rfl⟩ := hp
  refine lv_istore (lv' := [(5, .int (w_start (sStart σ ).1)), (4, .int i), (3, .ref (base + 138)), (2, .ref (base + 122 + adm 0 0)), (1, .ref (base + ad 0 0)), (0, .ref b)]) hx hb d_La_law_265 hl (by decide) rfl (fun ls hl => ?_)
  refine lv_aload_n hx hb d_La_law_267 rfl (lv_at hl 3 rfl) ?_
  refine l_mod C0 hL hS (As := []) (rest := []) k_ml_La_91 k_im_Mo_start k_sl_Mo_Mo_start k_cd_Mo_start k_in_Mo z_Mo_start rfl d_La_law_268 (c_Mo_start hlt ) (fun k r σ h => h.1) hl.1 (Nat.le_of_ble_eq_true rfl) ⟨Nat.le_trans (by decide) hR.1, Nat.le_trans (by decide) hR.2⟩ hf (fun r9 τ9 H locs hp hL hS => ?_)
  obtain ⟨-, rfl, rfl⟩ := hp
  refine W.eq (g2 := F0 m 271 ls [.int (mStart τ ).1]) rfl ?_
  refine lv_istore (lv' := [(6, .int ((mStart τ ).1)), (5, .int (w_start (sStart σ ).1)), (4, .int i), (3, .ref (base + 138)), (2, .ref (base + 122 + adm 0 0)), (1, .ref (base + ad 0 0)), (0, .ref b)]) hx hb d_La_law_271 hl (by decide) rfl (fun ls hl => ?_)
  refine lv_aload_n hx hb d_La_law_273 rfl (lv_at hl 4 rfl) ?_
  refine l_modP C0 hL hS (As := []) (rest := []) k_ml_La_81 k_im_Mo_thrown k_sl_Mo_Mo_thrown k_cd_Mo_thrown k_in_Mo z_Mo_thrown rfl d_La_law_274 (c_Mo_thrown hlt) (fun k r h => h.1) hl.1 (Nat.le_of_ble_eq_true rfl) ⟨Nat.le_trans (by decide) hR.1, Nat.le_trans (by decide) hR.2⟩ hf (fun r9 H locs hp hL hS => ?_)
  obtain ⟨-, rfl⟩ := hp
  refine W.eq (g2 := F0 m 277 ls [.int ((mStart τ ).2 0 0 1)]) rfl ?_
  refine lv_iload hx hb d_La_law_277 (lv_at hl 1 rfl) ?_
  refine lv_icmp_eq (tgt := 284) hx hb d_La_law_279 (by decide) (fun _ => ?_) (fun c9 => absurd hm.1.symm c9)
  refine lv_iload hx hb d_La_law_284 (lv_at hl 1 rfl) ?_
  refine lv_if_ne (tgt := 301) hx hb d_La_law_286 (by decide) (fun _ => ?_) (fun c9 => ?_)
  · skip
    refine lv_goto (tgt := 1145) hx hb d_La_law_301 (by decide) ?_
    exact kk _ _ _ _ _ _ hm.2.2.1 hm.2.2.2 hL hS (lv_sub hl [2, 3, 4, 5, 6] rfl)
  · skip
    refine lv_aload_n hx hb d_La_law_289 rfl (lv_at hl 3 rfl) ?_
    refine lv_iconst (v := 0) hx hb d_La_law_290 (by decide) ?_
    refine va_lald hx hb h0.K hL.2.2 0 6 (wl_get (by decide)) rfl (by unfold vp_in; decide) d_La_law_291 ?_
    refine lv_iload hx hb d_La_law_292 (lv_at hl 0 rfl) ?_
    refine lv_i2l hx hb d_La_law_294 rfl ?_
    refine W.lcmp hx hb d_La_law_295 ?_
    rw [w0_start hm c9, lcmp_self]
    refine lv_if_eq (tgt := 301) hx hb d_La_law_296 (by decide) (fun _ => ?_) (fun z => absurd rfl z)
    refine lv_goto (tgt := 1145) hx hb d_La_law_301 (by decide) ?_
    exact kk _ _ _ _ _ _ hm.2.2.1 hm.2.2.2 hL hS (lv_sub hl [2, 3, 4, 5, 6] rfl)
set_option maxHeartbeats 4000000 in
theorem lc_kill (hlt : l.stackTraces = false) {aK aV : Nat → Nat} (hs : SX S0 aK aV) (hz0 : (Term.string R_Sy 142).eval A0 S0 none [] S0 = some (.ref (aK 0))) (hz1 : (Term.string R_Sy 273).eval A0 S0 none [] S0 = some (.ref (aK 1))) (C0 : Cl S0 A0 D ar base p s m c code 7) (hX : va_X b L xs s s.heap) (hbl : b < s.heap.size) (hbA : ¬ nB base b) (hi : IV σ) (hr : RL σ τ) (hL : LWd D ar base σ τ v H) (hS : va_S (nB base) s.heap H locs) (h1 : vp_in (i + 1) L) (h2 : vp_in (i + 2) L) (h3 : vp_in (i + 3) L) (h4 : vp_in (i + 4) L) (hl : lv_has ls 7 (lvL base b i)) (hR : 50 ≤ R.frames ∧ 2000 ≤ R.locals) (hf : cells + 1 ≤ R.cells ∧ slots + 6 ≤ R.slots)
    (kk : Kon D ar base b i p l e R s m args below meth c cells slots Q) : W p l e R s m args below meth c H locs cells slots Q (F0 m 304 ls []) := by
  obtain ⟨hx, hb, hml, hown, h0, hbase⟩ := id C0
  have hm : Sim w_kill (sKill σ (xs (i + 1).toNatClampNeg)) (mKill τ (xs (i + 1).toNatClampNeg)) := sim_kill hi hr
  refine lv_aload_n hx hb d_La_law_304 rfl (lv_at hl 3 rfl) ?_
  refine lv_aload_n hx hb d_La_law_305 rfl (lv_at hl 4 rfl) ?_
  refine lv_iload hx hb d_La_law_306 (lv_at hl 0 rfl) ?_
  refine lv_iconst (v := 1) hx hb d_La_law_308 (by decide) ?_
  refine lv_iadd hx hb d_La_law_309 ?_
  refine va_sld hx hb hX hbl hbA hS h1 d_La_law_310 ?_
  refine lv_aload_n hx hb d_La_law_311 rfl (lv_at hl 1 rfl) ?_
  refine l_wrap C0 hL hS (As := [.ref (base + ad 0 0), .int (xs (i + 1).toNatClampNeg), .ref (base + 138)]) (rest := []) k_ml_La_92 k_st_La_kill k_cd_La_kill k_in_La z_La_kill rfl d_La_law_312 (c_La_kill hlt (by omega) hi.QW) hl.1 (Nat.le_of_ble_eq_true rfl) ⟨Nat.le_trans (by decide) hR.1, Nat.le_trans (by decide) hR.2⟩ hf (fun w9 σ9 v9 H locs hp hL hS => ?_)
  obtain ⟨rfl, rfl, rfl⟩ := hp
  refine lv_istore (lv' := [(5, .int (w_kill (sKill σ (xs (i + 1).toNatClampNeg)).1)), (4, .int i), (3, .ref (base + 138)), (2, .ref (base + 122 + adm 0 0)), (1, .ref (base + ad 0 0)), (0, .ref b)]) hx hb d_La_law_315 hl (by decide) rfl (fun ls hl => ?_)
  refine lv_aload_n hx hb d_La_law_317 rfl (lv_at hl 3 rfl) ?_
  refine lv_aload_n hx hb d_La_law_318 rfl (lv_at hl 5 rfl) ?_
  refine lv_iload hx hb d_La_law_319 (lv_at hl 1 rfl) ?_
  refine lv_iconst (v := 1) hx hb d_La_law_321 (by decide) ?_
  refine lv_iadd hx hb d_La_law_322 ?_
  refine va_sld hx hb hX hbl hbA hS h1 d_La_law_323 ?_
  refine l_mod C0 hL hS (As := [.int (xs (i + 1).toNatClampNeg)]) (rest := []) k_ml_La_94 k_im_Mo_kill k_sl_Mo_Mo_kill k_cd_Mo_kill k_in_Mo z_Mo_kill rfl d_La_law_324 (c_Mo_kill hlt (hr.J hi)) (fun k r σ h => h.1) hl.1 (Nat.le_of_ble_eq_true rfl) ⟨Nat.le_trans (by decide) hR.1, Nat.le_trans (by decide) hR.2⟩ hf (fun r9 τ9 H locs hp hL hS => ?_)
  obtain ⟨-, rfl, rfl⟩ := hp
  refine W.eq (g2 := F0 m 327 ls [.int (mKill τ (xs (i + 1).toNatClampNeg)).1]) rfl ?_
  refine lv_istore (lv' := [(6, .int ((mKill τ (xs (i + 1).toNatClampNeg)).1)), (5, .int (w_kill (sKill σ (xs (i + 1).toNatClampNeg)).1)), (4, .int i), (3, .ref (base + 138)), (2, .ref (base + 122 + adm 0 0)), (1, .ref (base + ad 0 0)), (0, .ref b)]) hx hb d_La_law_327 hl (by decide) rfl (fun ls hl => ?_)
  refine lv_aload_n hx hb d_La_law_329 rfl (lv_at hl 4 rfl) ?_
  refine l_modP C0 hL hS (As := []) (rest := []) k_ml_La_81 k_im_Mo_thrown k_sl_Mo_Mo_thrown k_cd_Mo_thrown k_in_Mo z_Mo_thrown rfl d_La_law_330 (c_Mo_thrown hlt) (fun k r h => h.1) hl.1 (Nat.le_of_ble_eq_true rfl) ⟨Nat.le_trans (by decide) hR.1, Nat.le_trans (by decide) hR.2⟩ hf (fun r9 H locs hp hL hS => ?_)
  obtain ⟨-, rfl⟩ := hp
  refine W.eq (g2 := F0 m 333 ls [.int ((mKill τ (xs (i + 1).toNatClampNeg)).2 0 0 1)]) rfl ?_
  refine lv_iload hx hb d_La_law_333 (lv_at hl 1 rfl) ?_
  refine lv_icmp_eq (tgt := 340) hx hb d_La_law_335 (by decide) (fun _ => ?_) (fun c9 => absurd hm.1.symm c9)
  refine lv_iload hx hb d_La_law_340 (lv_at hl 1 rfl) ?_
  refine lv_if_ne (tgt := 357) hx hb d_La_law_342 (by decide) (fun _ => ?_) (fun c9 => ?_)
  · skip
    refine lv_goto (tgt := 1145) hx hb d_La_law_357 (by decide) ?_
    exact kk _ _ _ _ _ _ hm.2.2.1 hm.2.2.2 hL hS (lv_sub hl [2, 3, 4, 5, 6] rfl)
  · skip
    refine lv_aload_n hx hb d_La_law_345 rfl (lv_at hl 3 rfl) ?_
    refine lv_iconst (v := 0) hx hb d_La_law_346 (by decide) ?_
    refine va_lald hx hb h0.K hL.2.2 0 6 (wl_get (by decide)) rfl (by unfold vp_in; decide) d_La_law_347 ?_
    refine lv_iload hx hb d_La_law_348 (lv_at hl 0 rfl) ?_
    refine lv_i2l hx hb d_La_law_350 rfl ?_
    refine W.lcmp hx hb d_La_law_351 ?_
    rw [w0_kill hm c9, lcmp_self]
    refine lv_if_eq (tgt := 357) hx hb d_La_law_352 (by decide) (fun _ => ?_) (fun z => absurd rfl z)
    refine lv_goto (tgt := 1145) hx hb d_La_law_357 (by decide) ?_
    exact kk _ _ _ _ _ _ hm.2.2.1 hm.2.2.2 hL hS (lv_sub hl [2, 3, 4, 5, 6] rfl)
set_option maxHeartbeats 4000000 in
theorem lc_block (hlt : l.stackTraces = false) {aK aV : Nat → Nat} (hs : SX S0 aK aV) (hz0 : (Term.string R_Sy 142).eval A0 S0 none [] S0 = some (.ref (aK 0))) (hz1 : (Term.string R_Sy 273).eval A0 S0 none [] S0 = some (.ref (aK 1))) (C0 : Cl S0 A0 D ar base p s m c code 7) (hX : va_X b L xs s s.heap) (hbl : b < s.heap.size) (hbA : ¬ nB base b) (hi : IV σ) (hr : RL σ τ) (hL : LWd D ar base σ τ v H) (hS : va_S (nB base) s.heap H locs) (h1 : vp_in (i + 1) L) (h2 : vp_in (i + 2) L) (h3 : vp_in (i + 3) L) (h4 : vp_in (i + 4) L) (hl : lv_has ls 7 (lvL base b i)) (hR : 50 ≤ R.frames ∧ 2000 ≤ R.locals) (hf : cells + 1 ≤ R.cells ∧ slots + 6 ≤ R.slots)
    (kk : Kon D ar base b i p l e R s m args below meth c cells slots Q) : W p l e R s m args below meth c H locs cells slots Q (F0 m 360 ls []) := by
  obtain ⟨hx, hb, hml, hown, h0, hbase⟩ := id C0
  have hm : Sim w_block (sBlock σ (xs (i + 1).toNatClampNeg) (xs (i + 2).toNatClampNeg)) (mBlock τ (xs (i + 1).toNatClampNeg) (xs (i + 2).toNatClampNeg)) := sim_block hi hr
  refine lv_aload_n hx hb d_La_law_360 rfl (lv_at hl 3 rfl) ?_
  refine lv_aload_n hx hb d_La_law_361 rfl (lv_at hl 4 rfl) ?_
  refine lv_iload hx hb d_La_law_362 (lv_at hl 0 rfl) ?_
  refine lv_iconst (v := 1) hx hb d_La_law_364 (by decide) ?_
  refine lv_iadd hx hb d_La_law_365 ?_
  refine va_sld hx hb hX hbl hbA hS h1 d_La_law_366 ?_
  refine lv_aload_n hx hb d_La_law_367 rfl (lv_at hl 4 rfl) ?_
  refine lv_iload hx hb d_La_law_368 (lv_at hl 0 rfl) ?_
  refine lv_iconst (v := 2) hx hb d_La_law_370 (by decide) ?_
  refine lv_iadd hx hb d_La_law_371 ?_
  refine va_sld hx hb hX hbl hbA hS h2 d_La_law_372 ?_
  refine lv_aload_n hx hb d_La_law_373 rfl (lv_at hl 1 rfl) ?_
  refine l_wrap C0 hL hS (As := [.ref (base + ad 0 0), .int (xs (i + 1).toNatClampNeg), .int (xs (i + 2).toNatClampNeg), .ref (base + 138)]) (rest := []) k_ml_La_95 k_st_La_block k_cd_La_block k_in_La z_La_block rfl d_La_law_374 (c_La_block hlt (by omega) hs) hl.1 (Nat.le_of_ble_eq_true rfl) ⟨Nat.le_trans (by decide) hR.1, Nat.le_trans (by decide) hR.2⟩ hf (fun w9 σ9 v9 H locs hp hL hS => ?_)
  obtain ⟨rfl, rfl, rfl⟩ := hp
  refine lv_istore (lv' := [(5, .int (w_block (sBlock σ (xs (i + 1).toNatClampNeg) (xs (i + 2).toNatClampNeg)).1)), (4, .int i), (3, .ref (base + 138)), (2, .ref (base + 122 + adm 0 0)), (1, .ref (base + ad 0 0)), (0, .ref b)]) hx hb d_La_law_377 hl (by decide) rfl (fun ls hl => ?_)
  refine lv_aload_n hx hb d_La_law_379 rfl (lv_at hl 3 rfl) ?_
  refine lv_aload_n hx hb d_La_law_380 rfl (lv_at hl 5 rfl) ?_
  refine lv_iload hx hb d_La_law_381 (lv_at hl 1 rfl) ?_
  refine lv_iconst (v := 1) hx hb d_La_law_383 (by decide) ?_
  refine lv_iadd hx hb d_La_law_384 ?_
  refine va_sld hx hb hX hbl hbA hS h1 d_La_law_385 ?_
  refine lv_aload_n hx hb d_La_law_386 rfl (lv_at hl 5 rfl) ?_
  refine lv_iload hx hb d_La_law_387 (lv_at hl 1 rfl) ?_
  refine lv_iconst (v := 2) hx hb d_La_law_389 (by decide) ?_
  refine lv_iadd hx hb d_La_law_390 ?_
  refine va_sld hx hb hX hbl hbA hS h2 d_La_law_391 ?_
  refine l_mod C0 hL hS (As := [.int (xs (i + 1).toNatClampNeg), .int (xs (i + 2).toNatClampNeg)]) (rest := []) k_ml_La_98 k_im_Mo_block k_sl_Mo_Mo_block k_cd_Mo_block k_in_Mo z_Mo_block rfl d_La_law_392 (c_Mo_block hlt ) (fun k r σ h => h.1) hl.1 (Nat.le_of_ble_eq_true rfl) ⟨Nat.le_trans (by decide) hR.1, Nat.le_trans (by decide) hR.2⟩ hf (fun r9 τ9 H locs hp hL hS => ?_)
  obtain ⟨-, rfl, rfl⟩ := hp
  refine W.eq (g2 := F0 m 395 ls [.int (mBlock τ (xs (i + 1).toNatClampNeg) (xs (i + 2).toNatClampNeg)).1]) rfl ?_
  refine lv_istore (lv' := [(6, .int ((mBlock τ (xs (i + 1).toNatClampNeg) (xs (i + 2).toNatClampNeg)).1)), (5, .int (w_block (sBlock σ (xs (i + 1).toNatClampNeg) (xs (i + 2).toNatClampNeg)).1)), (4, .int i), (3, .ref (base + 138)), (2, .ref (base + 122 + adm 0 0)), (1, .ref (base + ad 0 0)), (0, .ref b)]) hx hb d_La_law_395 hl (by decide) rfl (fun ls hl => ?_)
  refine lv_aload_n hx hb d_La_law_397 rfl (lv_at hl 4 rfl) ?_
  refine l_modP C0 hL hS (As := []) (rest := []) k_ml_La_81 k_im_Mo_thrown k_sl_Mo_Mo_thrown k_cd_Mo_thrown k_in_Mo z_Mo_thrown rfl d_La_law_398 (c_Mo_thrown hlt) (fun k r h => h.1) hl.1 (Nat.le_of_ble_eq_true rfl) ⟨Nat.le_trans (by decide) hR.1, Nat.le_trans (by decide) hR.2⟩ hf (fun r9 H locs hp hL hS => ?_)
  obtain ⟨-, rfl⟩ := hp
  refine W.eq (g2 := F0 m 401 ls [.int ((mBlock τ (xs (i + 1).toNatClampNeg) (xs (i + 2).toNatClampNeg)).2 0 0 1)]) rfl ?_
  refine lv_iload hx hb d_La_law_401 (lv_at hl 1 rfl) ?_
  refine lv_icmp_eq (tgt := 408) hx hb d_La_law_403 (by decide) (fun _ => ?_) (fun c9 => absurd hm.1.symm c9)
  refine lv_iload hx hb d_La_law_408 (lv_at hl 1 rfl) ?_
  refine lv_if_ne (tgt := 425) hx hb d_La_law_410 (by decide) (fun _ => ?_) (fun c9 => ?_)
  · skip
    refine lv_goto (tgt := 1145) hx hb d_La_law_425 (by decide) ?_
    exact kk _ _ _ _ _ _ hm.2.2.1 hm.2.2.2 hL hS (lv_sub hl [2, 3, 4, 5, 6] rfl)
  · skip
    refine lv_aload_n hx hb d_La_law_413 rfl (lv_at hl 3 rfl) ?_
    refine lv_iconst (v := 0) hx hb d_La_law_414 (by decide) ?_
    refine va_lald hx hb h0.K hL.2.2 0 6 (wl_get (by decide)) rfl (by unfold vp_in; decide) d_La_law_415 ?_
    refine lv_iload hx hb d_La_law_416 (lv_at hl 0 rfl) ?_
    refine lv_i2l hx hb d_La_law_418 rfl ?_
    refine W.lcmp hx hb d_La_law_419 ?_
    rw [w0_block hm c9, lcmp_self]
    refine lv_if_eq (tgt := 425) hx hb d_La_law_420 (by decide) (fun _ => ?_) (fun z => absurd rfl z)
    refine lv_goto (tgt := 1145) hx hb d_La_law_425 (by decide) ?_
    exact kk _ _ _ _ _ _ hm.2.2.1 hm.2.2.2 hL hS (lv_sub hl [2, 3, 4, 5, 6] rfl)
set_option maxHeartbeats 4000000 in
theorem lc_free (hlt : l.stackTraces = false) {aK aV : Nat → Nat} (hs : SX S0 aK aV) (hz0 : (Term.string R_Sy 142).eval A0 S0 none [] S0 = some (.ref (aK 0))) (hz1 : (Term.string R_Sy 273).eval A0 S0 none [] S0 = some (.ref (aK 1))) (C0 : Cl S0 A0 D ar base p s m c code 7) (hX : va_X b L xs s s.heap) (hbl : b < s.heap.size) (hbA : ¬ nB base b) (hi : IV σ) (hr : RL σ τ) (hL : LWd D ar base σ τ v H) (hS : va_S (nB base) s.heap H locs) (h1 : vp_in (i + 1) L) (h2 : vp_in (i + 2) L) (h3 : vp_in (i + 3) L) (h4 : vp_in (i + 4) L) (hl : lv_has ls 7 (lvL base b i)) (hR : 50 ≤ R.frames ∧ 2000 ≤ R.locals) (hf : cells + 1 ≤ R.cells ∧ slots + 6 ≤ R.slots)
    (kk : Kon D ar base b i p l e R s m args below meth c cells slots Q) : W p l e R s m args below meth c H locs cells slots Q (F0 m 428 ls []) := by
  obtain ⟨hx, hb, hml, hown, h0, hbase⟩ := id C0
  have hm : Sim w_free (sFree σ (xs (i + 1).toNatClampNeg) (xs (i + 2).toNatClampNeg)) ((0, mFreeP τ (xs (i + 1).toNatClampNeg) (xs (i + 2).toNatClampNeg))) := sim_free hi hr
  refine lv_aload_n hx hb d_La_law_428 rfl (lv_at hl 3 rfl) ?_
  refine lv_aload_n hx hb d_La_law_429 rfl (lv_at hl 4 rfl) ?_
  refine lv_iload hx hb d_La_law_430 (lv_at hl 0 rfl) ?_
  refine lv_iconst (v := 1) hx hb d_La_law_432 (by decide) ?_
  refine lv_iadd hx hb d_La_law_433 ?_
  refine va_sld hx hb hX hbl hbA hS h1 d_La_law_434 ?_
  refine lv_aload_n hx hb d_La_law_435 rfl (lv_at hl 4 rfl) ?_
  refine lv_iload hx hb d_La_law_436 (lv_at hl 0 rfl) ?_
  refine lv_iconst (v := 2) hx hb d_La_law_438 (by decide) ?_
  refine lv_iadd hx hb d_La_law_439 ?_
  refine va_sld hx hb hX hbl hbA hS h2 d_La_law_440 ?_
  refine l_wrap C0 hL hS (As := [.ref (base + ad 0 0), .int (xs (i + 1).toNatClampNeg), .int (xs (i + 2).toNatClampNeg)]) (rest := []) k_ml_La_99 k_st_La_free k_cd_La_free k_in_La z_La_free rfl d_La_law_441 (c_La_free hlt (by omega) ) hl.1 (Nat.le_of_ble_eq_true rfl) ⟨Nat.le_trans (by decide) hR.1, Nat.le_trans (by decide) hR.2⟩ hf (fun w9 σ9 v9 H locs hp hL hS => ?_)
  obtain ⟨rfl, rfl, rfl⟩ := hp
  refine lv_istore (lv' := [(5, .int (w_free (sFree σ (xs (i + 1).toNatClampNeg) (xs (i + 2).toNatClampNeg)).1)), (4, .int i), (3, .ref (base + 138)), (2, .ref (base + 122 + adm 0 0)), (1, .ref (base + ad 0 0)), (0, .ref b)]) hx hb d_La_law_444 hl (by decide) rfl (fun ls hl => ?_)
  refine lv_aload_n hx hb d_La_law_446 rfl (lv_at hl 3 rfl) ?_
  refine lv_aload_n hx hb d_La_law_447 rfl (lv_at hl 5 rfl) ?_
  refine lv_iload hx hb d_La_law_448 (lv_at hl 1 rfl) ?_
  refine lv_iconst (v := 1) hx hb d_La_law_450 (by decide) ?_
  refine lv_iadd hx hb d_La_law_451 ?_
  refine va_sld hx hb hX hbl hbA hS h1 d_La_law_452 ?_
  refine lv_aload_n hx hb d_La_law_453 rfl (lv_at hl 5 rfl) ?_
  refine lv_iload hx hb d_La_law_454 (lv_at hl 1 rfl) ?_
  refine lv_iconst (v := 2) hx hb d_La_law_456 (by decide) ?_
  refine lv_iadd hx hb d_La_law_457 ?_
  refine va_sld hx hb hX hbl hbA hS h2 d_La_law_458 ?_
  refine l_mod C0 hL hS (As := [.int (xs (i + 1).toNatClampNeg), .int (xs (i + 2).toNatClampNeg)]) (rest := []) k_ml_La_102 k_im_Mo_free k_sl_Mo_Mo_free k_cd_Mo_free k_in_Mo z_Mo_free rfl d_La_law_459 (c_Mo_free hlt ) (fun k r σ h => h.1) hl.1 (Nat.le_of_ble_eq_true rfl) ⟨Nat.le_trans (by decide) hR.1, Nat.le_trans (by decide) hR.2⟩ hf (fun r9 τ9 H locs hp hL hS => ?_)
  obtain ⟨-, rfl, rfl⟩ := hp
  refine W.eq (g2 := F0 m 462 ls []) rfl ?_
  refine lv_aload_n hx hb d_La_law_462 rfl (lv_at hl 3 rfl) ?_
  refine l_modP C0 hL hS (As := []) (rest := []) k_ml_La_81 k_im_Mo_thrown k_sl_Mo_Mo_thrown k_cd_Mo_thrown k_in_Mo z_Mo_thrown rfl d_La_law_463 (c_Mo_thrown hlt) (fun k r h => h.1) hl.1 (Nat.le_of_ble_eq_true rfl) ⟨Nat.le_trans (by decide) hR.1, Nat.le_trans (by decide) hR.2⟩ hf (fun r9 H locs hp hL hS => ?_)
  obtain ⟨-, rfl⟩ := hp
  refine W.eq (g2 := F0 m 466 ls [.int ((mFreeP τ (xs (i + 1).toNatClampNeg) (xs (i + 2).toNatClampNeg)) 0 0 1)]) rfl ?_
  refine lv_iload hx hb d_La_law_466 (lv_at hl 0 rfl) ?_
  refine lv_icmp_eq (tgt := 473) hx hb d_La_law_468 (by decide) (fun _ => ?_) (fun c9 => absurd hm.1.symm c9)
  refine lv_goto (tgt := 1145) hx hb d_La_law_473 (by decide) ?_
  exact kk _ _ _ _ _ _ hm.2.2.1 hm.2.2.2 hL hS (lv_sub hl [1, 2, 3, 4, 5] rfl)
set_option maxHeartbeats 4000000 in
theorem lc_read (hlt : l.stackTraces = false) {aK aV : Nat → Nat} (hs : SX S0 aK aV) (hz0 : (Term.string R_Sy 142).eval A0 S0 none [] S0 = some (.ref (aK 0))) (hz1 : (Term.string R_Sy 273).eval A0 S0 none [] S0 = some (.ref (aK 1))) (C0 : Cl S0 A0 D ar base p s m c code 7) (hX : va_X b L xs s s.heap) (hbl : b < s.heap.size) (hbA : ¬ nB base b) (hi : IV σ) (hr : RL σ τ) (hL : LWd D ar base σ τ v H) (hS : va_S (nB base) s.heap H locs) (h1 : vp_in (i + 1) L) (h2 : vp_in (i + 2) L) (h3 : vp_in (i + 3) L) (h4 : vp_in (i + 4) L) (hl : lv_has ls 7 (lvL base b i)) (hR : 50 ≤ R.frames ∧ 2000 ≤ R.locals) (hf : cells + 1 ≤ R.cells ∧ slots + 6 ≤ R.slots)
    (kk : Kon D ar base b i p l e R s m args below meth c cells slots Q) : W p l e R s m args below meth c H locs cells slots Q (F0 m 476 ls []) := by
  obtain ⟨hx, hb, hml, hown, h0, hbase⟩ := id C0
  have hm : Sim w_read (sRead σ (xs (i + 1).toNatClampNeg) (xs (i + 2).toNatClampNeg) (xs (i + 3).toNatClampNeg)) (mRead τ (xs (i + 1).toNatClampNeg) (xs (i + 2).toNatClampNeg) (xs (i + 3).toNatClampNeg)) := sim_read hi hr
  refine lv_aload_n hx hb d_La_law_476 rfl (lv_at hl 3 rfl) ?_
  refine lv_aload_n hx hb d_La_law_477 rfl (lv_at hl 4 rfl) ?_
  refine lv_iload hx hb d_La_law_478 (lv_at hl 0 rfl) ?_
  refine lv_iconst (v := 1) hx hb d_La_law_480 (by decide) ?_
  refine lv_iadd hx hb d_La_law_481 ?_
  refine va_sld hx hb hX hbl hbA hS h1 d_La_law_482 ?_
  refine lv_aload_n hx hb d_La_law_483 rfl (lv_at hl 4 rfl) ?_
  refine lv_iload hx hb d_La_law_484 (lv_at hl 0 rfl) ?_
  refine lv_iconst (v := 2) hx hb d_La_law_486 (by decide) ?_
  refine lv_iadd hx hb d_La_law_487 ?_
  refine va_sld hx hb hX hbl hbA hS h2 d_La_law_488 ?_
  refine lv_aload_n hx hb d_La_law_489 rfl (lv_at hl 4 rfl) ?_
  refine lv_iload hx hb d_La_law_490 (lv_at hl 0 rfl) ?_
  refine lv_iconst (v := 3) hx hb d_La_law_492 (by decide) ?_
  refine lv_iadd hx hb d_La_law_493 ?_
  refine va_sld hx hb hX hbl hbA hS h3 d_La_law_494 ?_
  refine lv_aload_n hx hb d_La_law_495 rfl (lv_at hl 1 rfl) ?_
  refine l_wrap C0 hL hS (As := [.ref (base + ad 0 0), .int (xs (i + 1).toNatClampNeg), .int (xs (i + 2).toNatClampNeg), .int (xs (i + 3).toNatClampNeg), .ref (base + 138)]) (rest := []) k_ml_La_103 k_st_La_read k_cd_La_read k_in_La z_La_read rfl d_La_law_496 (c_La_read hlt (by omega) hi.BW) hl.1 (Nat.le_of_ble_eq_true rfl) ⟨Nat.le_trans (by decide) hR.1, Nat.le_trans (by decide) hR.2⟩ hf (fun w9 σ9 v9 H locs hp hL hS => ?_)
  obtain ⟨rfl, rfl, rfl⟩ := hp
  refine lv_istore (lv' := [(5, .int (w_read (sRead σ (xs (i + 1).toNatClampNeg) (xs (i + 2).toNatClampNeg) (xs (i + 3).toNatClampNeg)).1)), (4, .int i), (3, .ref (base + 138)), (2, .ref (base + 122 + adm 0 0)), (1, .ref (base + ad 0 0)), (0, .ref b)]) hx hb d_La_law_499 hl (by decide) rfl (fun ls hl => ?_)
  refine lv_aload_n hx hb d_La_law_501 rfl (lv_at hl 3 rfl) ?_
  refine lv_aload_n hx hb d_La_law_502 rfl (lv_at hl 5 rfl) ?_
  refine lv_iload hx hb d_La_law_503 (lv_at hl 1 rfl) ?_
  refine lv_iconst (v := 1) hx hb d_La_law_505 (by decide) ?_
  refine lv_iadd hx hb d_La_law_506 ?_
  refine va_sld hx hb hX hbl hbA hS h1 d_La_law_507 ?_
  refine lv_aload_n hx hb d_La_law_508 rfl (lv_at hl 5 rfl) ?_
  refine lv_iload hx hb d_La_law_509 (lv_at hl 1 rfl) ?_
  refine lv_iconst (v := 2) hx hb d_La_law_511 (by decide) ?_
  refine lv_iadd hx hb d_La_law_512 ?_
  refine va_sld hx hb hX hbl hbA hS h2 d_La_law_513 ?_
  refine lv_aload_n hx hb d_La_law_514 rfl (lv_at hl 5 rfl) ?_
  refine lv_iload hx hb d_La_law_515 (lv_at hl 1 rfl) ?_
  refine lv_iconst (v := 3) hx hb d_La_law_517 (by decide) ?_
  refine lv_iadd hx hb d_La_law_518 ?_
  refine va_sld hx hb hX hbl hbA hS h3 d_La_law_519 ?_
  refine l_mod C0 hL hS (As := [.int (xs (i + 1).toNatClampNeg), .int (xs (i + 2).toNatClampNeg), .int (xs (i + 3).toNatClampNeg)]) (rest := []) k_ml_La_106 k_im_Mo_read k_sl_Mo_Mo_read k_cd_Mo_read k_in_Mo z_Mo_read rfl d_La_law_520 (c_Mo_read hlt (hr.MC hi)) (fun k r σ h => h.1) hl.1 (Nat.le_of_ble_eq_true rfl) ⟨Nat.le_trans (by decide) hR.1, Nat.le_trans (by decide) hR.2⟩ hf (fun r9 τ9 H locs hp hL hS => ?_)
  obtain ⟨-, rfl, rfl⟩ := hp
  refine W.eq (g2 := F0 m 523 ls [.int (mRead τ (xs (i + 1).toNatClampNeg) (xs (i + 2).toNatClampNeg) (xs (i + 3).toNatClampNeg)).1]) rfl ?_
  refine lv_istore (lv' := [(6, .int ((mRead τ (xs (i + 1).toNatClampNeg) (xs (i + 2).toNatClampNeg) (xs (i + 3).toNatClampNeg)).1)), (5, .int (w_read (sRead σ (xs (i + 1).toNatClampNeg) (xs (i + 2).toNatClampNeg) (xs (i + 3).toNatClampNeg)).1)), (4, .int i), (3, .ref (base + 138)), (2, .ref (base + 122 + adm 0 0)), (1, .ref (base + ad 0 0)), (0, .ref b)]) hx hb d_La_law_523 hl (by decide) rfl (fun ls hl => ?_)
  refine lv_aload_n hx hb d_La_law_525 rfl (lv_at hl 4 rfl) ?_
  refine l_modP C0 hL hS (As := []) (rest := []) k_ml_La_81 k_im_Mo_thrown k_sl_Mo_Mo_thrown k_cd_Mo_thrown k_in_Mo z_Mo_thrown rfl d_La_law_526 (c_Mo_thrown hlt) (fun k r h => h.1) hl.1 (Nat.le_of_ble_eq_true rfl) ⟨Nat.le_trans (by decide) hR.1, Nat.le_trans (by decide) hR.2⟩ hf (fun r9 H locs hp hL hS => ?_)
  obtain ⟨-, rfl⟩ := hp
  refine W.eq (g2 := F0 m 529 ls [.int ((mRead τ (xs (i + 1).toNatClampNeg) (xs (i + 2).toNatClampNeg) (xs (i + 3).toNatClampNeg)).2 0 0 1)]) rfl ?_
  refine lv_iload hx hb d_La_law_529 (lv_at hl 1 rfl) ?_
  refine lv_icmp_eq (tgt := 536) hx hb d_La_law_531 (by decide) (fun _ => ?_) (fun c9 => absurd hm.1.symm c9)
  refine lv_iload hx hb d_La_law_536 (lv_at hl 1 rfl) ?_
  refine lv_if_ne (tgt := 553) hx hb d_La_law_538 (by decide) (fun _ => ?_) (fun c9 => ?_)
  · skip
    refine lv_goto (tgt := 1145) hx hb d_La_law_553 (by decide) ?_
    exact kk _ _ _ _ _ _ hm.2.2.1 hm.2.2.2 hL hS (lv_sub hl [2, 3, 4, 5, 6] rfl)
  · skip
    refine lv_aload_n hx hb d_La_law_541 rfl (lv_at hl 3 rfl) ?_
    refine lv_iconst (v := 0) hx hb d_La_law_542 (by decide) ?_
    refine va_lald hx hb h0.K hL.2.2 0 6 (wl_get (by decide)) rfl (by unfold vp_in; decide) d_La_law_543 ?_
    refine lv_iload hx hb d_La_law_544 (lv_at hl 0 rfl) ?_
    refine lv_i2l hx hb d_La_law_546 rfl ?_
    refine W.lcmp hx hb d_La_law_547 ?_
    rw [w0_read hm c9, lcmp_self]
    refine lv_if_eq (tgt := 553) hx hb d_La_law_548 (by decide) (fun _ => ?_) (fun z => absurd rfl z)
    refine lv_goto (tgt := 1145) hx hb d_La_law_553 (by decide) ?_
    exact kk _ _ _ _ _ _ hm.2.2.1 hm.2.2.2 hL hS (lv_sub hl [2, 3, 4, 5, 6] rfl)
set_option maxHeartbeats 4000000 in
theorem lc_write (hlt : l.stackTraces = false) {aK aV : Nat → Nat} (hs : SX S0 aK aV) (hz0 : (Term.string R_Sy 142).eval A0 S0 none [] S0 = some (.ref (aK 0))) (hz1 : (Term.string R_Sy 273).eval A0 S0 none [] S0 = some (.ref (aK 1))) (C0 : Cl S0 A0 D ar base p s m c code 7) (hX : va_X b L xs s s.heap) (hbl : b < s.heap.size) (hbA : ¬ nB base b) (hi : IV σ) (hr : RL σ τ) (hL : LWd D ar base σ τ v H) (hS : va_S (nB base) s.heap H locs) (h1 : vp_in (i + 1) L) (h2 : vp_in (i + 2) L) (h3 : vp_in (i + 3) L) (h4 : vp_in (i + 4) L) (hl : lv_has ls 7 (lvL base b i)) (hR : 50 ≤ R.frames ∧ 2000 ≤ R.locals) (hf : cells + 1 ≤ R.cells ∧ slots + 6 ≤ R.slots)
    (kk : Kon D ar base b i p l e R s m args below meth c cells slots Q) : W p l e R s m args below meth c H locs cells slots Q (F0 m 556 ls []) := by
  obtain ⟨hx, hb, hml, hown, h0, hbase⟩ := id C0
  have hm : Sim w_write (sWrite σ (xs (i + 1).toNatClampNeg) (xs (i + 2).toNatClampNeg) (xs (i + 3).toNatClampNeg) (xs (i + 4).toNatClampNeg)) ((0, mWrite τ (xs (i + 1).toNatClampNeg) (xs (i + 2).toNatClampNeg) (xs (i + 3).toNatClampNeg) (xs (i + 4).toNatClampNeg))) := sim_write hi hr
  refine lv_aload_n hx hb d_La_law_556 rfl (lv_at hl 3 rfl) ?_
  refine lv_aload_n hx hb d_La_law_557 rfl (lv_at hl 4 rfl) ?_
  refine lv_iload hx hb d_La_law_558 (lv_at hl 0 rfl) ?_
  refine lv_iconst (v := 1) hx hb d_La_law_560 (by decide) ?_
  refine lv_iadd hx hb d_La_law_561 ?_
  refine va_sld hx hb hX hbl hbA hS h1 d_La_law_562 ?_
  refine lv_aload_n hx hb d_La_law_563 rfl (lv_at hl 4 rfl) ?_
  refine lv_iload hx hb d_La_law_564 (lv_at hl 0 rfl) ?_
  refine lv_iconst (v := 2) hx hb d_La_law_566 (by decide) ?_
  refine lv_iadd hx hb d_La_law_567 ?_
  refine va_sld hx hb hX hbl hbA hS h2 d_La_law_568 ?_
  refine lv_aload_n hx hb d_La_law_569 rfl (lv_at hl 4 rfl) ?_
  refine lv_iload hx hb d_La_law_570 (lv_at hl 0 rfl) ?_
  refine lv_iconst (v := 3) hx hb d_La_law_572 (by decide) ?_
  refine lv_iadd hx hb d_La_law_573 ?_
  refine va_sld hx hb hX hbl hbA hS h3 d_La_law_574 ?_
  refine lv_aload_n hx hb d_La_law_575 rfl (lv_at hl 4 rfl) ?_
  refine lv_iload hx hb d_La_law_576 (lv_at hl 0 rfl) ?_
  refine lv_iconst (v := 4) hx hb d_La_law_578 (by decide) ?_
  refine lv_iadd hx hb d_La_law_579 ?_
  refine va_sld hx hb hX hbl hbA hS h4 d_La_law_580 ?_
  refine l_wrap C0 hL hS (As := [.ref (base + ad 0 0), .int (xs (i + 1).toNatClampNeg), .int (xs (i + 2).toNatClampNeg), .int (xs (i + 3).toNatClampNeg), .int (xs (i + 4).toNatClampNeg)]) (rest := []) k_ml_La_107 k_st_La_write k_cd_La_write k_in_La z_La_write rfl d_La_law_581 (c_La_write hlt (by omega) hi.BW) hl.1 (Nat.le_of_ble_eq_true rfl) ⟨Nat.le_trans (by decide) hR.1, Nat.le_trans (by decide) hR.2⟩ hf (fun w9 σ9 v9 H locs hp hL hS => ?_)
  obtain ⟨rfl, rfl, rfl⟩ := hp
  refine lv_istore (lv' := [(5, .int (w_write (sWrite σ (xs (i + 1).toNatClampNeg) (xs (i + 2).toNatClampNeg) (xs (i + 3).toNatClampNeg) (xs (i + 4).toNatClampNeg)).1)), (4, .int i), (3, .ref (base + 138)), (2, .ref (base + 122 + adm 0 0)), (1, .ref (base + ad 0 0)), (0, .ref b)]) hx hb d_La_law_584 hl (by decide) rfl (fun ls hl => ?_)
  refine lv_aload_n hx hb d_La_law_586 rfl (lv_at hl 3 rfl) ?_
  refine lv_aload_n hx hb d_La_law_587 rfl (lv_at hl 5 rfl) ?_
  refine lv_iload hx hb d_La_law_588 (lv_at hl 1 rfl) ?_
  refine lv_iconst (v := 1) hx hb d_La_law_590 (by decide) ?_
  refine lv_iadd hx hb d_La_law_591 ?_
  refine va_sld hx hb hX hbl hbA hS h1 d_La_law_592 ?_
  refine lv_aload_n hx hb d_La_law_593 rfl (lv_at hl 5 rfl) ?_
  refine lv_iload hx hb d_La_law_594 (lv_at hl 1 rfl) ?_
  refine lv_iconst (v := 2) hx hb d_La_law_596 (by decide) ?_
  refine lv_iadd hx hb d_La_law_597 ?_
  refine va_sld hx hb hX hbl hbA hS h2 d_La_law_598 ?_
  refine lv_aload_n hx hb d_La_law_599 rfl (lv_at hl 5 rfl) ?_
  refine lv_iload hx hb d_La_law_600 (lv_at hl 1 rfl) ?_
  refine lv_iconst (v := 3) hx hb d_La_law_602 (by decide) ?_
  refine lv_iadd hx hb d_La_law_603 ?_
  refine va_sld hx hb hX hbl hbA hS h3 d_La_law_604 ?_
  refine lv_aload_n hx hb d_La_law_605 rfl (lv_at hl 5 rfl) ?_
  refine lv_iload hx hb d_La_law_606 (lv_at hl 1 rfl) ?_
  refine lv_iconst (v := 4) hx hb d_La_law_608 (by decide) ?_
  refine lv_iadd hx hb d_La_law_609 ?_
  refine va_sld hx hb hX hbl hbA hS h4 d_La_law_610 ?_
  refine l_mod C0 hL hS (As := [.int (xs (i + 1).toNatClampNeg), .int (xs (i + 2).toNatClampNeg), .int (xs (i + 3).toNatClampNeg), .int (xs (i + 4).toNatClampNeg)]) (rest := []) k_ml_La_110 k_im_Mo_write k_sl_Mo_Mo_write k_cd_Mo_write k_in_Mo z_Mo_write rfl d_La_law_611 (c_Mo_write hlt (hr.MC hi)) (fun k r σ h => h.1) hl.1 (Nat.le_of_ble_eq_true rfl) ⟨Nat.le_trans (by decide) hR.1, Nat.le_trans (by decide) hR.2⟩ hf (fun r9 τ9 H locs hp hL hS => ?_)
  obtain ⟨-, rfl, rfl⟩ := hp
  refine W.eq (g2 := F0 m 614 ls []) rfl ?_
  refine lv_aload_n hx hb d_La_law_614 rfl (lv_at hl 3 rfl) ?_
  refine l_modP C0 hL hS (As := []) (rest := []) k_ml_La_81 k_im_Mo_thrown k_sl_Mo_Mo_thrown k_cd_Mo_thrown k_in_Mo z_Mo_thrown rfl d_La_law_615 (c_Mo_thrown hlt) (fun k r h => h.1) hl.1 (Nat.le_of_ble_eq_true rfl) ⟨Nat.le_trans (by decide) hR.1, Nat.le_trans (by decide) hR.2⟩ hf (fun r9 H locs hp hL hS => ?_)
  obtain ⟨-, rfl⟩ := hp
  refine W.eq (g2 := F0 m 618 ls [.int ((mWrite τ (xs (i + 1).toNatClampNeg) (xs (i + 2).toNatClampNeg) (xs (i + 3).toNatClampNeg) (xs (i + 4).toNatClampNeg)) 0 0 1)]) rfl ?_
  refine lv_iload hx hb d_La_law_618 (lv_at hl 0 rfl) ?_
  refine lv_icmp_eq (tgt := 625) hx hb d_La_law_620 (by decide) (fun _ => ?_) (fun c9 => absurd hm.1.symm c9)
  refine lv_goto (tgt := 1145) hx hb d_La_law_625 (by decide) ?_
  exact kk _ _ _ _ _ _ hm.2.2.1 hm.2.2.2 hL hS (lv_sub hl [1, 2, 3, 4, 5] rfl)
set_option maxHeartbeats 4000000 in
theorem lc_open (hlt : l.stackTraces = false) {aK aV : Nat → Nat} (hs : SX S0 aK aV) (hz0 : (Term.string R_Sy 142).eval A0 S0 none [] S0 = some (.ref (aK 0))) (hz1 : (Term.string R_Sy 273).eval A0 S0 none [] S0 = some (.ref (aK 1))) (C0 : Cl S0 A0 D ar base p s m c code 7) (hX : va_X b L xs s s.heap) (hbl : b < s.heap.size) (hbA : ¬ nB base b) (hi : IV σ) (hr : RL σ τ) (hL : LWd D ar base σ τ v H) (hS : va_S (nB base) s.heap H locs) (h1 : vp_in (i + 1) L) (h2 : vp_in (i + 2) L) (h3 : vp_in (i + 3) L) (h4 : vp_in (i + 4) L) (hl : lv_has ls 7 (lvL base b i)) (hR : 50 ≤ R.frames ∧ 2000 ≤ R.locals) (hf : cells + 1 ≤ R.cells ∧ slots + 6 ≤ R.slots)
    (kk : Kon D ar base b i p l e R s m args below meth c cells slots Q) : W p l e R s m args below meth c H locs cells slots Q (F0 m 628 ls []) := by
  obtain ⟨hx, hb, hml, hown, h0, hbase⟩ := id C0
  have hm : Sim w_open (sOpenC σ (xs (i + 1).toNatClampNeg) (xs (i + 2).toNatClampNeg) (xs (i + 3).toNatClampNeg)) (mOpen τ (xs (i + 1).toNatClampNeg) (xs (i + 2).toNatClampNeg) (xs (i + 3).toNatClampNeg)) := sim_open hi hr
  refine lv_aload_n hx hb d_La_law_628 rfl (lv_at hl 3 rfl) ?_
  refine lv_aload_n hx hb d_La_law_629 rfl (lv_at hl 4 rfl) ?_
  refine lv_iload hx hb d_La_law_630 (lv_at hl 0 rfl) ?_
  refine lv_iconst (v := 1) hx hb d_La_law_632 (by decide) ?_
  refine lv_iadd hx hb d_La_law_633 ?_
  refine va_sld hx hb hX hbl hbA hS h1 d_La_law_634 ?_
  refine lv_aload_n hx hb d_La_law_635 rfl (lv_at hl 4 rfl) ?_
  refine lv_iload hx hb d_La_law_636 (lv_at hl 0 rfl) ?_
  refine lv_iconst (v := 2) hx hb d_La_law_638 (by decide) ?_
  refine lv_iadd hx hb d_La_law_639 ?_
  refine va_sld hx hb hX hbl hbA hS h2 d_La_law_640 ?_
  refine lv_aload_n hx hb d_La_law_641 rfl (lv_at hl 4 rfl) ?_
  refine lv_iload hx hb d_La_law_642 (lv_at hl 0 rfl) ?_
  refine lv_iconst (v := 3) hx hb d_La_law_644 (by decide) ?_
  refine lv_iadd hx hb d_La_law_645 ?_
  refine va_sld hx hb hX hbl hbA hS h3 d_La_law_646 ?_
  refine lv_aload_n hx hb d_La_law_647 rfl (lv_at hl 1 rfl) ?_
  refine l_wrap C0 hL hS (As := [.ref (base + ad 0 0), .int (xs (i + 1).toNatClampNeg), .int (xs (i + 2).toNatClampNeg), .int (xs (i + 3).toNatClampNeg), .ref (base + 138)]) (rest := []) k_ml_La_111 k_st_La_open k_cd_La_open k_in_La z_La_open rfl d_La_law_648 (c_La_open hlt (by omega) hi.CW) hl.1 (Nat.le_of_ble_eq_true rfl) ⟨Nat.le_trans (by decide) hR.1, Nat.le_trans (by decide) hR.2⟩ hf (fun w9 σ9 v9 H locs hp hL hS => ?_)
  obtain ⟨rfl, rfl, rfl⟩ := hp
  refine lv_istore (lv' := [(5, .int (w_open (sOpenC σ (xs (i + 1).toNatClampNeg) (xs (i + 2).toNatClampNeg) (xs (i + 3).toNatClampNeg)).1)), (4, .int i), (3, .ref (base + 138)), (2, .ref (base + 122 + adm 0 0)), (1, .ref (base + ad 0 0)), (0, .ref b)]) hx hb d_La_law_651 hl (by decide) rfl (fun ls hl => ?_)
  refine lv_aload_n hx hb d_La_law_653 rfl (lv_at hl 3 rfl) ?_
  refine lv_aload_n hx hb d_La_law_654 rfl (lv_at hl 5 rfl) ?_
  refine lv_iload hx hb d_La_law_655 (lv_at hl 1 rfl) ?_
  refine lv_iconst (v := 1) hx hb d_La_law_657 (by decide) ?_
  refine lv_iadd hx hb d_La_law_658 ?_
  refine va_sld hx hb hX hbl hbA hS h1 d_La_law_659 ?_
  refine lv_aload_n hx hb d_La_law_660 rfl (lv_at hl 5 rfl) ?_
  refine lv_iload hx hb d_La_law_661 (lv_at hl 1 rfl) ?_
  refine lv_iconst (v := 2) hx hb d_La_law_663 (by decide) ?_
  refine lv_iadd hx hb d_La_law_664 ?_
  refine va_sld hx hb hX hbl hbA hS h2 d_La_law_665 ?_
  refine lv_aload_n hx hb d_La_law_666 rfl (lv_at hl 5 rfl) ?_
  refine lv_iload hx hb d_La_law_667 (lv_at hl 1 rfl) ?_
  refine lv_iconst (v := 3) hx hb d_La_law_669 (by decide) ?_
  refine lv_iadd hx hb d_La_law_670 ?_
  refine va_sld hx hb hX hbl hbA hS h3 d_La_law_671 ?_
  refine l_mod C0 hL hS (As := [.int (xs (i + 1).toNatClampNeg), .int (xs (i + 2).toNatClampNeg), .int (xs (i + 3).toNatClampNeg)]) (rest := []) k_ml_La_113 k_im_Mo_open k_sl_Mo_Mo_open k_cd_Mo_open k_in_Mo z_Mo_open rfl d_La_law_672 (c_Mo_open hlt ) (fun k r σ h => h.1) hl.1 (Nat.le_of_ble_eq_true rfl) ⟨Nat.le_trans (by decide) hR.1, Nat.le_trans (by decide) hR.2⟩ hf (fun r9 τ9 H locs hp hL hS => ?_)
  obtain ⟨-, rfl, rfl⟩ := hp
  refine W.eq (g2 := F0 m 675 ls [.int (mOpen τ (xs (i + 1).toNatClampNeg) (xs (i + 2).toNatClampNeg) (xs (i + 3).toNatClampNeg)).1]) rfl ?_
  refine lv_istore (lv' := [(6, .int ((mOpen τ (xs (i + 1).toNatClampNeg) (xs (i + 2).toNatClampNeg) (xs (i + 3).toNatClampNeg)).1)), (5, .int (w_open (sOpenC σ (xs (i + 1).toNatClampNeg) (xs (i + 2).toNatClampNeg) (xs (i + 3).toNatClampNeg)).1)), (4, .int i), (3, .ref (base + 138)), (2, .ref (base + 122 + adm 0 0)), (1, .ref (base + ad 0 0)), (0, .ref b)]) hx hb d_La_law_675 hl (by decide) rfl (fun ls hl => ?_)
  refine lv_aload_n hx hb d_La_law_677 rfl (lv_at hl 4 rfl) ?_
  refine l_modP C0 hL hS (As := []) (rest := []) k_ml_La_81 k_im_Mo_thrown k_sl_Mo_Mo_thrown k_cd_Mo_thrown k_in_Mo z_Mo_thrown rfl d_La_law_678 (c_Mo_thrown hlt) (fun k r h => h.1) hl.1 (Nat.le_of_ble_eq_true rfl) ⟨Nat.le_trans (by decide) hR.1, Nat.le_trans (by decide) hR.2⟩ hf (fun r9 H locs hp hL hS => ?_)
  obtain ⟨-, rfl⟩ := hp
  refine W.eq (g2 := F0 m 681 ls [.int ((mOpen τ (xs (i + 1).toNatClampNeg) (xs (i + 2).toNatClampNeg) (xs (i + 3).toNatClampNeg)).2 0 0 1)]) rfl ?_
  refine lv_iload hx hb d_La_law_681 (lv_at hl 1 rfl) ?_
  refine lv_icmp_eq (tgt := 688) hx hb d_La_law_683 (by decide) (fun _ => ?_) (fun c9 => absurd hm.1.symm c9)
  refine lv_iload hx hb d_La_law_688 (lv_at hl 1 rfl) ?_
  refine lv_if_ne (tgt := 705) hx hb d_La_law_690 (by decide) (fun _ => ?_) (fun c9 => ?_)
  · skip
    refine lv_goto (tgt := 1145) hx hb d_La_law_705 (by decide) ?_
    exact kk _ _ _ _ _ _ hm.2.2.1 hm.2.2.2 hL hS (lv_sub hl [2, 3, 4, 5, 6] rfl)
  · skip
    refine lv_aload_n hx hb d_La_law_693 rfl (lv_at hl 3 rfl) ?_
    refine lv_iconst (v := 0) hx hb d_La_law_694 (by decide) ?_
    refine va_lald hx hb h0.K hL.2.2 0 6 (wl_get (by decide)) rfl (by unfold vp_in; decide) d_La_law_695 ?_
    refine lv_iload hx hb d_La_law_696 (lv_at hl 0 rfl) ?_
    refine lv_i2l hx hb d_La_law_698 rfl ?_
    refine W.lcmp hx hb d_La_law_699 ?_
    rw [w0_open hm c9, lcmp_self]
    refine lv_if_eq (tgt := 705) hx hb d_La_law_700 (by decide) (fun _ => ?_) (fun z => absurd rfl z)
    refine lv_goto (tgt := 1145) hx hb d_La_law_705 (by decide) ?_
    exact kk _ _ _ _ _ _ hm.2.2.1 hm.2.2.2 hL hS (lv_sub hl [2, 3, 4, 5, 6] rfl)
set_option maxHeartbeats 4000000 in
theorem lc_say (hlt : l.stackTraces = false) {aK aV : Nat → Nat} (hs : SX S0 aK aV) (hz0 : (Term.string R_Sy 142).eval A0 S0 none [] S0 = some (.ref (aK 0))) (hz1 : (Term.string R_Sy 273).eval A0 S0 none [] S0 = some (.ref (aK 1))) (C0 : Cl S0 A0 D ar base p s m c code 7) (hX : va_X b L xs s s.heap) (hbl : b < s.heap.size) (hbA : ¬ nB base b) (hi : IV σ) (hr : RL σ τ) (hL : LWd D ar base σ τ v H) (hS : va_S (nB base) s.heap H locs) (h1 : vp_in (i + 1) L) (h2 : vp_in (i + 2) L) (h3 : vp_in (i + 3) L) (h4 : vp_in (i + 4) L) (hl : lv_has ls 7 (lvL base b i)) (hR : 50 ≤ R.frames ∧ 2000 ≤ R.locals) (hf : cells + 1 ≤ R.cells ∧ slots + 6 ≤ R.slots)
    (kk : Kon D ar base b i p l e R s m args below meth c cells slots Q) : W p l e R s m args below meth c H locs cells slots Q (F0 m 708 ls []) := by
  obtain ⟨hx, hb, hml, hown, h0, hbase⟩ := id C0
  have hm : Sim w_say (sSay σ (xs (i + 1).toNatClampNeg) (xs (i + 2).toNatClampNeg) (xs (i + 3).toNatClampNeg) (xs (i + 4).toNatClampNeg)) ((0, mSay τ (xs (i + 1).toNatClampNeg) (xs (i + 2).toNatClampNeg) (xs (i + 3).toNatClampNeg) (xs (i + 4).toNatClampNeg))) := sim_say hi hr
  refine lv_aload_n hx hb d_La_law_708 rfl (lv_at hl 3 rfl) ?_
  refine lv_aload_n hx hb d_La_law_709 rfl (lv_at hl 4 rfl) ?_
  refine lv_iload hx hb d_La_law_710 (lv_at hl 0 rfl) ?_
  refine lv_iconst (v := 1) hx hb d_La_law_712 (by decide) ?_
  refine lv_iadd hx hb d_La_law_713 ?_
  refine va_sld hx hb hX hbl hbA hS h1 d_La_law_714 ?_
  refine lv_aload_n hx hb d_La_law_715 rfl (lv_at hl 4 rfl) ?_
  refine lv_iload hx hb d_La_law_716 (lv_at hl 0 rfl) ?_
  refine lv_iconst (v := 2) hx hb d_La_law_718 (by decide) ?_
  refine lv_iadd hx hb d_La_law_719 ?_
  refine va_sld hx hb hX hbl hbA hS h2 d_La_law_720 ?_
  refine lv_aload_n hx hb d_La_law_721 rfl (lv_at hl 4 rfl) ?_
  refine lv_iload hx hb d_La_law_722 (lv_at hl 0 rfl) ?_
  refine lv_iconst (v := 3) hx hb d_La_law_724 (by decide) ?_
  refine lv_iadd hx hb d_La_law_725 ?_
  refine va_sld hx hb hX hbl hbA hS h3 d_La_law_726 ?_
  refine lv_aload_n hx hb d_La_law_727 rfl (lv_at hl 4 rfl) ?_
  refine lv_iload hx hb d_La_law_728 (lv_at hl 0 rfl) ?_
  refine lv_iconst (v := 4) hx hb d_La_law_730 (by decide) ?_
  refine lv_iadd hx hb d_La_law_731 ?_
  refine va_sld hx hb hX hbl hbA hS h4 d_La_law_732 ?_
  refine l_wrap C0 hL hS (As := [.ref (base + ad 0 0), .int (xs (i + 1).toNatClampNeg), .int (xs (i + 2).toNatClampNeg), .int (xs (i + 3).toNatClampNeg), .int (xs (i + 4).toNatClampNeg)]) (rest := []) k_ml_La_114 k_st_La_say k_cd_La_say k_in_La z_La_say rfl d_La_law_733 (c_La_say hlt (by omega) hs hz0 hz1 hi.QW hi.CW) hl.1 (Nat.le_of_ble_eq_true rfl) ⟨Nat.le_trans (by decide) hR.1, Nat.le_trans (by decide) hR.2⟩ hf (fun w9 σ9 v9 H locs hp hL hS => ?_)
  obtain ⟨rfl, rfl, rfl⟩ := hp
  refine lv_istore (lv' := [(5, .int (w_say (sSay σ (xs (i + 1).toNatClampNeg) (xs (i + 2).toNatClampNeg) (xs (i + 3).toNatClampNeg) (xs (i + 4).toNatClampNeg)).1)), (4, .int i), (3, .ref (base + 138)), (2, .ref (base + 122 + adm 0 0)), (1, .ref (base + ad 0 0)), (0, .ref b)]) hx hb d_La_law_736 hl (by decide) rfl (fun ls hl => ?_)
  refine lv_aload_n hx hb d_La_law_738 rfl (lv_at hl 3 rfl) ?_
  refine lv_aload_n hx hb d_La_law_739 rfl (lv_at hl 5 rfl) ?_
  refine lv_iload hx hb d_La_law_740 (lv_at hl 1 rfl) ?_
  refine lv_iconst (v := 1) hx hb d_La_law_742 (by decide) ?_
  refine lv_iadd hx hb d_La_law_743 ?_
  refine va_sld hx hb hX hbl hbA hS h1 d_La_law_744 ?_
  refine lv_aload_n hx hb d_La_law_745 rfl (lv_at hl 5 rfl) ?_
  refine lv_iload hx hb d_La_law_746 (lv_at hl 1 rfl) ?_
  refine lv_iconst (v := 2) hx hb d_La_law_748 (by decide) ?_
  refine lv_iadd hx hb d_La_law_749 ?_
  refine va_sld hx hb hX hbl hbA hS h2 d_La_law_750 ?_
  refine lv_aload_n hx hb d_La_law_751 rfl (lv_at hl 5 rfl) ?_
  refine lv_iload hx hb d_La_law_752 (lv_at hl 1 rfl) ?_
  refine lv_iconst (v := 3) hx hb d_La_law_754 (by decide) ?_
  refine lv_iadd hx hb d_La_law_755 ?_
  refine va_sld hx hb hX hbl hbA hS h3 d_La_law_756 ?_
  refine lv_aload_n hx hb d_La_law_757 rfl (lv_at hl 5 rfl) ?_
  refine lv_iload hx hb d_La_law_758 (lv_at hl 1 rfl) ?_
  refine lv_iconst (v := 4) hx hb d_La_law_760 (by decide) ?_
  refine lv_iadd hx hb d_La_law_761 ?_
  refine va_sld hx hb hX hbl hbA hS h4 d_La_law_762 ?_
  refine l_mod C0 hL hS (As := [.int (xs (i + 1).toNatClampNeg), .int (xs (i + 2).toNatClampNeg), .int (xs (i + 3).toNatClampNeg), .int (xs (i + 4).toNatClampNeg)]) (rest := []) k_ml_La_116 k_im_Mo_say k_sl_Mo_Mo_say k_cd_Mo_say k_in_Mo z_Mo_say rfl d_La_law_763 (c_Mo_say hlt (hr.MQW hi) (hr.MU hi)) (fun k r σ h => h.1) hl.1 (Nat.le_of_ble_eq_true rfl) ⟨Nat.le_trans (by decide) hR.1, Nat.le_trans (by decide) hR.2⟩ hf (fun r9 τ9 H locs hp hL hS => ?_)
  obtain ⟨-, rfl, rfl⟩ := hp
  refine W.eq (g2 := F0 m 766 ls []) rfl ?_
  refine lv_aload_n hx hb d_La_law_766 rfl (lv_at hl 3 rfl) ?_
  refine l_modP C0 hL hS (As := []) (rest := []) k_ml_La_81 k_im_Mo_thrown k_sl_Mo_Mo_thrown k_cd_Mo_thrown k_in_Mo z_Mo_thrown rfl d_La_law_767 (c_Mo_thrown hlt) (fun k r h => h.1) hl.1 (Nat.le_of_ble_eq_true rfl) ⟨Nat.le_trans (by decide) hR.1, Nat.le_trans (by decide) hR.2⟩ hf (fun r9 H locs hp hL hS => ?_)
  obtain ⟨-, rfl⟩ := hp
  refine W.eq (g2 := F0 m 770 ls [.int ((mSay τ (xs (i + 1).toNatClampNeg) (xs (i + 2).toNatClampNeg) (xs (i + 3).toNatClampNeg) (xs (i + 4).toNatClampNeg)) 0 0 1)]) rfl ?_
  refine lv_iload hx hb d_La_law_770 (lv_at hl 0 rfl) ?_
  refine lv_icmp_eq (tgt := 777) hx hb d_La_law_772 (by decide) (fun _ => ?_) (fun c9 => absurd hm.1.symm c9)
  refine lv_goto (tgt := 1145) hx hb d_La_law_777 (by decide) ?_
  exact kk _ _ _ _ _ _ hm.2.2.1 hm.2.2.2 hL hS (lv_sub hl [1, 2, 3, 4, 5] rfl)
set_option maxHeartbeats 4000000 in
theorem lc_hear (hlt : l.stackTraces = false) {aK aV : Nat → Nat} (hs : SX S0 aK aV) (hz0 : (Term.string R_Sy 142).eval A0 S0 none [] S0 = some (.ref (aK 0))) (hz1 : (Term.string R_Sy 273).eval A0 S0 none [] S0 = some (.ref (aK 1))) (C0 : Cl S0 A0 D ar base p s m c code 7) (hX : va_X b L xs s s.heap) (hbl : b < s.heap.size) (hbA : ¬ nB base b) (hi : IV σ) (hr : RL σ τ) (hL : LWd D ar base σ τ v H) (hS : va_S (nB base) s.heap H locs) (h1 : vp_in (i + 1) L) (h2 : vp_in (i + 2) L) (h3 : vp_in (i + 3) L) (h4 : vp_in (i + 4) L) (hl : lv_has ls 7 (lvL base b i)) (hR : 50 ≤ R.frames ∧ 2000 ≤ R.locals) (hf : cells + 1 ≤ R.cells ∧ slots + 6 ≤ R.slots)
    (kk : Kon D ar base b i p l e R s m args below meth c cells slots Q) : W p l e R s m args below meth c H locs cells slots Q (F0 m 780 ls []) := by
  obtain ⟨hx, hb, hml, hown, h0, hbase⟩ := id C0
  have hm : Sim w_hear (sHear σ (xs (i + 1).toNatClampNeg) (xs (i + 2).toNatClampNeg)) (mHear τ (xs (i + 1).toNatClampNeg) (xs (i + 2).toNatClampNeg)) := sim_hear hi hr
  refine lv_aload_n hx hb d_La_law_780 rfl (lv_at hl 3 rfl) ?_
  refine lv_aload_n hx hb d_La_law_781 rfl (lv_at hl 4 rfl) ?_
  refine lv_iload hx hb d_La_law_782 (lv_at hl 0 rfl) ?_
  refine lv_iconst (v := 1) hx hb d_La_law_784 (by decide) ?_
  refine lv_iadd hx hb d_La_law_785 ?_
  refine va_sld hx hb hX hbl hbA hS h1 d_La_law_786 ?_
  refine lv_aload_n hx hb d_La_law_787 rfl (lv_at hl 4 rfl) ?_
  refine lv_iload hx hb d_La_law_788 (lv_at hl 0 rfl) ?_
  refine lv_iconst (v := 2) hx hb d_La_law_790 (by decide) ?_
  refine lv_iadd hx hb d_La_law_791 ?_
  refine va_sld hx hb hX hbl hbA hS h2 d_La_law_792 ?_
  refine lv_aload_n hx hb d_La_law_793 rfl (lv_at hl 1 rfl) ?_
  refine l_wrap C0 hL hS (As := [.ref (base + ad 0 0), .int (xs (i + 1).toNatClampNeg), .int (xs (i + 2).toNatClampNeg), .ref (base + 138)]) (rest := []) k_ml_La_117 k_st_La_hear k_cd_La_hear k_in_La z_La_hear rfl d_La_law_794 (c_La_hear hlt (by omega) hi.QW hi.CW) hl.1 (Nat.le_of_ble_eq_true rfl) ⟨Nat.le_trans (by decide) hR.1, Nat.le_trans (by decide) hR.2⟩ hf (fun w9 σ9 v9 H locs hp hL hS => ?_)
  obtain ⟨rfl, rfl, rfl⟩ := hp
  refine lv_istore (lv' := [(5, .int (w_hear (sHear σ (xs (i + 1).toNatClampNeg) (xs (i + 2).toNatClampNeg)).1)), (4, .int i), (3, .ref (base + 138)), (2, .ref (base + 122 + adm 0 0)), (1, .ref (base + ad 0 0)), (0, .ref b)]) hx hb d_La_law_797 hl (by decide) rfl (fun ls hl => ?_)
  refine lv_aload_n hx hb d_La_law_799 rfl (lv_at hl 3 rfl) ?_
  refine lv_aload_n hx hb d_La_law_800 rfl (lv_at hl 5 rfl) ?_
  refine lv_iload hx hb d_La_law_801 (lv_at hl 1 rfl) ?_
  refine lv_iconst (v := 1) hx hb d_La_law_803 (by decide) ?_
  refine lv_iadd hx hb d_La_law_804 ?_
  refine va_sld hx hb hX hbl hbA hS h1 d_La_law_805 ?_
  refine lv_aload_n hx hb d_La_law_806 rfl (lv_at hl 5 rfl) ?_
  refine lv_iload hx hb d_La_law_807 (lv_at hl 1 rfl) ?_
  refine lv_iconst (v := 2) hx hb d_La_law_809 (by decide) ?_
  refine lv_iadd hx hb d_La_law_810 ?_
  refine va_sld hx hb hX hbl hbA hS h2 d_La_law_811 ?_
  refine l_mod C0 hL hS (As := [.int (xs (i + 1).toNatClampNeg), .int (xs (i + 2).toNatClampNeg)]) (rest := []) k_ml_La_119 k_im_Mo_hear k_sl_Mo_Mo_hear k_cd_Mo_hear k_in_Mo z_Mo_hear rfl d_La_law_812 (c_Mo_hear hlt (hr.MQW hi) (hr.MU hi)) (fun k r σ h => h.1) hl.1 (Nat.le_of_ble_eq_true rfl) ⟨Nat.le_trans (by decide) hR.1, Nat.le_trans (by decide) hR.2⟩ hf (fun r9 τ9 H locs hp hL hS => ?_)
  obtain ⟨-, rfl, rfl⟩ := hp
  refine W.eq (g2 := F0 m 815 ls [.int (mHear τ (xs (i + 1).toNatClampNeg) (xs (i + 2).toNatClampNeg)).1]) rfl ?_
  refine lv_istore (lv' := [(6, .int ((mHear τ (xs (i + 1).toNatClampNeg) (xs (i + 2).toNatClampNeg)).1)), (5, .int (w_hear (sHear σ (xs (i + 1).toNatClampNeg) (xs (i + 2).toNatClampNeg)).1)), (4, .int i), (3, .ref (base + 138)), (2, .ref (base + 122 + adm 0 0)), (1, .ref (base + ad 0 0)), (0, .ref b)]) hx hb d_La_law_815 hl (by decide) rfl (fun ls hl => ?_)
  refine lv_aload_n hx hb d_La_law_817 rfl (lv_at hl 4 rfl) ?_
  refine l_modP C0 hL hS (As := []) (rest := []) k_ml_La_81 k_im_Mo_thrown k_sl_Mo_Mo_thrown k_cd_Mo_thrown k_in_Mo z_Mo_thrown rfl d_La_law_818 (c_Mo_thrown hlt) (fun k r h => h.1) hl.1 (Nat.le_of_ble_eq_true rfl) ⟨Nat.le_trans (by decide) hR.1, Nat.le_trans (by decide) hR.2⟩ hf (fun r9 H locs hp hL hS => ?_)
  obtain ⟨-, rfl⟩ := hp
  refine W.eq (g2 := F0 m 821 ls [.int ((mHear τ (xs (i + 1).toNatClampNeg) (xs (i + 2).toNatClampNeg)).2 0 0 1)]) rfl ?_
  refine lv_iload hx hb d_La_law_821 (lv_at hl 1 rfl) ?_
  refine lv_icmp_eq (tgt := 828) hx hb d_La_law_823 (by decide) (fun _ => ?_) (fun c9 => absurd hm.1.symm c9)
  refine lv_iload hx hb d_La_law_828 (lv_at hl 1 rfl) ?_
  refine lv_if_ne (tgt := 845) hx hb d_La_law_830 (by decide) (fun _ => ?_) (fun c9 => ?_)
  · skip
    refine lv_goto (tgt := 1145) hx hb d_La_law_845 (by decide) ?_
    exact kk _ _ _ _ _ _ hm.2.2.1 hm.2.2.2 hL hS (lv_sub hl [2, 3, 4, 5, 6] rfl)
  · skip
    refine lv_aload_n hx hb d_La_law_833 rfl (lv_at hl 3 rfl) ?_
    refine lv_iconst (v := 0) hx hb d_La_law_834 (by decide) ?_
    refine va_lald hx hb h0.K hL.2.2 0 6 (wl_get (by decide)) rfl (by unfold vp_in; decide) d_La_law_835 ?_
    refine lv_iload hx hb d_La_law_836 (lv_at hl 0 rfl) ?_
    refine lv_i2l hx hb d_La_law_838 rfl ?_
    refine W.lcmp hx hb d_La_law_839 ?_
    rw [w0_hear hm c9, lcmp_self]
    refine lv_if_eq (tgt := 845) hx hb d_La_law_840 (by decide) (fun _ => ?_) (fun z => absurd rfl z)
    refine lv_goto (tgt := 1145) hx hb d_La_law_845 (by decide) ?_
    exact kk _ _ _ _ _ _ hm.2.2.1 hm.2.2.2 hL hS (lv_sub hl [2, 3, 4, 5, 6] rfl)
set_option maxHeartbeats 4000000 in
theorem lc_choose (hlt : l.stackTraces = false) {aK aV : Nat → Nat} (hs : SX S0 aK aV) (hz0 : (Term.string R_Sy 142).eval A0 S0 none [] S0 = some (.ref (aK 0))) (hz1 : (Term.string R_Sy 273).eval A0 S0 none [] S0 = some (.ref (aK 1))) (C0 : Cl S0 A0 D ar base p s m c code 7) (hX : va_X b L xs s s.heap) (hbl : b < s.heap.size) (hbA : ¬ nB base b) (hi : IV σ) (hr : RL σ τ) (hL : LWd D ar base σ τ v H) (hS : va_S (nB base) s.heap H locs) (h1 : vp_in (i + 1) L) (h2 : vp_in (i + 2) L) (h3 : vp_in (i + 3) L) (h4 : vp_in (i + 4) L) (hl : lv_has ls 7 (lvL base b i)) (hR : 50 ≤ R.frames ∧ 2000 ≤ R.locals) (hf : cells + 1 ≤ R.cells ∧ slots + 6 ≤ R.slots)
    (kk : Kon D ar base b i p l e R s m args below meth c cells slots Q) : W p l e R s m args below meth c H locs cells slots Q (F0 m 848 ls []) := by
  obtain ⟨hx, hb, hml, hown, h0, hbase⟩ := id C0
  have hm : Sim w_choose (sChoose σ (xs (i + 1).toNatClampNeg) (xs (i + 2).toNatClampNeg)) (mChoose τ (xs (i + 1).toNatClampNeg) (xs (i + 2).toNatClampNeg)) := sim_choose hi hr
  refine lv_aload_n hx hb d_La_law_848 rfl (lv_at hl 3 rfl) ?_
  refine lv_aload_n hx hb d_La_law_849 rfl (lv_at hl 4 rfl) ?_
  refine lv_iload hx hb d_La_law_850 (lv_at hl 0 rfl) ?_
  refine lv_iconst (v := 1) hx hb d_La_law_852 (by decide) ?_
  refine lv_iadd hx hb d_La_law_853 ?_
  refine va_sld hx hb hX hbl hbA hS h1 d_La_law_854 ?_
  refine lv_aload_n hx hb d_La_law_855 rfl (lv_at hl 4 rfl) ?_
  refine lv_iload hx hb d_La_law_856 (lv_at hl 0 rfl) ?_
  refine lv_iconst (v := 2) hx hb d_La_law_858 (by decide) ?_
  refine lv_iadd hx hb d_La_law_859 ?_
  refine va_sld hx hb hX hbl hbA hS h2 d_La_law_860 ?_
  refine lv_aload_n hx hb d_La_law_861 rfl (lv_at hl 1 rfl) ?_
  refine l_wrap C0 hL hS (As := [.ref (base + ad 0 0), .int (xs (i + 1).toNatClampNeg), .int (xs (i + 2).toNatClampNeg), .ref (base + 138)]) (rest := []) k_ml_La_120 k_st_La_choose k_cd_La_choose k_in_La z_La_choose rfl d_La_law_862 (c_La_choose hlt (by omega) ) hl.1 (Nat.le_of_ble_eq_true rfl) ⟨Nat.le_trans (by decide) hR.1, Nat.le_trans (by decide) hR.2⟩ hf (fun w9 σ9 v9 H locs hp hL hS => ?_)
  obtain ⟨rfl, rfl, rfl⟩ := hp
  refine lv_istore (lv' := [(5, .int (w_choose (sChoose σ (xs (i + 1).toNatClampNeg) (xs (i + 2).toNatClampNeg)).1)), (4, .int i), (3, .ref (base + 138)), (2, .ref (base + 122 + adm 0 0)), (1, .ref (base + ad 0 0)), (0, .ref b)]) hx hb d_La_law_865 hl (by decide) rfl (fun ls hl => ?_)
  refine lv_aload_n hx hb d_La_law_867 rfl (lv_at hl 3 rfl) ?_
  refine lv_aload_n hx hb d_La_law_868 rfl (lv_at hl 5 rfl) ?_
  refine lv_iload hx hb d_La_law_869 (lv_at hl 1 rfl) ?_
  refine lv_iconst (v := 1) hx hb d_La_law_871 (by decide) ?_
  refine lv_iadd hx hb d_La_law_872 ?_
  refine va_sld hx hb hX hbl hbA hS h1 d_La_law_873 ?_
  refine lv_aload_n hx hb d_La_law_874 rfl (lv_at hl 5 rfl) ?_
  refine lv_iload hx hb d_La_law_875 (lv_at hl 1 rfl) ?_
  refine lv_iconst (v := 2) hx hb d_La_law_877 (by decide) ?_
  refine lv_iadd hx hb d_La_law_878 ?_
  refine va_sld hx hb hX hbl hbA hS h2 d_La_law_879 ?_
  refine l_mod C0 hL hS (As := [.int (xs (i + 1).toNatClampNeg), .int (xs (i + 2).toNatClampNeg)]) (rest := []) k_ml_La_122 k_im_Mo_choose k_sl_Mo_Mo_choose k_cd_Mo_choose k_in_Mo z_Mo_choose rfl d_La_law_880 (c_Mo_choose hlt ) (fun k r σ h => h.1) hl.1 (Nat.le_of_ble_eq_true rfl) ⟨Nat.le_trans (by decide) hR.1, Nat.le_trans (by decide) hR.2⟩ hf (fun r9 τ9 H locs hp hL hS => ?_)
  obtain ⟨-, rfl, rfl⟩ := hp
  refine W.eq (g2 := F0 m 883 ls [.int (mChoose τ (xs (i + 1).toNatClampNeg) (xs (i + 2).toNatClampNeg)).1]) rfl ?_
  refine lv_istore (lv' := [(6, .int ((mChoose τ (xs (i + 1).toNatClampNeg) (xs (i + 2).toNatClampNeg)).1)), (5, .int (w_choose (sChoose σ (xs (i + 1).toNatClampNeg) (xs (i + 2).toNatClampNeg)).1)), (4, .int i), (3, .ref (base + 138)), (2, .ref (base + 122 + adm 0 0)), (1, .ref (base + ad 0 0)), (0, .ref b)]) hx hb d_La_law_883 hl (by decide) rfl (fun ls hl => ?_)
  refine lv_aload_n hx hb d_La_law_885 rfl (lv_at hl 4 rfl) ?_
  refine l_modP C0 hL hS (As := []) (rest := []) k_ml_La_81 k_im_Mo_thrown k_sl_Mo_Mo_thrown k_cd_Mo_thrown k_in_Mo z_Mo_thrown rfl d_La_law_886 (c_Mo_thrown hlt) (fun k r h => h.1) hl.1 (Nat.le_of_ble_eq_true rfl) ⟨Nat.le_trans (by decide) hR.1, Nat.le_trans (by decide) hR.2⟩ hf (fun r9 H locs hp hL hS => ?_)
  obtain ⟨-, rfl⟩ := hp
  refine W.eq (g2 := F0 m 889 ls [.int ((mChoose τ (xs (i + 1).toNatClampNeg) (xs (i + 2).toNatClampNeg)).2 0 0 1)]) rfl ?_
  refine lv_iload hx hb d_La_law_889 (lv_at hl 1 rfl) ?_
  refine lv_icmp_eq (tgt := 896) hx hb d_La_law_891 (by decide) (fun _ => ?_) (fun c9 => absurd hm.1.symm c9)
  refine lv_iload hx hb d_La_law_896 (lv_at hl 1 rfl) ?_
  refine lv_if_ne (tgt := 913) hx hb d_La_law_898 (by decide) (fun _ => ?_) (fun c9 => ?_)
  · skip
    refine lv_goto (tgt := 1145) hx hb d_La_law_913 (by decide) ?_
    exact kk _ _ _ _ _ _ hm.2.2.1 hm.2.2.2 hL hS (lv_sub hl [2, 3, 4, 5, 6] rfl)
  · skip
    refine lv_aload_n hx hb d_La_law_901 rfl (lv_at hl 3 rfl) ?_
    refine lv_iconst (v := 0) hx hb d_La_law_902 (by decide) ?_
    refine va_lald hx hb h0.K hL.2.2 0 6 (wl_get (by decide)) rfl (by unfold vp_in; decide) d_La_law_903 ?_
    refine lv_iload hx hb d_La_law_904 (lv_at hl 0 rfl) ?_
    refine lv_i2l hx hb d_La_law_906 rfl ?_
    refine W.lcmp hx hb d_La_law_907 ?_
    rw [w0_choose hm c9, lcmp_self]
    refine lv_if_eq (tgt := 913) hx hb d_La_law_908 (by decide) (fun _ => ?_) (fun z => absurd rfl z)
    refine lv_goto (tgt := 1145) hx hb d_La_law_913 (by decide) ?_
    exact kk _ _ _ _ _ _ hm.2.2.1 hm.2.2.2 hL hS (lv_sub hl [2, 3, 4, 5, 6] rfl)
set_option maxHeartbeats 4000000 in
theorem lc_close (hlt : l.stackTraces = false) {aK aV : Nat → Nat} (hs : SX S0 aK aV) (hz0 : (Term.string R_Sy 142).eval A0 S0 none [] S0 = some (.ref (aK 0))) (hz1 : (Term.string R_Sy 273).eval A0 S0 none [] S0 = some (.ref (aK 1))) (C0 : Cl S0 A0 D ar base p s m c code 7) (hX : va_X b L xs s s.heap) (hbl : b < s.heap.size) (hbA : ¬ nB base b) (hi : IV σ) (hr : RL σ τ) (hL : LWd D ar base σ τ v H) (hS : va_S (nB base) s.heap H locs) (h1 : vp_in (i + 1) L) (h2 : vp_in (i + 2) L) (h3 : vp_in (i + 3) L) (h4 : vp_in (i + 4) L) (hl : lv_has ls 7 (lvL base b i)) (hR : 50 ≤ R.frames ∧ 2000 ≤ R.locals) (hf : cells + 1 ≤ R.cells ∧ slots + 6 ≤ R.slots)
    (kk : Kon D ar base b i p l e R s m args below meth c cells slots Q) : W p l e R s m args below meth c H locs cells slots Q (F0 m 916 ls []) := by
  obtain ⟨hx, hb, hml, hown, h0, hbase⟩ := id C0
  have hm : Sim w_close (sClose σ (xs (i + 1).toNatClampNeg) (xs (i + 2).toNatClampNeg)) (mClose τ (xs (i + 1).toNatClampNeg) (xs (i + 2).toNatClampNeg)) := sim_close hi hr
  refine lv_aload_n hx hb d_La_law_916 rfl (lv_at hl 3 rfl) ?_
  refine lv_aload_n hx hb d_La_law_917 rfl (lv_at hl 4 rfl) ?_
  refine lv_iload hx hb d_La_law_918 (lv_at hl 0 rfl) ?_
  refine lv_iconst (v := 1) hx hb d_La_law_920 (by decide) ?_
  refine lv_iadd hx hb d_La_law_921 ?_
  refine va_sld hx hb hX hbl hbA hS h1 d_La_law_922 ?_
  refine lv_aload_n hx hb d_La_law_923 rfl (lv_at hl 4 rfl) ?_
  refine lv_iload hx hb d_La_law_924 (lv_at hl 0 rfl) ?_
  refine lv_iconst (v := 2) hx hb d_La_law_926 (by decide) ?_
  refine lv_iadd hx hb d_La_law_927 ?_
  refine va_sld hx hb hX hbl hbA hS h2 d_La_law_928 ?_
  refine lv_aload_n hx hb d_La_law_929 rfl (lv_at hl 1 rfl) ?_
  refine l_wrap C0 hL hS (As := [.ref (base + ad 0 0), .int (xs (i + 1).toNatClampNeg), .int (xs (i + 2).toNatClampNeg), .ref (base + 138)]) (rest := []) k_ml_La_123 k_st_La_close k_cd_La_close k_in_La z_La_close rfl d_La_law_930 (c_La_close hlt (by omega) hi.QW) hl.1 (Nat.le_of_ble_eq_true rfl) ⟨Nat.le_trans (by decide) hR.1, Nat.le_trans (by decide) hR.2⟩ hf (fun w9 σ9 v9 H locs hp hL hS => ?_)
  obtain ⟨rfl, rfl, rfl⟩ := hp
  refine lv_istore (lv' := [(5, .int (w_close (sClose σ (xs (i + 1).toNatClampNeg) (xs (i + 2).toNatClampNeg)).1)), (4, .int i), (3, .ref (base + 138)), (2, .ref (base + 122 + adm 0 0)), (1, .ref (base + ad 0 0)), (0, .ref b)]) hx hb d_La_law_933 hl (by decide) rfl (fun ls hl => ?_)
  refine lv_aload_n hx hb d_La_law_935 rfl (lv_at hl 3 rfl) ?_
  refine lv_aload_n hx hb d_La_law_936 rfl (lv_at hl 5 rfl) ?_
  refine lv_iload hx hb d_La_law_937 (lv_at hl 1 rfl) ?_
  refine lv_iconst (v := 1) hx hb d_La_law_939 (by decide) ?_
  refine lv_iadd hx hb d_La_law_940 ?_
  refine va_sld hx hb hX hbl hbA hS h1 d_La_law_941 ?_
  refine lv_aload_n hx hb d_La_law_942 rfl (lv_at hl 5 rfl) ?_
  refine lv_iload hx hb d_La_law_943 (lv_at hl 1 rfl) ?_
  refine lv_iconst (v := 2) hx hb d_La_law_945 (by decide) ?_
  refine lv_iadd hx hb d_La_law_946 ?_
  refine va_sld hx hb hX hbl hbA hS h2 d_La_law_947 ?_
  refine l_mod C0 hL hS (As := [.int (xs (i + 1).toNatClampNeg), .int (xs (i + 2).toNatClampNeg)]) (rest := []) k_ml_La_125 k_im_Mo_close k_sl_Mo_Mo_close k_cd_Mo_close k_in_Mo z_Mo_close rfl d_La_law_948 (c_Mo_close hlt (hr.J hi)) (fun k r σ h => h.1) hl.1 (Nat.le_of_ble_eq_true rfl) ⟨Nat.le_trans (by decide) hR.1, Nat.le_trans (by decide) hR.2⟩ hf (fun r9 τ9 H locs hp hL hS => ?_)
  obtain ⟨-, rfl, rfl⟩ := hp
  refine W.eq (g2 := F0 m 951 ls [.int (mClose τ (xs (i + 1).toNatClampNeg) (xs (i + 2).toNatClampNeg)).1]) rfl ?_
  refine lv_istore (lv' := [(6, .int ((mClose τ (xs (i + 1).toNatClampNeg) (xs (i + 2).toNatClampNeg)).1)), (5, .int (w_close (sClose σ (xs (i + 1).toNatClampNeg) (xs (i + 2).toNatClampNeg)).1)), (4, .int i), (3, .ref (base + 138)), (2, .ref (base + 122 + adm 0 0)), (1, .ref (base + ad 0 0)), (0, .ref b)]) hx hb d_La_law_951 hl (by decide) rfl (fun ls hl => ?_)
  refine lv_aload_n hx hb d_La_law_953 rfl (lv_at hl 4 rfl) ?_
  refine l_modP C0 hL hS (As := []) (rest := []) k_ml_La_81 k_im_Mo_thrown k_sl_Mo_Mo_thrown k_cd_Mo_thrown k_in_Mo z_Mo_thrown rfl d_La_law_954 (c_Mo_thrown hlt) (fun k r h => h.1) hl.1 (Nat.le_of_ble_eq_true rfl) ⟨Nat.le_trans (by decide) hR.1, Nat.le_trans (by decide) hR.2⟩ hf (fun r9 H locs hp hL hS => ?_)
  obtain ⟨-, rfl⟩ := hp
  refine W.eq (g2 := F0 m 957 ls [.int ((mClose τ (xs (i + 1).toNatClampNeg) (xs (i + 2).toNatClampNeg)).2 0 0 1)]) rfl ?_
  refine lv_iload hx hb d_La_law_957 (lv_at hl 1 rfl) ?_
  refine lv_icmp_eq (tgt := 964) hx hb d_La_law_959 (by decide) (fun _ => ?_) (fun c9 => absurd hm.1.symm c9)
  refine lv_iload hx hb d_La_law_964 (lv_at hl 1 rfl) ?_
  refine lv_if_ne (tgt := 981) hx hb d_La_law_966 (by decide) (fun _ => ?_) (fun c9 => ?_)
  · skip
    refine lv_goto (tgt := 1145) hx hb d_La_law_981 (by decide) ?_
    exact kk _ _ _ _ _ _ hm.2.2.1 hm.2.2.2 hL hS (lv_sub hl [2, 3, 4, 5, 6] rfl)
  · skip
    refine lv_aload_n hx hb d_La_law_969 rfl (lv_at hl 3 rfl) ?_
    refine lv_iconst (v := 0) hx hb d_La_law_970 (by decide) ?_
    refine va_lald hx hb h0.K hL.2.2 0 6 (wl_get (by decide)) rfl (by unfold vp_in; decide) d_La_law_971 ?_
    refine lv_iload hx hb d_La_law_972 (lv_at hl 0 rfl) ?_
    refine lv_i2l hx hb d_La_law_974 rfl ?_
    refine W.lcmp hx hb d_La_law_975 ?_
    rw [w0_close hm c9, lcmp_self]
    refine lv_if_eq (tgt := 981) hx hb d_La_law_976 (by decide) (fun _ => ?_) (fun z => absurd rfl z)
    refine lv_goto (tgt := 1145) hx hb d_La_law_981 (by decide) ?_
    exact kk _ _ _ _ _ _ hm.2.2.1 hm.2.2.2 hL hS (lv_sub hl [2, 3, 4, 5, 6] rfl)
set_option maxHeartbeats 4000000 in
theorem lc_ofBlock (hlt : l.stackTraces = false) {aK aV : Nat → Nat} (hs : SX S0 aK aV) (hz0 : (Term.string R_Sy 142).eval A0 S0 none [] S0 = some (.ref (aK 0))) (hz1 : (Term.string R_Sy 273).eval A0 S0 none [] S0 = some (.ref (aK 1))) (C0 : Cl S0 A0 D ar base p s m c code 7) (hX : va_X b L xs s s.heap) (hbl : b < s.heap.size) (hbA : ¬ nB base b) (hi : IV σ) (hr : RL σ τ) (hL : LWd D ar base σ τ v H) (hS : va_S (nB base) s.heap H locs) (h1 : vp_in (i + 1) L) (h2 : vp_in (i + 2) L) (h3 : vp_in (i + 3) L) (h4 : vp_in (i + 4) L) (hl : lv_has ls 7 (lvL base b i)) (hR : 50 ≤ R.frames ∧ 2000 ≤ R.locals) (hf : cells + 1 ≤ R.cells ∧ slots + 6 ≤ R.slots)
    (kk : Kon D ar base b i p l e R s m args below meth c cells slots Q) : W p l e R s m args below meth c H locs cells slots Q (F0 m 984 ls []) := by
  obtain ⟨hx, hb, hml, hown, h0, hbase⟩ := id C0
  have hm : Sim w_ofBlock (sOfBlock σ (xs (i + 1).toNatClampNeg) (xs (i + 2).toNatClampNeg)) (mOfB τ (xs (i + 1).toNatClampNeg) (xs (i + 2).toNatClampNeg)) := sim_ofBlock hi hr
  refine lv_aload_n hx hb d_La_law_984 rfl (lv_at hl 3 rfl) ?_
  refine lv_aload_n hx hb d_La_law_985 rfl (lv_at hl 4 rfl) ?_
  refine lv_iload hx hb d_La_law_986 (lv_at hl 0 rfl) ?_
  refine lv_iconst (v := 1) hx hb d_La_law_988 (by decide) ?_
  refine lv_iadd hx hb d_La_law_989 ?_
  refine va_sld hx hb hX hbl hbA hS h1 d_La_law_990 ?_
  refine lv_aload_n hx hb d_La_law_991 rfl (lv_at hl 4 rfl) ?_
  refine lv_iload hx hb d_La_law_992 (lv_at hl 0 rfl) ?_
  refine lv_iconst (v := 2) hx hb d_La_law_994 (by decide) ?_
  refine lv_iadd hx hb d_La_law_995 ?_
  refine va_sld hx hb hX hbl hbA hS h2 d_La_law_996 ?_
  refine lv_aload_n hx hb d_La_law_997 rfl (lv_at hl 1 rfl) ?_
  refine l_wrap C0 hL hS (As := [.ref (base + ad 0 0), .int (xs (i + 1).toNatClampNeg), .int (xs (i + 2).toNatClampNeg), .ref (base + 138)]) (rest := []) k_ml_La_126 k_st_La_ofBlock k_cd_La_ofBlock k_in_La z_La_ofBlock rfl d_La_law_998 (c_La_ofBlock hlt (by omega) ) hl.1 (Nat.le_of_ble_eq_true rfl) ⟨Nat.le_trans (by decide) hR.1, Nat.le_trans (by decide) hR.2⟩ hf (fun w9 σ9 v9 H locs hp hL hS => ?_)
  obtain ⟨rfl, rfl, rfl⟩ := hp
  refine lv_istore (lv' := [(5, .int (w_ofBlock (sOfBlock σ (xs (i + 1).toNatClampNeg) (xs (i + 2).toNatClampNeg)).1)), (4, .int i), (3, .ref (base + 138)), (2, .ref (base + 122 + adm 0 0)), (1, .ref (base + ad 0 0)), (0, .ref b)]) hx hb d_La_law_1001 hl (by decide) rfl (fun ls hl => ?_)
  refine lv_aload_n hx hb d_La_law_1003 rfl (lv_at hl 3 rfl) ?_
  refine lv_aload_n hx hb d_La_law_1004 rfl (lv_at hl 5 rfl) ?_
  refine lv_iload hx hb d_La_law_1005 (lv_at hl 1 rfl) ?_
  refine lv_iconst (v := 1) hx hb d_La_law_1007 (by decide) ?_
  refine lv_iadd hx hb d_La_law_1008 ?_
  refine va_sld hx hb hX hbl hbA hS h1 d_La_law_1009 ?_
  refine lv_aload_n hx hb d_La_law_1010 rfl (lv_at hl 5 rfl) ?_
  refine lv_iload hx hb d_La_law_1011 (lv_at hl 1 rfl) ?_
  refine lv_iconst (v := 2) hx hb d_La_law_1013 (by decide) ?_
  refine lv_iadd hx hb d_La_law_1014 ?_
  refine va_sld hx hb hX hbl hbA hS h2 d_La_law_1015 ?_
  refine l_mod C0 hL hS (As := [.int (xs (i + 1).toNatClampNeg), .int (xs (i + 2).toNatClampNeg)]) (rest := []) k_ml_La_128 k_im_Mo_ofBlock k_sl_Mo_Mo_ofBlock k_cd_Mo_ofBlock k_in_Mo z_Mo_ofBlock rfl d_La_law_1016 (c_Mo_ofBlock hlt ) (fun k r σ h => h.1) hl.1 (Nat.le_of_ble_eq_true rfl) ⟨Nat.le_trans (by decide) hR.1, Nat.le_trans (by decide) hR.2⟩ hf (fun r9 τ9 H locs hp hL hS => ?_)
  obtain ⟨-, rfl, rfl⟩ := hp
  refine W.eq (g2 := F0 m 1019 ls [.int (mOfB τ (xs (i + 1).toNatClampNeg) (xs (i + 2).toNatClampNeg)).1]) rfl ?_
  refine lv_istore (lv' := [(6, .int ((mOfB τ (xs (i + 1).toNatClampNeg) (xs (i + 2).toNatClampNeg)).1)), (5, .int (w_ofBlock (sOfBlock σ (xs (i + 1).toNatClampNeg) (xs (i + 2).toNatClampNeg)).1)), (4, .int i), (3, .ref (base + 138)), (2, .ref (base + 122 + adm 0 0)), (1, .ref (base + ad 0 0)), (0, .ref b)]) hx hb d_La_law_1019 hl (by decide) rfl (fun ls hl => ?_)
  refine lv_aload_n hx hb d_La_law_1021 rfl (lv_at hl 4 rfl) ?_
  refine l_modP C0 hL hS (As := []) (rest := []) k_ml_La_81 k_im_Mo_thrown k_sl_Mo_Mo_thrown k_cd_Mo_thrown k_in_Mo z_Mo_thrown rfl d_La_law_1022 (c_Mo_thrown hlt) (fun k r h => h.1) hl.1 (Nat.le_of_ble_eq_true rfl) ⟨Nat.le_trans (by decide) hR.1, Nat.le_trans (by decide) hR.2⟩ hf (fun r9 H locs hp hL hS => ?_)
  obtain ⟨-, rfl⟩ := hp
  refine W.eq (g2 := F0 m 1025 ls [.int ((mOfB τ (xs (i + 1).toNatClampNeg) (xs (i + 2).toNatClampNeg)).2 0 0 1)]) rfl ?_
  refine lv_iload hx hb d_La_law_1025 (lv_at hl 1 rfl) ?_
  refine lv_icmp_eq (tgt := 1032) hx hb d_La_law_1027 (by decide) (fun _ => ?_) (fun c9 => absurd hm.1.symm c9)
  refine lv_iload hx hb d_La_law_1032 (lv_at hl 1 rfl) ?_
  refine lv_if_ne (tgt := 1049) hx hb d_La_law_1034 (by decide) (fun _ => ?_) (fun c9 => ?_)
  · skip
    refine lv_goto (tgt := 1145) hx hb d_La_law_1049 (by decide) ?_
    exact kk _ _ _ _ _ _ hm.2.2.1 hm.2.2.2 hL hS (lv_sub hl [2, 3, 4, 5, 6] rfl)
  · skip
    refine lv_aload_n hx hb d_La_law_1037 rfl (lv_at hl 3 rfl) ?_
    refine lv_iconst (v := 0) hx hb d_La_law_1038 (by decide) ?_
    refine va_lald hx hb h0.K hL.2.2 0 6 (wl_get (by decide)) rfl (by unfold vp_in; decide) d_La_law_1039 ?_
    refine lv_iload hx hb d_La_law_1040 (lv_at hl 0 rfl) ?_
    refine lv_i2l hx hb d_La_law_1042 rfl ?_
    refine W.lcmp hx hb d_La_law_1043 ?_
    rw [w0_ofBlock hm c9, lcmp_self]
    refine lv_if_eq (tgt := 1049) hx hb d_La_law_1044 (by decide) (fun _ => ?_) (fun z => absurd rfl z)
    refine lv_goto (tgt := 1145) hx hb d_La_law_1049 (by decide) ?_
    exact kk _ _ _ _ _ _ hm.2.2.1 hm.2.2.2 hL hS (lv_sub hl [2, 3, 4, 5, 6] rfl)
set_option maxHeartbeats 4000000 in
theorem lc_ofEnd (hlt : l.stackTraces = false) {aK aV : Nat → Nat} (hs : SX S0 aK aV) (hz0 : (Term.string R_Sy 142).eval A0 S0 none [] S0 = some (.ref (aK 0))) (hz1 : (Term.string R_Sy 273).eval A0 S0 none [] S0 = some (.ref (aK 1))) (C0 : Cl S0 A0 D ar base p s m c code 7) (hX : va_X b L xs s s.heap) (hbl : b < s.heap.size) (hbA : ¬ nB base b) (hi : IV σ) (hr : RL σ τ) (hL : LWd D ar base σ τ v H) (hS : va_S (nB base) s.heap H locs) (h1 : vp_in (i + 1) L) (h2 : vp_in (i + 2) L) (h3 : vp_in (i + 3) L) (h4 : vp_in (i + 4) L) (hl : lv_has ls 7 (lvL base b i)) (hR : 50 ≤ R.frames ∧ 2000 ≤ R.locals) (hf : cells + 1 ≤ R.cells ∧ slots + 6 ≤ R.slots)
    (kk : Kon D ar base b i p l e R s m args below meth c cells slots Q) : W p l e R s m args below meth c H locs cells slots Q (F0 m 1052 ls []) := by
  obtain ⟨hx, hb, hml, hown, h0, hbase⟩ := id C0
  have hm : Sim w_ofEnd (sOfEnd σ (xs (i + 1).toNatClampNeg) (xs (i + 2).toNatClampNeg)) (mOfE τ (xs (i + 1).toNatClampNeg) (xs (i + 2).toNatClampNeg)) := sim_ofEnd hi hr
  refine lv_aload_n hx hb d_La_law_1052 rfl (lv_at hl 3 rfl) ?_
  refine lv_aload_n hx hb d_La_law_1053 rfl (lv_at hl 4 rfl) ?_
  refine lv_iload hx hb d_La_law_1054 (lv_at hl 0 rfl) ?_
  refine lv_iconst (v := 1) hx hb d_La_law_1056 (by decide) ?_
  refine lv_iadd hx hb d_La_law_1057 ?_
  refine va_sld hx hb hX hbl hbA hS h1 d_La_law_1058 ?_
  refine lv_aload_n hx hb d_La_law_1059 rfl (lv_at hl 4 rfl) ?_
  refine lv_iload hx hb d_La_law_1060 (lv_at hl 0 rfl) ?_
  refine lv_iconst (v := 2) hx hb d_La_law_1062 (by decide) ?_
  refine lv_iadd hx hb d_La_law_1063 ?_
  refine va_sld hx hb hX hbl hbA hS h2 d_La_law_1064 ?_
  refine lv_aload_n hx hb d_La_law_1065 rfl (lv_at hl 1 rfl) ?_
  refine l_wrap C0 hL hS (As := [.ref (base + ad 0 0), .int (xs (i + 1).toNatClampNeg), .int (xs (i + 2).toNatClampNeg), .ref (base + 138)]) (rest := []) k_ml_La_129 k_st_La_ofEnd k_cd_La_ofEnd k_in_La z_La_ofEnd rfl d_La_law_1066 (c_La_ofEnd hlt (by omega) ) hl.1 (Nat.le_of_ble_eq_true rfl) ⟨Nat.le_trans (by decide) hR.1, Nat.le_trans (by decide) hR.2⟩ hf (fun w9 σ9 v9 H locs hp hL hS => ?_)
  obtain ⟨rfl, rfl, rfl⟩ := hp
  refine lv_istore (lv' := [(5, .int (w_ofEnd (sOfEnd σ (xs (i + 1).toNatClampNeg) (xs (i + 2).toNatClampNeg)).1)), (4, .int i), (3, .ref (base + 138)), (2, .ref (base + 122 + adm 0 0)), (1, .ref (base + ad 0 0)), (0, .ref b)]) hx hb d_La_law_1069 hl (by decide) rfl (fun ls hl => ?_)
  refine lv_aload_n hx hb d_La_law_1071 rfl (lv_at hl 3 rfl) ?_
  refine lv_aload_n hx hb d_La_law_1072 rfl (lv_at hl 5 rfl) ?_
  refine lv_iload hx hb d_La_law_1073 (lv_at hl 1 rfl) ?_
  refine lv_iconst (v := 1) hx hb d_La_law_1075 (by decide) ?_
  refine lv_iadd hx hb d_La_law_1076 ?_
  refine va_sld hx hb hX hbl hbA hS h1 d_La_law_1077 ?_
  refine lv_aload_n hx hb d_La_law_1078 rfl (lv_at hl 5 rfl) ?_
  refine lv_iload hx hb d_La_law_1079 (lv_at hl 1 rfl) ?_
  refine lv_iconst (v := 2) hx hb d_La_law_1081 (by decide) ?_
  refine lv_iadd hx hb d_La_law_1082 ?_
  refine va_sld hx hb hX hbl hbA hS h2 d_La_law_1083 ?_
  refine l_mod C0 hL hS (As := [.int (xs (i + 1).toNatClampNeg), .int (xs (i + 2).toNatClampNeg)]) (rest := []) k_ml_La_131 k_im_Mo_ofEnd k_sl_Mo_Mo_ofEnd k_cd_Mo_ofEnd k_in_Mo z_Mo_ofEnd rfl d_La_law_1084 (c_Mo_ofEnd hlt ) (fun k r σ h => h.1) hl.1 (Nat.le_of_ble_eq_true rfl) ⟨Nat.le_trans (by decide) hR.1, Nat.le_trans (by decide) hR.2⟩ hf (fun r9 τ9 H locs hp hL hS => ?_)
  obtain ⟨-, rfl, rfl⟩ := hp
  refine W.eq (g2 := F0 m 1087 ls [.int (mOfE τ (xs (i + 1).toNatClampNeg) (xs (i + 2).toNatClampNeg)).1]) rfl ?_
  refine lv_istore (lv' := [(6, .int ((mOfE τ (xs (i + 1).toNatClampNeg) (xs (i + 2).toNatClampNeg)).1)), (5, .int (w_ofEnd (sOfEnd σ (xs (i + 1).toNatClampNeg) (xs (i + 2).toNatClampNeg)).1)), (4, .int i), (3, .ref (base + 138)), (2, .ref (base + 122 + adm 0 0)), (1, .ref (base + ad 0 0)), (0, .ref b)]) hx hb d_La_law_1087 hl (by decide) rfl (fun ls hl => ?_)
  refine lv_aload_n hx hb d_La_law_1089 rfl (lv_at hl 4 rfl) ?_
  refine l_modP C0 hL hS (As := []) (rest := []) k_ml_La_81 k_im_Mo_thrown k_sl_Mo_Mo_thrown k_cd_Mo_thrown k_in_Mo z_Mo_thrown rfl d_La_law_1090 (c_Mo_thrown hlt) (fun k r h => h.1) hl.1 (Nat.le_of_ble_eq_true rfl) ⟨Nat.le_trans (by decide) hR.1, Nat.le_trans (by decide) hR.2⟩ hf (fun r9 H locs hp hL hS => ?_)
  obtain ⟨-, rfl⟩ := hp
  refine W.eq (g2 := F0 m 1093 ls [.int ((mOfE τ (xs (i + 1).toNatClampNeg) (xs (i + 2).toNatClampNeg)).2 0 0 1)]) rfl ?_
  refine lv_iload hx hb d_La_law_1093 (lv_at hl 1 rfl) ?_
  refine lv_icmp_eq (tgt := 1100) hx hb d_La_law_1095 (by decide) (fun _ => ?_) (fun c9 => absurd hm.1.symm c9)
  refine lv_iload hx hb d_La_law_1100 (lv_at hl 1 rfl) ?_
  refine lv_if_ne (tgt := 1117) hx hb d_La_law_1102 (by decide) (fun _ => ?_) (fun c9 => ?_)
  · skip
    refine lv_goto (tgt := 1145) hx hb d_La_law_1117 (by decide) ?_
    exact kk _ _ _ _ _ _ hm.2.2.1 hm.2.2.2 hL hS (lv_sub hl [2, 3, 4, 5, 6] rfl)
  · skip
    refine lv_aload_n hx hb d_La_law_1105 rfl (lv_at hl 3 rfl) ?_
    refine lv_iconst (v := 0) hx hb d_La_law_1106 (by decide) ?_
    refine va_lald hx hb h0.K hL.2.2 0 6 (wl_get (by decide)) rfl (by unfold vp_in; decide) d_La_law_1107 ?_
    refine lv_iload hx hb d_La_law_1108 (lv_at hl 0 rfl) ?_
    refine lv_i2l hx hb d_La_law_1110 rfl ?_
    refine W.lcmp hx hb d_La_law_1111 ?_
    rw [w0_ofEnd hm c9, lcmp_self]
    refine lv_if_eq (tgt := 1117) hx hb d_La_law_1112 (by decide) (fun _ => ?_) (fun z => absurd rfl z)
    refine lv_goto (tgt := 1145) hx hb d_La_law_1117 (by decide) ?_
    exact kk _ _ _ _ _ _ hm.2.2.1 hm.2.2.2 hL hS (lv_sub hl [2, 3, 4, 5, 6] rfl)
set_option maxHeartbeats 4000000 in
theorem lc_count (hlt : l.stackTraces = false) (C0 : Cl S0 A0 D ar base p s m c code 7) (hX : va_X b L xs s s.heap) (hbl : b < s.heap.size) (hbA : ¬ nB base b) (hi : IV σ) (hr : RL σ τ) (hL : LWd D ar base σ τ v H) (hS : va_S (nB base) s.heap H locs) (h1 : vp_in (i + 1) L) (hl : lv_has ls 7 (lvL base b i)) (hR : 50 ≤ R.frames ∧ 2000 ≤ R.locals) (hf : cells + 1 ≤ R.cells ∧ slots + 6 ≤ R.slots)
    (kk : Kon D ar base b i p l e R s m args below meth c cells slots Q) : W p l e R s m args below meth c H locs cells slots Q (F0 m 1120 ls []) := by
  obtain ⟨hx, hb, hml, hown, h0, hbase⟩ := id C0
  have hm := sim_count (x := (xs (i + 1).toNatClampNeg)) hi hr
  refine lv_aload_n hx hb d_La_law_1120 rfl (lv_at hl 3 rfl) ?_
  refine lv_aload_n hx hb d_La_law_1121 rfl (lv_at hl 4 rfl) ?_
  refine lv_iload hx hb d_La_law_1122 (lv_at hl 0 rfl) ?_
  refine lv_iconst (v := 1) hx hb d_La_law_1124 (by decide) ?_
  refine lv_iadd hx hb d_La_law_1125 ?_
  refine va_sld hx hb hX hbl hbA hS h1 d_La_law_1126 ?_
  refine l_cls C0 hL hS (As := [.int (xs (i + 1).toNatClampNeg)]) (rest := []) k_ml_La_132 k_im_Sy_count k_sl_Sy_Sy_count k_cd_Sy_count k_in_Sy z_Sy_count rfl d_La_law_1127 (c_Sy_count hlt) (fun k r σ h => congrArg (·.1) h) hl.1 (Nat.le_of_ble_eq_true rfl) ⟨Nat.le_trans (by decide) hR.1, Nat.le_trans (by decide) hR.2⟩ hf (fun r9 σ9 H locs hp hL hS => ?_)
  have e1 : r9 = some (cntF σ (xs (i + 1).toNatClampNeg)) := congrArg (·.2.1) hp
  have e2 : σ9 = σ := congrArg (·.2.2) hp
  subst e1
  rw [e2] at hL
  refine W.eq (g2 := F0 m 1130 ls [.int (cntF σ (xs (i + 1).toNatClampNeg))]) rfl ?_
  refine lv_aload_n hx hb d_La_law_1130 rfl (lv_at hl 2 rfl) ?_
  refine lv_aload_n hx hb d_La_law_1131 rfl (lv_at hl 4 rfl) ?_
  refine lv_iload hx hb d_La_law_1132 (lv_at hl 0 rfl) ?_
  refine lv_iconst (v := 1) hx hb d_La_law_1134 (by decide) ?_
  refine lv_iadd hx hb d_La_law_1135 ?_
  refine va_sld hx hb hX hbl hbA hS h1 d_La_law_1136 ?_
  refine l_mod C0 hL hS (As := [.int (xs (i + 1).toNatClampNeg)]) (rest := [.int (cntF σ (xs (i + 1).toNatClampNeg))]) k_ml_La_135 k_im_Mo_count k_sl_Mo_Mo_count k_cd_Mo_count k_in_Mo z_Mo_count rfl d_La_law_1137 (c_Mo_count hlt) (fun k r σ h => h.1) hl.1 (Nat.le_of_ble_eq_true rfl) ⟨Nat.le_trans (by decide) hR.1, Nat.le_trans (by decide) hR.2⟩ hf (fun r9 τ9 H locs hp hL hS => ?_)
  obtain ⟨-, rfl, rfl⟩ := hp
  refine W.eq (g2 := F0 m 1140 ls [.int (mCount τ (xs (i + 1).toNatClampNeg)).1, .int (cntF σ (xs (i + 1).toNatClampNeg))]) rfl ?_
  refine lv_icmp_eq (tgt := 1145) hx hb d_La_law_1140 (by decide) (fun _ => ?_) (fun c9 => absurd hm.1 c9)
  exact kk _ _ _ _ _ _ hi hm.2.1 hL hS hl
end LCase
