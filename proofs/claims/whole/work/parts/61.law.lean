/-! The law's wrappers: laid by gen/m61.py. -/
def rmW : Room := { frames := 42, cells := 1, slots := 6, locals := 1300 }
/-- what out holds behind a wrapper -/
def outV (k : Nat) (r : Option Int32) (v : Int64) : Int64 := if k = 0 then (r.map Int32.toInt64).getD v else v
theorem kOwnB_k {σ : Mem} {q b : Int32} : kOwnB σ q b = 0 ∨ kOwnB σ q b = 1 ∨ kOwnB σ q b = 2 := by
  unfold kOwnB
  repeat' split
  all_goals simp
theorem kOwnE_k {σ : Mem} {q b : Int32} : kOwnE σ q b = 0 ∨ kOwnE σ q b = 1 ∨ kOwnE σ q b = 2 := by
  unfold kOwnE
  repeat' split
  all_goals simp
theorem kCell_k {σ : Mem} {b : Nat} {i : Int32} : kCell σ b i = 0 ∨ kCell σ b i = 3 := by
  unfold kCell
  repeat' split
  all_goals simp
theorem kLoad_k {σ : Mem} {q x lt v : Int32} : kLoad σ q x lt v = 0 ∨ kLoad σ q x lt v = 2 := by
  unfold kLoad
  repeat' split
  all_goals simp
theorem stL_k {σ : Mem} : ∀ n k, ((stL σ n k).1 = 0 ∧ ∃ x, (stL σ n k).2.1 = some x) ∨ (stL σ n k).1 = 4 := by
  intro n
  induction n with
  | zero => intro k; exact Or.inr rfl
  | succ n ih =>
    intro k
    unfold stL
    split
    · exact Or.inl ⟨rfl, _, rfl⟩
    · exact ih _
theorem chL_k {σ : Mem} {q mask : Int32} : ∀ n k, ((chL σ q mask n k).1 = 0 ∧ ∃ x, (chL σ q mask n k).2.1 = some x) ∨ (chL σ q mask n k).1 = 3 := by
  intro n
  induction n with
  | zero => intro k; exact Or.inr rfl
  | succ n ih =>
    intro k
    unfold chL
    split
    · exact Or.inl ⟨rfl, _, rfl⟩
    · exact ih _
theorem k_ca_1 : Cond.castable "java/lang/IllegalArgumentException" "java/lang/IllegalArgumentException" ∈ lw_tbl := List.mem_append_right _ (List.mem_of_getElem? (i := 197) (by decide +kernel))
theorem k_ca_2 : Cond.castable "java/lang/IllegalStateException" "java/lang/IllegalStateException" ∈ lw_tbl := List.mem_append_right _ (List.mem_of_getElem? (i := 425) (by decide +kernel))
theorem k_ca_3 : Cond.castable "java/util/NoSuchElementException" "java/util/NoSuchElementException" ∈ lw_tbl := List.mem_append_right _ (List.mem_of_getElem? (i := 502) (by decide +kernel))
theorem k_ca_4 : Cond.castable "java/lang/UnsupportedOperationException" "java/lang/UnsupportedOperationException" ∈ lw_tbl := List.mem_append_right _ (List.mem_of_getElem? (i := 266) (by decide +kernel))
theorem k_nc_12 : Cond.not (.castable "java/lang/IllegalArgumentException" "java/lang/IllegalStateException") ∈ flatC (Jvm.Cond.and given_1 narrow_1) := by decide +kernel
theorem k_nc_13 : Cond.not (.castable "java/lang/IllegalArgumentException" "java/util/NoSuchElementException") ∈ flatC (Jvm.Cond.and given_1 narrow_1) := by decide +kernel
theorem k_nc_14 : Cond.not (.castable "java/lang/IllegalArgumentException" "java/lang/UnsupportedOperationException") ∈ flatC (Jvm.Cond.and given_1 narrow_1) := by decide +kernel
theorem k_nc_21 : Cond.not (.castable "java/lang/IllegalStateException" "java/lang/IllegalArgumentException") ∈ flatC (Jvm.Cond.and given_1 narrow_1) := by decide +kernel
theorem k_nc_23 : Cond.not (.castable "java/lang/IllegalStateException" "java/util/NoSuchElementException") ∈ flatC (Jvm.Cond.and given_1 narrow_1) := by decide +kernel
theorem k_nc_24 : Cond.not (.castable "java/lang/IllegalStateException" "java/lang/UnsupportedOperationException") ∈ flatC (Jvm.Cond.and given_1 narrow_1) := by decide +kernel
theorem k_nc_31 : Cond.not (.castable "java/util/NoSuchElementException" "java/lang/IllegalArgumentException") ∈ flatC (Jvm.Cond.and given_1 narrow_1) := by decide +kernel
theorem k_nc_32 : Cond.not (.castable "java/util/NoSuchElementException" "java/lang/IllegalStateException") ∈ flatC (Jvm.Cond.and given_1 narrow_1) := by decide +kernel
theorem k_nc_34 : Cond.not (.castable "java/util/NoSuchElementException" "java/lang/UnsupportedOperationException") ∈ flatC (Jvm.Cond.and given_1 narrow_1) := by decide +kernel
theorem k_nc_41 : Cond.not (.castable "java/lang/UnsupportedOperationException" "java/lang/IllegalArgumentException") ∈ flatC (Jvm.Cond.and given_1 narrow_1) := by decide +kernel
theorem k_nc_42 : Cond.not (.castable "java/lang/UnsupportedOperationException" "java/lang/IllegalStateException") ∈ flatC (Jvm.Cond.and given_1 narrow_1) := by decide +kernel
theorem k_nc_43 : Cond.not (.castable "java/lang/UnsupportedOperationException" "java/util/NoSuchElementException") ∈ flatC (Jvm.Cond.and given_1 narrow_1) := by decide +kernel
theorem sType_k {σ : Mem} {x : Int64} : ((sType σ x).1 = 0 ∧ ∃ y9, (sType σ x).2.1 = some y9) ∨ (sType σ x).1 = 1 ∨ (sType σ x).1 = 4 := by
  unfold sType
  repeat' split
  all_goals simp_all
def w_type (k : Nat) : Int32 := (if k = 0 then 0 else if k = 1 then 1 else if k = 4 then 2 else 0)
set_option maxHeartbeats 4000000 in
theorem c_La_type {S0 : State} {A0 : Array Value} {D : va_G} {ar : Nat → ClassId} {base ob : Nat} {σ : Mem} {v : Int64} {l : Launch} (hlt : l.stackTraces = false) (hob : base + 122 ≤ ob) (htw : TW σ) {x : Int64} :
    MX l y_La_type [Cond.codeWith y_La_type b_La_type 5 (some .int) [(0, 9, 12, 13), (0, 9, 16, 15)]] rmW (PW S0 A0 D ar base ob σ v [.ref (base + ad 0 0), .long x, .ref ob]) (QWr D ar base ob (fun w σ' v' => w = w_type (sType σ x).1 ∧ σ' = (sType σ x).2.2 ∧ v' = outV (sType σ x).1 (sType σ x).2.1 v)) (wF base ob) := by
  refine w_head hob rfl (Nat.le_of_ble_eq_true rfl) ?_
  intro p ev s m below meth c ls C0 hP hO hl
  obtain ⟨hx, hb, hr, hml, hown, hlk, -⟩ := id C0
  have hl : lv_has ls 5 [(0, .ref (base + ad 0 0)), (1, .long x), (3, .ref ob)] := hl
  refine lv_aload_n hx hb d_La_type_0 rfl (lv_at hl 2 rfl) ?_
  refine lv_iconst (v := 0) hx hb d_La_type_1 (by decide) ?_
  refine lv_aload_n hx hb d_La_type_2 rfl (lv_at hl 0 rfl) ?_
  refine lv_lload_n hx hb d_La_type_3 rfl (lv_at hl 1 rfl) ?_
  refine w_call C0 hP hO (As := [.long x]) k_ml_La_7 k_im_Sy_type k_sl_Sy_Sy_type k_cd_Sy_type k_in_Sy z_Sy_type rfl d_La_type_4 (c_Sy_type hlt htw) hl.1 (Nat.le_of_ble_eq_true rfl) ⟨by decide, by decide⟩ ⟨by decide, by decide⟩ (fun r σ1 H locs hp hP1 hO1 hS => ?_) (fun k r σ1 x9 H locs hk hp hx9 hP1 hO1 hS => ?_)
  · skip
    have h1 : (sType σ x).1 = 0 := (congrArg (·.1) hp).symm
    have h2 : (sType σ x).2.1 = r := (congrArg (·.2.1) hp).symm
    have h3 : (sType σ x).2.2 = σ1 := (congrArg (·.2.2) hp).symm
    have h4 : ∃ y9, (sType σ x).2.1 = some y9 := by rcases sType_k (σ := σ) (x := x) with e9 | e9 | e9 <;> first | exact e9.2 | omega
    obtain ⟨rr, h4⟩ := h4
    rw [h2] at h4
    subst h4
    refine lv_i2l hx hb d_La_type_7 rfl ?_
    refine w_last C0 hP1 hO1 hS d_La_type_8 (fun H locs hP1 hO1 hS => ?_)
    refine lv_goto (tgt := 20) hx hb d_La_type_9 (by decide) ?_
    refine lv_iconst (v := 0) hx hb d_La_type_20 (by decide) ?_
    exact W.widen (by decide) (by decide) (x_iret hx hb hr hlk (fun t ht _ => ⟨_, σ1, rr.toInt64, ⟨by rw [h1]; rfl, h3.symm, by rw [h1, h2]; first | done | rfl⟩, rfl, by rw [ht]; exact hP1, by rw [ht]; exact hO1⟩) hS.2.2 d_La_type_21)
  · skip
    have h1 : (sType σ x).1 = k := (congrArg (·.1) hp).symm
    have h2 : (sType σ x).2.1 = r := (congrArg (·.2.1) hp).symm
    have h3 : (sType σ x).2.2 = σ1 := (congrArg (·.2.2) hp).symm
    have h4 : k = 1 ∨ k = 4 := by rcases sType_k (σ := σ) (x := x) with e9 | e9 | e9 <;> omega
    rcases h4 with rfl | rfl
    · skip
      refine w_catch C0 (E := "java/lang/IllegalArgumentException") (pre' := []) (suf' := [(0, 9, 16, 15)]) (a := 0) (b := 9) (h := 12) (ct := 13) rfl (fun z hz => by cases hz) ⟨by decide, by decide⟩ (by decide) k_cl_La_13 k_ca_1 hx9 ?_
      refine lv_astore (lv' := [(4, .ref x9), (0, .ref (base + ad 0 0)), (1, .long x), (3, .ref ob)]) hx hb d_La_type_12 hl (by decide) rfl (fun ls hl => ?_)
      refine lv_iconst (v := 1) hx hb d_La_type_14 (by decide) ?_
      exact W.widen (by decide) (by decide) (x_iret hx hb hr hlk (fun t ht _ => ⟨_, σ1, v, ⟨by rw [h1]; rfl, h3.symm, by rw [h1]; rfl⟩, rfl, by rw [ht]; exact hP1, by rw [ht]; exact hO1⟩) hS.2.2 d_La_type_15)
    · skip
      refine w_catch C0 (E := "java/lang/UnsupportedOperationException") (pre' := [(0, 9, 12, 13)]) (suf' := []) (a := 0) (b := 9) (h := 16) (ct := 15) rfl (List.forall_mem_cons.mpr ⟨⟨by decide, _, k_cl_La_13, k_nc_41⟩, fun z hz => by cases hz⟩) ⟨by decide, by decide⟩ (by decide) k_cl_La_15 k_ca_4 hx9 ?_
      refine lv_astore (lv' := [(4, .ref x9), (0, .ref (base + ad 0 0)), (1, .long x), (3, .ref ob)]) hx hb d_La_type_16 hl (by decide) rfl (fun ls hl => ?_)
      refine lv_iconst (v := 2) hx hb d_La_type_18 (by decide) ?_
      exact W.widen (by decide) (by decide) (x_iret hx hb hr hlk (fun t ht _ => ⟨_, σ1, v, ⟨by rw [h1]; rfl, h3.symm, by rw [h1]; rfl⟩, rfl, by rw [ht]; exact hP1, by rw [ht]; exact hO1⟩) hS.2.2 d_La_type_19)
theorem sContract_k {σ : Mem} {k0 : Int32} : ((sContract σ k0).1 = 0 ∧ ∃ y9, (sContract σ k0).2.1 = some y9) ∨ (sContract σ k0).1 = 1 := by
  unfold sContract
  repeat' split
  all_goals simp_all
def w_contract (k : Nat) : Int32 := (if k = 0 then 0 else if k = 1 then 1 else 0)
set_option maxHeartbeats 4000000 in
theorem c_La_contract {S0 : State} {A0 : Array Value} {D : va_G} {ar : Nat → ClassId} {base ob : Nat} {σ : Mem} {v : Int64} {l : Launch} (hlt : l.stackTraces = false) (hob : base + 122 ≤ ob) {aK aV : Nat → Nat} (hs : SX S0 aK aV) (hz0 : (Term.string R_Sy 142).eval A0 S0 none [] S0 = some (.ref (aK 0))) (hz1 : (Term.string R_Sy 273).eval A0 S0 none [] S0 = some (.ref (aK 1))) (htw : TW σ) {k0 : Int32} :
    MX l y_La_contract [Cond.codeWith y_La_contract b_La_contract 4 (some .int) [(0, 9, 12, 13)]] rmW (PW S0 A0 D ar base ob σ v [.ref (base + ad 0 0), .int k0, .ref ob]) (QWr D ar base ob (fun w σ' v' => w = w_contract (sContract σ k0).1 ∧ σ' = (sContract σ k0).2.2 ∧ v' = outV (sContract σ k0).1 (sContract σ k0).2.1 v)) (wF base ob) := by
  refine w_head hob rfl (Nat.le_of_ble_eq_true rfl) ?_
  intro p ev s m below meth c ls C0 hP hO hl
  obtain ⟨hx, hb, hr, hml, hown, hlk, -⟩ := id C0
  have hl : lv_has ls 4 [(0, .ref (base + ad 0 0)), (1, .int k0), (2, .ref ob)] := hl
  refine lv_aload_n hx hb d_La_contract_0 rfl (lv_at hl 2 rfl) ?_
  refine lv_iconst (v := 0) hx hb d_La_contract_1 (by decide) ?_
  refine lv_aload_n hx hb d_La_contract_2 rfl (lv_at hl 0 rfl) ?_
  refine lv_iload_n hx hb d_La_contract_3 rfl (lv_at hl 1 rfl) ?_
  refine w_call C0 hP hO (As := [.int k0]) k_ml_La_17 k_im_Sy_contract k_sl_Sy_Sy_contract k_cd_Sy_contract k_in_Sy z_Sy_contract rfl d_La_contract_4 (c_Sy_contract hlt hs hz0 hz1 htw) hl.1 (Nat.le_of_ble_eq_true rfl) ⟨by decide, by decide⟩ ⟨by decide, by decide⟩ (fun r σ1 H locs hp hP1 hO1 hS => ?_) (fun k r σ1 x9 H locs hk hp hx9 hP1 hO1 hS => ?_)
  · skip
    have h1 : (sContract σ k0).1 = 0 := (congrArg (·.1) hp).symm
    have h2 : (sContract σ k0).2.1 = r := (congrArg (·.2.1) hp).symm
    have h3 : (sContract σ k0).2.2 = σ1 := (congrArg (·.2.2) hp).symm
    have h4 : ∃ y9, (sContract σ k0).2.1 = some y9 := by rcases sContract_k (σ := σ) (k0 := k0) with e9 | e9 <;> first | exact e9.2 | omega
    obtain ⟨rr, h4⟩ := h4
    rw [h2] at h4
    subst h4
    refine lv_i2l hx hb d_La_contract_7 rfl ?_
    refine w_last C0 hP1 hO1 hS d_La_contract_8 (fun H locs hP1 hO1 hS => ?_)
    refine lv_goto (tgt := 15) hx hb d_La_contract_9 (by decide) ?_
    refine lv_iconst (v := 0) hx hb d_La_contract_15 (by decide) ?_
    exact W.widen (by decide) (by decide) (x_iret hx hb hr hlk (fun t ht _ => ⟨_, σ1, rr.toInt64, ⟨by rw [h1]; rfl, h3.symm, by rw [h1, h2]; first | done | rfl⟩, rfl, by rw [ht]; exact hP1, by rw [ht]; exact hO1⟩) hS.2.2 d_La_contract_16)
  · skip
    have h1 : (sContract σ k0).1 = k := (congrArg (·.1) hp).symm
    have h2 : (sContract σ k0).2.1 = r := (congrArg (·.2.1) hp).symm
    have h3 : (sContract σ k0).2.2 = σ1 := (congrArg (·.2.2) hp).symm
    have h4 : k = 1 := by rcases sContract_k (σ := σ) (k0 := k0) with e9 | e9 <;> omega
    rcases h4 with rfl
    · skip
      refine w_catch C0 (E := "java/lang/IllegalArgumentException") (pre' := []) (suf' := []) (a := 0) (b := 9) (h := 12) (ct := 13) rfl (fun z hz => by cases hz) ⟨by decide, by decide⟩ (by decide) k_cl_La_13 k_ca_1 hx9 ?_
      refine lv_astore_n (lv' := [(3, .ref x9), (0, .ref (base + ad 0 0)), (1, .int k0), (2, .ref ob)]) hx hb d_La_contract_12 rfl hl (by decide) rfl (fun ls hl => ?_)
      refine lv_iconst (v := 1) hx hb d_La_contract_13 (by decide) ?_
      exact W.widen (by decide) (by decide) (x_iret hx hb hr hlk (fun t ht _ => ⟨_, σ1, v, ⟨by rw [h1]; rfl, h3.symm, by rw [h1]; rfl⟩, rfl, by rw [ht]; exact hP1, by rw [ht]; exact hO1⟩) hS.2.2 d_La_contract_14)
theorem sStart_k {σ : Mem}  : ((sStart σ ).1 = 0 ∧ ∃ y9, (sStart σ ).2.1 = some y9) ∨ (sStart σ ).1 = 4 := by
  have e0 := stL_k (σ := σ) 4 0
  unfold sStart
  exact e0
def w_start (k : Nat) : Int32 := (if k = 0 then 0 else if k = 4 then 1 else 0)
set_option maxHeartbeats 4000000 in
theorem c_La_start {S0 : State} {A0 : Array Value} {D : va_G} {ar : Nat → ClassId} {base ob : Nat} {σ : Mem} {v : Int64} {l : Launch} (hlt : l.stackTraces = false) (hob : base + 122 ≤ ob)   :
    MX l y_La_start [Cond.codeWith y_La_start b_La_start 3 (some .int) [(0, 8, 11, 15)]] rmW (PW S0 A0 D ar base ob σ v [.ref (base + ad 0 0), .ref ob]) (QWr D ar base ob (fun w σ' v' => w = w_start (sStart σ ).1 ∧ σ' = (sStart σ ).2.2 ∧ v' = outV (sStart σ ).1 (sStart σ ).2.1 v)) (wF base ob) := by
  refine w_head hob rfl (Nat.le_of_ble_eq_true rfl) ?_
  intro p ev s m below meth c ls C0 hP hO hl
  obtain ⟨hx, hb, hr, hml, hown, hlk, -⟩ := id C0
  have hl : lv_has ls 3 [(0, .ref (base + ad 0 0)), (1, .ref ob)] := hl
  refine lv_aload_n hx hb d_La_start_0 rfl (lv_at hl 1 rfl) ?_
  refine lv_iconst (v := 0) hx hb d_La_start_1 (by decide) ?_
  refine lv_aload_n hx hb d_La_start_2 rfl (lv_at hl 0 rfl) ?_
  refine w_call C0 hP hO (As := []) k_ml_La_21 k_im_Sy_start k_sl_Sy_Sy_start k_cd_Sy_start k_in_Sy z_Sy_start rfl d_La_start_3 (c_Sy_start hlt ) hl.1 (Nat.le_of_ble_eq_true rfl) ⟨by decide, by decide⟩ ⟨by decide, by decide⟩ (fun r σ1 H locs hp hP1 hO1 hS => ?_) (fun k r σ1 x9 H locs hk hp hx9 hP1 hO1 hS => ?_)
  · skip
    have h1 : (sStart σ ).1 = 0 := (congrArg (·.1) hp).symm
    have h2 : (sStart σ ).2.1 = r := (congrArg (·.2.1) hp).symm
    have h3 : (sStart σ ).2.2 = σ1 := (congrArg (·.2.2) hp).symm
    have h4 : ∃ y9, (sStart σ ).2.1 = some y9 := by rcases sStart_k (σ := σ)  with e9 | e9 <;> first | exact e9.2 | omega
    obtain ⟨rr, h4⟩ := h4
    rw [h2] at h4
    subst h4
    refine lv_i2l hx hb d_La_start_6 rfl ?_
    refine w_last C0 hP1 hO1 hS d_La_start_7 (fun H locs hP1 hO1 hS => ?_)
    refine lv_goto (tgt := 14) hx hb d_La_start_8 (by decide) ?_
    refine lv_iconst (v := 0) hx hb d_La_start_14 (by decide) ?_
    exact W.widen (by decide) (by decide) (x_iret hx hb hr hlk (fun t ht _ => ⟨_, σ1, rr.toInt64, ⟨by rw [h1]; rfl, h3.symm, by rw [h1, h2]; first | done | rfl⟩, rfl, by rw [ht]; exact hP1, by rw [ht]; exact hO1⟩) hS.2.2 d_La_start_15)
  · skip
    have h1 : (sStart σ ).1 = k := (congrArg (·.1) hp).symm
    have h2 : (sStart σ ).2.1 = r := (congrArg (·.2.1) hp).symm
    have h3 : (sStart σ ).2.2 = σ1 := (congrArg (·.2.2) hp).symm
    have h4 : k = 4 := by rcases sStart_k (σ := σ)  with e9 | e9 <;> omega
    rcases h4 with rfl
    · skip
      refine w_catch C0 (E := "java/lang/UnsupportedOperationException") (pre' := []) (suf' := []) (a := 0) (b := 8) (h := 11) (ct := 15) rfl (fun z hz => by cases hz) ⟨by decide, by decide⟩ (by decide) k_cl_La_15 k_ca_4 hx9 ?_
      refine lv_astore_n (lv' := [(2, .ref x9), (0, .ref (base + ad 0 0)), (1, .ref ob)]) hx hb d_La_start_11 rfl hl (by decide) rfl (fun ls hl => ?_)
      refine lv_iconst (v := 1) hx hb d_La_start_12 (by decide) ?_
      exact W.widen (by decide) (by decide) (x_iret hx hb hr hlk (fun t ht _ => ⟨_, σ1, v, ⟨by rw [h1]; rfl, h3.symm, by rw [h1]; rfl⟩, rfl, by rw [ht]; exact hP1, by rw [ht]; exact hO1⟩) hS.2.2 d_La_start_13)
theorem sKill_k {σ : Mem} {q : Int32} : ((sKill σ q).1 = 0 ∧ ∃ y9, (sKill σ q).2.1 = some y9) ∨ (sKill σ q).1 = 1 ∨ (sKill σ q).1 = 2 := by
  unfold sKill
  repeat' split
  all_goals simp_all
def w_kill (k : Nat) : Int32 := (if k = 0 then 0 else if k = 1 then 1 else if k = 2 then 2 else 0)
set_option maxHeartbeats 4000000 in
theorem c_La_kill {S0 : State} {A0 : Array Value} {D : va_G} {ar : Nat → ClassId} {base ob : Nat} {σ : Mem} {v : Int64} {l : Launch} (hlt : l.stackTraces = false) (hob : base + 122 ≤ ob) (hqw : QW σ) {q : Int32} :
    MX l y_La_kill [Cond.codeWith y_La_kill b_La_kill 4 (some .int) [(0, 9, 12, 13), (0, 9, 15, 28)]] rmW (PW S0 A0 D ar base ob σ v [.ref (base + ad 0 0), .int q, .ref ob]) (QWr D ar base ob (fun w σ' v' => w = w_kill (sKill σ q).1 ∧ σ' = (sKill σ q).2.2 ∧ v' = outV (sKill σ q).1 (sKill σ q).2.1 v)) (wF base ob) := by
  refine w_head hob rfl (Nat.le_of_ble_eq_true rfl) ?_
  intro p ev s m below meth c ls C0 hP hO hl
  obtain ⟨hx, hb, hr, hml, hown, hlk, -⟩ := id C0
  have hl : lv_has ls 4 [(0, .ref (base + ad 0 0)), (1, .int q), (2, .ref ob)] := hl
  refine lv_aload_n hx hb d_La_kill_0 rfl (lv_at hl 2 rfl) ?_
  refine lv_iconst (v := 0) hx hb d_La_kill_1 (by decide) ?_
  refine lv_aload_n hx hb d_La_kill_2 rfl (lv_at hl 0 rfl) ?_
  refine lv_iload_n hx hb d_La_kill_3 rfl (lv_at hl 1 rfl) ?_
  refine w_call C0 hP hO (As := [.int q]) k_ml_La_25 k_im_Sy_kill k_sl_Sy_Sy_kill k_cd_Sy_kill k_in_Sy z_Sy_kill rfl d_La_kill_4 (c_Sy_kill hlt hqw) hl.1 (Nat.le_of_ble_eq_true rfl) ⟨by decide, by decide⟩ ⟨by decide, by decide⟩ (fun r σ1 H locs hp hP1 hO1 hS => ?_) (fun k r σ1 x9 H locs hk hp hx9 hP1 hO1 hS => ?_)
  · skip
    have h1 : (sKill σ q).1 = 0 := (congrArg (·.1) hp).symm
    have h2 : (sKill σ q).2.1 = r := (congrArg (·.2.1) hp).symm
    have h3 : (sKill σ q).2.2 = σ1 := (congrArg (·.2.2) hp).symm
    have h4 : ∃ y9, (sKill σ q).2.1 = some y9 := by rcases sKill_k (σ := σ) (q := q) with e9 | e9 | e9 <;> first | exact e9.2 | omega
    obtain ⟨rr, h4⟩ := h4
    rw [h2] at h4
    subst h4
    refine lv_i2l hx hb d_La_kill_7 rfl ?_
    refine w_last C0 hP1 hO1 hS d_La_kill_8 (fun H locs hP1 hO1 hS => ?_)
    refine lv_goto (tgt := 18) hx hb d_La_kill_9 (by decide) ?_
    refine lv_iconst (v := 0) hx hb d_La_kill_18 (by decide) ?_
    exact W.widen (by decide) (by decide) (x_iret hx hb hr hlk (fun t ht _ => ⟨_, σ1, rr.toInt64, ⟨by rw [h1]; rfl, h3.symm, by rw [h1, h2]; first | done | rfl⟩, rfl, by rw [ht]; exact hP1, by rw [ht]; exact hO1⟩) hS.2.2 d_La_kill_19)
  · skip
    have h1 : (sKill σ q).1 = k := (congrArg (·.1) hp).symm
    have h2 : (sKill σ q).2.1 = r := (congrArg (·.2.1) hp).symm
    have h3 : (sKill σ q).2.2 = σ1 := (congrArg (·.2.2) hp).symm
    have h4 : k = 1 ∨ k = 2 := by rcases sKill_k (σ := σ) (q := q) with e9 | e9 | e9 <;> omega
    rcases h4 with rfl | rfl
    · skip
      refine w_catch C0 (E := "java/lang/IllegalArgumentException") (pre' := []) (suf' := [(0, 9, 15, 28)]) (a := 0) (b := 9) (h := 12) (ct := 13) rfl (fun z hz => by cases hz) ⟨by decide, by decide⟩ (by decide) k_cl_La_13 k_ca_1 hx9 ?_
      refine lv_astore_n (lv' := [(3, .ref x9), (0, .ref (base + ad 0 0)), (1, .int q), (2, .ref ob)]) hx hb d_La_kill_12 rfl hl (by decide) rfl (fun ls hl => ?_)
      refine lv_iconst (v := 1) hx hb d_La_kill_13 (by decide) ?_
      exact W.widen (by decide) (by decide) (x_iret hx hb hr hlk (fun t ht _ => ⟨_, σ1, v, ⟨by rw [h1]; rfl, h3.symm, by rw [h1]; rfl⟩, rfl, by rw [ht]; exact hP1, by rw [ht]; exact hO1⟩) hS.2.2 d_La_kill_14)
    · skip
      refine w_catch C0 (E := "java/lang/IllegalStateException") (pre' := [(0, 9, 12, 13)]) (suf' := []) (a := 0) (b := 9) (h := 15) (ct := 28) rfl (List.forall_mem_cons.mpr ⟨⟨by decide, _, k_cl_La_13, k_nc_21⟩, fun z hz => by cases hz⟩) ⟨by decide, by decide⟩ (by decide) k_cl_La_28 k_ca_2 hx9 ?_
      refine lv_astore_n (lv' := [(3, .ref x9), (0, .ref (base + ad 0 0)), (1, .int q), (2, .ref ob)]) hx hb d_La_kill_15 rfl hl (by decide) rfl (fun ls hl => ?_)
      refine lv_iconst (v := 2) hx hb d_La_kill_16 (by decide) ?_
      exact W.widen (by decide) (by decide) (x_iret hx hb hr hlk (fun t ht _ => ⟨_, σ1, v, ⟨by rw [h1]; rfl, h3.symm, by rw [h1]; rfl⟩, rfl, by rw [ht]; exact hP1, by rw [ht]; exact hO1⟩) hS.2.2 d_La_kill_17)
theorem sBlock_k {σ : Mem} {q n : Int32} : ((sBlock σ q n).1 = 0 ∧ ∃ y9, (sBlock σ q n).2.1 = some y9) ∨ (sBlock σ q n).1 = 1 ∨ (sBlock σ q n).1 = 2 ∨ (sBlock σ q n).1 = 4 := by
  unfold sBlock
  repeat' split
  all_goals simp_all
def w_block (k : Nat) : Int32 := (if k = 0 then 0 else if k = 1 then 1 else if k = 2 then 2 else if k = 4 then 3 else 0)
set_option maxHeartbeats 4000000 in
theorem c_La_block {S0 : State} {A0 : Array Value} {D : va_G} {ar : Nat → ClassId} {base ob : Nat} {σ : Mem} {v : Int64} {l : Launch} (hlt : l.stackTraces = false) (hob : base + 122 ≤ ob) {aK aV : Nat → Nat} (hs : SX S0 aK aV) {q n : Int32} :
    MX l y_La_block [Cond.codeWith y_La_block b_La_block 5 (some .int) [(0, 10, 13, 13), (0, 10, 17, 28), (0, 10, 21, 15)]] rmW (PW S0 A0 D ar base ob σ v [.ref (base + ad 0 0), .int q, .int n, .ref ob]) (QWr D ar base ob (fun w σ' v' => w = w_block (sBlock σ q n).1 ∧ σ' = (sBlock σ q n).2.2 ∧ v' = outV (sBlock σ q n).1 (sBlock σ q n).2.1 v)) (wF base ob) := by
  refine w_head hob rfl (Nat.le_of_ble_eq_true rfl) ?_
  intro p ev s m below meth c ls C0 hP hO hl
  obtain ⟨hx, hb, hr, hml, hown, hlk, -⟩ := id C0
  have hl : lv_has ls 5 [(0, .ref (base + ad 0 0)), (1, .int q), (2, .int n), (3, .ref ob)] := hl
  refine lv_aload_n hx hb d_La_block_0 rfl (lv_at hl 3 rfl) ?_
  refine lv_iconst (v := 0) hx hb d_La_block_1 (by decide) ?_
  refine lv_aload_n hx hb d_La_block_2 rfl (lv_at hl 0 rfl) ?_
  refine lv_iload_n hx hb d_La_block_3 rfl (lv_at hl 1 rfl) ?_
  refine lv_iload_n hx hb d_La_block_4 rfl (lv_at hl 2 rfl) ?_
  refine w_call C0 hP hO (As := [.int q, .int n]) k_ml_La_30 k_im_Sy_block k_sl_Sy_Sy_block k_cd_Sy_block k_in_Sy z_Sy_block rfl d_La_block_5 (c_Sy_block hlt hs) hl.1 (Nat.le_of_ble_eq_true rfl) ⟨by decide, by decide⟩ ⟨by decide, by decide⟩ (fun r σ1 H locs hp hP1 hO1 hS => ?_) (fun k r σ1 x9 H locs hk hp hx9 hP1 hO1 hS => ?_)
  · skip
    have h1 : (sBlock σ q n).1 = 0 := (congrArg (·.1) hp).symm
    have h2 : (sBlock σ q n).2.1 = r := (congrArg (·.2.1) hp).symm
    have h3 : (sBlock σ q n).2.2 = σ1 := (congrArg (·.2.2) hp).symm
    have h4 : ∃ y9, (sBlock σ q n).2.1 = some y9 := by rcases sBlock_k (σ := σ) (q := q) (n := n) with e9 | e9 | e9 | e9 <;> first | exact e9.2 | omega
    obtain ⟨rr, h4⟩ := h4
    rw [h2] at h4
    subst h4
    refine lv_i2l hx hb d_La_block_8 rfl ?_
    refine w_last C0 hP1 hO1 hS d_La_block_9 (fun H locs hP1 hO1 hS => ?_)
    refine lv_goto (tgt := 25) hx hb d_La_block_10 (by decide) ?_
    refine lv_iconst (v := 0) hx hb d_La_block_25 (by decide) ?_
    exact W.widen (by decide) (by decide) (x_iret hx hb hr hlk (fun t ht _ => ⟨_, σ1, rr.toInt64, ⟨by rw [h1]; rfl, h3.symm, by rw [h1, h2]; first | done | rfl⟩, rfl, by rw [ht]; exact hP1, by rw [ht]; exact hO1⟩) hS.2.2 d_La_block_26)
  · skip
    have h1 : (sBlock σ q n).1 = k := (congrArg (·.1) hp).symm
    have h2 : (sBlock σ q n).2.1 = r := (congrArg (·.2.1) hp).symm
    have h3 : (sBlock σ q n).2.2 = σ1 := (congrArg (·.2.2) hp).symm
    have h4 : k = 1 ∨ k = 2 ∨ k = 4 := by rcases sBlock_k (σ := σ) (q := q) (n := n) with e9 | e9 | e9 | e9 <;> omega
    rcases h4 with rfl | rfl | rfl
    · skip
      refine w_catch C0 (E := "java/lang/IllegalArgumentException") (pre' := []) (suf' := [(0, 10, 17, 28), (0, 10, 21, 15)]) (a := 0) (b := 10) (h := 13) (ct := 13) rfl (fun z hz => by cases hz) ⟨by decide, by decide⟩ (by decide) k_cl_La_13 k_ca_1 hx9 ?_
      refine lv_astore (lv' := [(4, .ref x9), (0, .ref (base + ad 0 0)), (1, .int q), (2, .int n), (3, .ref ob)]) hx hb d_La_block_13 hl (by decide) rfl (fun ls hl => ?_)
      refine lv_iconst (v := 1) hx hb d_La_block_15 (by decide) ?_
      exact W.widen (by decide) (by decide) (x_iret hx hb hr hlk (fun t ht _ => ⟨_, σ1, v, ⟨by rw [h1]; rfl, h3.symm, by rw [h1]; rfl⟩, rfl, by rw [ht]; exact hP1, by rw [ht]; exact hO1⟩) hS.2.2 d_La_block_16)
    · skip
      refine w_catch C0 (E := "java/lang/IllegalStateException") (pre' := [(0, 10, 13, 13)]) (suf' := [(0, 10, 21, 15)]) (a := 0) (b := 10) (h := 17) (ct := 28) rfl (List.forall_mem_cons.mpr ⟨⟨by decide, _, k_cl_La_13, k_nc_21⟩, fun z hz => by cases hz⟩) ⟨by decide, by decide⟩ (by decide) k_cl_La_28 k_ca_2 hx9 ?_
      refine lv_astore (lv' := [(4, .ref x9), (0, .ref (base + ad 0 0)), (1, .int q), (2, .int n), (3, .ref ob)]) hx hb d_La_block_17 hl (by decide) rfl (fun ls hl => ?_)
      refine lv_iconst (v := 2) hx hb d_La_block_19 (by decide) ?_
      exact W.widen (by decide) (by decide) (x_iret hx hb hr hlk (fun t ht _ => ⟨_, σ1, v, ⟨by rw [h1]; rfl, h3.symm, by rw [h1]; rfl⟩, rfl, by rw [ht]; exact hP1, by rw [ht]; exact hO1⟩) hS.2.2 d_La_block_20)
    · skip
      refine w_catch C0 (E := "java/lang/UnsupportedOperationException") (pre' := [(0, 10, 13, 13), (0, 10, 17, 28)]) (suf' := []) (a := 0) (b := 10) (h := 21) (ct := 15) rfl (List.forall_mem_cons.mpr ⟨⟨by decide, _, k_cl_La_13, k_nc_41⟩, List.forall_mem_cons.mpr ⟨⟨by decide, _, k_cl_La_28, k_nc_42⟩, fun z hz => by cases hz⟩⟩) ⟨by decide, by decide⟩ (by decide) k_cl_La_15 k_ca_4 hx9 ?_
      refine lv_astore (lv' := [(4, .ref x9), (0, .ref (base + ad 0 0)), (1, .int q), (2, .int n), (3, .ref ob)]) hx hb d_La_block_21 hl (by decide) rfl (fun ls hl => ?_)
      refine lv_iconst (v := 3) hx hb d_La_block_23 (by decide) ?_
      exact W.widen (by decide) (by decide) (x_iret hx hb hr hlk (fun t ht _ => ⟨_, σ1, v, ⟨by rw [h1]; rfl, h3.symm, by rw [h1]; rfl⟩, rfl, by rw [ht]; exact hP1, by rw [ht]; exact hO1⟩) hS.2.2 d_La_block_24)
theorem sFree_k {σ : Mem} {q b : Int32} : ((sFree σ q b).1 = 0 ∧ (sFree σ q b).2.1 = none) ∨ (sFree σ q b).1 = 1 ∨ (sFree σ q b).1 = 2 := by
  have e0 := kOwnB_k (σ := σ) (q := q) (b := b)
  unfold sFree
  repeat' split
  all_goals simp_all
  all_goals (try omega)
def w_free (k : Nat) : Int32 := (if k = 0 then 0 else if k = 1 then 1 else if k = 2 then 2 else 0)
set_option maxHeartbeats 4000000 in
theorem c_La_free {S0 : State} {A0 : Array Value} {D : va_G} {ar : Nat → ClassId} {base ob : Nat} {σ : Mem} {v : Int64} {l : Launch} (hlt : l.stackTraces = false) (hob : base + 122 ≤ ob)  {q b : Int32} :
    MX l y_La_free [Cond.codeWith y_La_free b_La_free 4 (some .int) [(0, 6, 9, 13), (0, 6, 12, 28)]] rmW (PW S0 A0 D ar base ob σ v [.ref (base + ad 0 0), .int q, .int b]) (QWr D ar base ob (fun w σ' v' => w = w_free (sFree σ q b).1 ∧ σ' = (sFree σ q b).2.2 ∧ v' = outV (sFree σ q b).1 (sFree σ q b).2.1 v)) (wF base ob) := by
  refine w_head hob rfl (Nat.le_of_ble_eq_true rfl) ?_
  intro p ev s m below meth c ls C0 hP hO hl
  obtain ⟨hx, hb, hr, hml, hown, hlk, -⟩ := id C0
  have hl : lv_has ls 4 [(0, .ref (base + ad 0 0)), (1, .int q), (2, .int b)] := hl
  refine lv_aload_n hx hb d_La_free_0 rfl (lv_at hl 0 rfl) ?_
  refine lv_iload_n hx hb d_La_free_1 rfl (lv_at hl 1 rfl) ?_
  refine lv_iload_n hx hb d_La_free_2 rfl (lv_at hl 2 rfl) ?_
  refine w_call C0 hP hO (As := [.int q, .int b]) k_ml_La_34 k_im_Sy_free k_sl_Sy_Sy_free k_cd_Sy_free k_in_Sy z_Sy_free rfl d_La_free_3 (c_Sy_free hlt ) hl.1 (Nat.le_of_ble_eq_true rfl) ⟨by decide, by decide⟩ ⟨by decide, by decide⟩ (fun r σ1 H locs hp hP1 hO1 hS => ?_) (fun k r σ1 x9 H locs hk hp hx9 hP1 hO1 hS => ?_)
  · skip
    have h1 : (sFree σ q b).1 = 0 := (congrArg (·.1) hp).symm
    have h2 : (sFree σ q b).2.1 = r := (congrArg (·.2.1) hp).symm
    have h3 : (sFree σ q b).2.2 = σ1 := (congrArg (·.2.2) hp).symm
    have h4 : (sFree σ q b).2.1 = none := by rcases sFree_k (σ := σ) (q := q) (b := b) with e9 | e9 | e9 <;> first | exact e9.2 | omega
    rw [h2] at h4
    subst h4
    refine lv_goto (tgt := 15) hx hb d_La_free_6 (by decide) ?_
    refine lv_iconst (v := 0) hx hb d_La_free_15 (by decide) ?_
    exact W.widen (by decide) (by decide) (x_iret hx hb hr hlk (fun t ht _ => ⟨_, σ1, v, ⟨by rw [h1]; rfl, h3.symm, by rw [h1, h2]; first | done | rfl⟩, rfl, by rw [ht]; exact hP1, by rw [ht]; exact hO1⟩) hS.2.2 d_La_free_16)
  · skip
    have h1 : (sFree σ q b).1 = k := (congrArg (·.1) hp).symm
    have h2 : (sFree σ q b).2.1 = r := (congrArg (·.2.1) hp).symm
    have h3 : (sFree σ q b).2.2 = σ1 := (congrArg (·.2.2) hp).symm
    have h4 : k = 1 ∨ k = 2 := by rcases sFree_k (σ := σ) (q := q) (b := b) with e9 | e9 | e9 <;> omega
    rcases h4 with rfl | rfl
    · skip
      refine w_catch C0 (E := "java/lang/IllegalArgumentException") (pre' := []) (suf' := [(0, 6, 12, 28)]) (a := 0) (b := 6) (h := 9) (ct := 13) rfl (fun z hz => by cases hz) ⟨by decide, by decide⟩ (by decide) k_cl_La_13 k_ca_1 hx9 ?_
      refine lv_astore_n (lv' := [(3, .ref x9), (0, .ref (base + ad 0 0)), (1, .int q), (2, .int b)]) hx hb d_La_free_9 rfl hl (by decide) rfl (fun ls hl => ?_)
      refine lv_iconst (v := 1) hx hb d_La_free_10 (by decide) ?_
      exact W.widen (by decide) (by decide) (x_iret hx hb hr hlk (fun t ht _ => ⟨_, σ1, v, ⟨by rw [h1]; rfl, h3.symm, by rw [h1]; rfl⟩, rfl, by rw [ht]; exact hP1, by rw [ht]; exact hO1⟩) hS.2.2 d_La_free_11)
    · skip
      refine w_catch C0 (E := "java/lang/IllegalStateException") (pre' := [(0, 6, 9, 13)]) (suf' := []) (a := 0) (b := 6) (h := 12) (ct := 28) rfl (List.forall_mem_cons.mpr ⟨⟨by decide, _, k_cl_La_13, k_nc_21⟩, fun z hz => by cases hz⟩) ⟨by decide, by decide⟩ (by decide) k_cl_La_28 k_ca_2 hx9 ?_
      refine lv_astore_n (lv' := [(3, .ref x9), (0, .ref (base + ad 0 0)), (1, .int q), (2, .int b)]) hx hb d_La_free_12 rfl hl (by decide) rfl (fun ls hl => ?_)
      refine lv_iconst (v := 2) hx hb d_La_free_13 (by decide) ?_
      exact W.widen (by decide) (by decide) (x_iret hx hb hr hlk (fun t ht _ => ⟨_, σ1, v, ⟨by rw [h1]; rfl, h3.symm, by rw [h1]; rfl⟩, rfl, by rw [ht]; exact hP1, by rw [ht]; exact hO1⟩) hS.2.2 d_La_free_14)
theorem sRead_k {σ : Mem} {q b i : Int32} : ((sRead σ q b i).1 = 0 ∧ ∃ y9, (sRead σ q b i).2.1 = some y9) ∨ (sRead σ q b i).1 = 1 ∨ (sRead σ q b i).1 = 2 ∨ (sRead σ q b i).1 = 3 := by
  have e0 := kOwnB_k (σ := σ) (q := q) (b := b)
  have e1 := kCell_k (σ := σ) (b := b.toNatClampNeg) (i := i)
  unfold sRead
  repeat' split
  all_goals simp_all
  all_goals (try omega)
def w_read (k : Nat) : Int32 := (if k = 0 then 0 else if k = 1 then 1 else if k = 2 then 2 else if k = 3 then 3 else 0)
set_option maxHeartbeats 4000000 in
theorem c_La_read {S0 : State} {A0 : Array Value} {D : va_G} {ar : Nat → ClassId} {base ob : Nat} {σ : Mem} {v : Int64} {l : Launch} (hlt : l.stackTraces = false) (hob : base + 122 ≤ ob) (hbw : BW σ) {q b i : Int32} :
    MX l y_La_read [Cond.codeWith y_La_read b_La_read 6 (some .int) [(0, 12, 15, 13), (0, 12, 19, 28), (0, 12, 23, 42)]] rmW (PW S0 A0 D ar base ob σ v [.ref (base + ad 0 0), .int q, .int b, .int i, .ref ob]) (QWr D ar base ob (fun w σ' v' => w = w_read (sRead σ q b i).1 ∧ σ' = (sRead σ q b i).2.2 ∧ v' = outV (sRead σ q b i).1 (sRead σ q b i).2.1 v)) (wF base ob) := by
  refine w_head hob rfl (Nat.le_of_ble_eq_true rfl) ?_
  intro p ev s m below meth c ls C0 hP hO hl
  obtain ⟨hx, hb, hr, hml, hown, hlk, -⟩ := id C0
  have hl : lv_has ls 6 [(0, .ref (base + ad 0 0)), (1, .int q), (2, .int b), (3, .int i), (4, .ref ob)] := hl
  refine lv_aload hx hb d_La_read_0 (lv_at hl 4 rfl) ?_
  refine lv_iconst (v := 0) hx hb d_La_read_2 (by decide) ?_
  refine lv_aload_n hx hb d_La_read_3 rfl (lv_at hl 0 rfl) ?_
  refine lv_iload_n hx hb d_La_read_4 rfl (lv_at hl 1 rfl) ?_
  refine lv_iload_n hx hb d_La_read_5 rfl (lv_at hl 2 rfl) ?_
  refine lv_iload_n hx hb d_La_read_6 rfl (lv_at hl 3 rfl) ?_
  refine w_call C0 hP hO (As := [.int q, .int b, .int i]) k_ml_La_38 k_im_Sy_read k_sl_Sy_Sy_read k_cd_Sy_read k_in_Sy z_Sy_read rfl d_La_read_7 (c_Sy_read hlt hbw) hl.1 (Nat.le_of_ble_eq_true rfl) ⟨by decide, by decide⟩ ⟨by decide, by decide⟩ (fun r σ1 H locs hp hP1 hO1 hS => ?_) (fun k r σ1 x9 H locs hk hp hx9 hP1 hO1 hS => ?_)
  · skip
    have h1 : (sRead σ q b i).1 = 0 := (congrArg (·.1) hp).symm
    have h2 : (sRead σ q b i).2.1 = r := (congrArg (·.2.1) hp).symm
    have h3 : (sRead σ q b i).2.2 = σ1 := (congrArg (·.2.2) hp).symm
    have h4 : ∃ y9, (sRead σ q b i).2.1 = some y9 := by rcases sRead_k (σ := σ) (q := q) (b := b) (i := i) with e9 | e9 | e9 | e9 <;> first | exact e9.2 | omega
    obtain ⟨rr, h4⟩ := h4
    rw [h2] at h4
    subst h4
    refine lv_i2l hx hb d_La_read_10 rfl ?_
    refine w_last C0 hP1 hO1 hS d_La_read_11 (fun H locs hP1 hO1 hS => ?_)
    refine lv_goto (tgt := 27) hx hb d_La_read_12 (by decide) ?_
    refine lv_iconst (v := 0) hx hb d_La_read_27 (by decide) ?_
    exact W.widen (by decide) (by decide) (x_iret hx hb hr hlk (fun t ht _ => ⟨_, σ1, rr.toInt64, ⟨by rw [h1]; rfl, h3.symm, by rw [h1, h2]; first | done | rfl⟩, rfl, by rw [ht]; exact hP1, by rw [ht]; exact hO1⟩) hS.2.2 d_La_read_28)
  · skip
    have h1 : (sRead σ q b i).1 = k := (congrArg (·.1) hp).symm
    have h2 : (sRead σ q b i).2.1 = r := (congrArg (·.2.1) hp).symm
    have h3 : (sRead σ q b i).2.2 = σ1 := (congrArg (·.2.2) hp).symm
    have h4 : k = 1 ∨ k = 2 ∨ k = 3 := by rcases sRead_k (σ := σ) (q := q) (b := b) (i := i) with e9 | e9 | e9 | e9 <;> omega
    rcases h4 with rfl | rfl | rfl
    · skip
      refine w_catch C0 (E := "java/lang/IllegalArgumentException") (pre' := []) (suf' := [(0, 12, 19, 28), (0, 12, 23, 42)]) (a := 0) (b := 12) (h := 15) (ct := 13) rfl (fun z hz => by cases hz) ⟨by decide, by decide⟩ (by decide) k_cl_La_13 k_ca_1 hx9 ?_
      refine lv_astore (lv' := [(5, .ref x9), (0, .ref (base + ad 0 0)), (1, .int q), (2, .int b), (3, .int i), (4, .ref ob)]) hx hb d_La_read_15 hl (by decide) rfl (fun ls hl => ?_)
      refine lv_iconst (v := 1) hx hb d_La_read_17 (by decide) ?_
      exact W.widen (by decide) (by decide) (x_iret hx hb hr hlk (fun t ht _ => ⟨_, σ1, v, ⟨by rw [h1]; rfl, h3.symm, by rw [h1]; rfl⟩, rfl, by rw [ht]; exact hP1, by rw [ht]; exact hO1⟩) hS.2.2 d_La_read_18)
    · skip
      refine w_catch C0 (E := "java/lang/IllegalStateException") (pre' := [(0, 12, 15, 13)]) (suf' := [(0, 12, 23, 42)]) (a := 0) (b := 12) (h := 19) (ct := 28) rfl (List.forall_mem_cons.mpr ⟨⟨by decide, _, k_cl_La_13, k_nc_21⟩, fun z hz => by cases hz⟩) ⟨by decide, by decide⟩ (by decide) k_cl_La_28 k_ca_2 hx9 ?_
      refine lv_astore (lv' := [(5, .ref x9), (0, .ref (base + ad 0 0)), (1, .int q), (2, .int b), (3, .int i), (4, .ref ob)]) hx hb d_La_read_19 hl (by decide) rfl (fun ls hl => ?_)
      refine lv_iconst (v := 2) hx hb d_La_read_21 (by decide) ?_
      exact W.widen (by decide) (by decide) (x_iret hx hb hr hlk (fun t ht _ => ⟨_, σ1, v, ⟨by rw [h1]; rfl, h3.symm, by rw [h1]; rfl⟩, rfl, by rw [ht]; exact hP1, by rw [ht]; exact hO1⟩) hS.2.2 d_La_read_22)
    · skip
      refine w_catch C0 (E := "java/util/NoSuchElementException") (pre' := [(0, 12, 15, 13), (0, 12, 19, 28)]) (suf' := []) (a := 0) (b := 12) (h := 23) (ct := 42) rfl (List.forall_mem_cons.mpr ⟨⟨by decide, _, k_cl_La_13, k_nc_31⟩, List.forall_mem_cons.mpr ⟨⟨by decide, _, k_cl_La_28, k_nc_32⟩, fun z hz => by cases hz⟩⟩) ⟨by decide, by decide⟩ (by decide) k_cl_La_42 k_ca_3 hx9 ?_
      refine lv_astore (lv' := [(5, .ref x9), (0, .ref (base + ad 0 0)), (1, .int q), (2, .int b), (3, .int i), (4, .ref ob)]) hx hb d_La_read_23 hl (by decide) rfl (fun ls hl => ?_)
      refine lv_iconst (v := 3) hx hb d_La_read_25 (by decide) ?_
      exact W.widen (by decide) (by decide) (x_iret hx hb hr hlk (fun t ht _ => ⟨_, σ1, v, ⟨by rw [h1]; rfl, h3.symm, by rw [h1]; rfl⟩, rfl, by rw [ht]; exact hP1, by rw [ht]; exact hO1⟩) hS.2.2 d_La_read_26)
theorem sWrite_k {σ : Mem} {q b i x : Int32} : ((sWrite σ q b i x).1 = 0 ∧ (sWrite σ q b i x).2.1 = none) ∨ (sWrite σ q b i x).1 = 1 ∨ (sWrite σ q b i x).1 = 2 ∨ (sWrite σ q b i x).1 = 3 := by
  have e0 := kOwnB_k (σ := σ) (q := q) (b := b)
  have e1 := kCell_k (σ := σ) (b := b.toNatClampNeg) (i := i)
  unfold sWrite
  repeat' split
  all_goals simp_all
  all_goals (try omega)
def w_write (k : Nat) : Int32 := (if k = 0 then 0 else if k = 1 then 1 else if k = 2 then 2 else if k = 3 then 3 else 0)
set_option maxHeartbeats 4000000 in
theorem c_La_write {S0 : State} {A0 : Array Value} {D : va_G} {ar : Nat → ClassId} {base ob : Nat} {σ : Mem} {v : Int64} {l : Launch} (hlt : l.stackTraces = false) (hob : base + 122 ≤ ob) (hbw : BW σ) {q b i x : Int32} :
    MX l y_La_write [Cond.codeWith y_La_write b_La_write 6 (some .int) [(0, 9, 12, 13), (0, 9, 16, 28), (0, 9, 20, 42)]] rmW (PW S0 A0 D ar base ob σ v [.ref (base + ad 0 0), .int q, .int b, .int i, .int x]) (QWr D ar base ob (fun w σ' v' => w = w_write (sWrite σ q b i x).1 ∧ σ' = (sWrite σ q b i x).2.2 ∧ v' = outV (sWrite σ q b i x).1 (sWrite σ q b i x).2.1 v)) (wF base ob) := by
  refine w_head hob rfl (Nat.le_of_ble_eq_true rfl) ?_
  intro p ev s m below meth c ls C0 hP hO hl
  obtain ⟨hx, hb, hr, hml, hown, hlk, -⟩ := id C0
  have hl : lv_has ls 6 [(0, .ref (base + ad 0 0)), (1, .int q), (2, .int b), (3, .int i), (4, .int x)] := hl
  refine lv_aload_n hx hb d_La_write_0 rfl (lv_at hl 0 rfl) ?_
  refine lv_iload_n hx hb d_La_write_1 rfl (lv_at hl 1 rfl) ?_
  refine lv_iload_n hx hb d_La_write_2 rfl (lv_at hl 2 rfl) ?_
  refine lv_iload_n hx hb d_La_write_3 rfl (lv_at hl 3 rfl) ?_
  refine lv_iload hx hb d_La_write_4 (lv_at hl 4 rfl) ?_
  refine w_call C0 hP hO (As := [.int q, .int b, .int i, .int x]) k_ml_La_44 k_im_Sy_write k_sl_Sy_Sy_write k_cd_Sy_write k_in_Sy z_Sy_write rfl d_La_write_6 (c_Sy_write hlt hbw) hl.1 (Nat.le_of_ble_eq_true rfl) ⟨by decide, by decide⟩ ⟨by decide, by decide⟩ (fun r σ1 H locs hp hP1 hO1 hS => ?_) (fun k r σ1 x9 H locs hk hp hx9 hP1 hO1 hS => ?_)
  · skip
    have h1 : (sWrite σ q b i x).1 = 0 := (congrArg (·.1) hp).symm
    have h2 : (sWrite σ q b i x).2.1 = r := (congrArg (·.2.1) hp).symm
    have h3 : (sWrite σ q b i x).2.2 = σ1 := (congrArg (·.2.2) hp).symm
    have h4 : (sWrite σ q b i x).2.1 = none := by rcases sWrite_k (σ := σ) (q := q) (b := b) (i := i) (x := x) with e9 | e9 | e9 | e9 <;> first | exact e9.2 | omega
    rw [h2] at h4
    subst h4
    refine lv_goto (tgt := 24) hx hb d_La_write_9 (by decide) ?_
    refine lv_iconst (v := 0) hx hb d_La_write_24 (by decide) ?_
    exact W.widen (by decide) (by decide) (x_iret hx hb hr hlk (fun t ht _ => ⟨_, σ1, v, ⟨by rw [h1]; rfl, h3.symm, by rw [h1, h2]; first | done | rfl⟩, rfl, by rw [ht]; exact hP1, by rw [ht]; exact hO1⟩) hS.2.2 d_La_write_25)
  · skip
    have h1 : (sWrite σ q b i x).1 = k := (congrArg (·.1) hp).symm
    have h2 : (sWrite σ q b i x).2.1 = r := (congrArg (·.2.1) hp).symm
    have h3 : (sWrite σ q b i x).2.2 = σ1 := (congrArg (·.2.2) hp).symm
    have h4 : k = 1 ∨ k = 2 ∨ k = 3 := by rcases sWrite_k (σ := σ) (q := q) (b := b) (i := i) (x := x) with e9 | e9 | e9 | e9 <;> omega
    rcases h4 with rfl | rfl | rfl
    · skip
      refine w_catch C0 (E := "java/lang/IllegalArgumentException") (pre' := []) (suf' := [(0, 9, 16, 28), (0, 9, 20, 42)]) (a := 0) (b := 9) (h := 12) (ct := 13) rfl (fun z hz => by cases hz) ⟨by decide, by decide⟩ (by decide) k_cl_La_13 k_ca_1 hx9 ?_
      refine lv_astore (lv' := [(5, .ref x9), (0, .ref (base + ad 0 0)), (1, .int q), (2, .int b), (3, .int i), (4, .int x)]) hx hb d_La_write_12 hl (by decide) rfl (fun ls hl => ?_)
      refine lv_iconst (v := 1) hx hb d_La_write_14 (by decide) ?_
      exact W.widen (by decide) (by decide) (x_iret hx hb hr hlk (fun t ht _ => ⟨_, σ1, v, ⟨by rw [h1]; rfl, h3.symm, by rw [h1]; rfl⟩, rfl, by rw [ht]; exact hP1, by rw [ht]; exact hO1⟩) hS.2.2 d_La_write_15)
    · skip
      refine w_catch C0 (E := "java/lang/IllegalStateException") (pre' := [(0, 9, 12, 13)]) (suf' := [(0, 9, 20, 42)]) (a := 0) (b := 9) (h := 16) (ct := 28) rfl (List.forall_mem_cons.mpr ⟨⟨by decide, _, k_cl_La_13, k_nc_21⟩, fun z hz => by cases hz⟩) ⟨by decide, by decide⟩ (by decide) k_cl_La_28 k_ca_2 hx9 ?_
      refine lv_astore (lv' := [(5, .ref x9), (0, .ref (base + ad 0 0)), (1, .int q), (2, .int b), (3, .int i), (4, .int x)]) hx hb d_La_write_16 hl (by decide) rfl (fun ls hl => ?_)
      refine lv_iconst (v := 2) hx hb d_La_write_18 (by decide) ?_
      exact W.widen (by decide) (by decide) (x_iret hx hb hr hlk (fun t ht _ => ⟨_, σ1, v, ⟨by rw [h1]; rfl, h3.symm, by rw [h1]; rfl⟩, rfl, by rw [ht]; exact hP1, by rw [ht]; exact hO1⟩) hS.2.2 d_La_write_19)
    · skip
      refine w_catch C0 (E := "java/util/NoSuchElementException") (pre' := [(0, 9, 12, 13), (0, 9, 16, 28)]) (suf' := []) (a := 0) (b := 9) (h := 20) (ct := 42) rfl (List.forall_mem_cons.mpr ⟨⟨by decide, _, k_cl_La_13, k_nc_31⟩, List.forall_mem_cons.mpr ⟨⟨by decide, _, k_cl_La_28, k_nc_32⟩, fun z hz => by cases hz⟩⟩) ⟨by decide, by decide⟩ (by decide) k_cl_La_42 k_ca_3 hx9 ?_
      refine lv_astore (lv' := [(5, .ref x9), (0, .ref (base + ad 0 0)), (1, .int q), (2, .int b), (3, .int i), (4, .int x)]) hx hb d_La_write_20 hl (by decide) rfl (fun ls hl => ?_)
      refine lv_iconst (v := 3) hx hb d_La_write_22 (by decide) ?_
      exact W.widen (by decide) (by decide) (x_iret hx hb hr hlk (fun t ht _ => ⟨_, σ1, v, ⟨by rw [h1]; rfl, h3.symm, by rw [h1]; rfl⟩, rfl, by rw [ht]; exact hP1, by rw [ht]; exact hO1⟩) hS.2.2 d_La_write_23)
theorem sOpenC_k {σ : Mem} {p0 q0 k0 : Int32} : ((sOpenC σ p0 q0 k0).1 = 0 ∧ ∃ y9, (sOpenC σ p0 q0 k0).2.1 = some y9) ∨ (sOpenC σ p0 q0 k0).1 = 1 ∨ (sOpenC σ p0 q0 k0).1 = 2 ∨ (sOpenC σ p0 q0 k0).1 = 3 ∨ (sOpenC σ p0 q0 k0).1 = 4 := by
  unfold sOpenC
  repeat' split
  all_goals simp_all
def w_open (k : Nat) : Int32 := (if k = 0 then 0 else if k = 1 then 1 else if k = 2 then 2 else if k = 3 then 3 else if k = 4 then 4 else 0)
set_option maxHeartbeats 4000000 in
theorem c_La_open {S0 : State} {A0 : Array Value} {D : va_G} {ar : Nat → ClassId} {base ob : Nat} {σ : Mem} {v : Int64} {l : Launch} (hlt : l.stackTraces = false) (hob : base + 122 ≤ ob) (hcw : CW σ) {p0 q0 k0 : Int32} :
    MX l y_La_open [Cond.codeWith y_La_open b_La_open 6 (some .int) [(0, 12, 15, 13), (0, 12, 19, 28), (0, 12, 23, 42), (0, 12, 27, 15)]] rmW (PW S0 A0 D ar base ob σ v [.ref (base + ad 0 0), .int p0, .int q0, .int k0, .ref ob]) (QWr D ar base ob (fun w σ' v' => w = w_open (sOpenC σ p0 q0 k0).1 ∧ σ' = (sOpenC σ p0 q0 k0).2.2 ∧ v' = outV (sOpenC σ p0 q0 k0).1 (sOpenC σ p0 q0 k0).2.1 v)) (wF base ob) := by
  refine w_head hob rfl (Nat.le_of_ble_eq_true rfl) ?_
  intro p ev s m below meth c ls C0 hP hO hl
  obtain ⟨hx, hb, hr, hml, hown, hlk, -⟩ := id C0
  have hl : lv_has ls 6 [(0, .ref (base + ad 0 0)), (1, .int p0), (2, .int q0), (3, .int k0), (4, .ref ob)] := hl
  refine lv_aload hx hb d_La_open_0 (lv_at hl 4 rfl) ?_
  refine lv_iconst (v := 0) hx hb d_La_open_2 (by decide) ?_
  refine lv_aload_n hx hb d_La_open_3 rfl (lv_at hl 0 rfl) ?_
  refine lv_iload_n hx hb d_La_open_4 rfl (lv_at hl 1 rfl) ?_
  refine lv_iload_n hx hb d_La_open_5 rfl (lv_at hl 2 rfl) ?_
  refine lv_iload_n hx hb d_La_open_6 rfl (lv_at hl 3 rfl) ?_
  refine w_call C0 hP hO (As := [.int p0, .int q0, .int k0]) k_ml_La_48 k_im_Sy_open k_sl_Sy_Sy_open k_cd_Sy_open k_in_Sy z_Sy_open rfl d_La_open_7 (c_Sy_open hlt hcw) hl.1 (Nat.le_of_ble_eq_true rfl) ⟨by decide, by decide⟩ ⟨by decide, by decide⟩ (fun r σ1 H locs hp hP1 hO1 hS => ?_) (fun k r σ1 x9 H locs hk hp hx9 hP1 hO1 hS => ?_)
  · skip
    have h1 : (sOpenC σ p0 q0 k0).1 = 0 := (congrArg (·.1) hp).symm
    have h2 : (sOpenC σ p0 q0 k0).2.1 = r := (congrArg (·.2.1) hp).symm
    have h3 : (sOpenC σ p0 q0 k0).2.2 = σ1 := (congrArg (·.2.2) hp).symm
    have h4 : ∃ y9, (sOpenC σ p0 q0 k0).2.1 = some y9 := by rcases sOpenC_k (σ := σ) (p0 := p0) (q0 := q0) (k0 := k0) with e9 | e9 | e9 | e9 | e9 <;> first | exact e9.2 | omega
    obtain ⟨rr, h4⟩ := h4
    rw [h2] at h4
    subst h4
    refine lv_i2l hx hb d_La_open_10 rfl ?_
    refine w_last C0 hP1 hO1 hS d_La_open_11 (fun H locs hP1 hO1 hS => ?_)
    refine lv_goto (tgt := 31) hx hb d_La_open_12 (by decide) ?_
    refine lv_iconst (v := 0) hx hb d_La_open_31 (by decide) ?_
    exact W.widen (by decide) (by decide) (x_iret hx hb hr hlk (fun t ht _ => ⟨_, σ1, rr.toInt64, ⟨by rw [h1]; rfl, h3.symm, by rw [h1, h2]; first | done | rfl⟩, rfl, by rw [ht]; exact hP1, by rw [ht]; exact hO1⟩) hS.2.2 d_La_open_32)
  · skip
    have h1 : (sOpenC σ p0 q0 k0).1 = k := (congrArg (·.1) hp).symm
    have h2 : (sOpenC σ p0 q0 k0).2.1 = r := (congrArg (·.2.1) hp).symm
    have h3 : (sOpenC σ p0 q0 k0).2.2 = σ1 := (congrArg (·.2.2) hp).symm
    have h4 : k = 1 ∨ k = 2 ∨ k = 3 ∨ k = 4 := by rcases sOpenC_k (σ := σ) (p0 := p0) (q0 := q0) (k0 := k0) with e9 | e9 | e9 | e9 | e9 <;> omega
    rcases h4 with rfl | rfl | rfl | rfl
    · skip
      refine w_catch C0 (E := "java/lang/IllegalArgumentException") (pre' := []) (suf' := [(0, 12, 19, 28), (0, 12, 23, 42), (0, 12, 27, 15)]) (a := 0) (b := 12) (h := 15) (ct := 13) rfl (fun z hz => by cases hz) ⟨by decide, by decide⟩ (by decide) k_cl_La_13 k_ca_1 hx9 ?_
      refine lv_astore (lv' := [(5, .ref x9), (0, .ref (base + ad 0 0)), (1, .int p0), (2, .int q0), (3, .int k0), (4, .ref ob)]) hx hb d_La_open_15 hl (by decide) rfl (fun ls hl => ?_)
      refine lv_iconst (v := 1) hx hb d_La_open_17 (by decide) ?_
      exact W.widen (by decide) (by decide) (x_iret hx hb hr hlk (fun t ht _ => ⟨_, σ1, v, ⟨by rw [h1]; rfl, h3.symm, by rw [h1]; rfl⟩, rfl, by rw [ht]; exact hP1, by rw [ht]; exact hO1⟩) hS.2.2 d_La_open_18)
    · skip
      refine w_catch C0 (E := "java/lang/IllegalStateException") (pre' := [(0, 12, 15, 13)]) (suf' := [(0, 12, 23, 42), (0, 12, 27, 15)]) (a := 0) (b := 12) (h := 19) (ct := 28) rfl (List.forall_mem_cons.mpr ⟨⟨by decide, _, k_cl_La_13, k_nc_21⟩, fun z hz => by cases hz⟩) ⟨by decide, by decide⟩ (by decide) k_cl_La_28 k_ca_2 hx9 ?_
      refine lv_astore (lv' := [(5, .ref x9), (0, .ref (base + ad 0 0)), (1, .int p0), (2, .int q0), (3, .int k0), (4, .ref ob)]) hx hb d_La_open_19 hl (by decide) rfl (fun ls hl => ?_)
      refine lv_iconst (v := 2) hx hb d_La_open_21 (by decide) ?_
      exact W.widen (by decide) (by decide) (x_iret hx hb hr hlk (fun t ht _ => ⟨_, σ1, v, ⟨by rw [h1]; rfl, h3.symm, by rw [h1]; rfl⟩, rfl, by rw [ht]; exact hP1, by rw [ht]; exact hO1⟩) hS.2.2 d_La_open_22)
    · skip
      refine w_catch C0 (E := "java/util/NoSuchElementException") (pre' := [(0, 12, 15, 13), (0, 12, 19, 28)]) (suf' := [(0, 12, 27, 15)]) (a := 0) (b := 12) (h := 23) (ct := 42) rfl (List.forall_mem_cons.mpr ⟨⟨by decide, _, k_cl_La_13, k_nc_31⟩, List.forall_mem_cons.mpr ⟨⟨by decide, _, k_cl_La_28, k_nc_32⟩, fun z hz => by cases hz⟩⟩) ⟨by decide, by decide⟩ (by decide) k_cl_La_42 k_ca_3 hx9 ?_
      refine lv_astore (lv' := [(5, .ref x9), (0, .ref (base + ad 0 0)), (1, .int p0), (2, .int q0), (3, .int k0), (4, .ref ob)]) hx hb d_La_open_23 hl (by decide) rfl (fun ls hl => ?_)
      refine lv_iconst (v := 3) hx hb d_La_open_25 (by decide) ?_
      exact W.widen (by decide) (by decide) (x_iret hx hb hr hlk (fun t ht _ => ⟨_, σ1, v, ⟨by rw [h1]; rfl, h3.symm, by rw [h1]; rfl⟩, rfl, by rw [ht]; exact hP1, by rw [ht]; exact hO1⟩) hS.2.2 d_La_open_26)
    · skip
      refine w_catch C0 (E := "java/lang/UnsupportedOperationException") (pre' := [(0, 12, 15, 13), (0, 12, 19, 28), (0, 12, 23, 42)]) (suf' := []) (a := 0) (b := 12) (h := 27) (ct := 15) rfl (List.forall_mem_cons.mpr ⟨⟨by decide, _, k_cl_La_13, k_nc_41⟩, List.forall_mem_cons.mpr ⟨⟨by decide, _, k_cl_La_28, k_nc_42⟩, List.forall_mem_cons.mpr ⟨⟨by decide, _, k_cl_La_42, k_nc_43⟩, fun z hz => by cases hz⟩⟩⟩) ⟨by decide, by decide⟩ (by decide) k_cl_La_15 k_ca_4 hx9 ?_
      refine lv_astore (lv' := [(5, .ref x9), (0, .ref (base + ad 0 0)), (1, .int p0), (2, .int q0), (3, .int k0), (4, .ref ob)]) hx hb d_La_open_27 hl (by decide) rfl (fun ls hl => ?_)
      refine lv_iconst (v := 4) hx hb d_La_open_29 (by decide) ?_
      exact W.widen (by decide) (by decide) (x_iret hx hb hr hlk (fun t ht _ => ⟨_, σ1, v, ⟨by rw [h1]; rfl, h3.symm, by rw [h1]; rfl⟩, rfl, by rw [ht]; exact hP1, by rw [ht]; exact hO1⟩) hS.2.2 d_La_open_30)
theorem sSay_k {σ : Mem} {q x lt vv : Int32} : ((sSay σ q x lt vv).1 = 0 ∧ (sSay σ q x lt vv).2.1 = none) ∨ (sSay σ q x lt vv).1 = 1 ∨ (sSay σ q x lt vv).1 = 2 ∨ (sSay σ q x lt vv).1 = 3 := by
  have e0 := kOwnE_k (σ := σ) (q := q) (b := x)
  have e1 := kLoad_k (σ := σ) (q := q) (x := x) (lt := lt) (v := vv)
  unfold sSay
  repeat' split
  all_goals simp_all
  all_goals (try omega)
def w_say (k : Nat) : Int32 := (if k = 0 then 0 else if k = 1 then 1 else if k = 2 then 2 else if k = 3 then 3 else 0)
set_option maxHeartbeats 4000000 in
theorem c_La_say {S0 : State} {A0 : Array Value} {D : va_G} {ar : Nat → ClassId} {base ob : Nat} {σ : Mem} {v : Int64} {l : Launch} (hlt : l.stackTraces = false) (hob : base + 122 ≤ ob) {aK aV : Nat → Nat} (hs : SX S0 aK aV) (hz0 : (Term.string R_Sy 142).eval A0 S0 none [] S0 = some (.ref (aK 0))) (hz1 : (Term.string R_Sy 273).eval A0 S0 none [] S0 = some (.ref (aK 1))) (hqw : QW σ) (hcw : CW σ) {q x lt vv : Int32} :
    MX l y_La_say [Cond.codeWith y_La_say b_La_say 6 (some .int) [(0, 9, 12, 13), (0, 9, 16, 28), (0, 9, 20, 42)]] rmW (PW S0 A0 D ar base ob σ v [.ref (base + ad 0 0), .int q, .int x, .int lt, .int vv]) (QWr D ar base ob (fun w σ' v' => w = w_say (sSay σ q x lt vv).1 ∧ σ' = (sSay σ q x lt vv).2.2 ∧ v' = outV (sSay σ q x lt vv).1 (sSay σ q x lt vv).2.1 v)) (wF base ob) := by
  refine w_head hob rfl (Nat.le_of_ble_eq_true rfl) ?_
  intro p ev s m below meth c ls C0 hP hO hl
  obtain ⟨hx, hb, hr, hml, hown, hlk, -⟩ := id C0
  have hl : lv_has ls 6 [(0, .ref (base + ad 0 0)), (1, .int q), (2, .int x), (3, .int lt), (4, .int vv)] := hl
  refine lv_aload_n hx hb d_La_say_0 rfl (lv_at hl 0 rfl) ?_
  refine lv_iload_n hx hb d_La_say_1 rfl (lv_at hl 1 rfl) ?_
  refine lv_iload_n hx hb d_La_say_2 rfl (lv_at hl 2 rfl) ?_
  refine lv_iload_n hx hb d_La_say_3 rfl (lv_at hl 3 rfl) ?_
  refine lv_iload hx hb d_La_say_4 (lv_at hl 4 rfl) ?_
  refine w_call C0 hP hO (As := [.int q, .int x, .int lt, .int vv]) k_ml_La_51 k_im_Sy_say k_sl_Sy_Sy_say k_cd_Sy_say k_in_Sy z_Sy_say rfl d_La_say_6 (c_Sy_say hlt hs hz0 hz1 hqw hcw) hl.1 (Nat.le_of_ble_eq_true rfl) ⟨by decide, by decide⟩ ⟨by decide, by decide⟩ (fun r σ1 H locs hp hP1 hO1 hS => ?_) (fun k r σ1 x9 H locs hk hp hx9 hP1 hO1 hS => ?_)
  · skip
    have h1 : (sSay σ q x lt vv).1 = 0 := (congrArg (·.1) hp).symm
    have h2 : (sSay σ q x lt vv).2.1 = r := (congrArg (·.2.1) hp).symm
    have h3 : (sSay σ q x lt vv).2.2 = σ1 := (congrArg (·.2.2) hp).symm
    have h4 : (sSay σ q x lt vv).2.1 = none := by rcases sSay_k (σ := σ) (q := q) (x := x) (lt := lt) (vv := vv) with e9 | e9 | e9 | e9 <;> first | exact e9.2 | omega
    rw [h2] at h4
    subst h4
    refine lv_goto (tgt := 24) hx hb d_La_say_9 (by decide) ?_
    refine lv_iconst (v := 0) hx hb d_La_say_24 (by decide) ?_
    exact W.widen (by decide) (by decide) (x_iret hx hb hr hlk (fun t ht _ => ⟨_, σ1, v, ⟨by rw [h1]; rfl, h3.symm, by rw [h1, h2]; first | done | rfl⟩, rfl, by rw [ht]; exact hP1, by rw [ht]; exact hO1⟩) hS.2.2 d_La_say_25)
  · skip
    have h1 : (sSay σ q x lt vv).1 = k := (congrArg (·.1) hp).symm
    have h2 : (sSay σ q x lt vv).2.1 = r := (congrArg (·.2.1) hp).symm
    have h3 : (sSay σ q x lt vv).2.2 = σ1 := (congrArg (·.2.2) hp).symm
    have h4 : k = 1 ∨ k = 2 ∨ k = 3 := by rcases sSay_k (σ := σ) (q := q) (x := x) (lt := lt) (vv := vv) with e9 | e9 | e9 | e9 <;> omega
    rcases h4 with rfl | rfl | rfl
    · skip
      refine w_catch C0 (E := "java/lang/IllegalArgumentException") (pre' := []) (suf' := [(0, 9, 16, 28), (0, 9, 20, 42)]) (a := 0) (b := 9) (h := 12) (ct := 13) rfl (fun z hz => by cases hz) ⟨by decide, by decide⟩ (by decide) k_cl_La_13 k_ca_1 hx9 ?_
      refine lv_astore (lv' := [(5, .ref x9), (0, .ref (base + ad 0 0)), (1, .int q), (2, .int x), (3, .int lt), (4, .int vv)]) hx hb d_La_say_12 hl (by decide) rfl (fun ls hl => ?_)
      refine lv_iconst (v := 1) hx hb d_La_say_14 (by decide) ?_
      exact W.widen (by decide) (by decide) (x_iret hx hb hr hlk (fun t ht _ => ⟨_, σ1, v, ⟨by rw [h1]; rfl, h3.symm, by rw [h1]; rfl⟩, rfl, by rw [ht]; exact hP1, by rw [ht]; exact hO1⟩) hS.2.2 d_La_say_15)
    · skip
      refine w_catch C0 (E := "java/lang/IllegalStateException") (pre' := [(0, 9, 12, 13)]) (suf' := [(0, 9, 20, 42)]) (a := 0) (b := 9) (h := 16) (ct := 28) rfl (List.forall_mem_cons.mpr ⟨⟨by decide, _, k_cl_La_13, k_nc_21⟩, fun z hz => by cases hz⟩) ⟨by decide, by decide⟩ (by decide) k_cl_La_28 k_ca_2 hx9 ?_
      refine lv_astore (lv' := [(5, .ref x9), (0, .ref (base + ad 0 0)), (1, .int q), (2, .int x), (3, .int lt), (4, .int vv)]) hx hb d_La_say_16 hl (by decide) rfl (fun ls hl => ?_)
      refine lv_iconst (v := 2) hx hb d_La_say_18 (by decide) ?_
      exact W.widen (by decide) (by decide) (x_iret hx hb hr hlk (fun t ht _ => ⟨_, σ1, v, ⟨by rw [h1]; rfl, h3.symm, by rw [h1]; rfl⟩, rfl, by rw [ht]; exact hP1, by rw [ht]; exact hO1⟩) hS.2.2 d_La_say_19)
    · skip
      refine w_catch C0 (E := "java/util/NoSuchElementException") (pre' := [(0, 9, 12, 13), (0, 9, 16, 28)]) (suf' := []) (a := 0) (b := 9) (h := 20) (ct := 42) rfl (List.forall_mem_cons.mpr ⟨⟨by decide, _, k_cl_La_13, k_nc_31⟩, List.forall_mem_cons.mpr ⟨⟨by decide, _, k_cl_La_28, k_nc_32⟩, fun z hz => by cases hz⟩⟩) ⟨by decide, by decide⟩ (by decide) k_cl_La_42 k_ca_3 hx9 ?_
      refine lv_astore (lv' := [(5, .ref x9), (0, .ref (base + ad 0 0)), (1, .int q), (2, .int x), (3, .int lt), (4, .int vv)]) hx hb d_La_say_20 hl (by decide) rfl (fun ls hl => ?_)
      refine lv_iconst (v := 3) hx hb d_La_say_22 (by decide) ?_
      exact W.widen (by decide) (by decide) (x_iret hx hb hr hlk (fun t ht _ => ⟨_, σ1, v, ⟨by rw [h1]; rfl, h3.symm, by rw [h1]; rfl⟩, rfl, by rw [ht]; exact hP1, by rw [ht]; exact hO1⟩) hS.2.2 d_La_say_23)
theorem sHear_k {σ : Mem} {q x : Int32} : ((sHear σ q x).1 = 0 ∧ ∃ y9, (sHear σ q x).2.1 = some y9) ∨ (sHear σ q x).1 = 1 ∨ (sHear σ q x).1 = 2 ∨ (sHear σ q x).1 = 3 := by
  have e0 := kOwnE_k (σ := σ) (q := q) (b := x)
  unfold sHear
  repeat' split
  all_goals simp_all
  all_goals (try omega)
def w_hear (k : Nat) : Int32 := (if k = 0 then 0 else if k = 1 then 1 else if k = 2 then 2 else if k = 3 then 3 else 0)
set_option maxHeartbeats 4000000 in
theorem c_La_hear {S0 : State} {A0 : Array Value} {D : va_G} {ar : Nat → ClassId} {base ob : Nat} {σ : Mem} {v : Int64} {l : Launch} (hlt : l.stackTraces = false) (hob : base + 122 ≤ ob) (hqw : QW σ) (hcw : CW σ) {q x : Int32} :
    MX l y_La_hear [Cond.codeWith y_La_hear b_La_hear 5 (some .int) [(0, 10, 13, 13), (0, 10, 17, 28), (0, 10, 21, 42)]] rmW (PW S0 A0 D ar base ob σ v [.ref (base + ad 0 0), .int q, .int x, .ref ob]) (QWr D ar base ob (fun w σ' v' => w = w_hear (sHear σ q x).1 ∧ σ' = (sHear σ q x).2.2 ∧ v' = outV (sHear σ q x).1 (sHear σ q x).2.1 v)) (wF base ob) := by
  refine w_head hob rfl (Nat.le_of_ble_eq_true rfl) ?_
  intro p ev s m below meth c ls C0 hP hO hl
  obtain ⟨hx, hb, hr, hml, hown, hlk, -⟩ := id C0
  have hl : lv_has ls 5 [(0, .ref (base + ad 0 0)), (1, .int q), (2, .int x), (3, .ref ob)] := hl
  refine lv_aload_n hx hb d_La_hear_0 rfl (lv_at hl 3 rfl) ?_
  refine lv_iconst (v := 0) hx hb d_La_hear_1 (by decide) ?_
  refine lv_aload_n hx hb d_La_hear_2 rfl (lv_at hl 0 rfl) ?_
  refine lv_iload_n hx hb d_La_hear_3 rfl (lv_at hl 1 rfl) ?_
  refine lv_iload_n hx hb d_La_hear_4 rfl (lv_at hl 2 rfl) ?_
  refine w_call C0 hP hO (As := [.int q, .int x]) k_ml_La_54 k_im_Sy_hear k_sl_Sy_Sy_hear k_cd_Sy_hear k_in_Sy z_Sy_hear rfl d_La_hear_5 (c_Sy_hear hlt hqw hcw) hl.1 (Nat.le_of_ble_eq_true rfl) ⟨by decide, by decide⟩ ⟨by decide, by decide⟩ (fun r σ1 H locs hp hP1 hO1 hS => ?_) (fun k r σ1 x9 H locs hk hp hx9 hP1 hO1 hS => ?_)
  · skip
    have h1 : (sHear σ q x).1 = 0 := (congrArg (·.1) hp).symm
    have h2 : (sHear σ q x).2.1 = r := (congrArg (·.2.1) hp).symm
    have h3 : (sHear σ q x).2.2 = σ1 := (congrArg (·.2.2) hp).symm
    have h4 : ∃ y9, (sHear σ q x).2.1 = some y9 := by rcases sHear_k (σ := σ) (q := q) (x := x) with e9 | e9 | e9 | e9 <;> first | exact e9.2 | omega
    obtain ⟨rr, h4⟩ := h4
    rw [h2] at h4
    subst h4
    refine lv_i2l hx hb d_La_hear_8 rfl ?_
    refine w_last C0 hP1 hO1 hS d_La_hear_9 (fun H locs hP1 hO1 hS => ?_)
    refine lv_goto (tgt := 25) hx hb d_La_hear_10 (by decide) ?_
    refine lv_iconst (v := 0) hx hb d_La_hear_25 (by decide) ?_
    exact W.widen (by decide) (by decide) (x_iret hx hb hr hlk (fun t ht _ => ⟨_, σ1, rr.toInt64, ⟨by rw [h1]; rfl, h3.symm, by rw [h1, h2]; first | done | rfl⟩, rfl, by rw [ht]; exact hP1, by rw [ht]; exact hO1⟩) hS.2.2 d_La_hear_26)
  · skip
    have h1 : (sHear σ q x).1 = k := (congrArg (·.1) hp).symm
    have h2 : (sHear σ q x).2.1 = r := (congrArg (·.2.1) hp).symm
    have h3 : (sHear σ q x).2.2 = σ1 := (congrArg (·.2.2) hp).symm
    have h4 : k = 1 ∨ k = 2 ∨ k = 3 := by rcases sHear_k (σ := σ) (q := q) (x := x) with e9 | e9 | e9 | e9 <;> omega
    rcases h4 with rfl | rfl | rfl
    · skip
      refine w_catch C0 (E := "java/lang/IllegalArgumentException") (pre' := []) (suf' := [(0, 10, 17, 28), (0, 10, 21, 42)]) (a := 0) (b := 10) (h := 13) (ct := 13) rfl (fun z hz => by cases hz) ⟨by decide, by decide⟩ (by decide) k_cl_La_13 k_ca_1 hx9 ?_
      refine lv_astore (lv' := [(4, .ref x9), (0, .ref (base + ad 0 0)), (1, .int q), (2, .int x), (3, .ref ob)]) hx hb d_La_hear_13 hl (by decide) rfl (fun ls hl => ?_)
      refine lv_iconst (v := 1) hx hb d_La_hear_15 (by decide) ?_
      exact W.widen (by decide) (by decide) (x_iret hx hb hr hlk (fun t ht _ => ⟨_, σ1, v, ⟨by rw [h1]; rfl, h3.symm, by rw [h1]; rfl⟩, rfl, by rw [ht]; exact hP1, by rw [ht]; exact hO1⟩) hS.2.2 d_La_hear_16)
    · skip
      refine w_catch C0 (E := "java/lang/IllegalStateException") (pre' := [(0, 10, 13, 13)]) (suf' := [(0, 10, 21, 42)]) (a := 0) (b := 10) (h := 17) (ct := 28) rfl (List.forall_mem_cons.mpr ⟨⟨by decide, _, k_cl_La_13, k_nc_21⟩, fun z hz => by cases hz⟩) ⟨by decide, by decide⟩ (by decide) k_cl_La_28 k_ca_2 hx9 ?_
      refine lv_astore (lv' := [(4, .ref x9), (0, .ref (base + ad 0 0)), (1, .int q), (2, .int x), (3, .ref ob)]) hx hb d_La_hear_17 hl (by decide) rfl (fun ls hl => ?_)
      refine lv_iconst (v := 2) hx hb d_La_hear_19 (by decide) ?_
      exact W.widen (by decide) (by decide) (x_iret hx hb hr hlk (fun t ht _ => ⟨_, σ1, v, ⟨by rw [h1]; rfl, h3.symm, by rw [h1]; rfl⟩, rfl, by rw [ht]; exact hP1, by rw [ht]; exact hO1⟩) hS.2.2 d_La_hear_20)
    · skip
      refine w_catch C0 (E := "java/util/NoSuchElementException") (pre' := [(0, 10, 13, 13), (0, 10, 17, 28)]) (suf' := []) (a := 0) (b := 10) (h := 21) (ct := 42) rfl (List.forall_mem_cons.mpr ⟨⟨by decide, _, k_cl_La_13, k_nc_31⟩, List.forall_mem_cons.mpr ⟨⟨by decide, _, k_cl_La_28, k_nc_32⟩, fun z hz => by cases hz⟩⟩) ⟨by decide, by decide⟩ (by decide) k_cl_La_42 k_ca_3 hx9 ?_
      refine lv_astore (lv' := [(4, .ref x9), (0, .ref (base + ad 0 0)), (1, .int q), (2, .int x), (3, .ref ob)]) hx hb d_La_hear_21 hl (by decide) rfl (fun ls hl => ?_)
      refine lv_iconst (v := 3) hx hb d_La_hear_23 (by decide) ?_
      exact W.widen (by decide) (by decide) (x_iret hx hb hr hlk (fun t ht _ => ⟨_, σ1, v, ⟨by rw [h1]; rfl, h3.symm, by rw [h1]; rfl⟩, rfl, by rw [ht]; exact hP1, by rw [ht]; exact hO1⟩) hS.2.2 d_La_hear_24)
theorem sChoose_k {σ : Mem} {q mask : Int32} : ((sChoose σ q mask).1 = 0 ∧ ∃ y9, (sChoose σ q mask).2.1 = some y9) ∨ (sChoose σ q mask).1 = 1 ∨ (sChoose σ q mask).1 = 2 ∨ (sChoose σ q mask).1 = 3 := by
  have e0 := chL_k (σ := σ) (q := q) (mask := mask) 12 0
  unfold sChoose
  repeat' split
  · exact Or.inr (Or.inl rfl)
  · exact Or.inr (Or.inl rfl)
  · exact Or.inr (Or.inr (Or.inl rfl))
  · rcases e0 with e | e
    · exact Or.inl e
    · exact Or.inr (Or.inr (Or.inr e))
def w_choose (k : Nat) : Int32 := (if k = 0 then 0 else if k = 1 then 1 else if k = 2 then 2 else if k = 3 then 3 else 0)
set_option maxHeartbeats 4000000 in
theorem c_La_choose {S0 : State} {A0 : Array Value} {D : va_G} {ar : Nat → ClassId} {base ob : Nat} {σ : Mem} {v : Int64} {l : Launch} (hlt : l.stackTraces = false) (hob : base + 122 ≤ ob)  {q mask : Int32} :
    MX l y_La_choose [Cond.codeWith y_La_choose b_La_choose 5 (some .int) [(0, 10, 13, 13), (0, 10, 17, 28), (0, 10, 21, 42)]] rmW (PW S0 A0 D ar base ob σ v [.ref (base + ad 0 0), .int q, .int mask, .ref ob]) (QWr D ar base ob (fun w σ' v' => w = w_choose (sChoose σ q mask).1 ∧ σ' = (sChoose σ q mask).2.2 ∧ v' = outV (sChoose σ q mask).1 (sChoose σ q mask).2.1 v)) (wF base ob) := by
  refine w_head hob rfl (Nat.le_of_ble_eq_true rfl) ?_
  intro p ev s m below meth c ls C0 hP hO hl
  obtain ⟨hx, hb, hr, hml, hown, hlk, -⟩ := id C0
  have hl : lv_has ls 5 [(0, .ref (base + ad 0 0)), (1, .int q), (2, .int mask), (3, .ref ob)] := hl
  refine lv_aload_n hx hb d_La_choose_0 rfl (lv_at hl 3 rfl) ?_
  refine lv_iconst (v := 0) hx hb d_La_choose_1 (by decide) ?_
  refine lv_aload_n hx hb d_La_choose_2 rfl (lv_at hl 0 rfl) ?_
  refine lv_iload_n hx hb d_La_choose_3 rfl (lv_at hl 1 rfl) ?_
  refine lv_iload_n hx hb d_La_choose_4 rfl (lv_at hl 2 rfl) ?_
  refine w_call C0 hP hO (As := [.int q, .int mask]) k_ml_La_57 k_im_Sy_choose k_sl_Sy_Sy_choose k_cd_Sy_choose k_in_Sy z_Sy_choose rfl d_La_choose_5 (c_Sy_choose hlt ) hl.1 (Nat.le_of_ble_eq_true rfl) ⟨by decide, by decide⟩ ⟨by decide, by decide⟩ (fun r σ1 H locs hp hP1 hO1 hS => ?_) (fun k r σ1 x9 H locs hk hp hx9 hP1 hO1 hS => ?_)
  · skip
    have h1 : (sChoose σ q mask).1 = 0 := (congrArg (·.1) hp).symm
    have h2 : (sChoose σ q mask).2.1 = r := (congrArg (·.2.1) hp).symm
    have h3 : (sChoose σ q mask).2.2 = σ1 := (congrArg (·.2.2) hp).symm
    have h4 : ∃ y9, (sChoose σ q mask).2.1 = some y9 := by rcases sChoose_k (σ := σ) (q := q) (mask := mask) with e9 | e9 | e9 | e9 <;> first | exact e9.2 | omega
    obtain ⟨rr, h4⟩ := h4
    rw [h2] at h4
    subst h4
    refine lv_i2l hx hb d_La_choose_8 rfl ?_
    refine w_last C0 hP1 hO1 hS d_La_choose_9 (fun H locs hP1 hO1 hS => ?_)
    refine lv_goto (tgt := 25) hx hb d_La_choose_10 (by decide) ?_
    refine lv_iconst (v := 0) hx hb d_La_choose_25 (by decide) ?_
    exact W.widen (by decide) (by decide) (x_iret hx hb hr hlk (fun t ht _ => ⟨_, σ1, rr.toInt64, ⟨by rw [h1]; rfl, h3.symm, by rw [h1, h2]; first | done | rfl⟩, rfl, by rw [ht]; exact hP1, by rw [ht]; exact hO1⟩) hS.2.2 d_La_choose_26)
  · skip
    have h1 : (sChoose σ q mask).1 = k := (congrArg (·.1) hp).symm
    have h2 : (sChoose σ q mask).2.1 = r := (congrArg (·.2.1) hp).symm
    have h3 : (sChoose σ q mask).2.2 = σ1 := (congrArg (·.2.2) hp).symm
    have h4 : k = 1 ∨ k = 2 ∨ k = 3 := by rcases sChoose_k (σ := σ) (q := q) (mask := mask) with e9 | e9 | e9 | e9 <;> omega
    rcases h4 with rfl | rfl | rfl
    · skip
      refine w_catch C0 (E := "java/lang/IllegalArgumentException") (pre' := []) (suf' := [(0, 10, 17, 28), (0, 10, 21, 42)]) (a := 0) (b := 10) (h := 13) (ct := 13) rfl (fun z hz => by cases hz) ⟨by decide, by decide⟩ (by decide) k_cl_La_13 k_ca_1 hx9 ?_
      refine lv_astore (lv' := [(4, .ref x9), (0, .ref (base + ad 0 0)), (1, .int q), (2, .int mask), (3, .ref ob)]) hx hb d_La_choose_13 hl (by decide) rfl (fun ls hl => ?_)
      refine lv_iconst (v := 1) hx hb d_La_choose_15 (by decide) ?_
      exact W.widen (by decide) (by decide) (x_iret hx hb hr hlk (fun t ht _ => ⟨_, σ1, v, ⟨by rw [h1]; rfl, h3.symm, by rw [h1]; rfl⟩, rfl, by rw [ht]; exact hP1, by rw [ht]; exact hO1⟩) hS.2.2 d_La_choose_16)
    · skip
      refine w_catch C0 (E := "java/lang/IllegalStateException") (pre' := [(0, 10, 13, 13)]) (suf' := [(0, 10, 21, 42)]) (a := 0) (b := 10) (h := 17) (ct := 28) rfl (List.forall_mem_cons.mpr ⟨⟨by decide, _, k_cl_La_13, k_nc_21⟩, fun z hz => by cases hz⟩) ⟨by decide, by decide⟩ (by decide) k_cl_La_28 k_ca_2 hx9 ?_
      refine lv_astore (lv' := [(4, .ref x9), (0, .ref (base + ad 0 0)), (1, .int q), (2, .int mask), (3, .ref ob)]) hx hb d_La_choose_17 hl (by decide) rfl (fun ls hl => ?_)
      refine lv_iconst (v := 2) hx hb d_La_choose_19 (by decide) ?_
      exact W.widen (by decide) (by decide) (x_iret hx hb hr hlk (fun t ht _ => ⟨_, σ1, v, ⟨by rw [h1]; rfl, h3.symm, by rw [h1]; rfl⟩, rfl, by rw [ht]; exact hP1, by rw [ht]; exact hO1⟩) hS.2.2 d_La_choose_20)
    · skip
      refine w_catch C0 (E := "java/util/NoSuchElementException") (pre' := [(0, 10, 13, 13), (0, 10, 17, 28)]) (suf' := []) (a := 0) (b := 10) (h := 21) (ct := 42) rfl (List.forall_mem_cons.mpr ⟨⟨by decide, _, k_cl_La_13, k_nc_31⟩, List.forall_mem_cons.mpr ⟨⟨by decide, _, k_cl_La_28, k_nc_32⟩, fun z hz => by cases hz⟩⟩) ⟨by decide, by decide⟩ (by decide) k_cl_La_42 k_ca_3 hx9 ?_
      refine lv_astore (lv' := [(4, .ref x9), (0, .ref (base + ad 0 0)), (1, .int q), (2, .int mask), (3, .ref ob)]) hx hb d_La_choose_21 hl (by decide) rfl (fun ls hl => ?_)
      refine lv_iconst (v := 3) hx hb d_La_choose_23 (by decide) ?_
      exact W.widen (by decide) (by decide) (x_iret hx hb hr hlk (fun t ht _ => ⟨_, σ1, v, ⟨by rw [h1]; rfl, h3.symm, by rw [h1]; rfl⟩, rfl, by rw [ht]; exact hP1, by rw [ht]; exact hO1⟩) hS.2.2 d_La_choose_24)
theorem sClose_k {σ : Mem} {q x : Int32} : ((sClose σ q x).1 = 0 ∧ ∃ y9, (sClose σ q x).2.1 = some y9) ∨ (sClose σ q x).1 = 1 ∨ (sClose σ q x).1 = 2 := by
  have e0 := kOwnE_k (σ := σ) (q := q) (b := x)
  unfold sClose
  repeat' split
  all_goals simp_all
  all_goals (try omega)
def w_close (k : Nat) : Int32 := (if k = 0 then 0 else if k = 1 then 1 else if k = 2 then 2 else 0)
set_option maxHeartbeats 4000000 in
theorem c_La_close {S0 : State} {A0 : Array Value} {D : va_G} {ar : Nat → ClassId} {base ob : Nat} {σ : Mem} {v : Int64} {l : Launch} (hlt : l.stackTraces = false) (hob : base + 122 ≤ ob) (hqw : QW σ) {q x : Int32} :
    MX l y_La_close [Cond.codeWith y_La_close b_La_close 5 (some .int) [(0, 10, 13, 13), (0, 10, 17, 28)]] rmW (PW S0 A0 D ar base ob σ v [.ref (base + ad 0 0), .int q, .int x, .ref ob]) (QWr D ar base ob (fun w σ' v' => w = w_close (sClose σ q x).1 ∧ σ' = (sClose σ q x).2.2 ∧ v' = outV (sClose σ q x).1 (sClose σ q x).2.1 v)) (wF base ob) := by
  refine w_head hob rfl (Nat.le_of_ble_eq_true rfl) ?_
  intro p ev s m below meth c ls C0 hP hO hl
  obtain ⟨hx, hb, hr, hml, hown, hlk, -⟩ := id C0
  have hl : lv_has ls 5 [(0, .ref (base + ad 0 0)), (1, .int q), (2, .int x), (3, .ref ob)] := hl
  refine lv_aload_n hx hb d_La_close_0 rfl (lv_at hl 3 rfl) ?_
  refine lv_iconst (v := 0) hx hb d_La_close_1 (by decide) ?_
  refine lv_aload_n hx hb d_La_close_2 rfl (lv_at hl 0 rfl) ?_
  refine lv_iload_n hx hb d_La_close_3 rfl (lv_at hl 1 rfl) ?_
  refine lv_iload_n hx hb d_La_close_4 rfl (lv_at hl 2 rfl) ?_
  refine w_call C0 hP hO (As := [.int q, .int x]) k_ml_La_60 k_im_Sy_close k_sl_Sy_Sy_close k_cd_Sy_close k_in_Sy z_Sy_close rfl d_La_close_5 (c_Sy_close hlt hqw) hl.1 (Nat.le_of_ble_eq_true rfl) ⟨by decide, by decide⟩ ⟨by decide, by decide⟩ (fun r σ1 H locs hp hP1 hO1 hS => ?_) (fun k r σ1 x9 H locs hk hp hx9 hP1 hO1 hS => ?_)
  · skip
    have h1 : (sClose σ q x).1 = 0 := (congrArg (·.1) hp).symm
    have h2 : (sClose σ q x).2.1 = r := (congrArg (·.2.1) hp).symm
    have h3 : (sClose σ q x).2.2 = σ1 := (congrArg (·.2.2) hp).symm
    have h4 : ∃ y9, (sClose σ q x).2.1 = some y9 := by rcases sClose_k (σ := σ) (q := q) (x := x) with e9 | e9 | e9 <;> first | exact e9.2 | omega
    obtain ⟨rr, h4⟩ := h4
    rw [h2] at h4
    subst h4
    refine lv_i2l hx hb d_La_close_8 rfl ?_
    refine w_last C0 hP1 hO1 hS d_La_close_9 (fun H locs hP1 hO1 hS => ?_)
    refine lv_goto (tgt := 21) hx hb d_La_close_10 (by decide) ?_
    refine lv_iconst (v := 0) hx hb d_La_close_21 (by decide) ?_
    exact W.widen (by decide) (by decide) (x_iret hx hb hr hlk (fun t ht _ => ⟨_, σ1, rr.toInt64, ⟨by rw [h1]; rfl, h3.symm, by rw [h1, h2]; first | done | rfl⟩, rfl, by rw [ht]; exact hP1, by rw [ht]; exact hO1⟩) hS.2.2 d_La_close_22)
  · skip
    have h1 : (sClose σ q x).1 = k := (congrArg (·.1) hp).symm
    have h2 : (sClose σ q x).2.1 = r := (congrArg (·.2.1) hp).symm
    have h3 : (sClose σ q x).2.2 = σ1 := (congrArg (·.2.2) hp).symm
    have h4 : k = 1 ∨ k = 2 := by rcases sClose_k (σ := σ) (q := q) (x := x) with e9 | e9 | e9 <;> omega
    rcases h4 with rfl | rfl
    · skip
      refine w_catch C0 (E := "java/lang/IllegalArgumentException") (pre' := []) (suf' := [(0, 10, 17, 28)]) (a := 0) (b := 10) (h := 13) (ct := 13) rfl (fun z hz => by cases hz) ⟨by decide, by decide⟩ (by decide) k_cl_La_13 k_ca_1 hx9 ?_
      refine lv_astore (lv' := [(4, .ref x9), (0, .ref (base + ad 0 0)), (1, .int q), (2, .int x), (3, .ref ob)]) hx hb d_La_close_13 hl (by decide) rfl (fun ls hl => ?_)
      refine lv_iconst (v := 1) hx hb d_La_close_15 (by decide) ?_
      exact W.widen (by decide) (by decide) (x_iret hx hb hr hlk (fun t ht _ => ⟨_, σ1, v, ⟨by rw [h1]; rfl, h3.symm, by rw [h1]; rfl⟩, rfl, by rw [ht]; exact hP1, by rw [ht]; exact hO1⟩) hS.2.2 d_La_close_16)
    · skip
      refine w_catch C0 (E := "java/lang/IllegalStateException") (pre' := [(0, 10, 13, 13)]) (suf' := []) (a := 0) (b := 10) (h := 17) (ct := 28) rfl (List.forall_mem_cons.mpr ⟨⟨by decide, _, k_cl_La_13, k_nc_21⟩, fun z hz => by cases hz⟩) ⟨by decide, by decide⟩ (by decide) k_cl_La_28 k_ca_2 hx9 ?_
      refine lv_astore (lv' := [(4, .ref x9), (0, .ref (base + ad 0 0)), (1, .int q), (2, .int x), (3, .ref ob)]) hx hb d_La_close_17 hl (by decide) rfl (fun ls hl => ?_)
      refine lv_iconst (v := 2) hx hb d_La_close_19 (by decide) ?_
      exact W.widen (by decide) (by decide) (x_iret hx hb hr hlk (fun t ht _ => ⟨_, σ1, v, ⟨by rw [h1]; rfl, h3.symm, by rw [h1]; rfl⟩, rfl, by rw [ht]; exact hP1, by rw [ht]; exact hO1⟩) hS.2.2 d_La_close_20)
theorem sOfBlock_k {σ : Mem} {b x : Int32} : ((sOfBlock σ b x).1 = 0 ∧ ∃ y9, (sOfBlock σ b x).2.1 = some y9) ∨ (sOfBlock σ b x).1 = 1 := by
  unfold sOfBlock
  repeat' split
  all_goals simp_all
def w_ofBlock (k : Nat) : Int32 := (if k = 0 then 0 else if k = 1 then 1 else 0)
set_option maxHeartbeats 4000000 in
theorem c_La_ofBlock {S0 : State} {A0 : Array Value} {D : va_G} {ar : Nat → ClassId} {base ob : Nat} {σ : Mem} {v : Int64} {l : Launch} (hlt : l.stackTraces = false) (hob : base + 122 ≤ ob)  {b x : Int32} :
    MX l y_La_ofBlock [Cond.codeWith y_La_ofBlock b_La_ofBlock 5 (some .int) [(0, 10, 13, 13)]] rmW (PW S0 A0 D ar base ob σ v [.ref (base + ad 0 0), .int b, .int x, .ref ob]) (QWr D ar base ob (fun w σ' v' => w = w_ofBlock (sOfBlock σ b x).1 ∧ σ' = (sOfBlock σ b x).2.2 ∧ v' = outV (sOfBlock σ b x).1 (sOfBlock σ b x).2.1 v)) (wF base ob) := by
  refine w_head hob rfl (Nat.le_of_ble_eq_true rfl) ?_
  intro p ev s m below meth c ls C0 hP hO hl
  obtain ⟨hx, hb, hr, hml, hown, hlk, -⟩ := id C0
  have hl : lv_has ls 5 [(0, .ref (base + ad 0 0)), (1, .int b), (2, .int x), (3, .ref ob)] := hl
  refine lv_aload_n hx hb d_La_ofBlock_0 rfl (lv_at hl 3 rfl) ?_
  refine lv_iconst (v := 0) hx hb d_La_ofBlock_1 (by decide) ?_
  refine lv_aload_n hx hb d_La_ofBlock_2 rfl (lv_at hl 0 rfl) ?_
  refine lv_iload_n hx hb d_La_ofBlock_3 rfl (lv_at hl 1 rfl) ?_
  refine lv_iload_n hx hb d_La_ofBlock_4 rfl (lv_at hl 2 rfl) ?_
  refine w_call C0 hP hO (As := [.int b, .int x]) k_ml_La_63 k_im_Sy_ofBlock k_sl_Sy_Sy_ofBlock k_cd_Sy_ofBlock k_in_Sy z_Sy_ofBlock rfl d_La_ofBlock_5 (c_Sy_ofBlock hlt ) hl.1 (Nat.le_of_ble_eq_true rfl) ⟨by decide, by decide⟩ ⟨by decide, by decide⟩ (fun r σ1 H locs hp hP1 hO1 hS => ?_) (fun k r σ1 x9 H locs hk hp hx9 hP1 hO1 hS => ?_)
  · skip
    have h1 : (sOfBlock σ b x).1 = 0 := (congrArg (·.1) hp).symm
    have h2 : (sOfBlock σ b x).2.1 = r := (congrArg (·.2.1) hp).symm
    have h3 : (sOfBlock σ b x).2.2 = σ1 := (congrArg (·.2.2) hp).symm
    have h4 : ∃ y9, (sOfBlock σ b x).2.1 = some y9 := by rcases sOfBlock_k (σ := σ) (b := b) (x := x) with e9 | e9 <;> first | exact e9.2 | omega
    obtain ⟨rr, h4⟩ := h4
    rw [h2] at h4
    subst h4
    refine lv_i2l hx hb d_La_ofBlock_8 rfl ?_
    refine w_last C0 hP1 hO1 hS d_La_ofBlock_9 (fun H locs hP1 hO1 hS => ?_)
    refine lv_goto (tgt := 17) hx hb d_La_ofBlock_10 (by decide) ?_
    refine lv_iconst (v := 0) hx hb d_La_ofBlock_17 (by decide) ?_
    exact W.widen (by decide) (by decide) (x_iret hx hb hr hlk (fun t ht _ => ⟨_, σ1, rr.toInt64, ⟨by rw [h1]; rfl, h3.symm, by rw [h1, h2]; first | done | rfl⟩, rfl, by rw [ht]; exact hP1, by rw [ht]; exact hO1⟩) hS.2.2 d_La_ofBlock_18)
  · skip
    have h1 : (sOfBlock σ b x).1 = k := (congrArg (·.1) hp).symm
    have h2 : (sOfBlock σ b x).2.1 = r := (congrArg (·.2.1) hp).symm
    have h3 : (sOfBlock σ b x).2.2 = σ1 := (congrArg (·.2.2) hp).symm
    have h4 : k = 1 := by rcases sOfBlock_k (σ := σ) (b := b) (x := x) with e9 | e9 <;> omega
    rcases h4 with rfl
    · skip
      refine w_catch C0 (E := "java/lang/IllegalArgumentException") (pre' := []) (suf' := []) (a := 0) (b := 10) (h := 13) (ct := 13) rfl (fun z hz => by cases hz) ⟨by decide, by decide⟩ (by decide) k_cl_La_13 k_ca_1 hx9 ?_
      refine lv_astore (lv' := [(4, .ref x9), (0, .ref (base + ad 0 0)), (1, .int b), (2, .int x), (3, .ref ob)]) hx hb d_La_ofBlock_13 hl (by decide) rfl (fun ls hl => ?_)
      refine lv_iconst (v := 1) hx hb d_La_ofBlock_15 (by decide) ?_
      exact W.widen (by decide) (by decide) (x_iret hx hb hr hlk (fun t ht _ => ⟨_, σ1, v, ⟨by rw [h1]; rfl, h3.symm, by rw [h1]; rfl⟩, rfl, by rw [ht]; exact hP1, by rw [ht]; exact hO1⟩) hS.2.2 d_La_ofBlock_16)
theorem sOfEnd_k {σ : Mem} {b x : Int32} : ((sOfEnd σ b x).1 = 0 ∧ ∃ y9, (sOfEnd σ b x).2.1 = some y9) ∨ (sOfEnd σ b x).1 = 1 := by
  unfold sOfEnd
  repeat' split
  all_goals simp_all
def w_ofEnd (k : Nat) : Int32 := (if k = 0 then 0 else if k = 1 then 1 else 0)
set_option maxHeartbeats 4000000 in
theorem c_La_ofEnd {S0 : State} {A0 : Array Value} {D : va_G} {ar : Nat → ClassId} {base ob : Nat} {σ : Mem} {v : Int64} {l : Launch} (hlt : l.stackTraces = false) (hob : base + 122 ≤ ob)  {b x : Int32} :
    MX l y_La_ofEnd [Cond.codeWith y_La_ofEnd b_La_ofEnd 5 (some .int) [(0, 10, 13, 13)]] rmW (PW S0 A0 D ar base ob σ v [.ref (base + ad 0 0), .int b, .int x, .ref ob]) (QWr D ar base ob (fun w σ' v' => w = w_ofEnd (sOfEnd σ b x).1 ∧ σ' = (sOfEnd σ b x).2.2 ∧ v' = outV (sOfEnd σ b x).1 (sOfEnd σ b x).2.1 v)) (wF base ob) := by
  refine w_head hob rfl (Nat.le_of_ble_eq_true rfl) ?_
  intro p ev s m below meth c ls C0 hP hO hl
  obtain ⟨hx, hb, hr, hml, hown, hlk, -⟩ := id C0
  have hl : lv_has ls 5 [(0, .ref (base + ad 0 0)), (1, .int b), (2, .int x), (3, .ref ob)] := hl
  refine lv_aload_n hx hb d_La_ofEnd_0 rfl (lv_at hl 3 rfl) ?_
  refine lv_iconst (v := 0) hx hb d_La_ofEnd_1 (by decide) ?_
  refine lv_aload_n hx hb d_La_ofEnd_2 rfl (lv_at hl 0 rfl) ?_
  refine lv_iload_n hx hb d_La_ofEnd_3 rfl (lv_at hl 1 rfl) ?_
  refine lv_iload_n hx hb d_La_ofEnd_4 rfl (lv_at hl 2 rfl) ?_
  refine w_call C0 hP hO (As := [.int b, .int x]) k_ml_La_66 k_im_Sy_ofEnd k_sl_Sy_Sy_ofEnd k_cd_Sy_ofEnd k_in_Sy z_Sy_ofEnd rfl d_La_ofEnd_5 (c_Sy_ofEnd hlt ) hl.1 (Nat.le_of_ble_eq_true rfl) ⟨by decide, by decide⟩ ⟨by decide, by decide⟩ (fun r σ1 H locs hp hP1 hO1 hS => ?_) (fun k r σ1 x9 H locs hk hp hx9 hP1 hO1 hS => ?_)
  · skip
    have h1 : (sOfEnd σ b x).1 = 0 := (congrArg (·.1) hp).symm
    have h2 : (sOfEnd σ b x).2.1 = r := (congrArg (·.2.1) hp).symm
    have h3 : (sOfEnd σ b x).2.2 = σ1 := (congrArg (·.2.2) hp).symm
    have h4 : ∃ y9, (sOfEnd σ b x).2.1 = some y9 := by rcases sOfEnd_k (σ := σ) (b := b) (x := x) with e9 | e9 <;> first | exact e9.2 | omega
    obtain ⟨rr, h4⟩ := h4
    rw [h2] at h4
    subst h4
    refine lv_i2l hx hb d_La_ofEnd_8 rfl ?_
    refine w_last C0 hP1 hO1 hS d_La_ofEnd_9 (fun H locs hP1 hO1 hS => ?_)
    refine lv_goto (tgt := 17) hx hb d_La_ofEnd_10 (by decide) ?_
    refine lv_iconst (v := 0) hx hb d_La_ofEnd_17 (by decide) ?_
    exact W.widen (by decide) (by decide) (x_iret hx hb hr hlk (fun t ht _ => ⟨_, σ1, rr.toInt64, ⟨by rw [h1]; rfl, h3.symm, by rw [h1, h2]; first | done | rfl⟩, rfl, by rw [ht]; exact hP1, by rw [ht]; exact hO1⟩) hS.2.2 d_La_ofEnd_18)
  · skip
    have h1 : (sOfEnd σ b x).1 = k := (congrArg (·.1) hp).symm
    have h2 : (sOfEnd σ b x).2.1 = r := (congrArg (·.2.1) hp).symm
    have h3 : (sOfEnd σ b x).2.2 = σ1 := (congrArg (·.2.2) hp).symm
    have h4 : k = 1 := by rcases sOfEnd_k (σ := σ) (b := b) (x := x) with e9 | e9 <;> omega
    rcases h4 with rfl
    · skip
      refine w_catch C0 (E := "java/lang/IllegalArgumentException") (pre' := []) (suf' := []) (a := 0) (b := 10) (h := 13) (ct := 13) rfl (fun z hz => by cases hz) ⟨by decide, by decide⟩ (by decide) k_cl_La_13 k_ca_1 hx9 ?_
      refine lv_astore (lv' := [(4, .ref x9), (0, .ref (base + ad 0 0)), (1, .int b), (2, .int x), (3, .ref ob)]) hx hb d_La_ofEnd_13 hl (by decide) rfl (fun ls hl => ?_)
      refine lv_iconst (v := 1) hx hb d_La_ofEnd_15 (by decide) ?_
      exact W.widen (by decide) (by decide) (x_iret hx hb hr hlk (fun t ht _ => ⟨_, σ1, v, ⟨by rw [h1]; rfl, h3.symm, by rw [h1]; rfl⟩, rfl, by rw [ht]; exact hP1, by rw [ht]; exact hO1⟩) hS.2.2 d_La_ofEnd_16)
