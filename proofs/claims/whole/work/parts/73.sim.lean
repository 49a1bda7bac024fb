/-! Class and model side by side: block, type: laid by gen/m73.py. -/
theorem firstF_congr {P Q : Nat → Prop} [DecidablePred P] [DecidablePred Q] : ∀ n k, (∀ j, k ≤ j → j < k + n → (P j ↔ Q j)) → firstF P n k = firstF Q n k := by
  intro n
  induction n with
  | zero => intro k _; rfl
  | succ n ih =>
    intro k h
    unfold firstF
    by_cases h1 : P k
    · rw [if_pos h1, if_pos ((h k (Nat.le_refl _) (by omega)).mp h1)]
    · rw [if_neg h1, if_neg (fun z => h1 ((h k (Nat.le_refl _) (by omega)).mpr z))]
      exact ih (k + 1) (fun j h2 h3 => h j (by omega) (by omega))
theorem firstF_le {P : Nat → Prop} [DecidablePred P] : ∀ n k, firstF P n k ≤ k + n := by
  intro n
  induction n with
  | zero => intro k; exact Nat.le_refl _
  | succ n ih =>
    intro k
    unfold firstF
    split
    · omega
    · have := ih (k + 1); omega
theorem own_neg {x : Int32} (h : x = -1 ∨ ¬ x < 0) : x = -1 ↔ x < 0 := ⟨fun z => by rw [z]; decide, fun z => h.resolve_right (fun y => y z)⟩
theorem lfb_sim {σ τ : Mem} (hi : IV σ) (hr : RL σ τ) : lfb σ = mlfb τ := firstF_congr 12 0 (fun j _ h2 => by rw [own_neg (hi.2.2.1 j (by omega)).1, (hr.2.2.1 j (by omega)).1])
theorem in18 {n : Int32} (h : inR n 1 8) : ∃ m : Nat, m ≤ 8 ∧ n = nI m := by
  have h1 := h.1
  have h2 := h.2
  rw [Int32.lt_iff_toInt_lt] at h1 h2
  have e1 : (1 : Int32).toInt = 1 := (by decide)
  have e8 : (8 : Int32).toInt = 8 := (by decide)
  have h3 : vp_in n 9 := vin_rg (by rw [Int32.lt_iff_toInt_lt]; have e0 : (0 : Int32).toInt = 0 := (by decide); omega) (by omega)
  exact ⟨n.toNatClampNeg, by have := vin_lt h3; omega, nI_back h3⟩
theorem sim_block {σ τ : Mem} {q n : Int32} (hi : IV σ) (hr : RL σ τ) : Sim w_block (sBlock σ q n) (mBlock τ q n) := by
  unfold sBlock mBlock
  have e2 : sCells σ 12 = mCells (up τ 0 0 1 0) 12 := bx_congr 12 (fun j hj => by rw [upK2 (by decide), ← (hr.2.2.1 j hj).2.1])
  by_cases h1 : inR q 0 3
  · rw [if_neg (bad_no h1), if_pos h1]
    by_cases h2 : inR n 1 8
    · rw [if_neg (fun z => z.elim h2.1 (fun y => h2.2 (Int32.not_le.mp y))), if_pos h2, hr.1.2.2.2.2.2.2 _ (vin_lt (vin_R (n := 4) h1)), lfb_sim hi hr, e2]
      by_cases h3 : τ 6 0 q.toNatClampNeg = 0
      · rw [if_pos h3, if_pos h3]; unfold mFail; rw [up_up]; exact Sim.fail hi hr rfl (by decide)
      · rw [if_neg h3, if_neg h3]
        by_cases h4 : nI (mlfb τ) = 12
        · rw [if_pos h4, if_pos h4]; unfold mFail; rw [up_up]; exact Sim.fail hi hr rfl (by decide)
        · rw [if_neg h4, if_neg h4]
          by_cases h5 : mCells (up τ 0 0 1 0) 12 + n ≤ 48
          · rw [if_pos h5, if_pos h5]
            have hb : mlfb τ < 12 := Nat.lt_of_le_of_ne (firstF_le 12 0) (fun z => h4 (by rw [z]; decide))
            obtain ⟨m, hm, rfl⟩ := in18 h2
            generalize mlfb τ = b at hb
            have g : ∀ K x y, K ≠ 8 → K ≠ 9 → K ≠ 10 → hoM σ b q (nI m) K x y = σ K x y := fun K x y a1 a2 a3 => by unfold hoM fillM; rw [if_neg (fun z => a3 z.1), upK2 a2, upK2 a1]
            have f : ∀ K j, K ≠ 7 → K ≠ 8 → K ≠ 9 → ¬ (K = 0 ∧ j = 1) → mfill (mbM τ b q (nI m)) b 8 K 0 j = τ K 0 j := fun K j a1 a2 a3 a4 => by unfold mfill mbM; rw [if_neg (fun z => a3 z.1), upK2 a2, upK2 a1, upK (by omega)]
            refine Sim.mk ?_ (fun _ y hy => by cases hy; rfl) (IV.mk (hi.1.of (g 0 0 0 (by decide) (by decide) (by decide))) (hi.2.1.of (fun K x y hK => g K x y (by omega) (by omega) (by omega))) ?_ (hi.2.2.2.of (fun K x y hK => g K x y (by omega) (by omega) (by omega))))
              (RL.mk (hr.1.of (fun K x y hK => g K x y (by omega) (by omega) (by omega)) (fun K j hK => f K j (by omega) (by omega) (by omega) (by omega))) (hr.2.1.of (fun K x y hK => g K x y (by omega) (by omega) (by omega)) (fun K j hK => f K j (by omega) (by omega) (by omega) (by omega))) ?_ (hr.2.2.2.1.of (fun K x y hK => g K x y (by omega) (by omega) (by omega)) (fun K j hK => f K j (by omega) (by omega) (by omega) (by omega))) ((f 0 6 (by decide) (by decide) (by decide) (by decide)).trans hr.2.2.2.2))
            · unfold mfill mbM; rw [if_neg (fun z => by omega), upK2 (by decide), upK2 (by decide), up_self]; rfl
            · exact IB.of (IB.upd (b := b) (v := q) (Or.inr h1.1) hm hi.2.2.1) (fun K x y hK => by unfold hoM fillM; rw [if_neg (fun z => by omega)])
            · intro c hc
              obtain ⟨a1, a2, a3⟩ := RB.upd (v := q) (n := nI m) hb (RB.of hr.2.2.1 (τ' := up τ 0 0 1 0) (fun _ _ _ _ => rfl) (fun K j hK => upK (by omega))) c hc
              refine ⟨?_, ?_, fun i hi' => ?_⟩
              · unfold hoM fillM mfill mbM; rw [if_neg (fun z => by omega), if_neg (fun z => by omega)]; exact a1
              · unfold hoM fillM mfill mbM; rw [if_neg (fun z => by omega), if_neg (fun z => by omega)]; exact a2
              · unfold hoM fillM mfill mbM
                by_cases hcb : c = b
                · rw [if_pos ⟨rfl, hcb, hi'⟩, if_pos ⟨rfl, rfl, by omega, by omega⟩]
                · rw [if_neg (fun z => hcb z.2.1), if_neg (fun z => by omega)]; exact a3 i hi'
          · rw [if_neg h5, if_neg h5]; unfold mFail; rw [up_up]; exact Sim.fail hi hr rfl (by decide)
    · rw [if_pos (by by_cases z : n < 1; exact Or.inl z; exact Or.inr (Int32.not_le.mpr (Classical.not_not.mp fun y => h2 ⟨z, y⟩))), if_neg h2]; exact Sim.fail hi hr rfl (by decide)
  · rw [if_pos (bad_yes h1), if_neg h1]; exact Sim.fail hi hr rfl (by decide)
theorem and255 (y : Int32) : ∃ m : Nat, m < 256 ∧ y &&& 255 = nI m := by
  refine ⟨(y.toBitVec &&& 255#32).toNat, ?_, ?_⟩
  · have h : (y.toBitVec &&& 255#32).toNat = y.toBitVec.toNat &&& 255 := by rw [BitVec.toNat_and]; rfl
    rw [h]
    have := Nat.and_le_right (n := y.toBitVec.toNat) (m := 255)
    omega
  · apply Int32.toBitVec_inj.mp
    show y.toBitVec &&& 255#32 = BitVec.ofNat 32 _
    rw [BitVec.ofNat_toNat, BitVec.setWidth_eq]
theorem chr_byt {x : Int64} {k : Nat} : chr (byt x k) = byt x k := by
  unfold byt
  obtain ⟨m, hm, h⟩ := and255 (x.toUInt64 >>> ((sh k).toInt64.toUInt64 &&& Int64.toUInt64 63)).toInt64.toInt32
  rw [h]
  exact (by decide +kernel : ∀ m, m < 256 → chr (nI m) = nI m) m hm
theorem ok_sim {x : Int64} : tyOk x 8 ↔ mOk x 8 := by
  constructor
  · intro h j hj
    rcases h j hj with z | z
    · exact Or.inl z
    · exact Or.inr ⟨fun y => z (Or.inl y), fun y => z (Or.inr (Int32.not_le.mpr y))⟩
  · intro h j hj
    rcases h j hj with z | z
    · exact Or.inl z
    · exact Or.inr (fun y => y.elim z.1 (fun u => z.2 (Int32.not_le.mp u)))
theorem tyM_k {x : Int64} {σ : Mem} {K i j : Nat} (h : K ≠ 0) (h1 : K ≠ 1) : ∀ k, tyM x σ k K i j = σ K i j := by
  intro k
  induction k with
  | zero => rfl
  | succ k ih =>
    unfold tyM
    split
    · exact ih
    · unfold tyP; rw [upK2 h, upK2 h1]; exact ih
theorem mtM_k {x : Int64} {σ : Mem} {K i j : Nat} (h : ¬ (K = 0 ∧ j = 0)) (h1 : K ≠ 1) : ∀ k, mtM x σ k K i j = σ K i j := by
  intro k
  induction k with
  | zero => rfl
  | succ k ih =>
    unfold mtM
    split
    · exact ih
    · unfold mtP; rw [upK (by omega), upK2 h1]; exact ih
theorem RS_ty {x : Int64} {σ τ : Mem} (h : RS σ τ) : ∀ k, RS (tyM x σ k) (mtM x τ k) := by
  intro k
  induction k with
  | zero => exact h
  | succ k ih =>
    unfold tyM mtM
    by_cases h1 : byt x k = 0
    · rw [if_pos h1, if_pos h1]; exact ih
    · rw [if_neg h1, if_neg h1]
      obtain ⟨a1, a2, a3, a4, a5, a6, a7⟩ := ih
      unfold tyP mtP
      rw [chr_byt]
      refine ⟨?_, ?_, ?_, ?_, ?_, fun j hj => ?_, fun j hj => ?_⟩
      · rw [up_self, up_self, a1]
      · rw [upK (by omega), upK (by omega), upK (by omega), upK (by omega)]; exact a2
      · rw [upK (by omega), upK (by omega), upK (by omega), upK (by omega)]; exact a3
      · rw [upK (by omega), upK (by omega), upK (by omega), upK (by omega)]; exact a4
      · rw [upK (by omega), upK (by omega), upK (by omega), upK (by omega)]; exact a5
      · have e : ∀ (s : Mem) (v : Int32), up s 0 0 0 v 1 0 j = s 1 0 j := fun s v => upK2 (by decide)
        rw [e, e, a1]
        by_cases h2 : j = (mtM x τ k 0 0 0).toNatClampNeg
        · rw [h2, up_self, up_self]
        · rw [upK (by omega), upK (by omega)]; exact a6 j hj
      · rw [upK2 (by decide), upK2 (by decide), upK2 (by decide), upK2 (by decide)]; exact a7 j hj
theorem sim_type {σ τ : Mem} {x : Int64} (hi : IV σ) (hr : RL σ τ) : Sim w_type (sType σ x) (mType τ x) := by
  unfold sType mType
  by_cases h1 : mOk x 8
  · rw [if_pos (ok_sim.mpr h1), if_neg (show ¬ ¬ mOk x 8 from fun z => z h1), hr.1.1]
    by_cases h2 : τ 0 0 0 + nI (tyN x 8) ≤ 36
    · rw [if_pos h2, if_pos h2]
      have hT := RS_ty (x := x) (hr.thr (v := 0) (j := 1) (Or.inl rfl)).1 8
      have g : ∀ K i j, K ≠ 0 → K ≠ 1 → tyM x σ 8 K i j = σ K i j := fun K i j a b => tyM_k a b 8
      have f : ∀ K i j, ¬ (K = 0 ∧ j = 0) → K ≠ 1 → mtM x (up τ 0 0 1 0) 8 K i j = up τ 0 0 1 0 K i j := fun K i j a b => mtM_k a b 8
      obtain ⟨n, hn, hn2⟩ := hi.1
      have hlen := tyM_len (x := x) hn2 8
      have hsum : n + tyN x 8 ≤ 36 := (ty_sum hn (tyN_le 8)).mp (by rw [← hn2, hr.1.1]; exact h2)
      refine Sim.mk ?_ (fun _ y hy => by cases hy; exact hT.1) (IV.mk ⟨_, hsum, hlen⟩ (hi.2.1.of (fun K i j hK => g K i j (by omega) (by omega))) (hi.2.2.1.of (fun K i j hK => g K i j (by omega) (by omega))) (hi.2.2.2.of (fun K i j hK => g K i j (by omega) (by omega))))
        (RL.mk hT (hr.2.1.of (fun K i j hK => g K i j (by omega) (by omega)) (fun K j hK => by rw [f K 0 j (by omega) (by omega), upK2 (by omega)])) (hr.2.2.1.of (fun K i j hK => g K i j (by omega) (by omega)) (fun K j hK => by rw [f K 0 j (by omega) (by omega), upK2 (by omega)])) (hr.2.2.2.1.of (fun K i j hK => g K i j (by omega) (by omega)) (fun K j hK => by rw [f K 0 j (by omega) (by omega), upK2 (by omega)])) (by rw [f 0 0 6 (by omega) (by omega), upK (by omega)]; exact hr.2.2.2.2))
      rw [f 0 0 1 (by omega) (by omega), up_self]; rfl
    · rw [if_neg h2, if_neg h2]; unfold mFail; rw [up_up]; exact Sim.fail hi hr rfl (by decide)
  · rw [if_neg (fun z => h1 (ok_sim.mp z)), if_pos h1]; exact Sim.fail hi hr rfl (by decide)
