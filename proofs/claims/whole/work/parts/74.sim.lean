/-! Class and model side by side: the rules in use, hear: laid by gen/m74.py. -/
theorem firstF_spec {P : Nat → Prop} [DecidablePred P] : ∀ n k, (∀ j, k ≤ j → j < firstF P n k → ¬ P j) ∧ (firstF P n k < k + n → P (firstF P n k)) ∧ k ≤ firstF P n k := by
  intro n
  induction n with
  | zero => intro k; exact ⟨fun j h1 h2 => by unfold firstF at h2; omega, fun h => by unfold firstF at h; omega, Nat.le_refl _⟩
  | succ n ih =>
    intro k
    unfold firstF
    by_cases h : P k
    · rw [if_pos h]; exact ⟨fun j h1 h2 => by omega, fun _ => h, Nat.le_refl _⟩
    · rw [if_neg h]
      obtain ⟨a, b, c⟩ := ih (k + 1)
      refine ⟨fun j h1 h2 => ?_, fun h2 => b (by omega), by omega⟩
      by_cases h3 : j = k
      · subst h3; exact h
      · exact a j (by omega) h2
/-- the class's next state and the model's -/
theorem lets_sim {σ τ : Mem} {x lt sd : Int32} (hi : IV σ) (hr : RL σ τ) (hx : vp_in x 12) :
    (nxt σ ((x / 2).toNatClampNeg + 5) (szC σ ((x / 2).toNatClampNeg + 5)) (σ 12 x.toNatClampNeg 0) lt sd = -1 ∧ (mLets τ x lt sd).1 = 0) ∨
    (¬ nxt σ ((x / 2).toNatClampNeg + 5) (szC σ ((x / 2).toNatClampNeg + 5)) (σ 12 x.toNatClampNeg 0) lt sd = -1 ∧ ¬ (mLets τ x lt sd).1 = 0 ∧ nxt σ ((x / 2).toNatClampNeg + 5) (szC σ ((x / 2).toNatClampNeg + 5)) (σ 12 x.toNatClampNeg 0) lt sd = mNx τ x lt sd) := by
  have hc := vin_lt (vin_half hx)
  obtain ⟨r1, r2⟩ := hr.2.1.2 _ hc
  have hst := (hr.2.2.2.1 _ (vin_lt hx)).2.1
  obtain ⟨-, i2, i3⟩ := hi.2.1 ((x / 2).toNatClampNeg + 5) (by omega)
  have hsz : mSz τ x = szC σ ((x / 2).toNatClampNeg + 5) := by unfold mSz szC; rw [r1]
  have hat : ∀ j, j < szC σ ((x / 2).toNatClampNeg + 5) → (mAt τ x lt sd j ↔ (σ 4 ((x / 2).toNatClampNeg + 5) j = σ 12 x.toNatClampNeg 0 ∧ σ 5 ((x / 2).toNatClampNeg + 5) j = lt ∧ σ 6 ((x / 2).toNatClampNeg + 5) j = sd)) := by
    intro j hj
    obtain ⟨e1, e2, e3, -⟩ := r2 j hj
    rw [e1, e2, e3, hst]
  unfold nxt mLets mNx mFi rul
  rw [hsz]
  generalize szC σ ((x / 2).toNatClampNeg + 5) = n at *
  obtain ⟨a1, a2, -⟩ := firstF_spec (P := fun j => σ 4 ((x / 2).toNatClampNeg + 5) j = σ 12 x.toNatClampNeg 0 ∧ σ 5 ((x / 2).toNatClampNeg + 5) j = lt) n 0
  obtain ⟨b1, b2, -⟩ := firstF_spec (P := mAt τ x lt sd) n 0
  generalize hr9 : firstF (fun j => σ 4 ((x / 2).toNatClampNeg + 5) j = σ 12 x.toNatClampNeg 0 ∧ σ 5 ((x / 2).toNatClampNeg + 5) j = lt) n 0 = r at *
  generalize hm9 : firstF (mAt τ x lt sd) n 0 = m at *
  by_cases h1 : r < n ∧ σ 6 ((x / 2).toNatClampNeg + 5) r = sd
  · have h2 := a2 (by omega)
    have h3 : mAt τ x lt sd r := (hat r h1.1).mpr ⟨h2.1, h2.2, h1.2⟩
    have h4 : m ≤ r := Nat.le_of_not_lt fun z => b1 r (Nat.zero_le _) z h3
    have h5 : m < n := by omega
    have h6 := (hat m h5).mp (b2 (by omega))
    have h7 : m = r := i3 m r h5 h1.1 (h6.1.trans h2.1.symm) (h6.2.1.trans h2.2.symm)
    subst h7
    rw [if_pos h1, if_pos h5]
    refine Or.inr ⟨fun z => (i2 m h5).1 (by rw [z]; decide), (show ¬ (1 : Int32) = 0 by decide), (r2 m h5).2.2.2⟩
  · rw [if_neg h1]
    have h5 : ¬ m < n := fun z => by
      have h6 := (hat m z).mp (b2 (by omega))
      have h7 : r ≤ m := Nat.le_of_not_lt fun y => a1 m (Nat.zero_le _) y ⟨h6.1, h6.2.1⟩
      have h8 := a2 (by omega)
      have h9 : m = r := i3 m r z (by omega) (h6.1.trans h8.1.symm) (h6.2.1.trans h8.2.symm)
      subst h9
      exact h1 ⟨z, h6.2.2⟩
    rw [if_neg h5]
    exact Or.inl ⟨rfl, rfl⟩
theorem sd_hear {x : Int32} (hx : vp_in x 12) : (x ^^^ 1) &&& 1 = 1 - (x - x / 2 * 2) ∧ x &&& 1 = x - x / 2 * 2 := by
  obtain ⟨j, hj, rfl⟩ := vp_in_of hx (by decide)
  exact (by decide +kernel : ∀ j, j < 12 → (nI j ^^^ 1) &&& 1 = 1 - (nI j - nI j / 2 * 2) ∧ nI j &&& 1 = nI j - nI j / 2 * 2) j hj
/-- what a message carries: the class's test and the model's -/
theorem isB_sim {lt : Int32} (h : inR lt 0 6) : isB lt ↔ ¬ lt = 6 ∧ ¬ lt ≤ 2 := by
  have h1 := h.1
  have h2 := h.2
  rw [Int32.lt_iff_toInt_lt] at h1 h2
  have e0 : (0 : Int32).toInt = 0 := (by decide)
  have e6 : (6 : Int32).toInt = 6 := (by decide)
  have e7 : lt = 6 ↔ lt.toInt = 6 := ⟨fun z => by rw [z]; decide, fun z => Int32.toInt_inj.mp (z.trans e6.symm)⟩
  unfold isB
  rw [lt3, le6, e7, le2]
  omega
/-- both hand over what a message carries -/
theorem give_k {σ : Mem} {lt v q : Int32} {K i j : Nat} (h1 : K ≠ 8) (h2 : K ≠ 11) : giveM σ lt v q K i j = σ K i j := giveM_k ⟨h1, h2⟩
theorem mGive_k {τ : Mem} {lt v q : Int32} {K i j : Nat} (h1 : K ≠ 7) (h2 : K ≠ 10) : mGive τ lt v q K i j = τ K i j := by
  unfold mGive
  split
  · exact upK2 h2
  · split
    · rfl
    · exact upK2 h1
theorem RB.give {σ τ : Mem} {lt v q : Int32} (hl : inR lt 0 6) (h : RB σ τ) : RB (giveM σ lt v q) (mGive τ lt v q) := by
  intro b hb
  obtain ⟨a1, a2, a3⟩ := h b hb
  rw [give_k (K := 9) (by decide) (by decide), mGive_k (K := 8) (by decide) (by decide)]
  refine ⟨?_, a2, fun i hi => by rw [give_k (by decide) (by decide), mGive_k (by decide) (by decide)]; exact a3 i hi⟩
  unfold giveM mGive
  by_cases h1 : lt = 6
  · rw [if_neg (fun z => ((isB_sim hl).mp z).1 h1), if_pos h1, if_pos h1, upK2 (by decide), upK2 (by decide)]; exact a1
  · by_cases h2 : lt ≤ 2
    · rw [if_neg (fun z => ((isB_sim hl).mp z).2 h2), if_neg h1, if_neg h1, if_pos h2]; exact a1
    · rw [if_pos ((isB_sim hl).mpr ⟨h1, h2⟩), if_neg h1, if_neg h2]
      by_cases h3 : b = v.toNatClampNeg
      · rw [h3, up_self, up_self]
      · rw [upK (by omega), upK (by omega)]; exact a1
theorem own_give {σ τ : Mem} {lt v q : Int32} (hl : inR lt 0 6) (h : ∀ e, e < 12 → σ 11 e 0 = τ 10 0 e) : ∀ e, e < 12 → giveM σ lt v q 11 e 0 = mGive τ lt v q 10 0 e := by
  intro b hb
  have a1 := h b hb
  unfold giveM mGive
  by_cases h1 : lt = 6
  · rw [if_neg (fun z => ((isB_sim hl).mp z).1 h1), if_pos h1, if_pos h1]
    by_cases h3 : b = v.toNatClampNeg
    · rw [h3, up_self, up_self]
    · rw [upK (by omega), upK (by omega)]; exact a1
  · by_cases h2 : lt ≤ 2
    · rw [if_neg (fun z => ((isB_sim hl).mp z).2 h2), if_neg h1, if_neg h1, if_pos h2]; exact a1
    · rw [if_pos ((isB_sim hl).mpr ⟨h1, h2⟩), if_neg h1, if_neg h2, upK2 (by decide), upK2 (by decide)]; exact a1
