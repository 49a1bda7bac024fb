/-! Class and model side by side: say: laid by gen/m76.py. -/
theorem up_comm {σ : Mem} {k i j k2 i2 j2 : Nat} {v w : Int32} (h : k ≠ k2) : up (up σ k i j v) k2 i2 j2 w = up (up σ k2 i2 j2 w) k i j v := by
  funext a b c
  unfold up
  by_cases h1 : a = k2 ∧ b = i2 ∧ c = j2
  · rw [if_pos h1, if_neg (fun z => h (by omega)), if_pos h1]
  · rw [if_neg h1]
    by_cases h2 : a = k ∧ b = i ∧ c = j
    · rw [if_pos h2, if_pos h2]
    · rw [if_neg h2, if_neg h2, if_neg h1]
theorem push_give {σ : Mem} {e n : Nat} {lt v lt' v' q : Int32} : pushM (giveM σ lt v q) e n lt' v' = giveM (pushM σ e n lt' v') lt v q := by
  unfold pushM giveM
  split
  · rw [up_comm (k := 8) (k2 := 14) (by decide), up_comm (k := 8) (k2 := 15) (by decide), up_comm (k := 8) (k2 := 13) (by decide)]
  · split
    · rw [up_comm (k := 11) (k2 := 14) (by decide), up_comm (k := 11) (k2 := 15) (by decide), up_comm (k := 11) (k2 := 13) (by decide)]
    · rfl
theorem in11 {v : Int32} : inR v 0 11 ↔ ¬ v < 0 ∧ ¬ (12 : Int32) ≤ v := by
  unfold inR
  have e : (11 : Int32) < v ↔ 12 ≤ v := by
    rw [Int32.lt_iff_toInt_lt, Int32.le_iff_toInt_le]
    have e1 : (11 : Int32).toInt = 11 := (by decide)
    have e2 : (12 : Int32).toInt = 12 := (by decide)
    omega
  rw [e]
theorem half_eq {v x : Int32} (hv : vp_in v 12) (hx : vp_in x 12) : v / 2 = x / 2 ↔ v = x ∨ v = x ^^^ 1 := by
  obtain ⟨a, ha, rfl⟩ := vp_in_of hv (by decide)
  obtain ⟨b, hb, rfl⟩ := vp_in_of hx (by decide)
  exact (by decide +kernel : ∀ a, a < 12 → ∀ b, b < 12 → (nI a / 2 = nI b / 2 ↔ nI a = nI b ∨ nI a = nI b ^^^ 1)) a ha b hb
theorem load_sim {σ τ : Mem} {q x lt v : Int32} (hr : RL σ τ) (hx : vp_in x 12) (hl : inR lt 0 6) : (kLoad σ q x lt v = 0 ∧ mine τ q x lt v) ∨ (kLoad σ q x lt v = 2 ∧ ¬ mine τ q x lt v) := by
  have hB : ownB σ q v ↔ inR v 0 11 ∧ τ 7 0 v.toNatClampNeg = q := by
    unfold ownB
    rw [in11]
    constructor
    · rintro ⟨a, b, c⟩; exact ⟨⟨a, b⟩, by rw [← (hr.2.2.1 _ (vin_lt (vin_R (n := 12) (in11.mpr ⟨a, b⟩)))).1]; exact c⟩
    · rintro ⟨⟨a, b⟩, c⟩; exact ⟨a, b, by rw [(hr.2.2.1 _ (vin_lt (vin_R (n := 12) (in11.mpr ⟨a, b⟩)))).1]; exact c⟩
  have hE : ownE σ q v x ↔ inR v 0 11 ∧ τ 10 0 v.toNatClampNeg = q ∧ ¬ v = x ∧ ¬ v = x ^^^ 1 := by
    unfold ownE
    constructor
    · rintro ⟨a, b, c, d⟩
      have hv := vin_R (n := 12) (in11.mpr ⟨a, b⟩)
      rw [half_eq hv hx] at c
      exact ⟨in11.mpr ⟨a, b⟩, by rw [← (hr.2.2.2.1 _ (vin_lt hv)).1]; exact d, fun z => c (Or.inl z), fun z => c (Or.inr z)⟩
    · rintro ⟨a, b, c, d⟩
      have hv := vin_R (n := 12) a
      exact ⟨(in11.mp a).1, (in11.mp a).2, by rw [half_eq hv hx]; exact fun z => z.elim c d, by rw [(hr.2.2.2.1 _ (vin_lt hv)).1]; exact b⟩
  have e6 : (6 : Int32).toInt = 6 := (by decide)
  have e7 : lt = 6 ↔ lt.toInt = 6 := ⟨fun z => by rw [z]; decide, fun z => Int32.toInt_inj.mp (z.trans e6.symm)⟩
  have hl2 := hl.2
  rw [Int32.lt_iff_toInt_lt, e6] at hl2
  unfold kLoad
  by_cases h1 : isB lt
  · have h6 : ¬ lt = 6 := ((isB_sim hl).mp h1).1
    by_cases h2 : ownB σ q v
    · rw [if_neg (fun z => z.2 h2), if_neg (fun z => h6 z.1)]
      exact Or.inl ⟨rfl, Or.inr (Or.inl ⟨h1.2, (hB.mp h2).1, (hB.mp h2).2⟩)⟩
    · rw [if_pos ⟨h1, h2⟩]
      refine Or.inr ⟨rfl, fun z => ?_⟩
      rcases z with z | z | z
      · exact h1.1 z
      · exact h2 (hB.mpr ⟨z.2.1, z.2.2⟩)
      · exact h6 z.1
  · rw [if_neg (fun z => h1 z.1)]
    by_cases h6 : lt = 6
    · by_cases h2 : ownE σ q v x
      · rw [if_neg (fun z => z.2 h2)]
        obtain ⟨a, b, c, d⟩ := hE.mp h2
        exact Or.inl ⟨rfl, Or.inr (Or.inr ⟨h6, a, b, c, d⟩)⟩
      · rw [if_pos ⟨h6, h2⟩]
        refine Or.inr ⟨rfl, fun z => ?_⟩
        rcases z with z | z | z
        · rw [lt3] at z; rw [e7] at h6; omega
        · rw [le6] at z; rw [e7] at h6; omega
        · exact h2 (hE.mpr ⟨z.2.1, z.2.2.1, z.2.2.2.1, z.2.2.2.2⟩)
    · rw [if_neg (fun z => h6 z.1)]
      refine Or.inl ⟨rfl, Or.inl ?_⟩
      have h7 : ¬ (¬ lt = 6 ∧ ¬ lt ≤ 2) := fun z => h1 ((isB_sim hl).mpr z)
      rw [lt3]
      rw [le2] at h7
      by_cases z : lt.toInt ≤ 2
      · omega
      · exact absurd ⟨h6, z⟩ h7
