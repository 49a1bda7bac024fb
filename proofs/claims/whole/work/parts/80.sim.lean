/-! Small things for contract and for the law: laid by gen/m80.py. -/
theorem in255 {x : Int32} : (¬ x < 0 ∧ x ≤ 255) ↔ vp_in x 256 := by
  have e0 : (0 : Int32).toInt = 0 := (by decide)
  have e255 : (255 : Int32).toInt = 255 := (by decide)
  rw [vp_in_iff, Int32.lt_iff_toInt_lt, Int32.le_iff_toInt_le, e0, e255]
  omega
theorem in_vp {x lo hi : Int32} (h : inR x lo hi) (hl : 0 ≤ lo.toInt := by decide) (hh : hi.toInt < 256 := by decide) : vp_in x 256 := by
  have h1 := h.1
  have h2 := h.2
  rw [Int32.lt_iff_toInt_lt] at h1 h2
  rw [vp_in_iff]
  omega
theorem idx0 (x : Int32) : idxF 0 x = mLet x := by
  by_cases h : vp_in x 256
  · obtain ⟨j, hj, rfl⟩ := vp_in_of h (by decide)
    exact (by decide +kernel : ∀ j, j < 256 → idxF 0 (nI j) = mLet (nI j)) j hj
  · unfold idxF mLet
    rw [if_neg (fun z => h (in255.mp z)), if_neg (fun z => h (in_vp z)), if_neg (fun z => h (in_vp z)), if_neg (fun z => h (by rw [z]; unfold vp_in; decide))]
theorem idx1 (x : Int32) : (¬ idxF 1 x < 0 ↔ x = 33 ∨ x = 63) ∧ (¬ idxF 1 x < 0 → idxF 1 x = if x = 33 then 0 else 1) := by
  by_cases h : vp_in x 256
  · obtain ⟨j, hj, rfl⟩ := vp_in_of h (by decide)
    exact (by decide +kernel : ∀ j, j < 256 → ((¬ idxF 1 (nI j) < 0 ↔ nI j = 33 ∨ nI j = 63) ∧ (¬ idxF 1 (nI j) < 0 → idxF 1 (nI j) = if nI j = 33 then 0 else 1))) j hj
  · have e : idxF 1 x = -1 := by unfold idxF; rw [if_neg (fun z => h (in255.mp z))]
    rw [e]
    refine ⟨⟨fun z => absurd (by decide) z, fun z => ?_⟩, fun z => absurd (by decide) z⟩
    rcases z with z | z
    · exact absurd (by rw [z]; unfold vp_in; decide) h
    · exact absurd (by rw [z]; unfold vp_in; decide) h
/-- the letters' numbers -/
theorem mLet_r (x : Int32) (h : ¬ mLet x < 0) : inR (mLet x) 0 6 := by
  by_cases hv : vp_in x 256
  · obtain ⟨j, hj, rfl⟩ := vp_in_of hv (by decide)
    exact (by decide +kernel : ∀ j, j < 256 → ¬ mLet (nI j) < 0 → inR (mLet (nI j)) 0 6) j hj h
  · rw [← idx0] at h
    exfalso
    unfold idxF at h
    rw [if_neg (fun z => hv (in255.mp z))] at h
    exact h (by decide)
/-- a letter's number says which character it was -/
theorem mLet_inj {x y : Int32} (h : ¬ mLet x < 0) (he : mLet x = mLet y) : x = y := by
  have hv : ∀ z : Int32, ¬ mLet z < 0 → vp_in z 128 := by
    intro z hz
    by_cases hv : vp_in z 256
    · obtain ⟨j, hj, rfl⟩ := vp_in_of hv (by decide)
      have := (by decide +kernel : ∀ j, j < 256 → ¬ mLet (nI j) < 0 → j < 128) j hj hz
      exact vin_nI this
    · rw [← idx0] at hz
      exfalso
      unfold idxF at hz
      rw [if_neg (fun z => hv (in255.mp z))] at hz
      exact hz (by decide)
  obtain ⟨a, ha, rfl⟩ := vp_in_of (hv x h) (by decide)
  obtain ⟨b, hb, rfl⟩ := vp_in_of (hv y (by rw [← he]; exact h)) (by decide)
  exact (by decide +kernel : ∀ a, a < 128 → ∀ b, b < 128 → ¬ mLet (nI a) < 0 → mLet (nI a) = mLet (nI b) → nI a = nI b) a ha b hb h he
