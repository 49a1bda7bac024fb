/-! Class and model side by side: open: laid by gen/m79.py. -/
theorem sim_open {σ τ : Mem} {p q k : Int32} (hi : IV σ) (hr : RL σ τ) : Sim w_open (sOpenC σ p q k) (mOpen τ p q k) := by
  unfold sOpenC mOpen
  by_cases h1 : inR p 0 3
  · rw [if_neg (bad_no h1), if_pos h1]
    by_cases h2 : inR q 0 3
    · rw [if_neg (bad_no h2), if_pos h2]
      by_cases h3 : inR k 0 3
      · rw [if_neg (bad_no h3), if_pos h3, hr.1.2.2.2.2.2.2 _ (vin_lt (vin_R (n := 4) h1)), hr.1.2.2.2.2.2.2 _ (vin_lt (vin_R (n := 4) h2)), (hr.2.1.1 _ (vin_lt (vin_R (n := 4) h3))).1]
        by_cases h4 : τ 6 0 p.toNatClampNeg = 0
        · rw [if_pos h4, if_pos h4]; unfold mFail; rw [up_up]; exact Sim.fail hi hr rfl (by decide)
        · rw [if_neg h4, if_neg h4]
          by_cases h5 : τ 6 0 q.toNatClampNeg = 0
          · rw [if_pos h5, if_pos h5]; unfold mFail; rw [up_up]; exact Sim.fail hi hr rfl (by decide)
          · rw [if_neg h5, if_neg h5]
            by_cases h6 : τ 3 0 k.toNatClampNeg = 0
            · rw [if_pos h6, if_pos h6]; unfold mFail; rw [up_up]; exact Sim.fail hi hr rfl (by decide)
            · rw [if_neg h6, if_neg h6]
              have hc6 : lfc σ ≤ 6 := firstF_le 6 0
              have hsp := (firstF_spec (P := fun c => σ 11 (2 * c) 0 = -1 ∧ σ 11 (2 * c + 1) 0 = -1) 6 0).2.1
              rw [← lfc_sim hi hr]
              by_cases h7 : nI (lfc σ) = 6
              · rw [if_pos h7, if_pos h7]; unfold mFail; rw [up_up]; exact Sim.fail hi hr rfl (by decide)
              · rw [if_neg h7, if_neg h7]
                have hc : lfc σ < 6 := Nat.lt_of_le_of_ne hc6 (fun z => h7 (by rw [z]; decide))
                have hcl := hsp (show lfc σ < 0 + 6 by omega)
                obtain ⟨r1, r2⟩ := open_all (p := p) (q := q) hi hr hc (vin_lt (vin_R (n := 4) h3)) h1.1 h2.1 hcl.1 hcl.2
                refine Sim.mk ?_ (fun _ y hy => by cases hy; rfl) r1 r2
                show w_open 0 = up (up (up (up (mOp1 τ (lfc σ) k.toNatClampNeg p q) 11 0 (2 * lfc σ + 0) 1) 12 0 (2 * lfc σ + 0) 0) 11 0 (2 * lfc σ + 1) 1) 12 0 (2 * lfc σ + 1) 0 0 0 1
                rw [upK2 (by decide), upK2 (by decide), upK2 (by decide), upK2 (by decide)]
                unfold mOp1 mCpy
                rw [upK2 (by decide), upK2 (by decide), upK2 (by decide), if_neg (fun z => by omega), up_self]
                rfl
      · rw [if_pos (bad_yes h3), if_neg h3]; exact Sim.fail hi hr rfl (by decide)
    · rw [if_pos (bad_yes h2), if_neg h2]; exact Sim.fail hi hr rfl (by decide)
  · rw [if_pos (bad_yes h1), if_neg h1]; exact Sim.fail hi hr rfl (by decide)
/-- at the start -/
theorem s1_k {a i j : Nat} (h : a ≠ 2) : s1M a i j = if a = 8 ∨ a = 11 then -1 else 0 := s_01 (Or.inr rfl) h
theorem IV_0 : IV s1M := by
  refine IV.mk ⟨0, by omega, by rw [s1_k (by decide), if_neg (by decide)]; decide⟩ (fun c hc => ?_) (fun b hb => ?_) (fun e he => ?_)
  · have hz : szC s1M c = 0 := by unfold szC; rw [s1_k (by decide), if_neg (by decide)]; decide
    refine ⟨⟨0, by omega, by rw [s1_k (by decide), if_neg (by decide)]; decide⟩, fun i hi => by rw [hz] at hi; omega, fun i j hi => by rw [hz] at hi; omega⟩
  · rw [s1_k (by decide), s1_k (by decide), if_pos (by decide), if_neg (by decide)]; exact ⟨Or.inl rfl, 0, by omega, by decide⟩
  · rw [s1_k (by decide), s1_k (by decide), if_pos (by decide), if_neg (by decide)]; exact ⟨Or.inl rfl, fun _ => rfl, 0, by omega, by decide, fun k hk => absurd hk (Nat.not_lt_zero k)⟩
theorem zA_k {a i j : Nat} (h : a ≠ 6) : zA a i j = 0 := by
  unfold zA
  rw [upK2 h, upK2 h, upK2 h, upK2 h]
  rfl
theorem oM_k {a j : Nat} (h : a ≠ 6) (h7 : a ≠ 7) (h10 : a ≠ 10) : oM 12 a 0 j = 0 := by
  unfold oM
  rw [if_neg (fun z => by omega), zA_k h]
theorem RL_0 : RL s1M (oM 12) := by
  have z : ∀ a i j, a ≠ 2 → a ≠ 8 → a ≠ 11 → s1M a i j = 0 := fun a i j h1 h2 h3 => by rw [s1_k h1, if_neg (fun y => by omega)]
  have n1 : ∀ j, j < 12 → oM 12 7 0 j = -1 ∧ oM 12 10 0 j = -1 := fun j hj => ⟨by unfold oM; rw [if_pos ⟨by omega, rfl, hj⟩], by unfold oM; rw [if_pos ⟨by omega, rfl, hj⟩]⟩
  have m1 : ∀ i j, s1M 8 i j = -1 ∧ s1M 11 i j = -1 := fun i j => ⟨by rw [s1_k (by decide)]; rfl, by rw [s1_k (by decide)]; rfl⟩
  have hz : ∀ c, szC s1M c = 0 := fun c => by unfold szC; rw [z 3 c 0 (by decide) (by decide) (by decide)]; decide
  refine RL.mk ⟨?_, ?_, ?_, ?_, ?_, fun j hj => ?_, fun j hj => ?_⟩ ⟨fun c hc => ⟨?_, fun i hi => by rw [hz] at hi; omega⟩, fun c hc => ⟨?_, fun i hi => by rw [hz] at hi; omega⟩⟩ (fun b hb => ⟨?_, ?_, fun i hi => ?_⟩) (fun e he => ⟨?_, ?_, ?_, fun k hk => ?_⟩) ?_
  · rw [z _ _ _ (by decide) (by decide) (by decide), oM_k (by decide) (by decide) (by decide)]
  · rw [z _ _ _ (by decide) (by decide) (by decide), oM_k (by decide) (by decide) (by decide)]
  · rw [z _ _ _ (by decide) (by decide) (by decide), oM_k (by decide) (by decide) (by decide)]
  · rw [z _ _ _ (by decide) (by decide) (by decide), oM_k (by decide) (by decide) (by decide)]
  · rw [z _ _ _ (by decide) (by decide) (by decide), oM_k (by decide) (by decide) (by decide)]
  · rw [z _ _ _ (by decide) (by decide) (by decide), oM_k (by decide) (by decide) (by decide)]
  · exact (by decide +kernel : ∀ j, j < 4 → s1M 2 0 j = oM 12 6 0 j) j hj
  · rw [z _ _ _ (by decide) (by decide) (by decide), oM_k (by decide) (by decide) (by decide)]
  · rw [z _ _ _ (by decide) (by decide) (by decide), oM_k (by decide) (by decide) (by decide)]
  · rw [(m1 b 0).1, (n1 b hb).1]
  · rw [z _ _ _ (by decide) (by decide) (by decide), oM_k (by decide) (by decide) (by decide)]
  · rw [z _ _ _ (by decide) (by decide) (by decide), oM_k (by decide) (by decide) (by decide)]
  · rw [(m1 e 0).2, (n1 e he).2]
  · rw [z _ _ _ (by decide) (by decide) (by decide), oM_k (by decide) (by decide) (by decide)]
  · rw [z _ _ _ (by decide) (by decide) (by decide), oM_k (by decide) (by decide) (by decide)]
  · rw [z _ _ _ (by decide) (by decide) (by decide), z _ _ _ (by decide) (by decide) (by decide), oM_k (by decide) (by decide) (by decide), oM_k (by decide) (by decide) (by decide)]; exact ⟨rfl, rfl⟩
  · rw [oM_k (by decide) (by decide) (by decide)]
