/-! Class and model side by side: free, read, write, start, choose, count: laid by gen/m71.py. -/
theorem RS.of {σ τ σ' τ' : Mem} (h : RS σ τ) (h1 : ∀ K i j, K < 3 → σ' K i j = σ K i j) (h2 : ∀ K j, (K = 0 ∧ (j = 0 ∨ (2 ≤ j ∧ j ≤ 5))) ∨ K = 1 ∨ K = 6 → τ' K 0 j = τ K 0 j) : RS σ' τ' := by
  obtain ⟨a1, a2, a3, a4, a5, a6, a7⟩ := h
  refine ⟨?_, ?_, ?_, ?_, ?_, fun j hj => ?_, fun j hj => ?_⟩
  · rw [h1 _ _ _ (by omega), h2 _ _ (by omega)]; exact a1
  · rw [h1 _ _ _ (by omega), h2 _ _ (by omega)]; exact a2
  · rw [h1 _ _ _ (by omega), h2 _ _ (by omega)]; exact a3
  · rw [h1 _ _ _ (by omega), h2 _ _ (by omega)]; exact a4
  · rw [h1 _ _ _ (by omega), h2 _ _ (by omega)]; exact a5
  · rw [h1 _ _ _ (by omega), h2 _ _ (by omega)]; exact a6 j hj
  · rw [h1 _ _ _ (by omega), h2 _ _ (by omega)]; exact a7 j hj
theorem RC.of {σ τ σ' τ' : Mem} (h : RC σ τ) (h1 : ∀ K i j, 3 ≤ K ∧ K ≤ 7 → σ' K i j = σ K i j) (h2 : ∀ K j, 2 ≤ K ∧ K ≤ 5 → τ' K 0 j = τ K 0 j) : RC σ' τ' := by
  refine ⟨fun c hc => ?_, fun c hc => ?_⟩
  · unfold szC
    rw [h1 _ _ _ (by omega), h2 _ _ (by omega)]
    refine ⟨(h.1 c hc).1, fun i hi => ?_⟩
    unfold rEq
    rw [h1 _ _ _ (by omega), h1 _ _ _ (by omega), h1 _ _ _ (by omega), h1 _ _ _ (by omega), h2 _ _ (by omega), h2 _ _ (by omega), h2 _ _ (by omega), h2 _ _ (by omega)]
    exact (h.1 c hc).2 i hi
  · unfold szC
    rw [h1 _ _ _ (by omega), h2 _ _ (by omega)]
    refine ⟨(h.2 c hc).1, fun i hi => ?_⟩
    unfold rEq
    rw [h1 _ _ _ (by omega), h1 _ _ _ (by omega), h1 _ _ _ (by omega), h1 _ _ _ (by omega), h2 _ _ (by omega), h2 _ _ (by omega), h2 _ _ (by omega), h2 _ _ (by omega)]
    exact (h.2 c hc).2 i hi
theorem RB.of {σ τ σ' τ' : Mem} (h : RB σ τ) (h1 : ∀ K i j, 8 ≤ K ∧ K ≤ 10 → σ' K i j = σ K i j) (h2 : ∀ K j, 7 ≤ K ∧ K ≤ 9 → τ' K 0 j = τ K 0 j) : RB σ' τ' := by
  intro b hb
  rw [h1 _ _ _ (by omega), h1 _ _ _ (by omega), h2 _ _ (by omega), h2 _ _ (by omega)]
  refine ⟨(h b hb).1, (h b hb).2.1, fun i hi => ?_⟩
  rw [h1 _ _ _ (by omega), h2 _ _ (by omega)]
  exact (h b hb).2.2 i hi
theorem RE.of {σ τ σ' τ' : Mem} (h : RE σ τ) (h1 : ∀ K i j, 11 ≤ K ∧ K ≤ 15 → σ' K i j = σ K i j) (h2 : ∀ K j, 10 ≤ K ∧ K ≤ 14 → τ' K 0 j = τ K 0 j) : RE σ' τ' := by
  intro b hb
  unfold wtE
  rw [h1 _ _ _ (by omega), h1 _ _ _ (by omega), h1 _ _ _ (by omega), h2 _ _ (by omega), h2 _ _ (by omega), h2 _ _ (by omega)]
  refine ⟨(h b hb).1, (h b hb).2.1, (h b hb).2.2.1, fun i hi => ?_⟩
  rw [h1 _ _ _ (by omega), h1 _ _ _ (by omega), h2 _ _ (by omega), h2 _ _ (by omega)]
  exact (h b hb).2.2.2 i hi
theorem IC.of {σ σ' : Mem} (h : IC σ) (h1 : ∀ K i j, 3 ≤ K ∧ K ≤ 7 → σ' K i j = σ K i j) : IC σ' := by
  intro c hc
  unfold szC
  rw [h1 _ _ _ (by omega)]
  refine ⟨(h c hc).1, fun i hi => ?_, fun i j hi hj => ?_⟩
  · rw [h1 _ _ _ (by omega), h1 _ _ _ (by omega)]; exact (h c hc).2.1 i hi
  · rw [h1 _ _ _ (by omega), h1 _ _ _ (by omega), h1 _ _ _ (by omega), h1 _ _ _ (by omega)]; exact (h c hc).2.2 i j hi hj
theorem IB.of {σ σ' : Mem} (h : IB σ) (h1 : ∀ K i j, 8 ≤ K ∧ K ≤ 9 → σ' K i j = σ K i j) : IB σ' := by
  intro b hb
  rw [h1 _ _ _ (by omega), h1 _ _ _ (by omega)]
  exact h b hb
theorem IE.of {σ σ' : Mem} (h : IE σ) (h1 : ∀ K i j, K = 11 ∨ K = 13 ∨ K = 14 ∨ K = 15 → σ' K i j = σ K i j) : IE σ' := by
  intro e he
  obtain ⟨a, b, wt, h2, h3, h4⟩ := h e he
  rw [h1 _ _ _ (by omega), h1 _ _ _ (by omega)]
  refine ⟨a, b, wt, h2, h3, fun k hk => ?_⟩
  rw [h1 _ _ _ (by omega), h1 _ _ _ (by omega)]
  exact h4 k hk
theorem TW.of {σ σ' : Mem} (h : TW σ) (h1 : σ' 0 0 0 = σ 0 0 0) : TW σ' := by
  obtain ⟨n, h2, h3⟩ := h
  exact ⟨n, h2, h1.trans h3⟩
theorem IV.mk {σ : Mem} (a : Jvm.Pilot.@@N@@.TW σ) (b : IC σ) (c : IB σ) (d : IE σ) : IV σ := ⟨a, b, c, d⟩
theorem RL.mk {σ τ : Mem} (a : RS σ τ) (b : RC σ τ) (c : RB σ τ) (d : RE σ τ) (e : τ 0 0 6 = 0) : RL σ τ := ⟨a, b, c, d, e⟩
theorem Sim.mk {w : Nat → Int32} {k : Nat} {r : Option Int32} {σ τ : Mem} {x : Int32} (a : w k = τ 0 0 1) (b : k = 0 → ∀ y, r = some y → y = x) (c : IV σ) (d : RL σ τ) : Sim w (k, r, σ) (x, τ) := ⟨a, b, c, d⟩
theorem upK2 {σ : Mem} {k i j K a b : Nat} {v : Int32} (h : K ≠ k) : up σ k i j v K a b = σ K a b := upK (fun z => h z.1)
/-- the class's check and the model's -/
theorem NY_sim {σ τ : Mem} {q b : Int32} (hr : RL σ τ) : (kOwnB σ q b = 0 ∧ (mNY τ q b).1 = 0 ∧ (mNY τ q b).2 = up τ 0 0 1 0 ∧ inR q 0 3 ∧ inR b 0 11) ∨ (kOwnB σ q b = 1 ∧ mNY τ q b = (1, up τ 0 0 1 1)) ∨ (kOwnB σ q b = 2 ∧ mNY τ q b = (1, up τ 0 0 1 2)) := by
  unfold kOwnB mNY
  by_cases h1 : inR q 0 3
  · rw [if_neg (bad_no h1), if_pos h1]
    by_cases h2 : inR b 0 11
    · rw [if_neg (bad_no h2), if_pos h2]
      rw [hr.1.2.2.2.2.2.2 _ (vin_lt (vin_R (n := 4) h1)), (hr.2.2.1 _ (vin_lt (vin_R (n := 12) h2))).1]
      by_cases h3 : τ 6 0 q.toNatClampNeg = 0
      · rw [if_pos h3, if_pos h3, up_up]; exact Or.inr (Or.inr ⟨rfl, rfl⟩)
      · rw [if_neg h3, if_neg h3]
        by_cases h4 : τ 7 0 b.toNatClampNeg = q
        · rw [if_pos h4, if_pos h4]; exact Or.inl ⟨rfl, rfl, rfl, h1, h2⟩
        · rw [if_neg h4, if_neg h4, up_up]; exact Or.inr (Or.inr ⟨rfl, rfl⟩)
    · rw [if_pos (bad_yes h2), if_neg h2]; exact Or.inr (Or.inl ⟨rfl, rfl⟩)
  · rw [if_pos (bad_yes h1), if_neg h1]; exact Or.inr (Or.inl ⟨rfl, rfl⟩)
theorem NE_sim {σ τ : Mem} {q b : Int32} (hr : RL σ τ) : (kOwnE σ q b = 0 ∧ (mNE τ q b).1 = 0 ∧ (mNE τ q b).2 = up τ 0 0 1 0 ∧ inR q 0 3 ∧ inR b 0 11) ∨ (kOwnE σ q b = 1 ∧ mNE τ q b = (1, up τ 0 0 1 1)) ∨ (kOwnE σ q b = 2 ∧ mNE τ q b = (1, up τ 0 0 1 2)) := by
  unfold kOwnE mNE
  by_cases h1 : inR q 0 3
  · rw [if_neg (bad_no h1), if_pos h1]
    by_cases h2 : inR b 0 11
    · rw [if_neg (bad_no h2), if_pos h2]
      rw [hr.1.2.2.2.2.2.2 _ (vin_lt (vin_R (n := 4) h1)), (hr.2.2.2.1 _ (vin_lt (vin_R (n := 12) h2))).1]
      by_cases h3 : τ 6 0 q.toNatClampNeg = 0
      · rw [if_pos h3, if_pos h3, up_up]; exact Or.inr (Or.inr ⟨rfl, rfl⟩)
      · rw [if_neg h3, if_neg h3]
        by_cases h4 : τ 10 0 b.toNatClampNeg = q
        · rw [if_pos h4, if_pos h4]; exact Or.inl ⟨rfl, rfl, rfl, h1, h2⟩
        · rw [if_neg h4, if_neg h4, up_up]; exact Or.inr (Or.inr ⟨rfl, rfl⟩)
    · rw [if_pos (bad_yes h2), if_neg h2]; exact Or.inr (Or.inl ⟨rfl, rfl⟩)
  · rw [if_pos (bad_yes h1), if_neg h1]; exact Or.inr (Or.inl ⟨rfl, rfl⟩)
theorem ix8 {b i : Int32} (hb : vp_in b 12) (hi : vp_in i 8) : (b * 8 + i).toNatClampNeg = 8 * b.toNatClampNeg + i.toNatClampNeg := by
  have h1 := vin_lt hb
  have h2 := vin_lt hi
  have h3 : b * 8 + i = nI (8 * b.toNatClampNeg + i.toNatClampNeg) := by rw [← mb_ix, ← nI_back hb, ← nI_back hi]
  rw [h3, nI_clamp (by omega)]
/-- a block's owner and size, written by both -/
theorem RB.upd {σ τ : Mem} {b : Nat} {v n : Int32} (hb : b < 12) (h : RB σ τ) : RB (up (up σ 8 b 0 v) 9 b 0 n) (up (up τ 7 0 b v) 8 0 b n) := by
  intro c hc
  obtain ⟨a1, a2, a3⟩ := h c hc
  rw [upK2 (by decide), upK2 (by decide : (7 : Nat) ≠ 8)]
  refine ⟨?_, ?_, fun i hi => ?_⟩
  · by_cases h1 : c = b
    · subst h1; rw [up_self, up_self]
    · rw [upK (by omega), upK (by omega)]; exact a1
  · by_cases h1 : c = b
    · subst h1; rw [up_self, up_self]
    · rw [upK (by omega), upK (by omega), upK (by omega), upK (by omega)]; exact a2
  · rw [upK2 (by decide), upK2 (by decide), upK2 (by decide), upK2 (by decide)]; exact a3 i hi
theorem IB.upd {σ : Mem} {b m : Nat} {v : Int32} (hv : v = -1 ∨ ¬ v < 0) (hm : m ≤ 8) (h : IB σ) : IB (up (up σ 8 b 0 v) 9 b 0 (nI m)) := by
  intro c hc
  obtain ⟨a1, n, a2, a3⟩ := h c hc
  rw [upK2 (by decide)]
  by_cases h1 : c = b
  · subst h1; rw [up_self, up_self]; exact ⟨hv, m, hm, rfl⟩
  · rw [upK (by omega), upK (by omega), upK2 (by decide)]; exact ⟨a1, n, a2, a3⟩
theorem sim_free {σ τ : Mem} {q b : Int32} (hi : IV σ) (hr : RL σ τ) : Sim w_free (sFree σ q b) (0, mFreeP τ q b) := by
  unfold sFree mFreeP
  rcases NY_sim (q := q) (b := b) hr with ⟨h1, h2, h3, h4, h5⟩ | ⟨h1, h2⟩ | ⟨h1, h2⟩
  · rw [if_pos h1, if_pos h2]
    have hb := vin_lt (vin_R (n := 12) h5)
    have g : ∀ K i j, K ≠ 8 → K ≠ 9 → gbM σ b.toNatClampNeg K i j = σ K i j := fun K i j a1 a2 => by unfold gbM; rw [upK2 a2, upK2 a1]
    have f : ∀ K j, K ≠ 7 → K ≠ 8 → ¬ (K = 0 ∧ j = 7) → ¬ (K = 0 ∧ j = 1) → mFree (up τ 0 0 1 0) b K 0 j = τ K 0 j := fun K j a1 a2 a3 a4 => by unfold mFree; rw [upK (by omega), upK2 a2, upK2 a1, upK (by omega)]
    refine Sim.mk ?_ (fun _ y hy => by cases hy) (IV.mk (hi.1.of (g 0 0 0 (by decide) (by decide))) (hi.2.1.of (fun K i j hK => g K i j (by omega) (by omega))) (IB.upd (m := 0) (Or.inl rfl) (by omega) hi.2.2.1) (hi.2.2.2.of (fun K i j hK => g K i j (by omega) (by omega))))
      (RL.mk (hr.1.of (fun K i j hK => g K i j (by omega) (by omega)) (fun K j hK => f K j (by omega) (by omega) (by omega) (by omega))) (hr.2.1.of (fun K i j hK => g K i j (by omega) (by omega)) (fun K j hK => f K j (by omega) (by omega) (by omega) (by omega)))
        (RB.of (RB.upd (v := -1) (n := 0) hb (RB.of hr.2.2.1 (τ' := up τ 0 0 1 0) (fun _ _ _ _ => rfl) (fun K j hK => upK (by omega)))) (fun _ _ _ _ => rfl) (fun K j hK => by unfold mFree; exact upK (by omega)))
        (hr.2.2.2.1.of (fun K i j hK => g K i j (by omega) (by omega)) (fun K j hK => f K j (by omega) (by omega) (by omega) (by omega))) ((f 0 6 (by decide) (by decide) (by decide) (by decide)).trans hr.2.2.2.2))
    unfold mFree
    rw [upK (by omega), upK2 (by decide), upK2 (by decide), up_self]
    rfl
  · rw [if_neg (by rw [h1]; decide), if_neg (by rw [h2]; exact (show ¬ (1 : Int32) = 0 by decide)), h1, h2]; exact Sim.fail hi hr rfl (by decide)
  · rw [if_neg (by rw [h1]; decide), if_neg (by rw [h2]; exact (show ¬ (1 : Int32) = 0 by decide)), h1, h2]; exact Sim.fail hi hr rfl (by decide)
theorem sim_read {σ τ : Mem} {q b i : Int32} (hi : IV σ) (hr : RL σ τ) : Sim w_read (sRead σ q b i) (mRead τ q b i) := by
  unfold sRead mRead
  rcases NY_sim (q := q) (b := b) hr with ⟨h1, h2, h3, h4, h5⟩ | ⟨h1, h2⟩ | ⟨h1, h2⟩
  · rw [if_pos h1, if_pos h2]
    have hb := vin_R (n := 12) h5
    have hbc := hr.2.2.1 _ (vin_lt hb)
    by_cases g1 : i < 0
    · have hk : kCell σ b.toNatClampNeg i = 3 := by unfold kCell; rw [if_pos g1]
      rw [hk, if_neg (by decide), if_pos g1]; unfold mFail; rw [up_up]; exact Sim.fail hi hr rfl (by decide)
    · by_cases g2 : i < σ 9 b.toNatClampNeg 0
      · have hk : kCell σ b.toNatClampNeg i = 0 := by unfold kCell; rw [if_neg g1, if_neg (fun z => z g2)]
        rw [hk, if_pos rfl, if_neg g1, if_pos (by rw [← hbc.2.1]; exact g2)]
        have hi8 : vp_in i 8 := by
          obtain ⟨n, n1, n2⟩ := (hi.2.2.1 _ (vin_lt hb)).2
          rw [n2, Int32.lt_iff_toInt_lt, nI_toInt (by omega)] at g2
          exact vin_rg g1 (by omega)
        refine Sim.same hi hr rfl ?_
        rw [ix8 hb hi8]
        exact hbc.2.2 _ (vin_lt hi8)
      · have hk : kCell σ b.toNatClampNeg i = 3 := by unfold kCell; rw [if_neg g1, if_pos g2]
        rw [hk, if_neg (by decide), if_neg g1, if_neg (by rw [← hbc.2.1]; exact g2)]; unfold mFail; rw [up_up]; exact Sim.fail hi hr rfl (by decide)
  · rw [if_neg (by rw [h1]; decide), if_neg (by rw [h2]; exact (show ¬ (1 : Int32) = 0 by decide)), h1, h2]; exact Sim.fail hi hr rfl (by decide)
  · rw [if_neg (by rw [h1]; decide), if_neg (by rw [h2]; exact (show ¬ (1 : Int32) = 0 by decide)), h1, h2]; exact Sim.fail hi hr rfl (by decide)
