/-! Class and model side by side: hear: laid by gen/m75.py. -/
theorem IB.give {σ : Mem} {lt v q : Int32} (hq : ¬ q < 0) (h : IB σ) : IB (giveM σ lt v q) := by
  intro b hb
  obtain ⟨a1, a2⟩ := h b hb
  rw [give_k (K := 9) (by decide) (by decide)]
  refine ⟨?_, a2⟩
  unfold giveM
  split
  · by_cases h3 : b = v.toNatClampNeg
    · rw [h3, up_self]; exact Or.inr hq
    · rw [upK (by omega)]; exact a1
  · split
    · rw [upK2 (by decide)]; exact a1
    · exact a1
theorem IE.give {σ : Mem} {lt v q : Int32} (hq : ¬ q < 0) (h : IE σ) : IE (giveM σ lt v q) := by
  intro e he
  obtain ⟨a1, a2, wt, a3, a4, a5⟩ := h e he
  have ho : giveM σ lt v q 11 e 0 = q ∨ giveM σ lt v q 11 e 0 = σ 11 e 0 := by
    unfold giveM
    split
    · rw [upK2 (by decide)]; exact Or.inr rfl
    · split
      · by_cases h3 : e = v.toNatClampNeg
        · rw [h3, up_self]; exact Or.inl rfl
        · rw [upK (by omega)]; exact Or.inr rfl
      · exact Or.inr rfl
  rw [give_k (K := 13) (by decide) (by decide)]
  refine ⟨?_, ?_, wt, a3, a4, fun k hk => by rw [give_k (by decide) (by decide), give_k (by decide) (by decide)]; exact a5 k hk⟩
  · rcases ho with h1 | h1
    · rw [h1]; exact Or.inr hq
    · rw [h1]; exact a1
  · intro h2
    rcases ho with h1 | h1
    · rw [h1] at h2; rw [h2] at hq; exact absurd (by decide) hq
    · rw [h1] at h2; exact a2 h2
theorem RE.give {σ τ : Mem} {lt v q : Int32} (hl : inR lt 0 6) (h : RE σ τ) : RE (giveM σ lt v q) (mGive τ lt v q) := by
  intro e he
  obtain ⟨a1, a2, a3, a4⟩ := h e he
  unfold wtE
  rw [own_give hl (fun e he => (h e he).1) e he, give_k (K := 12) (by decide) (by decide), give_k (K := 13) (by decide) (by decide), mGive_k (K := 11) (by decide) (by decide), mGive_k (K := 12) (by decide) (by decide)]
  refine ⟨rfl, a2, a3, fun k hk => ?_⟩
  rw [give_k (by decide) (by decide), give_k (by decide) (by decide), mGive_k (by decide) (by decide), mGive_k (by decide) (by decide)]
  exact a4 k hk
/-- a count goes up in both -/
theorem RS.inc {σ τ : Mem} {j : Nat} (hj : 1 ≤ j ∧ j ≤ 4) (h : RS σ τ) : RS (up σ 0 0 j (σ 0 0 j + 1)) (up τ 0 0 (j + 1) (τ 0 0 (j + 1) + 1)) := by
  obtain ⟨a1, a2, a3, a4, a5, a6, a7⟩ := h
  have hj' : j = 1 ∨ j = 2 ∨ j = 3 ∨ j = 4 := by omega
  have e : ∀ i, 1 ≤ i → i ≤ 4 → σ 0 0 i = τ 0 0 (i + 1) → up σ 0 0 j (σ 0 0 j + 1) 0 0 i = up τ 0 0 (j + 1) (τ 0 0 (j + 1) + 1) 0 0 (i + 1) := by
    intro i h1 h2 h3
    by_cases h4 : i = j
    · subst h4; rw [up_self, up_self, h3]
    · rw [upK (by omega), upK (by omega)]; exact h3
  exact ⟨by rw [upK (by omega), upK (by omega)]; exact a1, e 1 (by omega) (by omega) a2, e 2 (by omega) (by omega) a3, e 3 (by omega) (by omega) a4, e 4 (by omega) (by omega) a5, fun i hi => by rw [upK2 (by decide), upK2 (by decide)]; exact a6 i hi, fun i hi => by rw [upK2 (by decide), upK2 (by decide)]; exact a7 i hi⟩
theorem and15 {v : Int32} (h : vp_in v 12) : v &&& 15 = v := by
  obtain ⟨j, hj, rfl⟩ := vp_in_of h (by decide)
  exact (by decide +kernel : ∀ j, j < 12 → nI j &&& 15 = nI j) j hj
/-- the class's memory when a message was taken -/
def heA (σ : Mem) (e : Nat) (nx : Int32) : Mem := up (popM (up σ 12 e 0 nx) e (wtE σ e)) 13 e 0 (nI (wtE σ e - 1))
theorem heA_k {σ : Mem} {e K i j : Nat} {nx : Int32} (h : K ≠ 12) (h1 : K ≠ 13) (h2 : K ≠ 14) (h3 : K ≠ 15) : heA σ e nx K i j = σ K i j := by
  unfold heA popM
  rw [upK2 h1, if_neg (fun z => by omega), upK2 h]
theorem heA_q {σ : Mem} {e K c k : Nat} {nx : Int32} (hK : K = 14 ∨ K = 15) : heA σ e nx K c k = if c = e ∧ k + 1 < wtE σ e then σ K e (k + 1) else σ K c k := by
  unfold heA popM
  rw [upK2 (by omega)]
  by_cases h : c = e ∧ k + 1 < wtE σ e
  · rw [if_pos h, if_pos ⟨h.1, hK, h.2⟩, upK2 (by omega)]
  · rw [if_neg h, if_neg (fun z => h ⟨z.1, z.2.2⟩), upK2 (by omega)]
theorem heA_12 {σ : Mem} {e c : Nat} {nx : Int32} : heA σ e nx 12 c 0 = if c = e then nx else σ 12 c 0 := by
  unfold heA popM
  rw [upK2 (by decide), if_neg (fun z => by omega)]
  by_cases h : c = e
  · rw [if_pos h, h, up_self]
  · rw [if_neg h, upK (by omega)]
theorem heA_13 {σ : Mem} {e c : Nat} {nx : Int32} : heA σ e nx 13 c 0 = if c = e then nI (wtE σ e - 1) else σ 13 c 0 := by
  unfold heA
  by_cases h : c = e
  · rw [if_pos h, h, up_self]
  · rw [if_neg h, upK (by omega)]
    unfold popM
    rw [if_neg (fun z => by omega), upK2 (by decide)]
def heB (τ : Mem) (x : Int32) : Mem := mPop (mHe1 τ x) x.toNatClampNeg (mwt τ x - 1)
theorem heB_k {τ : Mem} {x : Int32} {K j : Nat} (h : ¬ (K = 0 ∧ (j = 1 ∨ j = 8))) (h1 : K ≠ 11) (h2 : K ≠ 12) (h3 : K ≠ 13) (h4 : K ≠ 14) : heB τ x K 0 j = τ K 0 j := by
  unfold heB mPop mHe1
  rw [if_neg (fun z => by omega), upK2 h2, upK2 h1, upK (by omega), upK (by omega)]
theorem sim_hear {σ τ : Mem} {q x : Int32} (hi : IV σ) (hr : RL σ τ) : Sim w_hear (sHear σ q x) (mHear τ q x) := by
  unfold sHear mHear
  rcases NE_sim (q := q) (b := x) hr with ⟨h1, h2, h3, h4, h5⟩ | ⟨h1, h2⟩ | ⟨h1, h2⟩
  · rw [if_pos h1, if_pos h2]
    have hx := vin_R (n := 12) h5
    have he := vin_lt hx
    have hE := hr.2.2.2.1 _ he
    rw [hE.2.2.1]
    by_cases h6 : τ 12 0 x.toNatClampNeg = 0
    · rw [if_pos h6, if_pos h6]; unfold mFail; rw [up_up]; exact Sim.fail hi hr rfl (by decide)
    · rw [if_neg h6, if_neg h6]
      obtain ⟨i1, i2, wt, i3, i4, i5⟩ := hi.2.2.2 _ he
      have hwt : wtE σ x.toNatClampNeg = wt := by unfold wtE; rw [i4, nI_clamp (by omega)]
      have hw0 : 0 < wt := Nat.pos_of_ne_zero (fun z => h6 (by rw [← hE.2.2.1, i4, z]; decide))
      have hmw : mwt τ x = wt := by unfold mwt; rw [← hE.2.2.1, i4, nI_clamp (by omega)]
      have hl : hl0 τ x = σ 14 x.toNatClampNeg 0 := (hE.2.2.2 0 (by omega)).1.symm
      have hv : hv0 τ x = σ 15 x.toNatClampNeg 0 := (hE.2.2.2 0 (by omega)).2.symm
      have hr0 := hr.thr (v := 0) (j := 1) (Or.inl rfl)
      have hLS := lets_sim (lt := σ 14 x.toNatClampNeg 0) (sd := 1 - (x - x / 2 * 2)) hi hr0 hx
      rw [hl, hv]
      have hN : heN σ x = nxt σ ((x / 2).toNatClampNeg + 5) (szC σ ((x / 2).toNatClampNeg + 5)) (σ 12 x.toNatClampNeg 0) (σ 14 x.toNatClampNeg 0) (1 - (x - x / 2 * 2)) := by unfold heN; rw [(sd_hear hx).1]
      rcases hLS with ⟨g1, g2⟩ | ⟨g1, g2, g3⟩
      · rw [if_pos (by rw [hN]; exact g1), if_pos g2]; unfold mFail; rw [up_up]; exact Sim.fail hi hr rfl (by decide)
      · rw [if_neg (by rw [hN]; exact g1), if_neg g2]
        have hin := (i5 0 hw0).1
        have hNX : heN σ x = mNx (up τ 0 0 1 0) x (hl0 τ x) (1 - (x - x / 2 * 2)) := by rw [hN, g3, hl]
        have eA : heM σ q x.toNatClampNeg (heN σ x) = up (giveM (heA σ x.toNatClampNeg (heN σ x)) (σ 14 x.toNatClampNeg 0) (σ 15 x.toNatClampNeg 0) q) 0 0 2 (giveM (heA σ x.toNatClampNeg (heN σ x)) (σ 14 x.toNatClampNeg 0) (σ 15 x.toNatClampNeg 0) q 0 0 2 + 1) := rfl
        have eB : mHe2 τ q x = mGive (heB τ x) (σ 14 x.toNatClampNeg 0) (σ 15 x.toNatClampNeg 0) q := by unfold mHe2; rw [hl, hv]; rfl
        rw [eA, eB]
        have b11 : ∀ c, heB τ x 11 0 c = if c = x.toNatClampNeg then heN σ x else τ 11 0 c := by
          intro c
          unfold heB mPop mHe1
          rw [if_neg (fun z => by omega), upK2 (by decide), ← hNX]
          by_cases z : c = x.toNatClampNeg
          · rw [if_pos z, z, up_self]
          · rw [if_neg z, upK (by omega), upK2 (by decide), upK2 (by decide)]
        have b12 : ∀ c, heB τ x 12 0 c = if c = x.toNatClampNeg then nI (wt - 1) else τ 12 0 c := by
          intro c
          unfold heB mPop mHe1
          rw [if_neg (fun z => by omega), hmw]
          by_cases z : c = x.toNatClampNeg
          · rw [if_pos z, z, up_self]
          · rw [if_neg z, upK (by omega), upK2 (by decide), upK2 (by decide), upK2 (by decide)]
        have bq : ∀ K c k, K = 13 ∨ K = 14 → k < 3 → heB τ x K 0 (3 * c + k) = if c = x.toNatClampNeg ∧ k + 1 < wt then τ K 0 (3 * c + (k + 1)) else τ K 0 (3 * c + k) := by
          intro K c k hK hk
          unfold heB mPop
          rw [hmw]
          have m1 : ∀ j, mHe1 τ x K 0 j = τ K 0 j := fun j => by unfold mHe1; rw [upK2 (by omega), upK2 (by omega), upK2 (by omega), upK2 (by omega)]
          by_cases z : c = x.toNatClampNeg ∧ k + 1 < wt
          · rw [if_pos z, if_pos ⟨hK, rfl, by omega, by omega⟩, m1]; rfl
          · rw [if_neg z, if_neg (fun y => z (by omega)), m1]
        have RE1 : RE (heA σ x.toNatClampNeg (heN σ x)) (heB τ x) := by
          intro c hc
          obtain ⟨d1, d2, d3, d4⟩ := hr.2.2.2.1 c hc
          have w3 : wtE σ c ≤ 3 := hi.QW.le hc
          unfold wtE
          rw [heA_k (by decide) (by decide) (by decide) (by decide), heA_12, heA_13, heB_k (by omega) (by decide) (by decide) (by decide) (by decide), b11, b12, hwt, d2, d3]
          refine ⟨d1, rfl, rfl, fun k hk => ?_⟩
          rw [heA_q (Or.inl rfl), heA_q (Or.inr rfl), hwt]
          by_cases z : c = x.toNatClampNeg
          · rw [if_pos z, nI_clamp (by omega)] at hk
            rw [if_pos ⟨z, by omega⟩, if_pos ⟨z, by omega⟩, bq 13 c k (Or.inl rfl) (by omega), bq 14 c k (Or.inr rfl) (by omega), if_pos ⟨z, by omega⟩, if_pos ⟨z, by omega⟩, ← z]
            exact d4 (k + 1) (by rw [z, hwt]; omega)
          · rw [if_neg z, ← d3] at hk
            have hk2 : k < wtE σ c := hk
            rw [if_neg (fun y => z y.1), if_neg (fun y => z y.1), bq 13 c k (Or.inl rfl) (by omega), bq 14 c k (Or.inr rfl) (by omega), if_neg (fun y => z y.1), if_neg (fun y => z y.1)]
            exact d4 k hk2
        have IE1 : IE (heA σ x.toNatClampNeg (heN σ x)) := by
          intro c hc
          obtain ⟨d1, d2, w, d3, d4, d5⟩ := hi.2.2.2 c hc
          rw [heA_k (by decide) (by decide) (by decide) (by decide), heA_13, hwt]
          by_cases z : c = x.toNatClampNeg
          · rw [if_pos z]
            refine ⟨d1, fun y => ?_, wt - 1, by omega, rfl, fun k hk => ?_⟩
            · rw [z] at y
              exact absurd (i2 y) (fun u => h6 (by rw [← hE.2.2.1]; exact u))
            · rw [heA_q (Or.inl rfl), heA_q (Or.inr rfl), hwt, if_pos ⟨z, by omega⟩, if_pos ⟨z, by omega⟩]
              exact i5 (k + 1) (by omega)
          · rw [if_neg z]
            refine ⟨d1, d2, w, d3, d4, fun k hk => ?_⟩
            rw [heA_q (Or.inl rfl), heA_q (Or.inr rfl), if_neg (fun y => z y.1), if_neg (fun y => z y.1)]
            exact d5 k hk
        have gK : ∀ K i j, K ≠ 8 → K ≠ 11 → K ≠ 12 → K ≠ 13 → K ≠ 14 → K ≠ 15 → giveM (heA σ x.toNatClampNeg (heN σ x)) (σ 14 x.toNatClampNeg 0) (σ 15 x.toNatClampNeg 0) q K i j = σ K i j := fun K i j z1 z2 z3 z4 z5 z6 => by rw [give_k z1 z2, heA_k z3 z4 z5 z6]
        have fK : ∀ K j, K ≠ 7 → K ≠ 10 → ¬ (K = 0 ∧ (j = 1 ∨ j = 8)) → K ≠ 11 → K ≠ 12 → K ≠ 13 → K ≠ 14 → mGive (heB τ x) (σ 14 x.toNatClampNeg 0) (σ 15 x.toNatClampNeg 0) q K 0 j = τ K 0 j := fun K j z1 z2 z3 z4 z5 z6 z7 => by rw [mGive_k z1 z2, heB_k z3 z4 z5 z6 z7]
        refine Sim.mk ?_ (fun _ y hy => ?_) (IV.mk (hi.1.of (by rw [upK (by omega)]; exact gK 0 0 0 (by decide) (by decide) (by decide) (by decide) (by decide) (by decide))) (hi.2.1.of (fun K i j hK => by rw [upK2 (by omega)]; exact gK K i j (by omega) (by omega) (by omega) (by omega) (by omega) (by omega)))
            (IB.of (IB.give (q := q) h4.1 (IB.of hi.2.2.1 (fun K i j hK => heA_k (by omega) (by omega) (by omega) (by omega)))) (fun K i j hK => upK2 (by omega))) (IE.of (IE.give (q := q) h4.1 IE1) (fun K i j hK => upK2 (by omega))))
          (RL.mk (RS.inc (by omega) (hr.1.of (fun K i j hK => gK K i j (by omega) (by omega) (by omega) (by omega) (by omega) (by omega)) (fun K j hK => fK K j (by omega) (by omega) (by omega) (by omega) (by omega) (by omega) (by omega)))) (hr.2.1.of (fun K i j hK => by rw [upK2 (by omega)]; exact gK K i j (by omega) (by omega) (by omega) (by omega) (by omega) (by omega)) (fun K j hK => by rw [upK2 (by omega)]; exact fK K j (by omega) (by omega) (by omega) (by omega) (by omega) (by omega) (by omega)))
            (RB.of (RB.give (q := q) hin (RB.of hr.2.2.1 (fun K i j hK => heA_k (by omega) (by omega) (by omega) (by omega)) (fun K j hK => heB_k (by omega) (by omega) (by omega) (by omega) (by omega)))) (fun K i j hK => upK2 (by omega)) (fun K j hK => upK2 (by omega)))
            (RE.of (RE.give (q := q) hin RE1) (fun K i j hK => upK2 (by omega)) (fun K j hK => upK2 (by omega))) (by rw [upK (by omega), fK 0 6 (by omega) (by omega) (by omega) (by omega) (by omega) (by omega) (by omega)]; exact hr.2.2.2.2))
        · rw [upK (by omega), mGive_k (by decide) (by decide)]
          unfold heB mPop mHe1
          rw [if_neg (fun z => by omega), upK2 (by decide), upK2 (by decide), upK (by omega), up_self]
          rfl
        · cases hy
          by_cases z : σ 14 x.toNatClampNeg 0 < 3
          · rw [if_pos z]
          · rw [if_neg z, and15 ((i5 0 hw0).2 (fun u => z (by rw [lt3]; rw [le2] at u; omega)))]
  · rw [if_neg (by rw [h1]; decide), if_neg (by rw [h2]; exact (show ¬ (1 : Int32) = 0 by decide)), h1, h2]; exact Sim.fail hi hr rfl (by decide)
  · rw [if_neg (by rw [h1]; decide), if_neg (by rw [h2]; exact (show ¬ (1 : Int32) = 0 by decide)), h1, h2]; exact Sim.fail hi hr rfl (by decide)
