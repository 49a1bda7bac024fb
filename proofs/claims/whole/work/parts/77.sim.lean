/-! Class and model side by side: say: laid by gen/m77.py. -/
def saP (σ : Mem) (x lt v nx : Int32) : Mem := pushM (up σ 12 x.toNatClampNeg 0 nx) (x ^^^ 1).toNatClampNeg (wtE σ (x ^^^ 1).toNatClampNeg) lt v
theorem saP_k {σ : Mem} {x lt v nx : Int32} {K i j : Nat} (h : K ≠ 12) (h1 : K ≠ 13) (h2 : K ≠ 14) (h3 : K ≠ 15) : saP σ x lt v nx K i j = σ K i j := by
  unfold saP pushM
  rw [upK2 h1, upK2 h3, upK2 h2, upK2 h]
theorem sa3_k {τ : Mem} {x lt v : Int32} {K j : Nat} (h : ¬ (K = 0 ∧ (j = 1 ∨ j = 8))) (h1 : K ≠ 11) (h2 : K ≠ 12) (h3 : K ≠ 13) (h4 : K ≠ 14) : mSay3 τ x lt v K 0 j = τ K 0 j := by
  unfold mSay3
  rw [upK2 h2, upK2 h4, upK2 h3, upK2 h1, upK (by omega), upK (by omega)]
theorem oth_ne {x : Int32} (hx : vp_in x 12) : (x ^^^ 1).toNatClampNeg ≠ x.toNatClampNeg := by
  obtain ⟨j, hj, rfl⟩ := vp_in_of hx (by decide)
  exact (by decide +kernel : ∀ j, j < 12 → (nI j ^^^ 1).toNatClampNeg ≠ (nI j).toNatClampNeg) j hj
theorem sim_say {σ τ : Mem} {q x lt v : Int32} (hi : IV σ) (hr : RL σ τ) : Sim w_say (sSay σ q x lt v) (0, mSay τ q x lt v) := by
  have hr0 := hr.thr (v := 0) (j := 1) (Or.inl rfl)
  have hN1 : ∀ {q x : Int32}, ¬ inR q 0 3 ∨ ¬ inR x 0 11 → kOwnE σ q x = 1 := by
    intro q x h
    unfold kOwnE
    by_cases h1 : inR q 0 3
    · rw [if_neg (bad_no h1), if_pos (bad_yes (h.resolve_left (fun z => z h1)))]
    · rw [if_pos (bad_yes h1)]
  unfold sSay mSay
  by_cases hl : inR lt 0 6
  · rw [if_neg (bad_no hl)]
    by_cases hq : inR q 0 3
    · rw [if_pos hq]
      by_cases hxr : inR x 0 11
      · rw [if_pos hxr, if_pos hl]
        have hx := vin_R (n := 12) hxr
        rcases NE_sim (q := q) (b := x) hr0 with ⟨h1, h2, h3, h4, h5⟩ | ⟨h1, h2⟩ | ⟨h1, h2⟩
        · rw [if_pos h1, if_pos h2]
          have hLS := lets_sim (lt := lt) (sd := x - x / 2 * 2) hi hr0 hx
          have hN : saN σ x lt = nxt σ ((x / 2).toNatClampNeg + 5) (szC σ ((x / 2).toNatClampNeg + 5)) (σ 12 x.toNatClampNeg 0) lt (x - x / 2 * 2) := by unfold saN; rw [(sd_hear hx).2]
          rcases hLS with ⟨g1, g2⟩ | ⟨g1, g2, g3⟩
          · rw [if_pos (by rw [hN]; exact g1), if_pos g2, up_up]; exact Sim.fail hi hr rfl (by decide)
          · rw [if_neg (by rw [hN]; exact g1), if_neg g2]
            have hr8 := hr0.thr (v := mNx (up τ 0 0 1 0) x lt (x - x / 2 * 2)) (j := 8) (by omega)
            rcases load_sim (q := q) (v := v) hr hx hl with ⟨k1, k2⟩ | ⟨k1, k2⟩
            · rw [if_pos k1, if_pos k2]
              have hy := vin_oth hx
              have hye := vin_lt hy
              obtain ⟨i1, i2, wt, i3, i4, i5⟩ := hi.2.2.2 _ hye
              have hE := hr.2.2.2.1 _ hye
              have hwt : wtE σ (x ^^^ 1).toNatClampNeg = wt := by unfold wtE; rw [i4, nI_clamp (by omega)]
              have hmw : mwt τ (x ^^^ 1) = wt := by unfold mwt; rw [← hE.2.2.1, i4, nI_clamp (by omega)]
              have hop : σ 11 (x ^^^ 1).toNatClampNeg 0 ≠ -1 ↔ 0 ≤ τ 10 0 (x ^^^ 1).toNatClampNeg := by
                rw [← hE.1, ← Int32.not_lt]
                exact not_congr (own_neg i1)
              by_cases o1 : σ 11 (x ^^^ 1).toNatClampNeg 0 ≠ -1
              · rw [if_pos o1, if_pos (hop.mp o1), ← hE.2.2.1, i4]
                have hw := (by decide +kernel : ∀ n, n < 4 → ((nI n < 3 ↔ n < 3) ∧ (nI n = 3 ↔ n = 3))) wt (by omega)
                by_cases w1 : wt = 3
                · rw [if_neg (fun z => by have := hw.1.mp z; omega), if_pos (hw.2.mpr w1)]; exact Sim.fail hi hr8 rfl (by decide)
                · rw [if_pos (hw.1.mpr (by omega)), if_neg (fun z => w1 (hw.2.mp z))]
                  have hNX : saN σ x lt = mNx (up τ 0 0 1 0) x lt (x - x / 2 * 2) := hN.trans g3
                  have eA : saM σ x lt v (saN σ x lt) = up (giveM (saP σ x lt v (saN σ x lt)) lt v 4) 0 0 1 (giveM (saP σ x lt v (saN σ x lt)) lt v 4 0 0 1 + 1) := by unfold saM saP; rw [push_give]
                  rw [eA]
                  unfold mSayM
                  have hne := oth_ne hx
                  have m11 : ∀ c, mSay3 τ x lt v 11 0 c = if c = x.toNatClampNeg then saN σ x lt else τ 11 0 c := by
                    intro c
                    unfold mSay3
                    rw [upK2 (by decide), upK2 (by decide), upK2 (by decide), ← hNX]
                    by_cases z : c = x.toNatClampNeg
                    · rw [if_pos z, z, up_self]
                    · rw [if_neg z, upK (by omega), upK2 (by decide), upK2 (by decide)]
                  have m12 : ∀ c, mSay3 τ x lt v 12 0 c = if c = (x ^^^ 1).toNatClampNeg then nI (wt + 1) else τ 12 0 c := by
                    intro c
                    unfold mSay3
                    rw [hmw]
                    by_cases z : c = (x ^^^ 1).toNatClampNeg
                    · rw [if_pos z, z, up_self]
                    · rw [if_neg z, upK (by omega), upK2 (by decide), upK2 (by decide), upK2 (by decide), upK2 (by decide), upK2 (by decide)]
                  have m13 : ∀ c k, k < 3 → mSay3 τ x lt v 13 0 (3 * c + k) = if c = (x ^^^ 1).toNatClampNeg ∧ k = wt then lt else τ 13 0 (3 * c + k) := by
                    intro c k hk
                    unfold mSay3
                    rw [hmw, upK2 (by decide), upK2 (by decide)]
                    by_cases z : c = (x ^^^ 1).toNatClampNeg ∧ k = wt
                    · rw [if_pos z, z.1, z.2, up_self]
                    · rw [if_neg z, upK (fun u => z (by omega)), upK2 (by decide), upK2 (by decide), upK2 (by decide)]
                  have m14 : ∀ c k, k < 3 → mSay3 τ x lt v 14 0 (3 * c + k) = if c = (x ^^^ 1).toNatClampNeg ∧ k = wt then v else τ 14 0 (3 * c + k) := by
                    intro c k hk
                    unfold mSay3
                    rw [hmw, upK2 (by decide)]
                    by_cases z : c = (x ^^^ 1).toNatClampNeg ∧ k = wt
                    · rw [if_pos z, z.1, z.2, up_self]
                    · rw [if_neg z, upK (fun u => z (by omega)), upK2 (by decide), upK2 (by decide), upK2 (by decide), upK2 (by decide)]
                  have s12 : ∀ c, saP σ x lt v (saN σ x lt) 12 c 0 = if c = x.toNatClampNeg then saN σ x lt else σ 12 c 0 := by
                    intro c
                    unfold saP pushM
                    rw [upK2 (by decide), upK2 (by decide), upK2 (by decide)]
                    by_cases z : c = x.toNatClampNeg
                    · rw [if_pos z, z, up_self]
                    · rw [if_neg z, upK (by omega)]
                  have s13 : ∀ c, saP σ x lt v (saN σ x lt) 13 c 0 = if c = (x ^^^ 1).toNatClampNeg then nI (wt + 1) else σ 13 c 0 := by
                    intro c
                    unfold saP pushM
                    rw [hwt]
                    by_cases z : c = (x ^^^ 1).toNatClampNeg
                    · rw [if_pos z, z, up_self]
                    · rw [if_neg z, upK (by omega), upK2 (by decide), upK2 (by decide), upK2 (by decide)]
                  have s14 : ∀ c k, saP σ x lt v (saN σ x lt) 14 c k = if c = (x ^^^ 1).toNatClampNeg ∧ k = wt then lt else σ 14 c k := by
                    intro c k
                    unfold saP pushM
                    rw [hwt, upK2 (by decide), upK2 (by decide)]
                    by_cases z : c = (x ^^^ 1).toNatClampNeg ∧ k = wt
                    · rw [if_pos z, z.1, z.2, up_self]
                    · rw [if_neg z, upK (fun u => z u.2), upK2 (by decide)]
                  have s15 : ∀ c k, saP σ x lt v (saN σ x lt) 15 c k = if c = (x ^^^ 1).toNatClampNeg ∧ k = wt then v else σ 15 c k := by
                    intro c k
                    unfold saP pushM
                    rw [hwt, upK2 (by decide)]
                    by_cases z : c = (x ^^^ 1).toNatClampNeg ∧ k = wt
                    · rw [if_pos z, z.1, z.2, up_self]
                    · rw [if_neg z, upK (fun u => z u.2), upK2 (by decide), upK2 (by decide)]
                  have RE1 : RE (saP σ x lt v (saN σ x lt)) (mSay3 τ x lt v) := by
                    intro c hc
                    obtain ⟨d1, d2, d3, d4⟩ := hr.2.2.2.1 c hc
                    have w3 : wtE σ c ≤ 3 := hi.QW.le hc
                    unfold wtE
                    rw [saP_k (by decide) (by decide) (by decide) (by decide), s12, s13, sa3_k (by omega) (by decide) (by decide) (by decide) (by decide), m11, m12, d2, d3]
                    refine ⟨d1, rfl, rfl, fun k hk => ?_⟩
                    have hk3 : k < 3 := by
                      by_cases z : c = (x ^^^ 1).toNatClampNeg
                      · rw [if_pos z, nI_clamp (by omega)] at hk; omega
                      · rw [if_neg z, ← d3] at hk; have : k < wtE σ c := hk; omega
                    rw [s14, s15, m13 c k hk3, m14 c k hk3]
                    by_cases z : c = (x ^^^ 1).toNatClampNeg ∧ k = wt
                    · rw [if_pos z, if_pos z, if_pos z, if_pos z]; exact ⟨rfl, rfl⟩
                    · rw [if_neg z, if_neg z, if_neg z, if_neg z]
                      refine d4 k ?_
                      by_cases y : c = (x ^^^ 1).toNatClampNeg
                      · rw [if_pos y, nI_clamp (by omega)] at hk; rw [y, hwt]; omega
                      · rw [if_neg y, ← d3] at hk; exact hk
                  have IE1 : IE (saP σ x lt v (saN σ x lt)) := by
                    intro c hc
                    obtain ⟨d1, d2, w, d3, d4, d5⟩ := hi.2.2.2 c hc
                    rw [saP_k (by decide) (by decide) (by decide) (by decide), s13]
                    by_cases z : c = (x ^^^ 1).toNatClampNeg
                    · rw [if_pos z]
                      refine ⟨d1, fun y => absurd (by rw [← z]; exact y) o1, wt + 1, by omega, rfl, fun k hk => ?_⟩
                      rw [s14, s15]
                      by_cases y : k = wt
                      · rw [if_pos ⟨z, y⟩, if_pos ⟨z, y⟩]; exact ⟨hl, mine_v k2⟩
                      · rw [if_neg (fun u => y u.2), if_neg (fun u => y u.2), z]; exact i5 k (by omega)
                    · rw [if_neg z]
                      refine ⟨d1, d2, w, d3, d4, fun k hk => ?_⟩
                      rw [s14, s15, if_neg (fun u => z u.1), if_neg (fun u => z u.1)]; exact d5 k hk
                  have gK : ∀ K i j, K ≠ 8 → K ≠ 11 → K ≠ 12 → K ≠ 13 → K ≠ 14 → K ≠ 15 → giveM (saP σ x lt v (saN σ x lt)) lt v 4 K i j = σ K i j := fun K i j z1 z2 z3 z4 z5 z6 => by rw [give_k z1 z2, saP_k z3 z4 z5 z6]
                  have fK : ∀ K j, K ≠ 7 → K ≠ 10 → ¬ (K = 0 ∧ (j = 1 ∨ j = 8)) → K ≠ 11 → K ≠ 12 → K ≠ 13 → K ≠ 14 → mGive (mSay3 τ x lt v) lt v 4 K 0 j = τ K 0 j := fun K j z1 z2 z3 z4 z5 z6 z7 => by rw [mGive_k z1 z2, sa3_k z3 z4 z5 z6 z7]
                  refine Sim.mk ?_ (fun _ y hy => by cases hy) (IV.mk (hi.1.of (by rw [upK (by omega)]; exact gK 0 0 0 (by decide) (by decide) (by decide) (by decide) (by decide) (by decide))) (hi.2.1.of (fun K i j hK => by rw [upK2 (by omega)]; exact gK K i j (by omega) (by omega) (by omega) (by omega) (by omega) (by omega)))
                      (IB.of (IB.give (q := 4) (by decide) (IB.of hi.2.2.1 (fun K i j hK => saP_k (by omega) (by omega) (by omega) (by omega)))) (fun K i j hK => upK2 (by omega))) (IE.of (IE.give (q := 4) (by decide) IE1) (fun K i j hK => upK2 (by omega))))
                    (RL.mk (RS.inc (by omega) (hr.1.of (fun K i j hK => gK K i j (by omega) (by omega) (by omega) (by omega) (by omega) (by omega)) (fun K j hK => fK K j (by omega) (by omega) (by omega) (by omega) (by omega) (by omega) (by omega)))) (hr.2.1.of (fun K i j hK => by rw [upK2 (by omega)]; exact gK K i j (by omega) (by omega) (by omega) (by omega) (by omega) (by omega)) (fun K j hK => by rw [upK2 (by omega)]; exact fK K j (by omega) (by omega) (by omega) (by omega) (by omega) (by omega) (by omega)))
                      (RB.of (RB.give (q := 4) hl (RB.of hr.2.2.1 (fun K i j hK => saP_k (by omega) (by omega) (by omega) (by omega)) (fun K j hK => sa3_k (by omega) (by omega) (by omega) (by omega) (by omega)))) (fun K i j hK => upK2 (by omega)) (fun K j hK => upK2 (by omega)))
                      (RE.of (RE.give (q := 4) hl RE1) (fun K i j hK => upK2 (by omega)) (fun K j hK => upK2 (by omega))) (by rw [upK (by omega), fK 0 6 (by omega) (by omega) (by omega) (by omega) (by omega) (by omega) (by omega)]; exact hr.2.2.2.2))
                  rw [upK (by omega), mGive_k (by decide) (by decide)]
                  unfold mSay3
                  rw [upK2 (by decide), upK2 (by decide), upK2 (by decide), upK2 (by decide), upK (by omega), up_self]
                  rfl
              · rw [if_neg o1, if_neg (fun z => o1 (hop.mpr z))]; exact Sim.fail hi hr8 rfl (by decide)
            · rw [if_neg (by rw [k1]; decide), if_neg k2, k1]; exact Sim.fail hi hr8 rfl (by decide)
        · rw [if_neg (by rw [h1]; decide), if_neg (by rw [h2]; exact (show ¬ (1 : Int32) = 0 by decide)), h1, h2, up_up]; exact Sim.fail hi hr rfl (by decide)
        · rw [if_neg (by rw [h1]; decide), if_neg (by rw [h2]; exact (show ¬ (1 : Int32) = 0 by decide)), h1, h2, up_up]; exact Sim.fail hi hr rfl (by decide)
      · rw [hN1 (Or.inr hxr), if_neg (by decide), if_neg hxr]; exact Sim.fail hi hr rfl (by decide)
    · rw [hN1 (Or.inl hq), if_neg (by decide), if_neg hq]; exact Sim.fail hi hr rfl (by decide)
  · rw [if_pos (bad_yes hl)]
    by_cases hq : inR q 0 3
    · rw [if_pos hq]
      by_cases hxr : inR x 0 11
      · rw [if_pos hxr, if_neg hl]; exact Sim.fail hi hr rfl (by decide)
      · rw [if_neg hxr]; exact Sim.fail hi hr rfl (by decide)
    · rw [if_neg hq]; exact Sim.fail hi hr rfl (by decide)
