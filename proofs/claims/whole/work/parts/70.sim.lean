/-! Class and model side by side: the relation, and the calls that change nothing: laid by gen/m70.py. -/
/-- rules i of a row of the class at c, of the model's array K at row r -/
abbrev rEq (σ τ : Mem) (c K r i : Nat) : Prop := σ 4 c i = τ K 0 (36 * r + 4 * i) ∧ σ 5 c i = τ K 0 (36 * r + 4 * i + 1) ∧ σ 6 c i = τ K 0 (36 * r + 4 * i + 2) ∧ σ 7 c i = τ K 0 (36 * r + 4 * i + 3)
def RS (σ τ : Mem) : Prop := σ 0 0 0 = τ 0 0 0 ∧ σ 0 0 1 = τ 0 0 2 ∧ σ 0 0 2 = τ 0 0 3 ∧ σ 0 0 3 = τ 0 0 4 ∧ σ 0 0 4 = τ 0 0 5 ∧ (∀ j, j < 36 → σ 1 0 j = τ 1 0 j) ∧ ∀ j, j < 4 → σ 2 0 j = τ 6 0 j
def RC (σ τ : Mem) : Prop := (∀ c, c < 4 → σ 3 (c + 1) 0 = τ 3 0 c ∧ ∀ i, i < szC σ (c + 1) → rEq σ τ (c + 1) 2 c i) ∧ ∀ c, c < 6 → σ 3 (c + 5) 0 = τ 5 0 c ∧ ∀ i, i < szC σ (c + 5) → rEq σ τ (c + 5) 4 c i
def RB (σ τ : Mem) : Prop := ∀ b, b < 12 → σ 8 b 0 = τ 7 0 b ∧ σ 9 b 0 = τ 8 0 b ∧ ∀ i, i < 8 → σ 10 b i = τ 9 0 (8 * b + i)
def RE (σ τ : Mem) : Prop := ∀ e, e < 12 → σ 11 e 0 = τ 10 0 e ∧ σ 12 e 0 = τ 11 0 e ∧ σ 13 e 0 = τ 12 0 e ∧ ∀ k, k < wtE σ e → σ 14 e k = τ 13 0 (3 * e + k) ∧ σ 15 e k = τ 14 0 (3 * e + k)
/-- the two memories say the same -/
def RL (σ τ : Mem) : Prop := RS σ τ ∧ RC σ τ ∧ RB σ τ ∧ RE σ τ ∧ τ 0 0 6 = 0
/-- a row of rules is in order: at most nine, states 1 .. 6, letters 0 .. 6, sides 0, 1, nexts 0 .. 6, no state and letter twice -/
def IC (σ : Mem) : Prop := ∀ c, c < 11 → (∃ n : Nat, n ≤ 9 ∧ σ 3 c 0 = nI n) ∧ (∀ i, i < szC σ c → (¬ σ 7 c i < 0) ∧ (σ 6 c i = 0 ∨ σ 6 c i = 1)) ∧ ∀ i j, i < szC σ c → j < szC σ c → σ 4 c i = σ 4 c j → σ 5 c i = σ 5 c j → i = j
/-- blocks are in order -/
def IB (σ : Mem) : Prop := ∀ b, b < 12 → (σ 8 b 0 = -1 ∨ ¬ σ 8 b 0 < 0) ∧ ∃ n : Nat, n ≤ 8 ∧ σ 9 b 0 = nI n
/-- ends are in order -/
def IE (σ : Mem) : Prop := ∀ e, e < 12 → (σ 11 e 0 = -1 ∨ ¬ σ 11 e 0 < 0) ∧ (σ 11 e 0 = -1 → σ 13 e 0 = 0) ∧ ∃ wt : Nat, wt ≤ 3 ∧ σ 13 e 0 = nI wt ∧ ∀ k, k < wt → inR (σ 14 e k) 0 6 ∧ (¬ σ 14 e k ≤ 2 → vp_in (σ 15 e k) 12)
def IV (σ : Mem) : Prop := TW σ ∧ IC σ ∧ IB σ ∧ IE σ
theorem IV.TW {σ : Mem} (h : IV σ) : TW σ := h.1
theorem IV.CW {σ : Mem} (h : IV σ) : CW σ := fun c hc => (h.2.1 c hc).1
theorem IV.BW {σ : Mem} (h : IV σ) : BW σ := fun b hb => (h.2.2.1 b hb).2
theorem le2 {x : Int32} : x ≤ 2 ↔ x.toInt ≤ 2 := by rw [Int32.le_iff_toInt_le]; rfl
theorem lt3 {x : Int32} : x < 3 ↔ x.toInt < 3 := by rw [Int32.lt_iff_toInt_lt]; rfl
theorem le6 {x : Int32} : 6 ≤ x ↔ 6 ≤ x.toInt := by rw [Int32.le_iff_toInt_le]; rfl
theorem isB_le {x : Int32} (h : isB x ∨ x = 6) : ¬ x ≤ 2 := by
  rw [le2]
  rcases h with h | h
  · have := h.1; rw [lt3] at this; omega
  · subst h; decide
theorem IV.QW {σ : Mem} (h : IV σ) : QW σ := by
  intro e he
  obtain ⟨-, -, wt, h1, h2, h3⟩ := h.2.2.2 e he
  exact ⟨wt, h1, h2, fun k hk hb => (h3 k hk).2 (isB_le hb)⟩
theorem RL.MC {σ τ : Mem} (h : IV σ) (hr : RL σ τ) : MC τ := by
  intro b hb
  obtain ⟨n, h1, h2⟩ := (h.2.2.1 b hb).2
  exact ⟨n, h1, by rw [← (hr.2.2.1 b hb).2.1]; exact h2⟩
theorem RL.MU {σ τ : Mem} (h : IV σ) (hr : RL σ τ) : MU τ := by
  intro c hc
  obtain ⟨n, h1, h2⟩ := (h.2.1 (c + 5) (by omega)).1
  exact ⟨n, h1, by rw [← (hr.2.1.2 c hc).1]; exact h2⟩
theorem RL.TWm {σ τ : Mem} (h : IV σ) (hr : RL σ τ) : Jvm.Pilot.@@N@@.TW τ := by
  obtain ⟨n, h1, h2⟩ := h.1
  exact ⟨n, h1, by rw [← hr.1.1]; exact h2⟩
theorem RL.MQW {σ τ : Mem} (h : IV σ) (hr : RL σ τ) : MQW τ := by
  intro e he
  obtain ⟨-, -, wt, h1, h2, h3⟩ := h.2.2.2 e he
  obtain ⟨g1, g2, g3, g4⟩ := hr.2.2.2.1 e he
  have hw : wtE σ e = wt := by unfold wtE; rw [h2, nI_clamp (by omega)]
  refine ⟨wt, h1, by rw [← g3]; exact h2, fun k hk => ?_⟩
  obtain ⟨a1, a2⟩ := g4 k (by rw [hw]; exact hk)
  rw [← a1, ← a2]
  refine ⟨fun h6 => (h3 k hk).2 (by rw [h6]; decide), (h3 k hk).2⟩
theorem RL.J {σ τ : Mem} (h : IV σ) (hr : RL σ τ) : J τ := ⟨hr.MQW h, 0, by rw [hr.2.2.2.2]; decide, by have := opn_le (τ := τ) 12; omega, fun i hi => absurd hi (Nat.not_lt_zero i)⟩
theorem bad_in {x b hi : Int32} (hb : b - 1 = hi := by decide) : bad x b ↔ ¬ inR x 0 hi := by
  subst hb
  unfold bad
  constructor
  · rintro (h | h) ⟨h1, h2⟩
    · exact h1 h
    · exact h2 (Int32.not_le.mp h)
  · intro h
    by_cases h1 : x < 0
    · exact Or.inl h1
    · exact Or.inr (Int32.not_le.mpr (Classical.not_not.mp fun z => h ⟨h1, z⟩))
theorem bad_no {x b hi : Int32} (h : inR x 0 hi) (hb : b - 1 = hi := by decide) : ¬ bad x b := fun z => (bad_in hb).mp z h
theorem bad_yes {x b hi : Int32} (h : ¬ inR x 0 hi) (hb : b - 1 = hi := by decide) : bad x b := (bad_in hb).mpr h
/-- what only the model keeps doesn't matter -/
theorem RL.thr {σ τ : Mem} {v : Int32} {j : Nat} (hj : j = 1 ∨ j = 7 ∨ j = 8) (h : RL σ τ) : RL σ (up τ 0 0 j v) := by
  obtain ⟨⟨a1, a2, a3, a4, a5, a6, a7⟩, ⟨b1, b2⟩, c, d, f⟩ := h
  refine ⟨⟨?_, ?_, ?_, ?_, ?_, fun j hj => ?_, fun j hj => ?_⟩, ⟨fun c hc => ?_, fun c hc => ?_⟩, fun b hb => ?_, fun e he => ?_, ?_⟩
  · rw [upK (by omega)]; exact a1
  · rw [upK (by omega)]; exact a2
  · rw [upK (by omega)]; exact a3
  · rw [upK (by omega)]; exact a4
  · rw [upK (by omega)]; exact a5
  · rw [upK (by omega)]; exact a6 j hj
  · rw [upK (by omega)]; exact a7 j hj
  · rw [upK (by omega)]; refine ⟨(b1 c hc).1, fun i hi => ?_⟩; unfold rEq; rw [upK (by omega), upK (by omega), upK (by omega), upK (by omega)]; exact (b1 c hc).2 i hi
  · rw [upK (by omega)]; refine ⟨(b2 c hc).1, fun i hi => ?_⟩; unfold rEq; rw [upK (by omega), upK (by omega), upK (by omega), upK (by omega)]; exact (b2 c hc).2 i hi
  · rw [upK (by omega), upK (by omega)]; refine ⟨(c b hb).1, (c b hb).2.1, fun i hi => ?_⟩; rw [upK (by omega)]; exact (c b hb).2.2 i hi
  · rw [upK (by omega), upK (by omega), upK (by omega)]; refine ⟨(d e he).1, (d e he).2.1, (d e he).2.2.1, fun k hk => ?_⟩; rw [upK (by omega), upK (by omega)]; exact (d e he).2.2.2 k hk
  · rw [upK (by omega)]; exact f
/-- a call of both: the same code, the same answer, and the same said afterwards -/
def Sim (w : Nat → Int32) (s : R3) (m : Int32 × Mem) : Prop := w s.1 = m.2 0 0 1 ∧ (s.1 = 0 → ∀ y, s.2.1 = some y → y = m.1) ∧ IV s.2.2 ∧ RL s.2.2 m.2
theorem Sim.fail {w : Nat → Int32} {σ τ : Mem} {k : Nat} {c x : Int32} (hi : IV σ) (hr : RL σ τ) (hw : w k = c) (hk : k ≠ 0) : Sim w (k, none, σ) (x, up τ 0 0 1 c) := ⟨by show w k = up τ 0 0 1 c 0 0 1; rw [up_self]; exact hw, fun z => absurd z hk, hi, hr.thr (Or.inl rfl)⟩
theorem Sim.same {w : Nat → Int32} {σ τ : Mem} {y : Int32} (hi : IV σ) (hr : RL σ τ) (hw : w 0 = 0) {x : Int32} (hx : y = x) : Sim w (0, some y, σ) (x, up τ 0 0 1 0) := ⟨by show w 0 = up τ 0 0 1 0 0 0 1; rw [up_self]; exact hw, fun _ z hz => by cases hz; exact hx, hi, hr.thr (Or.inl rfl)⟩
theorem sim_ofBlock {σ τ : Mem} {b x : Int32} (hi : IV σ) (hr : RL σ τ) : Sim w_ofBlock (sOfBlock σ b x) (mOfB τ b x) := by
  unfold sOfBlock mOfB
  by_cases h1 : inR b 0 11
  · rw [if_neg (bad_no h1), if_pos h1]
    by_cases h2 : inR x 0 1
    · rw [if_neg (bad_no h2), if_pos h2]
      have hb := vin_lt (vin_R (n := 12) h1)
      by_cases h3 : x = 0
      · rw [if_pos h3, if_pos h3]; exact Sim.same hi hr rfl (hr.2.2.1 _ hb).1
      · rw [if_neg h3, if_neg h3]; exact Sim.same hi hr rfl (hr.2.2.1 _ hb).2.1
    · rw [if_pos (bad_yes h2), if_neg h2]; exact Sim.fail hi hr rfl (by decide)
  · rw [if_pos (bad_yes h1), if_neg h1]; exact Sim.fail hi hr rfl (by decide)
theorem sim_ofEnd {σ τ : Mem} {b x : Int32} (hi : IV σ) (hr : RL σ τ) : Sim w_ofEnd (sOfEnd σ b x) (mOfE τ b x) := by
  unfold sOfEnd mOfE
  by_cases h1 : inR b 0 11
  · rw [if_neg (bad_no h1), if_pos h1]
    by_cases h2 : inR x 0 2
    · rw [if_neg (bad_no h2), if_pos h2]
      have hb := vin_lt (vin_R (n := 12) h1)
      by_cases h3 : x = 0
      · rw [if_pos h3, if_pos h3]; exact Sim.same hi hr rfl (hr.2.2.2.1 _ hb).1
      · rw [if_neg h3, if_neg h3]
        by_cases h4 : x = 1
        · rw [if_pos h4, if_pos h4]; exact Sim.same hi hr rfl (hr.2.2.2.1 _ hb).2.1
        · rw [if_neg h4, if_neg h4]; exact Sim.same hi hr rfl (hr.2.2.2.1 _ hb).2.2.1
    · rw [if_pos (bad_yes h2), if_neg h2]; exact Sim.fail hi hr rfl (by decide)
  · rw [if_pos (bad_yes h1), if_neg h1]; exact Sim.fail hi hr rfl (by decide)
