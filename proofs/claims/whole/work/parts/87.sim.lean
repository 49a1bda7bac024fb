/-! Class and model side by side: contract. -/
/-- rule k of a text is in order, and no earlier one has its state and letter -/
def PK (t : Nat → Int32) (k : Nat) : Prop := inR (t (5 * k)) 49 54 ∧ ¬ mLet (t (5 * k + 1)) < 0 ∧ (t (5 * k + 2) = 33 ∨ t (5 * k + 2) = 63) ∧ inR (t (5 * k + 3)) 48 54 ∧ ∀ j, j < k → ¬ (t (5 * j) = t (5 * k) ∧ t (5 * j + 1) = t (5 * k + 1))
def PC (t : Nat → Int32) (k : Nat) : Prop := k = 0 ∨ t (5 * k - 1) = 44
/-- the draft holds the text's first k rules -/
def GD (σ0 σ : Mem) (k : Nat) : Prop := (∀ K i j, ¬ (i = 0 ∧ 3 ≤ K ∧ K ≤ 7) → σ K i j = σ0 K i j) ∧ σ 3 0 0 = nI k ∧ k ≤ 9 ∧ ∀ i, i < k → PK (σ0 1 0) i ∧ σ 4 0 i = σ0 1 0 (5 * i) - 48 ∧ σ 5 0 i = mLet (σ0 1 0 (5 * i + 1)) ∧ σ 6 0 i = (if σ0 1 0 (5 * i + 2) = 33 then 0 else 1) ∧ σ 7 0 i = σ0 1 0 (5 * i + 3) - 48
theorem sub48 (x : Int32) : (¬ x - 48 < 1 ∧ x - 48 ≤ 6 ↔ inR x 49 54) ∧ (¬ x - 48 < 0 ∧ x - 48 ≤ 6 ↔ inR x 48 54) := by
  have h1 := Int32.toInt_sub x 48
  have h2 := Int32.le_toInt x
  have h3 := Int32.toInt_lt x
  have e0 : (0 : Int32).toInt = 0 := by decide
  have e1 : (1 : Int32).toInt = 1 := by decide
  have e6 : (6 : Int32).toInt = 6 := by decide
  have e48 : (48 : Int32).toInt = 48 := by decide
  have e49 : (49 : Int32).toInt = 49 := by decide
  have e54 : (54 : Int32).toInt = 54 := by decide
  unfold inR
  rw [Int32.lt_iff_toInt_lt, Int32.le_iff_toInt_le, Int32.lt_iff_toInt_lt, Int32.lt_iff_toInt_lt, Int32.lt_iff_toInt_lt, Int32.lt_iff_toInt_lt]
  rw [e48] at h1
  rw [h1, e0, e1, e6, e48, e49, e54]
  dsimp only [Int.bmod]
  constructor
  · split <;> omega
  · split <;> omega
theorem sub_inj {x y : Int32} (h : x - 48 = y - 48) : x = y := by
  have h1 : x - 48 + 48 = y - 48 + 48 := by rw [h]
  rwa [Int32.sub_add_cancel, Int32.sub_add_cancel] at h1
theorem rWf_iff {σ : Mem} {a : Nat} : rWf σ a ↔ inR (σ 1 0 a) 49 54 ∧ ¬ mLet (σ 1 0 (a + 1)) < 0 ∧ (σ 1 0 (a + 2) = 33 ∨ σ 1 0 (a + 2) = 63) ∧ inR (σ 1 0 (a + 3)) 48 54 := by
  have h1 := (sub48 (σ 1 0 a)).1
  have h2 := (sub48 (σ 1 0 (a + 3))).2
  have h3 := (idx1 (σ 1 0 (a + 2))).1
  have h4 := idx0 (σ 1 0 (a + 1))
  unfold rWf rSt rLt rSd rNx
  rw [h4, h3, ← h1, ← h2]
  constructor
  · rintro ⟨a1, a2, a3, a4, a5, a6⟩; exact ⟨⟨a1, a2⟩, a3, a4, a5, a6⟩
  · rintro ⟨⟨a1, a2⟩, a3, a4, a5, a6⟩; exact ⟨a1, a2, a3, a4, a5, a6⟩
theorem rul_lt {σ : Mem} {c sz : Nat} {st lt : Int32} : rul σ c st lt sz < sz ↔ ∃ j, j < sz ∧ σ 4 c j = st ∧ σ 5 c j = lt := by
  have h := firstF_spec (P := fun j => σ 4 c j = st ∧ σ 5 c j = lt) sz 0
  have h0 : rul σ c st lt sz = firstF (fun j => σ 4 c j = st ∧ σ 5 c j = lt) sz 0 := rfl
  constructor
  · intro h1
    exact ⟨_, h1, h.2.1 (by omega)⟩
  · rintro ⟨j, h1, h2⟩
    rcases Nat.lt_or_ge (rul σ c st lt sz) sz with y | y
    · exact y
    · exact absurd h2 (h.1 j (Nat.zero_le _) (by omega))
theorem GD.sz {σ0 σ : Mem} {k : Nat} (h : GD σ0 σ k) : szC σ 0 = k := by
  unfold szC
  rw [h.2.1, nI_clamp (by have := h.2.2.1; omega)]
theorem GD.tx {σ0 σ : Mem} {k j : Nat} (h : GD σ0 σ k) : σ 1 0 j = σ0 1 0 j := h.1 1 0 j (by omega)
theorem GD.wf {σ0 σ : Mem} {k : Nat} (h : GD σ0 σ k) (a : Nat) : rWf σ a ↔ rWf σ0 a := by
  rw [rWf_iff, rWf_iff, h.tx, h.tx, h.tx, h.tx]
theorem GD.old {σ0 σ : Mem} {k : Nat} (h : GD σ0 σ k) (hw : rWf σ0 (5 * k)) : rul σ 0 (rSt σ (5 * k)) (rLt σ (5 * k)) k < k ↔ ∃ j, j < k ∧ σ0 1 0 (5 * j) = σ0 1 0 (5 * k) ∧ σ0 1 0 (5 * j + 1) = σ0 1 0 (5 * k + 1) := by
  have hl := (rWf_iff.mp hw).2.1
  rw [rul_lt]
  unfold rSt rLt
  rw [h.tx, h.tx, idx0]
  constructor
  · rintro ⟨j, h1, h2, h3⟩
    obtain ⟨-, a1, a2, -⟩ := h.2.2.2 j h1
    rw [a1] at h2
    rw [a2] at h3
    exact ⟨j, h1, sub_inj h2, (mLet_inj hl h3.symm).symm⟩
  · rintro ⟨j, h1, h2, h3⟩
    obtain ⟨-, a1, a2, -⟩ := h.2.2.2 j h1
    exact ⟨j, h1, by rw [a1, h2], by rw [a2, h3]⟩
theorem GD.no {σ0 σ : Mem} {k : Nat} (h : GD σ0 σ k) (hk : ¬ PK (σ0 1 0) k) : drR σ (5 * k) = (0, σ) := by
  unfold drR
  by_cases hw : rWf σ (5 * k)
  · rw [if_pos hw, h.sz]
    have hw0 := (h.wf _).mp hw
    unfold addF
    rw [if_pos]
    refine Or.inr ((h.old hw0).mpr ?_)
    refine Classical.byContradiction fun z => hk ?_
    obtain ⟨a1, a2, a3, a4⟩ := rWf_iff.mp hw0
    exact ⟨a1, a2, a3, a4, fun j hj y => z ⟨j, hj, y⟩⟩
  · rw [if_neg hw]
theorem GD.yes {σ0 σ : Mem} {k : Nat} (h : GD σ0 σ k) (h9 : k < 9) (hk : PK (σ0 1 0) k) : ∃ σ', drR σ (5 * k) = (1, σ') ∧ GD σ0 σ' (k + 1) := by
  have hw0 : rWf σ0 (5 * k) := rWf_iff.mpr ⟨hk.1, hk.2.1, hk.2.2.1, hk.2.2.2.1⟩
  have hw := (h.wf _).mpr hw0
  unfold drR
  rw [if_pos hw, h.sz]
  unfold addF
  rw [if_neg]
  · refine ⟨_, rfl, ?_⟩
    have hs := (idx1 (σ0 1 0 (5 * k + 2))).2 (((idx1 (σ0 1 0 (5 * k + 2))).1).mpr hk.2.2.1)
    unfold addR rSt rLt rSd rNx
    rw [h.tx, h.tx, h.tx, h.tx, idx0, hs]
    refine ⟨fun K i j hK => ?_, up_self, by omega, fun i hi => ?_⟩
    · rw [upK (by omega), upK (by omega), upK (by omega), upK (by omega), upK (by omega)]; exact h.1 K i j hK
    · by_cases z : i = k
      · subst z
        refine ⟨hk, ?_, ?_, ?_, ?_⟩
        · rw [upK2 (by decide), upK2 (by decide), upK2 (by decide), upK2 (by decide), up_self]
        · rw [upK2 (by decide), upK2 (by decide), upK2 (by decide), up_self]
        · rw [upK2 (by decide), upK2 (by decide), up_self]
        · rw [upK2 (by decide), up_self]
      · obtain ⟨a0, a1, a2, a3, a4⟩ := h.2.2.2 i (by omega)
        refine ⟨a0, ?_, ?_, ?_, ?_⟩
        · rw [upK2 (by decide), upK2 (by decide), upK2 (by decide), upK2 (by decide), upK (by omega)]; exact a1
        · rw [upK2 (by decide), upK2 (by decide), upK2 (by decide), upK (by omega), upK2 (by decide)]; exact a2
        · rw [upK2 (by decide), upK2 (by decide), upK (by omega), upK2 (by decide), upK2 (by decide)]; exact a3
        · rw [upK2 (by decide), upK (by omega), upK2 (by decide), upK2 (by decide), upK2 (by decide)]; exact a4
  · rintro (z | z)
    · omega
    · obtain ⟨j, h1, h2⟩ := (h.old hw0).mp z
      exact hk.2.2.2.2 j h1 h2
theorem dtL_sp {σ0 : Mem} {n N : Nat} (hN : 5 * N = n + 1) (hn : n ≤ 36) : ∀ f k σ, k + f = 8 → k ≤ N → GD σ0 σ k → (∀ i, i < k → PC (σ0 1 0) i) →
    (∃ σ', dtL n f k σ = (1, σ') ∧ GD σ0 σ' N ∧ ∀ i, i < N → PK (σ0 1 0) i ∧ PC (σ0 1 0) i) ∨ ∃ σ' j, dtL n f k σ = (0, σ') ∧ GD σ0 σ' j ∧ ¬ ∀ i, i < N → PK (σ0 1 0) i ∧ PC (σ0 1 0) i := by
  intro f
  induction f with
  | zero => intro k σ h1 h2; omega
  | succ f ih =>
    intro k σ h1 h2 hg hc
    unfold dtL
    by_cases hk : k = N
    · subst hk
      rw [if_pos ((nI_ltI (by omega) (by omega)).mpr (by omega))]
      exact Or.inl ⟨_, rfl, hg, fun i hi => ⟨(hg.2.2.2 i hi).1, hc i hi⟩⟩
    · rw [if_neg (fun z => by have := (nI_ltI (by omega) (by omega)).mp z; omega)]
      by_cases hp : PC (σ0 1 0) k
      · rw [if_pos (by rw [hg.tx]; exact hp)]
        by_cases hq : PK (σ0 1 0) k
        · obtain ⟨σ', e1, e2⟩ := hg.yes (by omega) hq
          rw [e1, if_neg (by decide : ¬ (1 : Int32) = 0)]
          refine ih (k + 1) σ' (by omega) (by omega) e2 (fun i hi => ?_)
          by_cases z : i = k
          · rw [z]; exact hp
          · exact hc i (by omega)
        · rw [hg.no hq, if_pos rfl]
          exact Or.inr ⟨_, k, rfl, hg, fun z => hq (z k (by omega)).1⟩
      · rw [if_neg (by rw [hg.tx]; exact hp)]
        exact Or.inr ⟨_, k, rfl, hg, fun z => hp (z k (by omega)).2⟩
theorem GD.init {σ : Mem} : GD σ (up σ 3 0 0 0) 0 := ⟨fun K i j h => upK (by omega), by rw [up_self]; rfl, by omega, fun i hi => absurd hi (Nat.not_lt_zero i)⟩
/-- the draft's row is in order -/
theorem GD.IC {σ0 σ : Mem} {k : Nat} (h : GD σ0 σ k) (hi : Jvm.Pilot.@@N@@.IC σ0) : Jvm.Pilot.@@N@@.IC σ := by
  intro c hc
  by_cases z : c = 0
  · subst z
    rw [h.sz]
    refine ⟨⟨k, h.2.2.1, h.2.1⟩, fun i hi' => ?_, fun i j hi' hj' => ?_⟩
    · obtain ⟨a0, -, -, a3, a4⟩ := h.2.2.2 i hi'
      rw [a3, a4]
      refine ⟨(((sub48 _).2).mpr a0.2.2.2.1).1, ?_⟩
      split
      · exact Or.inl rfl
      · exact Or.inr rfl
    · obtain ⟨a0, a1, a2, -⟩ := h.2.2.2 i hi'
      obtain ⟨b0, b1, b2, -⟩ := h.2.2.2 j hj'
      rw [a1, a2, b1, b2]
      intro e1 e2
      have f1 := sub_inj e1
      have f2 := mLet_inj a0.2.1 e2
      rcases Nat.lt_trichotomy i j with y | y | y
      · exact absurd ⟨f1, f2⟩ (b0.2.2.2.2 i y)
      · exact y
      · exact absurd ⟨f1.symm, f2.symm⟩ (a0.2.2.2.2 j y)
  · have e : ∀ K j, σ K c j = σ0 K c j := fun K j => h.1 K c j (by omega)
    unfold szC
    rw [e]
    refine ⟨(hi c hc).1, fun i hi' => ?_, fun i j hi' hj' => ?_⟩
    · rw [e, e]; exact (hi c hc).2.1 i hi'
    · rw [e, e, e, e]; exact (hi c hc).2.2 i j hi' hj'
theorem RC.row {σ τ σ' τ' : Mem} (h : RC σ τ) (h1 : ∀ K i j, 3 ≤ K ∧ K ≤ 7 → i ≠ 0 → σ' K i j = σ K i j) (h2 : ∀ K j, 2 ≤ K ∧ K ≤ 5 → τ' K 0 j = τ K 0 j) : RC σ' τ' := by
  refine ⟨fun c hc => ?_, fun c hc => ?_⟩
  · unfold szC
    rw [h1 _ _ _ (by omega) (by omega), h2 _ _ (by omega)]
    refine ⟨(h.1 c hc).1, fun i hi => ?_⟩
    unfold rEq
    rw [h1 _ _ _ (by omega) (by omega), h1 _ _ _ (by omega) (by omega), h1 _ _ _ (by omega) (by omega), h1 _ _ _ (by omega) (by omega), h2 _ _ (by omega), h2 _ _ (by omega), h2 _ _ (by omega), h2 _ _ (by omega)]
    exact (h.1 c hc).2 i hi
  · unfold szC
    rw [h1 _ _ _ (by omega) (by omega), h2 _ _ (by omega)]
    refine ⟨(h.2 c hc).1, fun i hi => ?_⟩
    unfold rEq
    rw [h1 _ _ _ (by omega) (by omega), h1 _ _ _ (by omega) (by omega), h1 _ _ _ (by omega) (by omega), h1 _ _ _ (by omega) (by omega), h2 _ _ (by omega), h2 _ _ (by omega), h2 _ _ (by omega), h2 _ _ (by omega)]
    exact (h.2 c hc).2 i hi
/-- the text is used up; the draft is whatever it is -/
theorem con_up {σ τ σ' : Mem} {k : Nat} {v : Int32} (hi : IV σ) (hr : RL σ τ) (hg : GD σ σ' k) : IV (up σ' 0 0 0 0) ∧ RL (up σ' 0 0 0 0) (up (up (up τ 0 0 1 0) 0 0 0 0) 0 0 1 v) := by
  have e : ∀ K i j, ¬ (i = 0 ∧ 3 ≤ K ∧ K ≤ 7) → ¬ (K = 0 ∧ i = 0 ∧ j = 0) → up σ' 0 0 0 0 K i j = σ K i j := fun K i j h1 h2 => by rw [upK (by omega)]; exact hg.1 K i j h1
  have f : ∀ K j, ¬ (K = 0 ∧ j = 0) → ¬ (K = 0 ∧ j = 1) → up (up (up τ 0 0 1 0) 0 0 0 0) 0 0 1 v K 0 j = τ K 0 j := fun K j h1 h2 => by rw [upK (by omega), upK (by omega), upK (by omega)]
  refine ⟨IV.mk ⟨0, by omega, by rw [up_self]; rfl⟩ ((hg.IC hi.2.1).of (fun K i j h => upK (by omega))) (hi.2.2.1.of (fun K i j h => e K i j (by omega) (by omega))) (hi.2.2.2.of (fun K i j h => e K i j (by omega) (by omega))), RL.mk ?_ (hr.2.1.row (fun K i j h h0 => e K i j (by omega) (by omega)) (fun K j h => f K j (by omega) (by omega))) (hr.2.2.1.of (fun K i j h => e K i j (by omega) (by omega)) (fun K j h => f K j (by omega) (by omega))) (hr.2.2.2.1.of (fun K i j h => e K i j (by omega) (by omega)) (fun K j h => f K j (by omega) (by omega))) ((f 0 6 (by omega) (by omega)).trans hr.2.2.2.2)⟩
  obtain ⟨a1, a2, a3, a4, a5, a6, a7⟩ := hr.1
  refine ⟨?_, ?_, ?_, ?_, ?_, fun j hj => ?_, fun j hj => ?_⟩
  · rw [up_self, upK (by omega), up_self]
  · rw [e _ _ _ (by omega) (by omega), f _ _ (by omega) (by omega)]; exact a2
  · rw [e _ _ _ (by omega) (by omega), f _ _ (by omega) (by omega)]; exact a3
  · rw [e _ _ _ (by omega) (by omega), f _ _ (by omega) (by omega)]; exact a4
  · rw [e _ _ _ (by omega) (by omega), f _ _ (by omega) (by omega)]; exact a5
  · rw [e _ _ _ (by omega) (by omega), f _ _ (by omega) (by omega)]; exact a6 j hj
  · rw [e _ _ _ (by omega) (by omega), f _ _ (by omega) (by omega)]; exact a7 j hj
/-- the model's row of rules -/
theorem mCt_o {σ τ : Mem} {c n j : Nat} (h : j < 36 * c ∨ 36 * c + 4 * n ≤ j) : mCt σ τ c n 2 0 j = τ 2 0 j := by
  induction n with
  | zero => rfl
  | succ n ih =>
    unfold mCt
    rw [upK (by omega), upK (by omega), upK (by omega), upK (by omega)]
    exact ih (by omega)
theorem mCt_i {σ τ : Mem} {c i : Nat} : ∀ n, i < n → mCt σ τ c n 2 0 (36 * c + 4 * i) = σ 1 0 (5 * i) - 48 ∧ mCt σ τ c n 2 0 (36 * c + 4 * i + 1) = mLet (σ 1 0 (5 * i + 1)) ∧ mCt σ τ c n 2 0 (36 * c + 4 * i + 2) = (if σ 1 0 (5 * i + 2) = 33 then 0 else 1) ∧ mCt σ τ c n 2 0 (36 * c + 4 * i + 3) = σ 1 0 (5 * i + 3) - 48 := by
  intro n
  induction n with
  | zero => intro h; omega
  | succ n ih =>
    intro h
    unfold mCt
    by_cases z : i = n
    · subst z
      refine ⟨?_, ?_, ?_, ?_⟩
      · rw [upK (by omega), upK (by omega), upK (by omega), up_self]
      · rw [upK (by omega), upK (by omega), up_self]
      · rw [upK (by omega), up_self]
      · rw [up_self]
    · obtain ⟨a1, a2, a3, a4⟩ := ih (by omega)
      refine ⟨?_, ?_, ?_, ?_⟩
      · rw [upK (by omega), upK (by omega), upK (by omega), upK (by omega)]; exact a1
      · rw [upK (by omega), upK (by omega), upK (by omega), upK (by omega)]; exact a2
      · rw [upK (by omega), upK (by omega), upK (by omega), upK (by omega)]; exact a3
      · rw [upK (by omega), upK (by omega), upK (by omega), upK (by omega)]; exact a4
theorem con_ok {σ τ σ' : Mem} {N c : Nat} (hi : IV σ) (hr : RL σ τ) (hg : GD σ σ' N) (hN : N ≤ 7) (hc : c < 4) :
    Sim w_contract (0, some (bec (up σ' 0 0 0 0) (c + 1) 0 N 3 0 0), bec (up σ' 0 0 0 0) (c + 1) 0 N) (nI N, up (mCt τ (up (up (up τ 0 0 1 0) 0 0 0 0) 0 0 1 0) c N) 3 0 c (nI N)) := by
  obtain ⟨iv, rl⟩ := con_up (v := 0) hi hr hg
  generalize hτ' : up (up (up τ 0 0 1 0) 0 0 0 0) 0 0 1 0 = τ' at rl ⊢
  have ht1 : τ' 0 0 1 = 0 := by rw [← hτ', up_self]
  generalize hs : up σ' 0 0 0 0 = s at iv rl ⊢
  have hsr : ∀ K j, 3 ≤ K ∧ K ≤ 7 → s K 0 j = σ' K 0 j := fun K j h => by rw [← hs, upK (by omega)]
  have hz : szC s 0 = N := by unfold szC; rw [hsr 3 0 (by omega)]; exact hg.sz
  have hz3 : s 3 0 0 = nI N := by rw [hsr 3 0 (by omega)]; exact hg.2.1
  have g : ∀ K i j, K < 3 ∨ 7 < K ∨ i ≠ c + 1 → bec s (c + 1) 0 N K i j = s K i j := fun K i j h => bec_k h
  have f : ∀ K j, K ≠ 2 → K ≠ 3 → up (mCt τ τ' c N) 3 0 c (nI N) K 0 j = τ' K 0 j := fun K j h1 h2 => by rw [upK2 h2, mCt_k h1]
  have e3 : bec s (c + 1) 0 N 3 (c + 1) 0 = nI N := by rw [bec_3]; exact hz3
  have esz : szC (bec s (c + 1) 0 N) (c + 1) = N := by unfold szC; rw [e3, nI_clamp (by omega)]
  have er : ∀ K i, 4 ≤ K ∧ K ≤ 7 → i < N → bec s (c + 1) 0 N K (c + 1) i = s K 0 i := fun K i a b => bec_r a b
  refine Sim.mk ?_ (fun _ y hy => ?_) (IV.mk (iv.1.of (g 0 0 0 (by omega))) ?_ (iv.2.2.1.of (fun K i j h => g K i j (by omega))) (iv.2.2.2.of (fun K i j h => g K i j (by omega)))) (RL.mk (rl.1.of (fun K i j h => g K i j (by omega)) (fun K j h => f K j (by omega) (by omega))) ⟨?_, ?_⟩ (rl.2.2.1.of (fun K i j h => g K i j (by omega)) (fun K j h => f K j (by omega) (by omega))) (rl.2.2.2.1.of (fun K i j h => g K i j (by omega)) (fun K j h => f K j (by omega) (by omega))) ((f 0 6 (by omega) (by omega)).trans rl.2.2.2.2))
  · rw [f 0 1 (by omega) (by omega), ht1]; rfl
  · cases hy
    rw [g 3 0 0 (by omega)]
    exact hz3
  · intro d hd
    by_cases z : d = c + 1
    · subst z
      obtain ⟨a1, a2, a3⟩ := iv.2.1 0 (by omega)
      rw [hz] at a2 a3
      rw [esz, e3]
      refine ⟨⟨N, by omega, rfl⟩, fun i hi' => ?_, fun i j hi' hj' => ?_⟩
      · rw [er 7 i (by omega) hi', er 6 i (by omega) hi']; exact a2 i hi'
      · rw [er 4 i (by omega) hi', er 4 j (by omega) hj', er 5 i (by omega) hi', er 5 j (by omega) hj']; exact a3 i j hi' hj'
    · obtain ⟨a1, a2, a3⟩ := iv.2.1 d hd
      unfold szC
      rw [g 3 d 0 (by omega)]
      refine ⟨a1, fun i hi' => ?_, fun i j hi' hj' => ?_⟩
      · rw [g 7 d i (by omega), g 6 d i (by omega)]; exact a2 i hi'
      · rw [g 4 d i (by omega), g 4 d j (by omega), g 5 d i (by omega), g 5 d j (by omega)]; exact a3 i j hi' hj'
  · intro d hd
    by_cases z : d = c
    · subst z
      rw [esz, e3, up_self]
      refine ⟨rfl, fun i hi' => ?_⟩
      obtain ⟨-, a1, a2, a3, a4⟩ := hg.2.2.2 i hi'
      obtain ⟨b1, b2, b3, b4⟩ := mCt_i (σ := τ) (τ := τ') (c := d) N hi'
      have ht : ∀ j, j < 36 → σ 1 0 j = τ 1 0 j := hr.1.2.2.2.2.2.1
      unfold rEq
      rw [er 4 i (by omega) hi', er 5 i (by omega) hi', er 6 i (by omega) hi', er 7 i (by omega) hi', upK2 (by decide), upK2 (by decide), upK2 (by decide), upK2 (by decide), b1, b2, b3, b4, hsr 4 i (by omega), hsr 5 i (by omega), hsr 6 i (by omega), hsr 7 i (by omega), a1, a2, a3, a4, ht _ (by omega), ht _ (by omega), ht _ (by omega), ht _ (by omega)]
      exact ⟨rfl, rfl, rfl, rfl⟩
    · obtain ⟨a1, a2⟩ := rl.2.1.1 d hd
      have s9 : szC s (d + 1) ≤ 9 := by obtain ⟨n, n1, n2⟩ := (iv.2.1 (d + 1) (by omega)).1; unfold szC; rw [n2, nI_clamp (by omega)]; exact n1
      have e5 : szC (bec s (c + 1) 0 N) (d + 1) = szC s (d + 1) := by unfold szC; rw [g 3 (d + 1) 0 (by omega)]
      rw [e5, g 3 (d + 1) 0 (by omega), upK (by omega), mCt_k (by decide)]
      refine ⟨a1, fun i hi' => ?_⟩
      unfold rEq
      rw [g 4 (d + 1) i (by omega), g 5 (d + 1) i (by omega), g 6 (d + 1) i (by omega), g 7 (d + 1) i (by omega), upK2 (by decide), upK2 (by decide), upK2 (by decide), upK2 (by decide), mCt_o (by omega), mCt_o (by omega), mCt_o (by omega), mCt_o (by omega)]
      exact a2 i hi'
  · intro d hd
    obtain ⟨a1, a2⟩ := rl.2.1.2 d hd
    have e5 : szC (bec s (c + 1) 0 N) (d + 5) = szC s (d + 5) := by unfold szC; rw [g 3 (d + 5) 0 (by omega)]
    rw [e5, g 3 (d + 5) 0 (by omega), f 5 d (by omega) (by omega)]
    refine ⟨a1, fun i hi' => ?_⟩
    unfold rEq
    rw [g 4 (d + 5) i (by omega), g 5 (d + 5) i (by omega), g 6 (d + 5) i (by omega), g 7 (d + 5) i (by omega), f 4 _ (by omega) (by omega), f 4 _ (by omega) (by omega), f 4 _ (by omega) (by omega), f 4 _ (by omega) (by omega)]
    exact a2 i hi'
/-- the model asks the same of a text -/
theorem mRk_all {σ τ : Mem} {n N : Nat} (hN : 5 * N = n + 1) (hn : n ≤ 36) (ht : ∀ j, j < 36 → σ 1 0 j = τ 1 0 j) : (∀ k, k < N → mRk τ N k) ↔ ∀ i, i < N → PK (σ 1 0) i ∧ PC (σ 1 0) i := by
  have hl : ∀ k, k < N → (nI k = nI N - 1 ↔ k + 1 = N) := fun k hk => by
    obtain ⟨m, rfl⟩ : ∃ m, N = m + 1 := ⟨N - 1, by omega⟩
    rw [nI_pred, nI_eq (by omega) (by omega)]
    omega
  have hs : ∀ k, k < N → ((∀ j, j < k → ¬ mSame τ j k) ↔ ∀ j, j < k → ¬ (σ 1 0 (5 * j) = σ 1 0 (5 * k) ∧ σ 1 0 (5 * j + 1) = σ 1 0 (5 * k + 1))) := fun k hk => by
    constructor
    · intro h j hj
      rw [ht _ (by omega), ht _ (by omega), ht _ (by omega), ht _ (by omega)]
      exact h j hj
    · intro h j hj
      have := h j hj
      rw [ht _ (by omega), ht _ (by omega), ht _ (by omega), ht _ (by omega)] at this
      exact this
  constructor
  · intro h i hi
    obtain ⟨⟨a1, a2, a3, a4, -⟩, a6⟩ := h i hi
    refine ⟨⟨?_, ?_, ?_, ?_, (hs i hi).mp a6⟩, ?_⟩
    · rw [ht _ (by omega)]; exact a1
    · rw [ht _ (by omega)]; exact a2
    · rw [ht _ (by omega)]; exact a3
    · rw [ht _ (by omega)]; exact a4
    · rcases Nat.eq_zero_or_pos i with z | z
      · exact Or.inl z
      · obtain ⟨⟨-, -, -, -, b⟩, -⟩ := h (i - 1) (by omega)
        rcases b with b | b
        · have := (hl (i - 1) (by omega)).mp b; omega
        · refine Or.inr ?_
          rw [ht _ (by omega), show 5 * i - 1 = 5 * (i - 1) + 4 from by omega]
          exact b
  · intro h i hi
    obtain ⟨⟨a1, a2, a3, a4, a6⟩, -⟩ := h i hi
    rw [ht _ (by omega)] at a1 a2 a4
    rw [ht _ (by omega)] at a3
    refine ⟨⟨a1, a2, a3, a4, ?_⟩, (hs i hi).mpr a6⟩
    by_cases z : i + 1 = N
    · exact Or.inl ((hl i hi).mpr z)
    · refine Or.inr ?_
      rcases (h (i + 1) (by omega)).2 with y | y
      · omega
      · rw [ht _ (by omega), show 5 * (i + 1) - 1 = 5 * i + 4 from by omega] at y
        exact y
theorem sim_contract {σ τ : Mem} {k : Int32} (hi : IV σ) (hr : RL σ τ) : Sim w_contract (sContract σ k) (mCon τ k) := by
  unfold sContract mCon
  by_cases h1 : inR k 0 3
  · rw [if_neg (bad_no h1), if_neg (show ¬ ¬ inR k 0 3 from fun z => z h1)]
    have hc := vin_lt (vin_R (n := 4) h1)
    have hn := hi.1.at
    have hT : txN (up τ 0 0 1 0) = txN σ := by unfold txN; rw [upK (by omega), hr.1.1]
    have ht : ∀ j, j < 36 → σ 1 0 j = up τ 0 0 1 0 1 0 j := fun j hj => by rw [upK2 (by decide)]; exact hr.1.2.2.2.2.2.1 j hj
    have fail : ∀ σ' j, dtF σ = (0, σ') → GD σ σ' j → mRR (up τ 0 0 1 0) = 0 → Sim w_contract (if (dtF σ).1 = 0 then (1, none, up (dtF σ).2 0 0 0 0) else (0, some (bec (up (dtF σ).2 0 0 0 0) (k.toNatClampNeg + 1) 0 (szC (dtF σ).2 0) 3 0 0), bec (up (dtF σ).2 0 0 0 0) (k.toNatClampNeg + 1) 0 (szC (dtF σ).2 0))) (if mRR (up τ 0 0 1 0) ≤ 0 then (0, up (up (up τ 0 0 1 0) 0 0 0 0) 0 0 1 1) else (mRR (up τ 0 0 1 0), up (mCt τ (up (up (up τ 0 0 1 0) 0 0 0 0) 0 0 1 0) k.toNatClampNeg (mRR (up τ 0 0 1 0)).toNatClampNeg) 3 0 k.toNatClampNeg (mRR (up τ 0 0 1 0)))) := by
      intro σ' j e1 e2 e3
      rw [e1, e3, if_pos rfl, if_pos (by decide)]
      obtain ⟨b1, b2⟩ := con_up (v := 1) hi hr e2
      exact Sim.mk (by rw [up_self]; rfl) (fun z => by cases z) b1 b2
    by_cases h4 : nI (txN σ % 5) = 4
    · have h5 := mod4 hn.2 h4
      have hN : 5 * ((txN σ + 1) / 5) = txN σ + 1 := by omega
      have e0 : dtF σ = dtL (txN σ) 8 0 (up σ 3 0 0 0) := by unfold dtF; rw [if_pos h4]
      have e1 : mRR (up τ 0 0 1 0) = if ∀ k, k < (txN σ + 1) / 5 → mRk (up τ 0 0 1 0) ((txN σ + 1) / 5) k then nI ((txN σ + 1) / 5) else 0 := by
        unfold mRR mRn
        rw [hT, if_neg (fun z => by have := (nI_ltI (b := 4) (by omega) (by omega)).mp z; omega), if_pos h4]
      rcases dtL_sp (σ0 := σ) hN hn.2 8 0 _ (by omega) (by omega) GD.init (fun i hi' => absurd hi' (Nat.not_lt_zero i)) with ⟨σ', d1, d2, d3⟩ | ⟨σ', j, d1, d2, d3⟩
      · rw [if_pos ((mRk_all hN hn.2 ht).mpr d3)] at e1
        rw [e0, d1, e1, if_neg (show ¬ ((1 : Int32), σ').1 = 0 from (by decide : ¬ (1 : Int32) = 0)), if_neg (fun z => by have := (nI_leI (b := 0) (by omega) (by omega)).mp z; omega), nI_clamp (by omega), d2.sz]
        exact con_ok hi hr d2 (by omega) hc
      · rw [if_neg (fun z => d3 ((mRk_all hN hn.2 ht).mp z))] at e1
        exact fail σ' j (e0.trans d1) d2 e1
    · refine fail _ 0 (by unfold dtF; rw [if_neg h4]) GD.init ?_
      unfold mRR
      rw [hT, if_neg h4, ite_self]
  · rw [if_pos (bad_yes h1), if_pos h1]; exact Sim.fail hi hr rfl (by decide)
