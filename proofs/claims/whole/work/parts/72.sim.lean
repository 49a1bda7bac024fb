/-! Class and model side by side: write, start, choose, count, block: laid by gen/m72.py. -/
theorem sim_write {σ τ : Mem} {q b i v : Int32} (hi : IV σ) (hr : RL σ τ) : Sim w_write (sWrite σ q b i v) (0, mWrite τ q b i v) := by
  unfold sWrite mWrite
  rcases NY_sim (q := q) (b := b) hr with ⟨h1, h2, h3, h4, h5⟩ | ⟨h1, h2⟩ | ⟨h1, h2⟩
  · rw [if_pos h1, if_pos h2]
    have hb := vin_R (n := 12) h5
    have hbc := hr.2.2.1 _ (vin_lt hb)
    by_cases g1 : i < 0
    · have hk : kCell σ b.toNatClampNeg i = 3 := by unfold kCell; rw [if_pos g1]
      rw [hk, if_neg (by decide), if_pos g1, up_up]; exact Sim.fail hi hr rfl (by decide)
    · by_cases g2 : i < σ 9 b.toNatClampNeg 0
      · have hk : kCell σ b.toNatClampNeg i = 0 := by unfold kCell; rw [if_neg g1, if_neg (fun z => z g2)]
        rw [hk, if_pos rfl, if_neg g1, if_pos (by rw [← hbc.2.1]; exact g2)]
        have hi8 : vp_in i 8 := by
          obtain ⟨n, n1, n2⟩ := (hi.2.2.1 _ (vin_lt hb)).2
          rw [n2, Int32.lt_iff_toInt_lt, nI_toInt (by omega)] at g2
          exact vin_rg g1 (by omega)
        rw [ix8 hb hi8]
        have hb9 := vin_lt hb
        have hi9 := vin_lt hi8
        have g : ∀ K x y, K ≠ 10 → up σ 10 b.toNatClampNeg i.toNatClampNeg v K x y = σ K x y := fun K x y a => upK2 a
        have f : ∀ K j, K ≠ 9 → ¬ (K = 0 ∧ j = 1) → up (up τ 0 0 1 0) 9 0 (8 * b.toNatClampNeg + i.toNatClampNeg) v K 0 j = τ K 0 j := fun K j a1 a2 => by rw [upK2 a1, upK (by omega)]
        refine Sim.mk ?_ (fun _ y hy => by cases hy) (IV.mk (hi.1.of (g 0 0 0 (by decide))) (hi.2.1.of (fun K x y hK => g K x y (by omega))) (hi.2.2.1.of (fun K x y hK => g K x y (by omega))) (hi.2.2.2.of (fun K x y hK => g K x y (by omega))))
          (RL.mk (hr.1.of (fun K x y hK => g K x y (by omega)) (fun K j hK => f K j (by omega) (by omega))) (hr.2.1.of (fun K x y hK => g K x y (by omega)) (fun K j hK => f K j (by omega) (by omega))) ?_ (hr.2.2.2.1.of (fun K x y hK => g K x y (by omega)) (fun K j hK => f K j (by omega) (by omega))) ((f 0 6 (by decide) (by decide)).trans hr.2.2.2.2))
        · rw [upK2 (by decide), up_self]; rfl
        · intro c hc
          obtain ⟨a1, a2, a3⟩ := hr.2.2.1 c hc
          rw [g 8 _ _ (by decide), g 9 _ _ (by decide), f 7 _ (by decide) (by omega), f 8 _ (by decide) (by omega)]
          refine ⟨a1, a2, fun k hk => ?_⟩
          by_cases hc1 : c = b.toNatClampNeg ∧ k = i.toNatClampNeg
          · obtain ⟨rfl, rfl⟩ := hc1; rw [up_self, up_self]
          · rw [upK (fun z => hc1 ⟨z.2.1, z.2.2⟩), upK (fun z => hc1 (by omega)), upK2 (by decide)]; exact a3 k hk
      · have hk : kCell σ b.toNatClampNeg i = 3 := by unfold kCell; rw [if_neg g1, if_pos g2]
        rw [hk, if_neg (by decide), if_neg g1, if_neg (by rw [← hbc.2.1]; exact g2), up_up]; exact Sim.fail hi hr rfl (by decide)
  · rw [if_neg (by rw [h1]; decide), if_neg (by rw [h2]; exact (show ¬ (1 : Int32) = 0 by decide)), h1, h2]; exact Sim.fail hi hr rfl (by decide)
  · rw [if_neg (by rw [h1]; decide), if_neg (by rw [h2]; exact (show ¬ (1 : Int32) = 0 by decide)), h1, h2]; exact Sim.fail hi hr rfl (by decide)
/-- a process's life, written by both -/
theorem RS.alive {σ τ : Mem} {k : Nat} {v : Int32} (h : RS σ τ) : RS (up σ 2 0 k v) (up τ 6 0 k v) := by
  obtain ⟨a1, a2, a3, a4, a5, a6, a7⟩ := h
  refine ⟨?_, ?_, ?_, ?_, ?_, fun j hj => ?_, fun j hj => ?_⟩
  · rw [upK2 (by decide), upK2 (by decide)]; exact a1
  · rw [upK2 (by decide), upK2 (by decide)]; exact a2
  · rw [upK2 (by decide), upK2 (by decide)]; exact a3
  · rw [upK2 (by decide), upK2 (by decide)]; exact a4
  · rw [upK2 (by decide), upK2 (by decide)]; exact a5
  · rw [upK2 (by decide), upK2 (by decide)]; exact a6 j hj
  · by_cases h1 : j = k
    · subst h1; rw [up_self, up_self]
    · rw [upK (by omega), upK (by omega)]; exact a7 j hj
theorem alive_all {σ τ : Mem} {k : Nat} {v : Int32} (hi : IV σ) (hr : RL σ τ) : IV (up σ 2 0 k v) ∧ RL (up σ 2 0 k v) (up τ 6 0 k v) :=
  ⟨IV.mk (hi.1.of (upK2 (by decide))) (hi.2.1.of (fun K x y hK => upK2 (by omega))) (hi.2.2.1.of (fun K x y hK => upK2 (by omega))) (hi.2.2.2.of (fun K x y hK => upK2 (by omega))),
   RL.mk hr.1.alive (hr.2.1.of (fun K x y hK => upK2 (by omega)) (fun K j hK => upK2 (by omega))) (hr.2.2.1.of (fun K x y hK => upK2 (by omega)) (fun K j hK => upK2 (by omega))) (hr.2.2.2.1.of (fun K x y hK => upK2 (by omega)) (fun K j hK => upK2 (by omega))) ((upK2 (by decide)).trans hr.2.2.2.2)⟩
theorem sim_stL {σ τ : Mem} (hi : IV σ) (hr : RL σ τ) (h0 : τ 0 0 1 = 0) : ∀ n k, k + n = 4 → Sim w_start (stL σ n k) (mStL τ n k) := by
  intro n
  induction n with
  | zero => intro k hk; exact Sim.fail hi hr rfl (by decide)
  | succ n ih =>
    intro k hk
    unfold stL mStL
    rw [hr.1.2.2.2.2.2.2 k (by omega)]
    by_cases h1 : τ 6 0 k = 0
    · rw [if_pos h1, if_pos h1]
      refine Sim.mk ?_ (fun _ y hy => by cases hy; rfl) (alive_all hi hr).1 (alive_all hi hr).2
      rw [upK2 (by decide), h0]; rfl
    · rw [if_neg h1, if_neg h1]; exact ih (k + 1) (by omega)
theorem sim_start {σ τ : Mem} (hi : IV σ) (hr : RL σ τ) : Sim w_start (sStart σ) (mStart τ) := sim_stL hi (hr.thr (v := 0) (j := 1) (Or.inl rfl)) up_self 4 0 rfl
theorem bit_10 {x : Int32} {k : Nat} : (x >>> (nI k &&& 31)) &&& 1 = 1 ↔ ¬ (x >>> (nI k &&& 31)) &&& 1 = 0 := by
  generalize x >>> (nI k &&& 31) = y
  constructor
  · intro h z; rw [h] at z; exact absurd z (by decide)
  · intro h
    have h2 : y &&& 1 = 0 ∨ y &&& 1 = 1 := by
      have e1 : (y &&& 1).toBitVec = y.toBitVec &&& 1#32 := rfl
      have : ∀ b : BitVec 32, b &&& 1#32 = 0#32 ∨ b &&& 1#32 = 1#32 := by
        intro b
        have hb := BitVec.and_one_eq_setWidth_ofBool_getLsbD (x := b)
        rw [hb]
        cases b.getLsbD 0 <;> decide
      rcases this y.toBitVec with h3 | h3
      · left; exact Int32.toBitVec_inj.mp (e1.trans h3)
      · right; exact Int32.toBitVec_inj.mp (e1.trans h3)
    exact h2.resolve_left h
theorem sim_chL {σ τ : Mem} {q mask : Int32} (hi : IV σ) (hr : RL σ τ) : ∀ n k, k + n = 12 → Sim w_choose (chL σ q mask n k) (mChL (up τ 0 0 1 0) q mask n k) := by
  intro n
  induction n with
  | zero => intro k hk; show Sim w_choose (3, none, σ) (mFail _ 3); unfold mFail; rw [up_up]; exact Sim.fail hi hr rfl (by decide)
  | succ n ih =>
    intro k hk
    unfold chL mChL
    obtain ⟨e1, -, e3, -⟩ := hr.2.2.2.1 k (by omega)
    have h9 : chP σ q mask k ↔ mChP (up τ 0 0 1 0) q mask k := by
      unfold chP mChP
      rw [bit_10, e1, e3, upK2 (by decide), upK2 (by decide)]
    by_cases h1 : mChP (up τ 0 0 1 0) q mask k
    · rw [if_pos (h9.mpr h1), if_pos h1]; exact Sim.same hi hr rfl rfl
    · rw [if_neg (fun z => h1 (h9.mp z)), if_neg h1]; exact ih (k + 1) (by omega)
theorem sim_choose {σ τ : Mem} {q mask : Int32} (hi : IV σ) (hr : RL σ τ) : Sim w_choose (sChoose σ q mask) (mChoose τ q mask) := by
  unfold sChoose mChoose
  by_cases h1 : inR q 0 3
  · rw [if_neg (bad_no h1), if_pos h1]
    by_cases h2 : inR mask 0 4095
    · rw [if_neg (bad_no h2), if_pos h2, hr.1.2.2.2.2.2.2 _ (vin_lt (vin_R (n := 4) h1))]
      by_cases h3 : τ 6 0 q.toNatClampNeg = 0
      · rw [if_pos h3, if_pos h3]; unfold mFail; rw [up_up]; exact Sim.fail hi hr rfl (by decide)
      · rw [if_neg h3, if_neg h3]; exact sim_chL hi hr 12 0 rfl
    · rw [if_pos (bad_yes h2), if_neg h2]; exact Sim.fail hi hr rfl (by decide)
  · rw [if_pos (bad_yes h1), if_neg h1]; exact Sim.fail hi hr rfl (by decide)
theorem bx_congr {f g : Nat → Int32} : ∀ n, (∀ j, j < n → f j = g j) → bx_sum f n = bx_sum g n := by
  intro n
  induction n with
  | zero => intro _; rfl
  | succ n ih =>
    intro h
    show bx_sum f n + f n = bx_sum g n + g n
    rw [ih (fun j hj => h j (by omega)), h n (by omega)]
theorem bx_tail {f : Nat → Int32} {m : Nat} : ∀ n, (∀ j, m ≤ j → j < m + n → f j = 0) → bx_sum f (m + n) = bx_sum f m := by
  intro n
  induction n with
  | zero => intro _; rfl
  | succ n ih =>
    intro h
    show bx_sum f (m + n) + f (m + n) = _
    rw [ih (fun j h1 h2 => h j h1 (by omega)), h (m + n) (by omega) (by omega), Int32.add_zero]
theorem le4 {j : Nat} (h : j < 12) : (4 ≤ nI j ↔ 4 ≤ j) := (by decide +kernel : ∀ j, j < 12 → (4 ≤ nI j ↔ 4 ≤ j)) j h
theorem sim_count {σ τ : Mem} {x : Int32} (hi : IV σ) (hr : RL σ τ) : cntF σ x = (mCount τ x).1 ∧ RL σ (mCount τ x).2 ∧ (mCount τ x).2 0 0 1 = 0 := by
  refine ⟨?_, hr.thr (Or.inl rfl), by show up τ 0 0 1 0 0 0 1 = 0; rw [up_self]⟩
  show cntF σ x = mCntF (up τ 0 0 1 0) x
  unfold cntF mCntF
  have e0 : sAlive σ 4 = bx_sum (mf0 (up τ 0 0 1 0)) 12 := by
    rw [show (12 : Nat) = 4 + 8 from rfl, bx_tail 8 (fun j h1 h2 => by unfold mf0; rw [if_pos ((le4 (by omega)).mpr h1)])]
    refine bx_congr 4 (fun j hj => ?_)
    unfold mf0
    rw [if_neg (fun z => by have := (le4 (by omega)).mp z; omega), upK2 (by decide), hr.1.2.2.2.2.2.2 j hj]
    by_cases h : τ 6 0 j = 0
    · rw [if_pos h, b2i_f (fun z => z h)]
    · rw [if_neg h, b2i_t h]
  have e1 : sBlocks σ 12 = bx_sum (mf1 (up τ 0 0 1 0)) 12 := by
    refine bx_congr 12 (fun j hj => ?_)
    unfold mf1
    rw [upK2 (by decide), ← (hr.2.2.1 j hj).1]
    rcases (hi.2.2.1 j hj).1 with h | h
    · rw [if_pos (by rw [h]; decide), b2i_f (fun z => z h)]
    · rw [if_neg h]; exact b2i_t (fun z => h (by rw [z]; decide))
  have e2 : sCells σ 12 = mCells (up τ 0 0 1 0) 12 := bx_congr 12 (fun j hj => by rw [upK2 (by decide), ← (hr.2.2.1 j hj).2.1])
  have e3 : sOpen σ 12 = bx_sum (mf3 (up τ 0 0 1 0)) 12 := by
    refine bx_congr 12 (fun j hj => ?_)
    unfold mf3
    rw [upK2 (by decide), ← (hr.2.2.2.1 j hj).1]
    rcases (hi.2.2.2 j hj).1 with h | h
    · rw [if_pos (by rw [h]; decide), b2i_f (fun z => z h)]
    · rw [if_neg h]; exact b2i_t (fun z => h (by rw [z]; decide))
  have e4 : sWait σ 12 = bx_sum (mf4 (up τ 0 0 1 0)) 12 := bx_congr 12 (fun j hj => by unfold mf4; rw [upK2 (by decide), ← (hr.2.2.2.1 j hj).2.2.1])
  have e9 : sMade σ 4 = bx_sum (mf9 (up τ 0 0 1 0)) 12 := by
    rw [show (12 : Nat) = 4 + 8 from rfl, bx_tail 8 (fun j h1 h2 => by unfold mf9; rw [if_pos ((le4 (by omega)).mpr h1)])]
    refine bx_congr 4 (fun j hj => ?_)
    unfold mf9
    obtain ⟨n, n1, n2⟩ := (hi.2.1 (j + 1) (by omega)).1
    rw [if_neg (fun z => by have := (le4 (by omega)).mp z; omega), upK2 (by decide), ← (hr.2.1.1 j hj).1, n2]
    have hn : (nI n ≤ 0 ↔ n = 0) ∧ (nI n = 0 ↔ n = 0) := (by decide +kernel : ∀ n, n < 10 → ((nI n ≤ 0 ↔ n = 0) ∧ (nI n = 0 ↔ n = 0))) n (by omega)
    by_cases h : n = 0
    · rw [if_pos (hn.1.mpr h), b2i_f (fun z => z (hn.2.mpr h))]
    · rw [if_neg (fun z => h (hn.1.mp z))]; exact b2i_t (fun z => h (hn.2.mp z))
  rw [e0, e1, e2, e3, e4, e9, hr.1.2.1, hr.1.2.2.1, hr.1.2.2.2.1, hr.1.2.2.2.2.1, upK (by omega), upK (by omega), upK (by omega), upK (by omega)]
