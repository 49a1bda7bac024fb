/-! Class and model side by side: open: laid by gen/m78.py. -/
theorem lfc_sim {σ τ : Mem} (hi : IV σ) (hr : RL σ τ) : lfc σ = mlfc τ := firstF_congr 6 0 (fun j _ h2 => by
  rw [own_neg (hi.2.2.2 (2 * j) (by omega)).1, own_neg (hi.2.2.2 (2 * j + 1) (by omega)).1, (hr.2.2.2.1 (2 * j) (by omega)).1, (hr.2.2.2.1 (2 * j + 1) (by omega)).1]
  exact and_congr_left (fun _ => Int32.not_le.symm))
theorem bec_k {σ : Mem} {c d n K i j : Nat} (h : K < 3 ∨ 7 < K ∨ i ≠ c) : bec σ c d n K i j = σ K i j := by
  unfold bec
  rw [if_neg (fun z => by omega), if_neg (fun z => by omega)]
theorem op_k {σ : Mem} {c k K i j : Nat} {p q : Int32} (h : K ≠ 11) (h1 : K ≠ 12) : opM σ c k p q K i j = bec σ (c + 5) (k + 1) (szC σ (k + 1)) K i j := by
  unfold opM
  rw [upK2 h1, upK2 h, upK2 h1, upK2 h]
theorem op_11 {σ : Mem} {c k e : Nat} {p q : Int32} : opM σ c k p q 11 e 0 = if e = 2 * c + 1 then q else if e = 2 * c then p else σ 11 e 0 := by
  unfold opM
  rw [upK2 (by decide)]
  by_cases h : e = 2 * c + 1
  · rw [if_pos h, h, up_self]
  · rw [if_neg h, upK (by omega), upK2 (by decide)]
    by_cases h2 : e = 2 * c
    · rw [if_pos h2, h2, up_self]
    · rw [if_neg h2, upK (by omega), bec_k (by omega)]
theorem op_12 {σ : Mem} {c k e : Nat} {p q : Int32} : opM σ c k p q 12 e 0 = if e = 2 * c + 1 then 1 else if e = 2 * c then 1 else σ 12 e 0 := by
  unfold opM
  by_cases h : e = 2 * c + 1
  · rw [if_pos h, h, up_self]
  · rw [if_neg h, upK (by omega), upK2 (by decide)]
    by_cases h2 : e = 2 * c
    · rw [if_pos h2, h2, up_self]
    · rw [if_neg h2, upK (by omega), upK2 (by decide), bec_k (by omega)]
def mOpF (τ : Mem) (c k : Nat) (p q : Int32) : Mem := mBe (mOp1 τ c k p q) c 2
theorem mop_k {τ : Mem} {c k K j : Nat} {p q : Int32} (h : ¬ (K = 0 ∧ j = 1)) (h4 : K ≠ 4) (h5 : K ≠ 5) (h10 : K ≠ 10) (h11 : K ≠ 11) (h12 : K ≠ 12) : mOpF τ c k p q K 0 j = τ K 0 j := by
  show up (up (up (up (mOp1 τ c k p q) 11 0 (2 * c + 0) 1) 12 0 (2 * c + 0) 0) 11 0 (2 * c + 1) 1) 12 0 (2 * c + 1) 0 K 0 j = _
  rw [upK2 h12, upK2 h11, upK2 h12, upK2 h11]
  unfold mOp1 mCpy
  rw [upK2 h10, upK2 h10, upK2 h5, if_neg (fun z => h4 z.1), upK (by omega)]
theorem mop_4 {τ : Mem} {c k j : Nat} {p q : Int32} : mOpF τ c k p q 4 0 j = if 36 * c ≤ j ∧ j < 36 * c + 36 then τ 2 0 (36 * k + (j - 36 * c)) else τ 4 0 j := by
  show up (up (up (up (mOp1 τ c k p q) 11 0 (2 * c + 0) 1) 12 0 (2 * c + 0) 0) 11 0 (2 * c + 1) 1) 12 0 (2 * c + 1) 0 4 0 j = _
  rw [upK2 (by decide), upK2 (by decide), upK2 (by decide), upK2 (by decide)]
  unfold mOp1 mCpy
  rw [upK2 (by decide), upK2 (by decide), upK2 (by decide)]
  by_cases h : 36 * c ≤ j ∧ j < 36 * c + 36
  · rw [if_pos ⟨rfl, rfl, h.1, h.2⟩, if_pos h, upK2 (by decide)]
  · rw [if_neg (fun z => h ⟨z.2.2.1, z.2.2.2⟩), if_neg h, upK2 (by decide)]
theorem mop_5 {τ : Mem} {c k j : Nat} {p q : Int32} : mOpF τ c k p q 5 0 j = if j = c then τ 3 0 k else τ 5 0 j := by
  show up (up (up (up (mOp1 τ c k p q) 11 0 (2 * c + 0) 1) 12 0 (2 * c + 0) 0) 11 0 (2 * c + 1) 1) 12 0 (2 * c + 1) 0 5 0 j = _
  rw [upK2 (by decide), upK2 (by decide), upK2 (by decide), upK2 (by decide)]
  unfold mOp1
  rw [upK2 (by decide), upK2 (by decide)]
  by_cases h : j = c
  · rw [if_pos h, h, up_self]
  · rw [if_neg h, upK (by omega)]; unfold mCpy; rw [if_neg (fun z => by omega), upK2 (by decide)]
theorem mop_10 {τ : Mem} {c k e : Nat} {p q : Int32} : mOpF τ c k p q 10 0 e = if e = 2 * c + 1 then q else if e = 2 * c then p else τ 10 0 e := by
  show up (up (up (up (mOp1 τ c k p q) 11 0 (2 * c + 0) 1) 12 0 (2 * c + 0) 0) 11 0 (2 * c + 1) 1) 12 0 (2 * c + 1) 0 10 0 e = _
  rw [upK2 (by decide), upK2 (by decide), upK2 (by decide), upK2 (by decide)]
  unfold mOp1
  by_cases h : e = 2 * c + 1
  · rw [if_pos h, h, up_self]
  · rw [if_neg h, upK (by omega)]
    by_cases h2 : e = 2 * c
    · rw [if_pos h2, h2, up_self]
    · rw [if_neg h2, upK (by omega), upK2 (by decide)]; unfold mCpy; rw [if_neg (fun z => by omega), upK2 (by decide)]
theorem mop_o {τ : Mem} {c k e : Nat} {p q : Int32} {K : Nat} (hK : K = 11 ∨ K = 12) : mOp1 τ c k p q K 0 e = τ K 0 e := by
  unfold mOp1 mCpy
  rw [upK2 (by omega), upK2 (by omega), upK2 (by omega), if_neg (fun z => by omega), upK2 (by omega)]
theorem mop_11 {τ : Mem} {c k e : Nat} {p q : Int32} : mOpF τ c k p q 11 0 e = if e = 2 * c + 1 then 1 else if e = 2 * c then 1 else τ 11 0 e := by
  show up (up (up (up (mOp1 τ c k p q) 11 0 (2 * c + 0) 1) 12 0 (2 * c + 0) 0) 11 0 (2 * c + 1) 1) 12 0 (2 * c + 1) 0 11 0 e = _
  rw [upK2 (by decide)]
  by_cases h : e = 2 * c + 1
  · rw [if_pos h, h, up_self]
  · rw [if_neg h, upK (by omega), upK2 (by decide)]
    by_cases h2 : e = 2 * c
    · rw [if_pos h2, h2]; exact up_self
    · rw [if_neg h2, upK (by omega)]; exact mop_o (Or.inl rfl)
theorem mop_12 {τ : Mem} {c k e : Nat} {p q : Int32} : mOpF τ c k p q 12 0 e = if e = 2 * c + 1 then 0 else if e = 2 * c then 0 else τ 12 0 e := by
  show up (up (up (up (mOp1 τ c k p q) 11 0 (2 * c + 0) 1) 12 0 (2 * c + 0) 0) 11 0 (2 * c + 1) 1) 12 0 (2 * c + 1) 0 12 0 e = _
  by_cases h : e = 2 * c + 1
  · rw [if_pos h, h, up_self]
  · rw [if_neg h, upK (by omega), upK2 (by decide)]
    by_cases h2 : e = 2 * c
    · rw [if_pos h2, h2]; exact up_self
    · rw [if_neg h2, upK (by omega), upK2 (by decide)]; exact mop_o (Or.inr rfl)
/-- the copied row -/
theorem bec_3 {σ : Mem} {c d n : Nat} : bec σ c d n 3 c 0 = σ 3 d 0 := by unfold bec; rw [if_pos ⟨rfl, rfl, rfl⟩]
theorem bec_r {σ : Mem} {c d n K i : Nat} (hK : 4 ≤ K ∧ K ≤ 7) (hi : i < n) : bec σ c d n K c i = σ K d i := by
  unfold bec
  rw [if_neg (fun z => by omega), if_pos ⟨rfl, by omega, hi⟩]
theorem open_all {σ τ : Mem} {c k : Nat} {p q : Int32} (hi : IV σ) (hr : RL σ τ) (hc : c < 6) (hk : k < 4) (hp : ¬ p < 0) (hq : ¬ q < 0) (h1 : σ 11 (2 * c) 0 = -1) (h2 : σ 11 (2 * c + 1) 0 = -1) : IV (opM σ c k p q) ∧ RL (opM σ c k p q) (mOpF τ c k p q) := by
  have g : ∀ K i j, K < 3 ∨ 7 < K → K ≠ 11 → K ≠ 12 → opM σ c k p q K i j = σ K i j := fun K i j a b d => by rw [op_k b d, bec_k (by omega)]
  have gr : ∀ K i j, 3 ≤ K ∧ K ≤ 7 → i ≠ c + 5 → opM σ c k p q K i j = σ K i j := fun K i j a b => by rw [op_k (by omega) (by omega), bec_k (Or.inr (Or.inr b))]
  have w1 := (hi.2.2.2 (2 * c) (by omega)).2.1 h1
  have w2 := (hi.2.2.2 (2 * c + 1) (by omega)).2.1 h2
  have e3 : opM σ c k p q 3 (c + 5) 0 = σ 3 (k + 1) 0 := by rw [op_k (by decide) (by decide), bec_3]
  have er : ∀ K i, 4 ≤ K ∧ K ≤ 7 → i < szC σ (k + 1) → opM σ c k p q K (c + 5) i = σ K (k + 1) i := fun K i a b => by rw [op_k (by omega) (by omega), bec_r a b]
  have esz : szC (opM σ c k p q) (c + 5) = szC σ (k + 1) := by unfold szC; rw [e3]
  refine ⟨IV.mk (hi.1.of (g 0 0 0 (by decide) (by decide) (by decide))) ?_ (hi.2.2.1.of (fun K i j hK => g K i j (by omega) (by omega) (by omega))) ?_, RL.mk (hr.1.of (fun K i j hK => g K i j (by omega) (by omega) (by omega)) (fun K j hK => mop_k (by omega) (by omega) (by omega) (by omega) (by omega) (by omega))) ⟨?_, ?_⟩ (hr.2.2.1.of (fun K i j hK => g K i j (by omega) (by omega) (by omega)) (fun K j hK => mop_k (by omega) (by omega) (by omega) (by omega) (by omega) (by omega))) ?_ ((mop_k (by omega) (by omega) (by omega) (by omega) (by omega) (by omega)).trans hr.2.2.2.2)⟩
  · intro d hd
    by_cases z : d = c + 5
    · subst z
      obtain ⟨a1, a2, a3⟩ := hi.2.1 (k + 1) (by omega)
      rw [esz, e3]
      refine ⟨a1, fun i hi' => ?_, fun i j hi' hj' => ?_⟩
      · rw [er 7 i (by omega) hi', er 6 i (by omega) hi']; exact a2 i hi'
      · rw [er 4 i (by omega) hi', er 4 j (by omega) hj', er 5 i (by omega) hi', er 5 j (by omega) hj']; exact a3 i j hi' hj'
    · obtain ⟨a1, a2, a3⟩ := hi.2.1 d hd
      unfold szC
      rw [gr 3 d 0 (by omega) z]
      refine ⟨a1, fun i hi' => ?_, fun i j hi' hj' => ?_⟩
      · rw [gr 7 d i (by omega) z, gr 6 d i (by omega) z]; exact a2 i hi'
      · rw [gr 4 d i (by omega) z, gr 4 d j (by omega) z, gr 5 d i (by omega) z, gr 5 d j (by omega) z]; exact a3 i j hi' hj'
  · intro e he
    obtain ⟨a1, a2, w, a3, a4, a5⟩ := hi.2.2.2 e he
    rw [op_11, g 13 e 0 (by omega) (by omega) (by omega)]
    refine ⟨?_, ?_, w, a3, a4, fun j hj => by rw [g 14 e j (by omega) (by omega) (by omega), g 15 e j (by omega) (by omega) (by omega)]; exact a5 j hj⟩
    · split
      · exact Or.inr hq
      · split
        · exact Or.inr hp
        · exact a1
    · split
      · rename_i z; intro _; rw [z]; exact w2
      · split
        · rename_i z; intro _; rw [z]; exact w1
        · exact a2
  · intro d hd
    obtain ⟨a1, a2⟩ := hr.2.1.1 d hd
    unfold szC rEq
    rw [gr 3 (d + 1) 0 (by omega) (by omega), mop_k (by omega) (by omega) (by omega) (by omega) (by omega) (by omega)]
    refine ⟨a1, fun i hi' => ?_⟩
    rw [gr 4 (d + 1) i (by omega) (by omega), gr 5 (d + 1) i (by omega) (by omega), gr 6 (d + 1) i (by omega) (by omega), gr 7 (d + 1) i (by omega) (by omega)]
    rw [mop_k (by omega) (by omega) (by omega) (by omega) (by omega) (by omega), mop_k (by omega) (by omega) (by omega) (by omega) (by omega) (by omega), mop_k (by omega) (by omega) (by omega) (by omega) (by omega) (by omega), mop_k (by omega) (by omega) (by omega) (by omega) (by omega) (by omega)]
    exact a2 i hi'
  · intro d hd
    rw [mop_5]
    by_cases z : d = c
    · subst z
      obtain ⟨a1, a2⟩ := hr.2.1.1 k hk
      have s9 := hi.CW.le (c := k + 1) (by omega)
      rw [if_pos rfl, e3, esz]
      refine ⟨a1, fun i hi' => ?_⟩
      obtain ⟨d1, d2, d3, d4⟩ := a2 i hi'
      unfold rEq
      rw [er 4 i (by omega) hi', er 5 i (by omega) hi', er 6 i (by omega) hi', er 7 i (by omega) hi', mop_4, mop_4, mop_4, mop_4, if_pos (by omega), if_pos (by omega), if_pos (by omega), if_pos (by omega)]
      rw [show 36 * d + 4 * i - 36 * d = 4 * i from by omega, show 36 * d + 4 * i + 1 - 36 * d = 4 * i + 1 from by omega, show 36 * d + 4 * i + 2 - 36 * d = 4 * i + 2 from by omega, show 36 * d + 4 * i + 3 - 36 * d = 4 * i + 3 from by omega]
      exact ⟨d1, d2, d3, d4⟩
    · obtain ⟨a1, a2⟩ := hr.2.1.2 d hd
      have s9 := hi.CW.le (c := d + 5) (by omega)
      rw [if_neg z]
      have e5 : szC (opM σ c k p q) (d + 5) = szC σ (d + 5) := by unfold szC; rw [gr 3 (d + 5) 0 (by omega) (by omega)]
      rw [e5, gr 3 (d + 5) 0 (by omega) (by omega)]
      refine ⟨a1, fun i hi' => ?_⟩
      unfold rEq
      rw [gr 4 (d + 5) i (by omega) (by omega), gr 5 (d + 5) i (by omega) (by omega), gr 6 (d + 5) i (by omega) (by omega), gr 7 (d + 5) i (by omega) (by omega), mop_4, mop_4, mop_4, mop_4, if_neg (by omega), if_neg (by omega), if_neg (by omega), if_neg (by omega)]
      exact a2 i hi'
  · intro e he
    obtain ⟨a1, a2, a3, a4⟩ := hr.2.2.2.1 e he
    unfold wtE
    rw [op_11, op_12, g 13 e 0 (by omega) (by omega) (by omega), mop_10, mop_11, mop_12, a1, a2]
    refine ⟨rfl, rfl, ?_, fun j hj => ?_⟩
    · split
      · rename_i z; rw [z]; exact w2
      · split
        · rename_i z; rw [z]; exact w1
        · exact a3
    · rw [g 14 e j (by omega) (by omega) (by omega), g 15 e j (by omega) (by omega) (by omega), mop_k (by omega) (by omega) (by omega) (by omega) (by omega) (by omega), mop_k (by omega) (by omega) (by omega) (by omega) (by omega) (by omega)]
      exact a4 j hj
