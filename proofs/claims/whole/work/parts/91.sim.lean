/-! Class and model side by side: close and kill. -/
def okP (p : Nat × Nat) : Prop := p.1 = 0 ∨ p.1 = 1 ∨ p.1 = 8 ∨ p.1 = 9 ∨ p.1 = 11 ∨ p.1 = 12 ∨ p.1 = 13
def RX (g : Int32) (σ τ : Mem) : Prop := RS σ τ ∧ RC σ τ ∧ RB σ τ ∧ RE σ τ ∧ g = τ 0 0 7
theorem RB.z8 {σ τ : Mem} {i : Nat} {v : Int32} (h : RB σ τ) : RB (up σ 8 i 0 v) (up τ 7 0 i v) := by
  intro b hb
  obtain ⟨a1, a2, a3⟩ := h b hb
  refine ⟨?_, ?_, fun j hj => ?_⟩
  · by_cases z : b = i
    · rw [z, up_self, up_self]
    · rw [upK (by omega), upK (by omega)]; exact a1
  · rw [upK2 (by decide), upK2 (by decide)]; exact a2
  · rw [upK2 (by decide), upK2 (by decide)]; exact a3 j hj
theorem RB.z9 {σ τ : Mem} {i : Nat} {v : Int32} (h : RB σ τ) : RB (up σ 9 i 0 v) (up τ 8 0 i v) := by
  intro b hb
  obtain ⟨a1, a2, a3⟩ := h b hb
  refine ⟨?_, ?_, fun j hj => ?_⟩
  · rw [upK2 (by decide), upK2 (by decide)]; exact a1
  · by_cases z : b = i
    · rw [z, up_self, up_self]
    · rw [upK (by omega), upK (by omega)]; exact a2
  · rw [upK2 (by decide), upK2 (by decide)]; exact a3 j hj
theorem RE.z {σ τ : Mem} {K i : Nat} {v : Int32} (hK : K = 11 ∨ K = 12 ∨ K = 13) (hv : K = 13 → v = 0) (h : RE σ τ) : RE (up σ K i 0 v) (up τ (K - 1) 0 i v) := by
  intro e he
  obtain ⟨a1, a2, a3, a4⟩ := h e he
  rcases hK with y | y | y
  · subst y
    refine ⟨?_, ?_, ?_, fun k hk => ?_⟩
    · by_cases z : e = i
      · rw [z, up_self]; exact up_self.symm
      · rw [upK (by omega), upK (by omega)]; exact a1
    · rw [upK2 (by decide), upK2 (by decide)]; exact a2
    · rw [upK2 (by decide), upK2 (by decide)]; exact a3
    · have hk : k < wtE σ e := by unfold wtE at hk; rw [upK2 (by decide)] at hk; exact hk
      rw [upK2 (by decide), upK2 (by decide), upK2 (by decide), upK2 (by decide)]; exact a4 k hk
  · subst y
    refine ⟨?_, ?_, ?_, fun k hk => ?_⟩
    · rw [upK2 (by decide), upK2 (by decide)]; exact a1
    · by_cases z : e = i
      · rw [z, up_self]; exact up_self.symm
      · rw [upK (by omega), upK (by omega)]; exact a2
    · rw [upK2 (by decide), upK2 (by decide)]; exact a3
    · have hk : k < wtE σ e := by unfold wtE at hk; rw [upK2 (by decide)] at hk; exact hk
      rw [upK2 (by decide), upK2 (by decide), upK2 (by decide), upK2 (by decide)]; exact a4 k hk
  · subst y
    have hv := hv rfl
    subst hv
    refine ⟨?_, ?_, ?_, fun k hk => ?_⟩
    · rw [upK2 (by decide), upK2 (by decide)]; exact a1
    · rw [upK2 (by decide), upK2 (by decide)]; exact a2
    · by_cases z : e = i
      · rw [z, up_self]; exact up_self.symm
      · rw [upK (by omega), upK (by omega)]; exact a3
    · by_cases z : e = i
      · unfold wtE at hk; rw [z, up_self] at hk; exact absurd hk (Nat.not_lt_zero k)
      · have hk : k < wtE σ e := by unfold wtE at hk; rw [upK (by omega)] at hk; exact hk
        rw [upK2 (by decide), upK2 (by decide), upK2 (by decide), upK2 (by decide)]; exact a4 k hk
theorem RX.step {g : Int32} {σ τ : Mem} {p : Nat × Nat} (h : RX g σ τ) (hp : okP p) : RX (ap (g, σ) p).1 (ap (g, σ) p).2 (apM τ p) := by
  obtain ⟨a1, a2, a3, a4, a5⟩ := h
  obtain ⟨K, i⟩ := p
  rcases K with _ | _ | K
  · show RX g (up σ 0 0 3 (σ 0 0 3 + 1)) (up τ 0 0 4 (τ 0 0 4 + 1))
    exact ⟨RS.inc (j := 3) (by omega) a1, a2.of (fun K i j h => upK (by omega)) (fun K j h => upK (by omega)), a3.of (fun K i j h => upK (by omega)) (fun K j h => upK (by omega)), a4.of (fun K i j h => upK (by omega)) (fun K j h => upK (by omega)), by rw [upK (by omega)]; exact a5⟩
  · show RX (g + 1) σ (up τ 0 0 7 (τ 0 0 7 + 1))
    exact ⟨a1.of (fun K i j h => rfl) (fun K j h => upK (by omega)), a2.of (fun K i j h => rfl) (fun K j h => upK (by omega)), a3.of (fun K i j h => rfl) (fun K j h => upK (by omega)), a4.of (fun K i j h => rfl) (fun K j h => upK (by omega)), by rw [up_self, a5]⟩
  · rw [ap_z, apM_z]
    have hp : K + 2 = 8 ∨ K + 2 = 9 ∨ K + 2 = 11 ∨ K + 2 = 12 ∨ K + 2 = 13 := by unfold okP at hp; simp at hp; omega
    refine ⟨a1.of (fun K i j h => upK (by omega)) (fun K j h => upK (by omega)), a2.of (fun K i j h => upK (by omega)) (fun K j h => upK (by omega)), ?_, ?_, by rw [upK (by omega)]; exact a5⟩
    · rcases hp with y | y | y
      · obtain rfl : K = 6 := by omega
        exact a3.z8
      · obtain rfl : K = 7 := by omega
        exact a3.z9
      · exact a3.of (fun K i j h => upK (by omega)) (fun K j h => upK (by omega))
    · by_cases z : K + 2 = 8 ∨ K + 2 = 9
      · exact a4.of (fun K i j h => upK (by omega)) (fun K j h => upK (by omega))
      · exact a4.z (K := K + 2) (by omega) (fun y => by rw [y]; rfl)
theorem RX.fold : ∀ (L : List (Nat × Nat)) (s : Int32 × Mem) (τ : Mem), (∀ p, p ∈ L → okP p) → RX s.1 s.2 τ → RX (L.foldl ap s).1 (L.foldl ap s).2 (L.foldl apM τ) := by
  intro L
  induction L with
  | nil => intro s τ _ h; exact h
  | cons p L ih =>
    intro s τ h hx
    rw [List.foldl_cons, List.foldl_cons]
    exact ih _ _ (fun q hq => h q (List.mem_cons_of_mem _ hq)) (hx.step (h p List.mem_cons_self))
theorem RX.of {g : Int32} {σ τ τ' : Mem} (h : RX g σ τ') (he : EqW τ τ') : RX g σ τ := by
  obtain ⟨a1, a2, a3, a4, a5⟩ := h
  exact ⟨a1.of (fun K i j h => rfl) (fun K j h => he K j (by omega) (by omega)), a2.of (fun K i j h => rfl) (fun K j h => he K j (by omega) (by omega)), a3.of (fun K i j h => rfl) (fun K j h => he K j (by omega) (by omega)), a4.of (fun K i j h => rfl) (fun K j h => he K j (by omega) (by omega)), by rw [he 0 7 (by omega) (by omega)]; exact a5⟩
theorem ok_eQ {σ : Mem} {e : Nat} : ∀ n k q, q ∈ eQ σ e n k → okP q := by
  intro n
  induction n with
  | zero => intro k q h; cases h
  | succ n ih =>
    intro k q h
    unfold eQ at h
    rcases List.mem_append.mp h with z | z
    · unfold eM at z
      split at z
      · simp at z; unfold okP; rcases z with z | z | z | z <;> subst z <;> simp
      · simp at z; subst z; exact Or.inl rfl
    · exact ih _ q z
theorem ok_ev {σ : Mem} {S : List Nat} : ∀ q, q ∈ S.flatMap (ev σ) → okP q := by
  intro q h
  obtain ⟨e, -, h⟩ := List.mem_flatMap.mp h
  unfold ev eR eC at h
  rcases List.mem_append.mp h with z | z
  · simp at z; unfold okP; rcases z with z | z <;> subst z <;> simp
  · rcases List.mem_append.mp z with y | y
    · exact ok_eQ _ _ q y
    · simp at y; unfold okP; rcases y with y | y <;> subst y <;> simp
/-- the class is in order when all is cleared -/
theorem IV_fin {σ : Mem} {S : List Nat} {L : List (Nat × Nat)} {g : Int32} (hi : IV σ) (hL : L.Perm (S.flatMap (ev σ))) : IV (L.foldl ap (g, σ)).2 := by
  have hok : ∀ q, q ∈ L → okP q := fun q hq => ok_ev q (hL.mem_iff.mp hq)
  have hK : ∀ K i, (K, i) ∈ L → 2 ≤ K → K = 8 ∨ K = 9 ∨ K = 11 ∨ K = 12 ∨ K = 13 := fun K i h h2 => by have := hok _ h; unfold okP at this; simp at this; omega
  have m : ∀ K x, K = 11 ∨ K = 12 ∨ K = 13 → ((K, x) ∈ L ↔ x ∈ S) := fun K x h => by rw [hL.mem_iff]; exact mem_evs h
  have o : ∀ K i j, ¬ (K = 8 ∨ K = 9 ∨ K = 11 ∨ K = 12 ∨ K = 13) → ¬ (K = 0 ∧ i = 0 ∧ j = 3) → (L.foldl ap (g, σ)).2 K i j = σ K i j := fun K i j h h0 => fd_out h0 L _ (fun z => h (hK K i z.2.2 z.2.1))
  refine IV.mk (hi.1.of (o 0 0 0 (by omega) (by omega))) (hi.2.1.of (fun K i j h => o K i j (by omega) (by omega))) (fun b hb => ?_) (fun e he => ?_)
  · obtain ⟨b1, n, b2, b3⟩ := hi.2.2.1 b hb
    refine ⟨?_, ?_⟩
    · by_cases z : (8, b) ∈ L
      · rw [fd_in (by omega) L _ z]; exact Or.inl rfl
      · rw [fd_out (by omega) L _ (fun y => z y.2.2)]; exact b1
    · by_cases z : (9, b) ∈ L
      · rw [fd_in (by omega) L _ z]; exact ⟨0, by omega, rfl⟩
      · rw [fd_out (by omega) L _ (fun y => z y.2.2)]; exact ⟨n, b2, b3⟩
  · obtain ⟨b1, b2, wt, b3, b4, b5⟩ := hi.2.2.2 e he
    by_cases z : e ∈ S
    · rw [fd_in (by omega) L _ ((m 11 e (by omega)).mpr z), fd_in (by omega) L _ ((m 13 e (by omega)).mpr z)]
      exact ⟨Or.inl rfl, fun _ => rfl, 0, by omega, rfl, fun k hk => absurd hk (Nat.not_lt_zero k)⟩
    · rw [fd_out (by omega) L _ (fun y => z ((m 11 e (by omega)).mp y.2.2)), fd_out (by omega) L _ (fun y => z ((m 13 e (by omega)).mp y.2.2))]
      refine ⟨b1, b2, wt, b3, b4, fun k hk => ?_⟩
      rw [o 14 e k (by omega) (by omega), o 15 e k (by omega) (by omega)]
      exact b5 k hk
theorem cl_fin {σ τ0 τ : Mem} {I : Nat → Prop} {g : Int32} {r : Int32 × Mem} (hi : IV σ) (hx : RX g σ τ0) (hd : Did σ I [] g r) (hm : ∃ (S : List Nat) (L : List (Nat × Nat)), Cov σ I S ∧ EqW τ (L.foldl apM τ0) ∧ L.Perm (S.flatMap (ev σ))) : IV r.2 ∧ RX r.1 r.2 τ ∧ τ 0 0 1 = τ0 0 0 1 := by
  obtain ⟨S1, L1, c1, p1, r1⟩ := hd
  obtain ⟨S, L, c2, e2, p2⟩ := hm
  rw [List.nil_append] at p1
  have hp : L1.Perm L := p1.trans ((List.Perm.flatMap_right (ev σ) (c1.uniq c2)).trans p2.symm)
  subst r1
  refine ⟨IV_fin hi p1, ?_, ?_⟩
  · rw [fd_perm hp]
    exact (RX.fold L (g, σ) τ0 (fun q hq => ok_ev q (p2.mem_iff.mp hq)) hx).of e2
  · rw [e2 0 1 (by omega) (by omega)]
    exact fdM_0 (by omega) (by omega) L τ0
theorem rW.init {σ τ : Mem} {I : Nat → Prop} (h : τ 0 0 6 = 0) : rW σ τ τ I [] [] [] := ⟨[], EqW.rf, List.Perm.refl _, h, fun i x hx => by simp at hx, List.nodup_nil, fun x hx => absurd hx List.not_mem_nil, fun _ _ _ => List.not_mem_nil, fun q hq => absurd hq List.not_mem_nil, fun C _ _ x hx => absurd hx List.not_mem_nil⟩
theorem RL.RX {σ τ : Mem} {v : Int32} (hr : RL σ τ) : Jvm.Pilot.@@N@@.RX 0 σ (up (up τ 0 0 1 v) 0 0 7 0) := by
  obtain ⟨a1, a2, a3, a4, -⟩ := hr
  have e : ∀ K j, ¬ (K = 0 ∧ (j = 1 ∨ j = 7)) → up (up τ 0 0 1 v) 0 0 7 0 K 0 j = τ K 0 j := fun K j h => by rw [upK (by omega), upK (by omega)]
  exact ⟨a1.of (fun _ _ _ _ => rfl) (fun K j h => e K j (by omega)), a2.of (fun _ _ _ _ => rfl) (fun K j h => e K j (by omega)), a3.of (fun _ _ _ _ => rfl) (fun K j h => e K j (by omega)), a4.of (fun _ _ _ _ => rfl) (fun K j h => e K j (by omega)), by rw [up_self]⟩
theorem RX.RL {g : Int32} {σ τ : Mem} (h : RX g σ τ) (h6 : τ 0 0 6 = 0) : Jvm.Pilot.@@N@@.RL σ τ := ⟨h.1, h.2.1, h.2.2.1, h.2.2.2.1, h6⟩
theorem clr_6 {τ : Mem} : mClr τ 0 0 6 = 0 := by unfold mClr; exact up_self
theorem q_neg {q : Int32} (h : inR q 0 3) : ¬ q = -1 := fun z => by rw [z] at h; exact h.1 (by decide)
theorem sim_close {σ τ : Mem} {q x : Int32} (hi : IV σ) (hr : RL σ τ) : Sim w_close (sClose σ q x) (mClose τ q x) := by
  unfold sClose mClose
  rcases NE_sim (q := q) (b := x) hr with ⟨h1, h2, h3, h4, h5⟩ | ⟨h1, h2⟩ | ⟨h1, h2⟩
  · rw [if_pos h1, if_pos h2]
    have hv := vin_R (n := 12) h5
    have hx := vin_lt hv
    have hop : opS σ x.toNatClampNeg := fun z => q_neg h4 ((kOwnE_0 h1).2.2.2.symm.trans z)
    have hX := hr.RX (v := 0)
    have hw : rW σ (up (up τ 0 0 1 0) 0 0 7 0) (mCl (up (up τ 0 0 1 0) 0 0 7 0) (nI x.toNatClampNeg)) (fun y => y = x.toNatClampNeg) [x.toNatClampNeg] [] [] := (rW.init (by rw [upK (by omega), upK (by omega)]; exact hr.2.2.2.2)).push hx hop List.not_mem_nil (fun C c1 _ => c1 _ rfl hop)
    rw [← nI_back hv] at hw
    have hm := clr hi.2.2.2 hX.2.2.2.1 hw (fun y hy _ => List.mem_singleton.mpr hy)
    obtain ⟨b1, b2, b3⟩ := cl_fin hi hX (did_cl 12 σ x.toNatClampNeg hx hi.QW (opC_le 12)) hm
    exact Sim.mk (by unfold mCloM; rw [b3, upK (by omega), up_self]; rfl) (fun _ y hy => by cases hy; exact b2.2.2.2.2) b1 (b2.RL clr_6)
  · rw [if_neg (by rw [h1]; decide), if_neg (by rw [h2]; exact (show ¬ (1 : Int32) = 0 by decide)), h1, h2]; exact Sim.fail hi hr rfl (by decide)
  · rw [if_neg (by rw [h1]; decide), if_neg (by rw [h2]; exact (show ¬ (1 : Int32) = 0 by decide)), h1, h2]; exact Sim.fail hi hr rfl (by decide)
/-- a dying process's blocks -/
theorem kb_sim {q : Int32} : ∀ n k g σ τ, k + n = 12 → IV σ → RX g σ τ → IV (kbL q n k g σ).2 ∧ RX (kbL q n k g σ).1 (kbL q n k g σ).2 (mkB q n k τ) ∧ mkB q n k τ 0 0 6 = τ 0 0 6 ∧ mkB q n k τ 0 0 1 = τ 0 0 1 := by
  intro n
  induction n with
  | zero => intro k g σ τ hk hi hx; exact ⟨hi, hx, rfl, rfl⟩
  | succ n ih =>
    intro k g σ τ hk hi hx
    unfold kbL mkB
    rw [(hx.2.2.1 k (by omega)).1]
    by_cases h : τ 7 0 k = q
    · rw [if_pos h, if_pos h]
      have hs := RX.fold [(8, k), (9, k), (1, 0)] (g, σ) τ (fun p hp => by simp at hp; unfold okP; rcases hp with z | z | z <;> subst z <;> simp) hx
      have e1 : [(8, k), (9, k), (1, 0)].foldl ap (g, σ) = (g + 1, gbM σ k) := by
        show ap (ap (ap (g, σ) (6 + 2, k)) (7 + 2, k)) (1, 0) = _
        rw [ap_z, ap_z, ap_1]
        rfl
      have e2 : [(8, k), (9, k), (1, 0)].foldl apM τ = mFree τ (nI k) := by
        show apM (apM (apM τ (6 + 2, k)) (7 + 2, k)) (1, 0) = _
        rw [apM_z, apM_z]
        unfold mFree
        rw [nI_clamp (by omega)]
        show up (up (up τ 7 0 k (-1)) 8 0 k 0) 0 0 7 (up (up τ 7 0 k (-1)) 8 0 k 0 0 0 7 + 1) = _
        rw [upK2 (by decide : (0 : Nat) ≠ 8), upK2 (by decide : (0 : Nat) ≠ 7)]
      rw [e1, e2] at hs
      have g0 : ∀ K i j, K ≠ 8 → K ≠ 9 → gbM σ k K i j = σ K i j := fun K i j a1 a2 => by unfold gbM; rw [upK2 a2, upK2 a1]
      have hi' : IV (gbM σ k) := IV.mk (hi.1.of (g0 0 0 0 (by decide) (by decide))) (hi.2.1.of (fun K i j hK => g0 K i j (by omega) (by omega))) (IB.upd (m := 0) (Or.inl rfl) (by omega) hi.2.2.1) (hi.2.2.2.of (fun K i j hK => g0 K i j (by omega) (by omega)))
      obtain ⟨b1, b2, b3, b4⟩ := ih (k + 1) (g + 1) (gbM σ k) (mFree τ (nI k)) (by omega) hi' hs
      refine ⟨b1, b2, ?_, ?_⟩
      · rw [b3]; unfold mFree; rw [upK (by omega), upK2 (by decide), upK2 (by decide)]
      · rw [b4]; unfold mFree; rw [upK (by omega), upK2 (by decide), upK2 (by decide)]
    · rw [if_neg h, if_neg h]
      exact ih (k + 1) g σ τ (by omega) hi hx
/-- a dying process's ends, put on the worklist -/
theorem ke_w {q : Int32} {σ τ0 : Mem} (hr : RE σ τ0) (hq : ¬ q = -1) : ∀ n k τ W, k + n = 12 → rW σ τ0 τ (fun x => 0 ≤ x ∧ x < 12 ∧ σ 11 x 0 = q) W [] [] → (∀ x, x ∈ W → x < k) → (∀ x, x < k → σ 11 x 0 = q → x ∈ W) → ∃ W', rW σ τ0 (mkE q n k τ) (fun x => 0 ≤ x ∧ x < 12 ∧ σ 11 x 0 = q) W' [] [] ∧ ∀ x, x < 12 → σ 11 x 0 = q → x ∈ W' := by
  intro n
  induction n with
  | zero =>
    intro k τ W hk h h1 h2
    exact ⟨W, h, fun x hx => h2 x (by omega)⟩
  | succ n ih =>
    intro k τ W hk h h1 h2
    have hn : k ∉ W := fun z => by have := h1 k z; omega
    have e : τ 10 0 k = σ 11 k 0 := by rw [(h.rd hr).1 k (by omega), if_neg hn]
    unfold mkE
    rw [e]
    by_cases z : σ 11 k 0 = q
    · rw [if_pos z]
      have ho : opS σ k := fun y => hq (z.symm.trans y)
      refine ih (k + 1) _ (W ++ [k]) (by omega) (h.push (by omega) ho hn (fun C c1 _ => c1 k ⟨Nat.zero_le _, by omega, z⟩ ho)) (fun x hx => ?_) (fun x hx hxq => ?_)
      · rcases List.mem_append.mp hx with y | y
        · have := h1 x y; omega
        · rw [List.mem_singleton.mp y]; omega
      · by_cases y : x = k
        · exact List.mem_append.mpr (Or.inr (List.mem_singleton.mpr y))
        · exact List.mem_append.mpr (Or.inl (h2 x (by omega) hxq))
    · rw [if_neg z]
      refine ih (k + 1) _ W (by omega) h (fun x hx => by have := h1 x hx; omega) (fun x hx hxq => ?_)
      by_cases y : x = k
      · rw [y] at hxq; exact absurd hxq z
      · exact h2 x (by omega) hxq
theorem sim_kill {σ τ : Mem} {q : Int32} (hi : IV σ) (hr : RL σ τ) : Sim w_kill (sKill σ q) (mKill τ q) := by
  unfold sKill mKill
  by_cases h1 : inR q 0 3
  · rw [if_neg (bad_no h1), if_neg (show ¬ ¬ inR q 0 3 from fun z => z h1), hr.1.2.2.2.2.2.2 _ (vin_lt (vin_R (n := 4) h1))]
    by_cases h4 : τ 6 0 q.toNatClampNeg = 0
    · rw [if_pos h4, if_pos h4]; unfold mFail; rw [up_up]; exact Sim.fail hi hr rfl (by decide)
    · rw [if_neg h4, if_neg h4]
      have f : ∀ K i j, K ≠ 2 → ¬ (K = 0 ∧ j = 4) → killM σ q K i j = σ K i j := fun K i j a b => by unfold killM; rw [upK (by omega), upK2 a]
      have m : ∀ K j, K ≠ 6 → ¬ (K = 0 ∧ (j = 1 ∨ j = 5 ∨ j = 7)) → mK0 τ q K 0 j = τ K 0 j := fun K j a b => by unfold mK0; rw [upK (by omega), upK (by omega), upK2 a, upK (by omega)]
      have hiv : IV (killM σ q) := IV.mk (hi.1.of (f 0 0 0 (by decide) (by decide))) (hi.2.1.of (fun K i j hK => f K i j (by omega) (by omega))) (hi.2.2.1.of (fun K i j hK => f K i j (by omega) (by omega))) (hi.2.2.2.of (fun K i j hK => f K i j (by omega) (by omega)))
      have hX : RX 0 (killM σ q) (mK0 τ q) := by
        refine ⟨?_, hr.2.1.of (fun K i j hK => f K i j (by omega) (by omega)) (fun K j hK => m K j (by omega) (by omega)), hr.2.2.1.of (fun K i j hK => f K i j (by omega) (by omega)) (fun K j hK => m K j (by omega) (by omega)), hr.2.2.2.1.of (fun K i j hK => f K i j (by omega) (by omega)) (fun K j hK => m K j (by omega) (by omega)), by unfold mK0; rw [up_self]⟩
        have r1 := RS.inc (j := 4) (by omega) (RS.alive (k := q.toNatClampNeg) (v := 0) hr.1)
        refine RS.of r1 (fun K i j hK => ?_) (fun K j hK => ?_)
        · unfold killM; rw [upK2 (by decide : (0 : Nat) ≠ 2)]
        · rw [upK2 (by decide : (0 : Nat) ≠ 6)]
          rcases hK with ⟨rfl, hj⟩ | rfl | rfl
          · by_cases z : j = 5
            · subst z
              have e1 : mK0 τ q 0 0 5 = τ 0 0 5 + 1 := by unfold mK0; rw [upK (by omega), up_self]
              exact e1.trans up_self.symm
            · exact (m 0 j (by decide) (by omega)).trans ((upK (by omega)).trans (upK2 (by decide))).symm
          · exact (m 1 j (by decide) (by omega)).trans ((upK2 (by decide)).trans (upK2 (by decide))).symm
          · have e1 : mK0 τ q 6 0 j = up τ 6 0 q.toNatClampNeg 0 6 0 j := by
              unfold mK0
              rw [upK2 (by decide), upK2 (by decide)]
              by_cases y : j = q.toNatClampNeg
              · rw [y, up_self, up_self]
              · rw [upK (by omega), upK (by omega), upK (by omega)]
            exact e1.trans (upK2 (by decide)).symm
      obtain ⟨b1, b2, b3, b4⟩ := kb_sim (q := q) 12 0 0 _ _ rfl hiv hX
      have m6 : mK0 τ q 0 0 6 = 0 := (m 0 6 (by decide) (by decide)).trans hr.2.2.2.2
      have m1 : mK0 τ q 0 0 1 = 0 := by unfold mK0; rw [upK (by omega), upK (by omega), upK2 (by decide), up_self]
      obtain ⟨W, c1, c2⟩ := ke_w b2.2.2.2.1 (q_neg h1) 12 0 _ [] rfl (rW.init (b3.trans m6)) (fun x hx => absurd hx List.not_mem_nil) (fun x hx => absurd hx (Nat.not_lt_zero x))
      have hm := clr b1.2.2.2 b2.2.2.2.1 c1 (fun x hx _ => c2 x hx.2.1 hx.2.2)
      obtain ⟨d1, d2, d3⟩ := cl_fin b1 b2 (did_ke (q_neg h1) 12 0 _ _ rfl b1.QW) hm
      exact Sim.mk (by unfold mKilM; rw [d3, b4, m1]; rfl) (fun _ y hy => by cases hy; exact d2.2.2.2.2) d1 (d2.RL clr_6)
  · rw [if_pos (bad_yes h1), if_pos h1]; exact Sim.fail hi hr rfl (by decide)
