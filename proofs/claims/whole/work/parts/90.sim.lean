/-! What the model's clearing does, as the same steps. -/
def apM (τ : Mem) (p : Nat × Nat) : Mem := if p.1 = 0 then up τ 0 0 4 (τ 0 0 4 + 1) else if p.1 = 1 then up τ 0 0 7 (τ 0 0 7 + 1) else up τ (p.1 - 1) 0 p.2 (vK p.1)
theorem apM_z {τ : Mem} {K i : Nat} : apM τ (K + 2, i) = up τ (K + 1) 0 i (vK (K + 2)) := by
  unfold apM
  rw [if_neg (show ¬ K + 2 = 0 by omega), if_neg (show ¬ K + 2 = 1 by omega)]
  rfl
/-- the same but for the worklist -/
def EqW (τ τ' : Mem) : Prop := ∀ K j, K ≠ 15 → ¬ (K = 0 ∧ j = 6) → τ K 0 j = τ' K 0 j
theorem EqW.up {τ τ' : Mem} (h : EqW τ τ') (K j : Nat) (v : Int32) : EqW (up τ K 0 j v) (Jvm.Pilot.@@N@@.up τ' K 0 j v) := by
  intro M i h1 h2
  unfold Jvm.Pilot.@@N@@.up
  by_cases z : M = K ∧ 0 = 0 ∧ i = j
  · rw [if_pos z, if_pos z]
  · rw [if_neg z, if_neg z]; exact h M i h1 h2
theorem EqW.l {τ τ' : Mem} (h : EqW τ τ') (j : Nat) (v : Int32) : EqW (Jvm.Pilot.@@N@@.up τ 15 0 j v) τ' := fun K i h1 h2 => by rw [upK (by omega)]; exact h K i h1 h2
theorem EqW.c {τ τ' : Mem} (h : EqW τ τ') (v : Int32) : EqW (Jvm.Pilot.@@N@@.up τ 0 0 6 v) τ' := fun K i h1 h2 => by rw [upK (by omega)]; exact h K i h1 h2
theorem EqW.rf {τ : Mem} : EqW τ τ := fun _ _ _ _ => rfl
theorem fdM_out {K i : Nat} (hK : 1 ≤ K) : ∀ (L : List (Nat × Nat)) (τ : Mem), (K + 1, i) ∉ L → L.foldl apM τ K 0 i = τ K 0 i := by
  intro L
  induction L with
  | nil => intro τ _; rfl
  | cons p L ih =>
    intro τ h
    rw [List.foldl_cons, ih _ (fun z => h (List.mem_cons_of_mem _ z))]
    obtain ⟨M, m⟩ := p
    rcases M with _ | _ | M
    · exact upK (by omega)
    · exact upK (by omega)
    · rw [apM_z]
      refine upK (fun z => h ?_)
      rw [z.1, z.2.2]
      exact List.mem_cons_self
theorem fdM_in {K i : Nat} (hK : 1 ≤ K) : ∀ (L : List (Nat × Nat)) (τ : Mem), (K + 1, i) ∈ L → L.foldl apM τ K 0 i = vK (K + 1) := by
  intro L
  induction L with
  | nil => intro τ h; cases h
  | cons p L ih =>
    intro τ h
    rw [List.foldl_cons]
    by_cases h1 : (K + 1, i) ∈ L
    · exact ih _ h1
    · rw [fdM_out hK _ _ h1]
      have hp : (K + 1, i) = p := by
        rcases List.mem_cons.mp h with z | z
        · exact z
        · exact absurd z h1
      rw [← hp]
      obtain ⟨M, rfl⟩ : ∃ M, K = M + 1 := ⟨K - 1, by omega⟩
      rw [apM_z]
      exact up_self
theorem fdM_0 {j : Nat} (h4 : j ≠ 4) (h7 : j ≠ 7) : ∀ (L : List (Nat × Nat)) (τ : Mem), L.foldl apM τ 0 0 j = τ 0 0 j := by
  intro L
  induction L with
  | nil => intro τ; rfl
  | cons p L ih =>
    intro τ
    rw [List.foldl_cons, ih]
    obtain ⟨M, m⟩ := p
    rcases M with _ | _ | M
    · exact upK (by omega)
    · exact upK (by omega)
    · rw [apM_z]; exact upK (by omega)
theorem nodup_le : ∀ (n : Nat) (W : List Nat), W.Nodup → (∀ x, x ∈ W → x < n) → W.length ≤ n := by
  intro n
  induction n with
  | zero =>
    intro W _ h
    cases W with
    | nil => exact Nat.le_refl _
    | cons a W => exact absurd (h a List.mem_cons_self) (Nat.not_lt_zero a)
  | succ n ih =>
    intro W hn h
    by_cases z : n ∈ W
    · have h1 := ih (W.erase n) (hn.erase n) (fun x hx => by
        have h2 := hn.mem_erase_iff.mp hx
        have := h x h2.2
        have := h2.1
        omega)
      rw [List.length_erase_of_mem z] at h1
      omega
    · have := ih W hn (fun x hx => by
        have h3 := h x hx
        rcases Nat.lt_or_ge x n with y | y
        · exact y
        · exact absurd (by rw [show n = x by omega]; exact hx) z)
      omega
/-- the worklist: W is on it, D of it is done, X are the steps of the one under way -/
def rW (σ τ0 τ : Mem) (I : Nat → Prop) (W D : List Nat) (X : List (Nat × Nat)) : Prop := ∃ L : List (Nat × Nat), EqW τ (L.foldl apM τ0) ∧ L.Perm (X ++ W.flatMap eC ++ D.flatMap (eR σ)) ∧ τ 0 0 6 = nI W.length ∧ (∀ (i x : Nat), W[i]? = some x → τ 15 0 i = nI x) ∧ W.Nodup ∧ (∀ x, x ∈ W → x < 12 ∧ opS σ x) ∧ (∀ K x, K = 11 ∨ K = 12 ∨ K = 13 → (K, x) ∉ X) ∧ (∀ q, q ∈ X → q.1 < 14) ∧ ∀ C : Nat → Prop, (∀ x, I x → opS σ x → C x) → (∀ x v, opS σ x → C x → car σ x v → opS σ v → C v) → ∀ x, x ∈ W → C x
theorem mem_eC {e x K : Nat} (hK : K = 11 ∨ K = 12 ∨ K = 13) : (K, x) ∈ eC e ↔ K = 11 ∧ x = e := by
  unfold eC
  simp
  omega
theorem mem_eR {σ : Mem} {e x K : Nat} (hK : K = 11 ∨ K = 12 ∨ K = 13) : (K, x) ∈ eR σ e ↔ K ≠ 11 ∧ x = e := by
  unfold eR
  have h := mem_eQ (σ := σ) (e := e) (i := x) hK (wtE σ e) 0
  simp only [List.mem_append, List.mem_cons, Prod.mk.injEq, List.not_mem_nil, or_false]
  constructor
  · rintro (z | z | z)
    · exact absurd z h
    · exact ⟨by omega, z.2⟩
    · exact ⟨by omega, z.2⟩
  · rintro ⟨z, y⟩
    rcases hK with w | w | w
    · exact absurd w z
    · exact Or.inr (Or.inr ⟨w, y⟩)
    · exact Or.inr (Or.inl ⟨w, y⟩)
theorem rW_mem {σ : Mem} {W D : List Nat} {X L : List (Nat × Nat)} (hL : L.Perm (X ++ W.flatMap eC ++ D.flatMap (eR σ))) (hX : ∀ K x, K = 11 ∨ K = 12 ∨ K = 13 → (K, x) ∉ X) (hlo : ∀ q, q ∈ X → q.1 < 14) : (∀ x, (11, x) ∈ L ↔ x ∈ W) ∧ (∀ x, (13, x) ∈ L ↔ x ∈ D) ∧ ∀ q, q ∈ L → q.1 < 14 := by
  refine ⟨fun x => ?_, fun x => ?_, fun q hq => ?_⟩
  · rw [hL.mem_iff, List.mem_append, List.mem_append, List.mem_flatMap, List.mem_flatMap]
    constructor
    · rintro ((z | ⟨e, z, y⟩) | ⟨e, z, y⟩)
      · exact absurd z (hX _ _ (by omega))
      · rw [((mem_eC (by omega)).mp y).2]; exact z
      · exact absurd rfl ((mem_eR (by omega)).mp y).1
    · intro z; exact Or.inl (Or.inr ⟨x, z, (mem_eC (by omega)).mpr ⟨rfl, rfl⟩⟩)
  · rw [hL.mem_iff, List.mem_append, List.mem_append, List.mem_flatMap, List.mem_flatMap]
    constructor
    · rintro ((z | ⟨e, z, y⟩) | ⟨e, z, y⟩)
      · exact absurd z (hX _ _ (by omega))
      · have := ((mem_eC (by omega)).mp y).1; omega
      · rw [((mem_eR (by omega)).mp y).2]; exact z
    · intro z; exact Or.inr ⟨x, z, (mem_eR (by omega)).mpr ⟨by omega, rfl⟩⟩
  · rcases List.mem_append.mp (hL.mem_iff.mp hq) with z | z
    · rcases List.mem_append.mp z with y | y
      · exact hlo q y
      · obtain ⟨e, -, h⟩ := List.mem_flatMap.mp y
        exact lo_ev (σ := σ) (e := e) q (List.mem_append.mpr (Or.inl h))
    · obtain ⟨e, -, h⟩ := List.mem_flatMap.mp z
      exact lo_ev (σ := σ) (e := e) q (List.mem_append.mpr (Or.inr h))
theorem rW.len {σ τ0 τ : Mem} {I : Nat → Prop} {W D : List Nat} {X : List (Nat × Nat)} (h : rW σ τ0 τ I W D X) : W.length ≤ 12 := by
  obtain ⟨L, -, -, -, -, a5, a6, -⟩ := h
  exact nodup_le 12 W a5 (fun x hx => (a6 x hx).1)
theorem rW.push {σ τ0 τ : Mem} {I : Nat → Prop} {W D : List Nat} {X : List (Nat × Nat)} (h : rW σ τ0 τ I W D X) {v : Nat} (hv : v < 12) (ho : opS σ v) (hn : v ∉ W) (hC : ∀ C : Nat → Prop, (∀ x, I x → opS σ x → C x) → (∀ x v, opS σ x → C x → car σ x v → opS σ v → C v) → C v) : rW σ τ0 (mCl τ (nI v)) I (W ++ [v]) D X := by
  have hlen := h.len
  obtain ⟨L, a1, a2, a3, a4, a5, a6, a7, a8, a9⟩ := h
  refine ⟨L ++ eC v, ?_, ?_, ?_, fun i x hx => ?_, ?_, fun x hx => ?_, a7, a8, fun C c1 c2 x hx => ?_⟩
  · rw [List.foldl_append]
    unfold mCl
    refine EqW.c (EqW.l ?_ _ _) _
    rw [nI_clamp (by omega)]
    show EqW _ (apM (apM (L.foldl apM τ0) (9 + 2, v)) (1, 0))
    rw [apM_z]
    show EqW _ (Jvm.Pilot.@@N@@.up (Jvm.Pilot.@@N@@.up (L.foldl apM τ0) 10 0 v (-1)) 0 0 7 (Jvm.Pilot.@@N@@.up (L.foldl apM τ0) 10 0 v (-1) 0 0 7 + 1))
    rw [upK2 (by decide), a1 0 7 (by decide) (by decide)]
    exact (a1.up 10 v (-1)).up 0 7 _
  · rw [List.perm_iff_count] at a2 ⊢
    intro a
    have q := a2 a
    simp only [List.count_append, List.flatMap_append, List.flatMap_cons, List.flatMap_nil, List.append_nil] at q ⊢
    omega
  · unfold mCl
    rw [up_self, a3, nI_1, List.length_append]
    rfl
  · unfold mCl
    rw [upK2 (by decide), a3, nI_clamp (n := W.length) (by omega)]
    rcases Nat.lt_or_ge i W.length with y | y
    · rw [List.getElem?_append_left y] at hx
      rw [upK (by omega), upK2 (by decide), upK2 (by decide)]
      exact a4 i x hx
    · rw [List.getElem?_append_right y] at hx
      have hi : i - W.length = 0 := by
        rcases Nat.eq_zero_or_pos (i - W.length) with z | z
        · exact z
        · rw [List.getElem?_eq_none (by simp; omega)] at hx; cases hx
      rw [hi] at hx
      have hx : some v = some x := hx
      cases hx
      rw [show i = W.length by omega, up_self]
  · exact List.nodup_append.mpr ⟨a5, List.nodup_cons.mpr ⟨List.not_mem_nil, List.nodup_nil⟩, fun x hx y hy e => hn (by rw [List.mem_singleton.mp hy] at e; rw [← e]; exact hx)⟩
  · rcases List.mem_append.mp hx with z | z
    · exact a6 x z
    · rw [List.mem_singleton.mp z]; exact ⟨hv, ho⟩
  · rcases List.mem_append.mp hx with z | z
    · exact a9 C c1 c2 x z
    · rw [List.mem_singleton.mp z]; exact hC C c1 c2
theorem inR_B {x : Int32} : inR x 3 5 ↔ isB x := by
  have e3 : (3 : Int32).toInt = 3 := by decide
  have e5 : (5 : Int32).toInt = 5 := by decide
  unfold inR isB
  rw [le6, lt3, Int32.lt_iff_toInt_lt, e5]
  omega
/-- the queues of both -/
theorem rW.rd {σ τ0 τ : Mem} {I : Nat → Prop} {W D : List Nat} {X : List (Nat × Nat)} (hr : RE σ τ0) (h : rW σ τ0 τ I W D X) : (∀ x, x < 12 → τ 10 0 x = if x ∈ W then -1 else σ 11 x 0) ∧ (∀ x, x < 12 → x ∉ D → τ 12 0 x = σ 13 x 0) ∧ ∀ e k, e < 12 → k < wtE σ e → τ 13 0 (3 * e + k) = σ 14 e k ∧ τ 14 0 (3 * e + k) = σ 15 e k := by
  obtain ⟨L, a1, a2, a3, a4, a5, a6, a7, a8, a9⟩ := h
  obtain ⟨m1, m2, m3⟩ := rW_mem a2 a7 a8
  refine ⟨fun x hx => ?_, fun x hx hD => ?_, fun e k he hk => ?_⟩
  · rw [a1 10 x (by decide) (by omega)]
    by_cases z : x ∈ W
    · rw [if_pos z, fdM_in (by omega) L τ0 ((m1 x).mpr z)]; rfl
    · rw [if_neg z, fdM_out (by omega) L τ0 (fun y => z ((m1 x).mp y))]; exact (hr x hx).1.symm
  · rw [a1 12 x (by decide) (by omega), fdM_out (by omega) L τ0 (fun y => hD ((m2 x).mp y))]
    exact (hr x hx).2.2.1.symm
  · rw [a1 13 _ (by decide) (by omega), a1 14 _ (by decide) (by omega), fdM_out (by omega) L τ0 (fun y => by have := m3 _ y; simp at this), fdM_out (by omega) L τ0 (fun y => by have := m3 _ y; simp at this)]
    exact ⟨((hr e he).2.2.2 k hk).1.symm, ((hr e he).2.2.2 k hk).2.symm⟩
theorem rW.m2 {σ τ0 τ : Mem} {I : Nat → Prop} {W D : List Nat} {X : List (Nat × Nat)} {lt v : Int32} {m : Nat} (h : rW σ τ0 τ I W D X) (h3 : τ 13 0 m = lt) (h4 : τ 14 0 m = v) : rW σ τ0 (mM2 τ m) I W D (X ++ eM lt v) := by
  obtain ⟨L, a1, a2, a3, a4, a5, a6, a7, a8, a9⟩ := h
  refine ⟨L ++ eM lt v, ?_, ?_, ?_, fun i x hx => ?_, a5, a6, fun K x hK hm => ?_, fun q hq => ?_, a9⟩
  · rw [List.foldl_append]
    unfold mM2 eM
    rw [h3, h4]
    by_cases z : isB lt
    · rw [if_pos (inR_B.mpr z), if_pos z]
      show EqW _ (apM (apM (apM (apM (L.foldl apM τ0) (0, 0)) (6 + 2, v.toNatClampNeg)) (7 + 2, v.toNatClampNeg)) (1, 0))
      rw [apM_z, apM_z]
      unfold mFree
      show EqW _ (Jvm.Pilot.@@N@@.up (Jvm.Pilot.@@N@@.up (Jvm.Pilot.@@N@@.up (Jvm.Pilot.@@N@@.up (L.foldl apM τ0) 0 0 4 (L.foldl apM τ0 0 0 4 + 1)) 7 0 v.toNatClampNeg (-1)) 8 0 v.toNatClampNeg 0) 0 0 7 (Jvm.Pilot.@@N@@.up (Jvm.Pilot.@@N@@.up (Jvm.Pilot.@@N@@.up (L.foldl apM τ0) 0 0 4 (L.foldl apM τ0 0 0 4 + 1)) 7 0 v.toNatClampNeg (-1)) 8 0 v.toNatClampNeg 0 0 0 7 + 1))
      rw [upK2 (by decide : (0 : Nat) ≠ 8), upK2 (by decide : (0 : Nat) ≠ 7), upK (by omega), upK (by omega), a1 0 7 (by decide) (by decide), a1 0 4 (by decide) (by decide)]
      exact (((a1.up 0 4 _).up 7 _ _).up 8 _ _).up 0 7 _
    · rw [if_neg (fun y => z (inR_B.mp y)), if_neg z]
      show EqW _ (Jvm.Pilot.@@N@@.up (L.foldl apM τ0) 0 0 4 (L.foldl apM τ0 0 0 4 + 1))
      rw [a1 0 4 (by decide) (by decide)]
      exact a1.up 0 4 _
  · rw [List.perm_iff_count] at a2 ⊢
    intro a
    have q := a2 a
    simp only [List.count_append] at q ⊢
    omega
  · unfold mM2
    split
    · unfold mFree; rw [upK (by omega), upK2 (by decide), upK2 (by decide), upK (by omega)]; exact a3
    · rw [upK (by omega)]; exact a3
  · unfold mM2
    split
    · unfold mFree; rw [upK (by omega), upK2 (by decide), upK2 (by decide), upK (by omega)]; exact a4 i x hx
    · rw [upK (by omega)]; exact a4 i x hx
  · rcases List.mem_append.mp hm with z | z
    · exact a7 K x hK z
    · exact mem_eM hK z
  · rcases List.mem_append.mp hq with z | z
    · exact a8 q z
    · exact lo_eM q z
theorem rW.msg {σ τ0 τ : Mem} {I : Nat → Prop} {W D : List Nat} {X : List (Nat × Nat)} {e k : Nat} (hi : IE σ) (hr : RE σ τ0) (h : rW σ τ0 τ I W D X) (he : e ∈ W) (hk : k < wtE σ e) : ∃ A, rW σ τ0 (mMs τ (3 * e + k)) I (W ++ A) D (X ++ eM (σ 14 e k) (σ 15 e k)) ∧ (σ 14 e k = 6 → opS σ (σ 15 e k).toNatClampNeg → (σ 15 e k).toNatClampNeg ∈ W ++ A) := by
  obtain ⟨e12, heo⟩ : e < 12 ∧ opS σ e := by obtain ⟨L, -, -, -, -, -, a6, -⟩ := h; exact a6 e he
  obtain ⟨r1, r2, r3⟩ := h.rd hr
  obtain ⟨q1, q2⟩ := r3 e k e12 hk
  have h2 := h.m2 q1 q2
  unfold mMs
  rw [q1, q2]
  by_cases h6 : σ 14 e k = 6
  · rw [if_pos h6]
    obtain ⟨-, -, wt, w1, w2, w3⟩ := hi e e12
    have hwt : wtE σ e = wt := by unfold wtE; rw [w2, nI_clamp (by omega)]
    have hv := (w3 k (by omega)).2 (by rw [h6]; decide)
    have hvn := vin_lt hv
    rw [r1 _ hvn]
    have hneg := own_neg (hi _ hvn).1
    by_cases z : (σ 15 e k).toNatClampNeg ∈ W
    · rw [if_pos z, if_pos (by decide)]
      exact ⟨[], by rw [List.append_nil]; exact h2, fun _ _ => by rw [List.append_nil]; exact z⟩
    · rw [if_neg z]
      by_cases y : σ 11 (σ 15 e k).toNatClampNeg 0 < 0
      · rw [if_pos y]
        exact ⟨[], by rw [List.append_nil]; exact h2, fun _ hh => absurd (hneg.mpr y) hh⟩
      · rw [if_neg y]
        have hov : opS σ (σ 15 e k).toNatClampNeg := fun w => y (hneg.mp w)
        refine ⟨[(σ 15 e k).toNatClampNeg], ?_, fun _ _ => List.mem_append.mpr (Or.inr (List.mem_singleton.mpr rfl))⟩
        have := h2.push hvn hov z (fun C c1 c2 => by
          obtain ⟨L, -, -, -, -, -, -, -, -, a9⟩ := h
          exact c2 e _ heo (a9 C c1 c2 e he) ⟨k, Nat.zero_le _, hk, h6, rfl⟩ hov)
        rw [← nI_back hv] at this
        exact this
  · rw [if_neg h6]
    exact ⟨[], by rw [List.append_nil]; exact h2, fun hh => absurd hh h6⟩
theorem rW.msgs {σ τ0 : Mem} {I : Nat → Prop} {D : List Nat} {e : Nat} (hi : IE σ) (hr : RE σ τ0) : ∀ n k τ W X, k + n = wtE σ e → rW σ τ0 τ I W D X → e ∈ W → ∃ A, rW σ τ0 (mCi e n k τ) I (W ++ A) D (X ++ eQ σ e n k) ∧ ∀ v, carF σ e k v → opS σ v → v ∈ W ++ A := by
  intro n
  induction n with
  | zero =>
    intro k τ W X hk h he
    refine ⟨[], ?_, fun v hv => ?_⟩
    · show rW σ τ0 τ I (W ++ []) D (X ++ [])
      rw [List.append_nil, List.append_nil]; exact h
    · obtain ⟨j, j1, j2, -⟩ := hv; omega
  | succ n ih =>
    intro k τ W X hk h he
    obtain ⟨A, b1, b2⟩ := h.msg hi hr he (k := k) (by omega)
    obtain ⟨B, c1, c2⟩ := ih (k + 1) _ _ _ (by omega) b1 (List.mem_append.mpr (Or.inl he))
    refine ⟨A ++ B, ?_, fun v hv ho => ?_⟩
    · unfold mCi eQ
      rw [← List.append_assoc, ← List.append_assoc]
      exact c1
    · rw [← List.append_assoc]
      obtain ⟨j, j1, j2, j3, j4⟩ := hv
      by_cases z : j = k
      · subst z
        rw [j4] at ho ⊢
        exact List.mem_append.mpr (Or.inl (b2 j3 ho))
      · exact c2 v ⟨j, by omega, j2, j3, j4⟩ ho
theorem rW.en {σ τ0 τ : Mem} {I : Nat → Prop} {W D : List Nat} {e : Nat} (hi : IE σ) (hr : RE σ τ0) (h : rW σ τ0 τ I W D []) (he : e ∈ W) (hD : e ∉ D) : ∃ A, rW σ τ0 (mEn τ e) I (W ++ A) (D ++ [e]) [] ∧ ∀ v, car σ e v → opS σ v → v ∈ W ++ A := by
  obtain ⟨e12, heo⟩ : e < 12 ∧ opS σ e := by obtain ⟨L, -, -, -, -, -, a6, -⟩ := h; exact a6 e he
  have hw : (τ 12 0 e).toNatClampNeg = wtE σ e := by rw [(h.rd hr).2.1 e e12 hD]
  obtain ⟨A, b1, b2⟩ := rW.msgs hi hr (wtE σ e) 0 τ W [] (by omega) h he
  refine ⟨A, ?_, b2⟩
  unfold mEn
  rw [hw]
  rw [List.nil_append] at b1
  obtain ⟨L, a1, a2, a3, a4, a5, a6, a7, a8, a9⟩ := b1
  refine ⟨L ++ [(13, e), (12, e)], ?_, ?_, ?_, fun i x hx => ?_, a5, a6, fun _ _ _ => List.not_mem_nil, fun q hq => absurd hq List.not_mem_nil, a9⟩
  · rw [List.foldl_append]
    show EqW _ (apM (apM (L.foldl apM τ0) (11 + 2, e)) (10 + 2, e))
    rw [apM_z, apM_z]
    exact (a1.up 12 e 0).up 11 e 0
  · rw [List.perm_iff_count] at a2 ⊢
    intro a
    have q := a2 a
    rw [List.flatMap_append (xs := D)]
    have z : List.flatMap (eR σ) [e] = eQ σ e (wtE σ e) 0 ++ [(13, e), (12, e)] := by rw [List.flatMap_cons, List.flatMap_nil, List.append_nil]; rfl
    rw [z]
    simp only [List.count_append, List.nil_append] at q ⊢
    omega
  · rw [upK2 (by decide), upK2 (by decide)]; exact a3
  · rw [upK2 (by decide), upK2 (by decide)]; exact a4 i x hx
theorem rW.co {σ τ0 : Mem} {I : Nat → Prop} (hi : IE σ) (hr : RE σ τ0) : ∀ f i τ (D P : List Nat), D.length = i → f + i = 13 → rW σ τ0 τ I (D ++ P) D [] → (∀ x v, x ∈ D → car σ x v → opS σ v → v ∈ D ++ P) → ∃ A, rW σ τ0 (mCo f i τ) I (D ++ P ++ A) (D ++ P ++ A) [] ∧ ∀ x v, x ∈ D ++ P ++ A → car σ x v → opS σ v → v ∈ D ++ P ++ A := by
  intro f
  induction f with
  | zero =>
    intro i τ D P h1 h2 h
    have := h.len
    rw [List.length_append] at this
    omega
  | succ f ih =>
    intro i τ D P h1 h2 h hcl
    have hlen := h.len
    have h6 : τ 0 0 6 = nI (D ++ P).length := by obtain ⟨L, -, -, a3, -⟩ := h; exact a3
    unfold mCo
    rw [h6]
    cases P with
    | nil =>
      rw [if_pos ((nI_leI (by omega) (by omega)).mpr (by rw [List.append_nil]; omega))]
      rw [List.append_nil] at h hcl ⊢
      exact ⟨[], by rw [List.append_nil]; exact h, by rw [List.append_nil]; exact hcl⟩
    | cons e P =>
      rw [if_neg (fun z => by have := (nI_leI (by omega) (by omega)).mp z; rw [List.length_append, List.length_cons] at this; omega)]
      have h15 : τ 15 0 i = nI e := by
        obtain ⟨L, -, -, -, a4, -⟩ := h
        exact a4 i e (by rw [List.getElem?_append_right (by omega), h1, Nat.sub_self]; rfl)
      obtain ⟨L, -, -, -, -, a5, a6, -⟩ := id h
      have he : e ∈ D ++ e :: P := List.mem_append.mpr (Or.inr List.mem_cons_self)
      have e12 := (a6 e he).1
      rw [h15, nI_clamp (by omega)]
      have hD : e ∉ D := fun z => (List.nodup_append.mp a5).2.2 e z e List.mem_cons_self rfl
      obtain ⟨A, b1, b2⟩ := h.en hi hr he hD
      have ea : D ++ e :: P ++ A = (D ++ [e]) ++ (P ++ A) := by simp
      rw [ea] at b1 b2
      obtain ⟨B, c1, c2⟩ := ih (i + 1) _ (D ++ [e]) (P ++ A) (by rw [List.length_append, h1]; rfl) (by omega) b1 (fun x v hx hc ho => by
        rcases List.mem_append.mp hx with z | z
        · rw [← ea]; exact List.mem_append.mpr (Or.inl (hcl x v z hc ho))
        · rw [List.mem_singleton.mp z] at hc; exact b2 v hc ho)
      have eb : D ++ e :: P ++ (A ++ B) = (D ++ [e]) ++ (P ++ A) ++ B := by simp
      exact ⟨A ++ B, by rw [eb]; exact c1, by rw [eb]; exact c2⟩
theorem fm_ev {σ : Mem} : ∀ S : List Nat, (S.flatMap eC ++ S.flatMap (eR σ)).Perm (S.flatMap (ev σ)) := by
  intro S
  induction S with
  | nil => exact List.Perm.refl _
  | cons e S ih =>
    rw [List.perm_iff_count] at ih ⊢
    intro a
    have q := ih a
    rw [List.flatMap_cons, List.flatMap_cons, List.flatMap_cons]
    unfold ev at q ⊢
    simp only [List.count_append] at q ⊢
    have z : List.count a (List.flatMap (fun e => eC e ++ eR σ e) S) = List.count a (List.flatMap (ev σ) S) := rfl
    omega
theorem clr {σ τ0 τ : Mem} {I : Nat → Prop} {W : List Nat} (hi : IE σ) (hr : RE σ τ0) (h : rW σ τ0 τ I W [] []) (hI : ∀ x, I x → opS σ x → x ∈ W) : ∃ (S : List Nat) (L : List (Nat × Nat)), Cov σ I S ∧ EqW (mClr τ) (L.foldl apM τ0) ∧ L.Perm (S.flatMap (ev σ)) := by
  obtain ⟨A, b1, b2⟩ := rW.co hi hr 13 0 τ [] W rfl rfl h (fun x v hx => absurd hx List.not_mem_nil)
  rw [List.nil_append] at b1 b2
  obtain ⟨L, a1, a2, a3, a4, a5, a6, a7, a8, a9⟩ := b1
  exact ⟨W ++ A, L, ⟨a5, a6, fun x h1 h2 => List.mem_append.mpr (Or.inl (hI x h1 h2)), b2, a9⟩, a1.c _, a2.trans (by rw [List.nil_append]; exact fm_ev _)⟩
