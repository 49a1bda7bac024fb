/-! Clearing away as a list of small steps (K, i): K = 0 one more message dropped, K = 1 one more thing gone, else the cell of kind K at i is wiped. -/
def vK (K : Nat) : Int32 := if K = 8 ∨ K = 11 then -1 else 0
def ap (s : Int32 × Mem) (p : Nat × Nat) : Int32 × Mem := if p.1 = 0 then (s.1, up s.2 0 0 3 (s.2 0 0 3 + 1)) else if p.1 = 1 then (s.1 + 1, s.2) else (s.1, up s.2 p.1 p.2 0 (vK p.1))
theorem ap_0 {g : Int32} {σ : Mem} {i : Nat} : ap (g, σ) (0, i) = (g, dpM σ) := rfl
theorem ap_1 {g : Int32} {σ : Mem} {i : Nat} : ap (g, σ) (1, i) = (g + 1, σ) := rfl
theorem ap_z {g : Int32} {σ : Mem} {K i : Nat} : ap (g, σ) (K + 2, i) = (g, up σ (K + 2) i 0 (vK (K + 2))) := by
  unfold ap
  rw [if_neg (show ¬ K + 2 = 0 by omega), if_neg (show ¬ K + 2 = 1 by omega)]
theorem up_cm {σ : Mem} {k i j k2 i2 j2 : Nat} {v w : Int32} (h : ¬ (k = k2 ∧ i = i2 ∧ j = j2) ∨ v = w) : up (up σ k i j v) k2 i2 j2 w = up (up σ k2 i2 j2 w) k i j v := by
  funext a b c
  unfold up
  by_cases h1 : a = k ∧ b = i ∧ c = j
  · by_cases h2 : a = k2 ∧ b = i2 ∧ c = j2
    · simp only [if_pos h1, if_pos h2]
      rcases h with h | h
      · exact absurd ⟨h1.1.symm.trans h2.1, h1.2.1.symm.trans h2.2.1, h1.2.2.symm.trans h2.2.2⟩ h
      · exact h.symm
    · simp only [if_neg h2, if_pos h1]
  · by_cases h2 : a = k2 ∧ b = i2 ∧ c = j2
    · simp only [if_pos h2, if_neg h1]
    · simp only [if_neg h2, if_neg h1]
theorem ap_comm (s : Int32 × Mem) (p q : Nat × Nat) : ap (ap s p) q = ap (ap s q) p := by
  obtain ⟨g, σ⟩ := s
  obtain ⟨K, i⟩ := p
  obtain ⟨M, j⟩ := q
  rcases K with _ | _ | K <;> rcases M with _ | _ | M
  · rfl
  · rfl
  · rw [ap_0, ap_z, ap_z, ap_0]
    unfold dpM
    rw [upK (by omega), up_cm (by omega)]
  · rfl
  · rfl
  · show ap (ap (g, σ) (1, i)) _ = ap _ (1, i)
    rw [ap_1, ap_z, ap_z, ap_1]
  · rw [ap_z, ap_0, ap_0, ap_z]
    unfold dpM
    rw [upK (by omega), up_cm (by omega)]
  · show ap (ap (g, σ) _) (1, j) = ap (ap _ (1, j)) _
    rw [ap_1, ap_z, ap_z, ap_1]
  · rw [ap_z, ap_z, ap_z, ap_z, up_cm]
    by_cases h : K + 2 = M + 2
    · exact Or.inr (by rw [h])
    · exact Or.inl (fun z => h z.1)
theorem fd_perm {L L' : List (Nat × Nat)} (h : L.Perm L') (s : Int32 × Mem) : L.foldl ap s = L'.foldl ap s := h.foldl_eq' (fun x _ y _ z => ap_comm z x y) s
theorem fd_out {K i j : Nat} (h0 : ¬ (K = 0 ∧ i = 0 ∧ j = 3)) : ∀ (L : List (Nat × Nat)) (s : Int32 × Mem), ¬ (j = 0 ∧ 2 ≤ K ∧ (K, i) ∈ L) → (L.foldl ap s).2 K i j = s.2 K i j := by
  intro L
  induction L with
  | nil => intro s _; rfl
  | cons p L ih =>
    intro s h
    rw [List.foldl_cons, ih _ (fun z => h ⟨z.1, z.2.1, List.mem_cons_of_mem _ z.2.2⟩)]
    obtain ⟨g, σ⟩ := s
    obtain ⟨M, m⟩ := p
    rcases M with _ | _ | M
    · rw [ap_0]; exact upK (by omega)
    · rfl
    · rw [ap_z]
      refine upK (fun z => h ⟨z.2.2, by omega, ?_⟩)
      rw [z.1, z.2.1]
      exact List.mem_cons_self
theorem fd_in {K i : Nat} (h2 : 2 ≤ K) : ∀ (L : List (Nat × Nat)) (s : Int32 × Mem), (K, i) ∈ L → (L.foldl ap s).2 K i 0 = vK K := by
  intro L
  induction L with
  | nil => intro s h; cases h
  | cons p L ih =>
    intro s h
    rw [List.foldl_cons]
    by_cases h1 : (K, i) ∈ L
    · exact ih _ h1
    · rw [fd_out (by omega) _ _ (fun z => h1 z.2.2)]
      have hp : (K, i) = p := by
        rcases List.mem_cons.mp h with z | z
        · exact z
        · exact absurd z h1
      rw [← hp]
      obtain ⟨M, rfl⟩ : ∃ M, K = M + 2 := ⟨K - 2, by omega⟩
      obtain ⟨g, σ⟩ := s
      rw [ap_z]
      exact up_self
theorem fd_g : ∀ (L : List (Nat × Nat)) (g : Int32) (σ : Mem), L.foldl ap (g, σ) = (g + (L.foldl ap (0, σ)).1, (L.foldl ap (0, σ)).2) := by
  intro L
  induction L with
  | nil => intro g σ; show (g, σ) = (g + 0, σ); rw [Int32.add_zero]
  | cons p L ih =>
    intro g σ
    obtain ⟨M, m⟩ := p
    rw [List.foldl_cons, List.foldl_cons]
    rcases M with _ | _ | M
    · rw [ap_0, ap_0]; exact ih g _
    · show List.foldl ap (ap (g, σ) (1, m)) L = (g + (List.foldl ap (ap (0, σ) (1, m)) L).1, (List.foldl ap (ap (0, σ) (1, m)) L).2)
      rw [ap_1, ap_1, ih (g + 1), ih (0 + 1)]
      show (_, _) = (g + (0 + 1 + _), _)
      rw [Int32.zero_add, ← Int32.add_assoc]
    · rw [ap_z, ap_z]; exact ih g _
/-- the steps of one end: it closes; its messages are dropped; its queue and state are wiped -/
def eC (e : Nat) : List (Nat × Nat) := [(11, e), (1, 0)]
def eM (lt v : Int32) : List (Nat × Nat) := (0, 0) :: (if isB lt then [(8, v.toNatClampNeg), (9, v.toNatClampNeg), (1, 0)] else [])
def eQ (σ : Mem) (e : Nat) : Nat → Nat → List (Nat × Nat)
  | 0, _ => []
  | n + 1, k => eM (σ 14 e k) (σ 15 e k) ++ eQ σ e n (k + 1)
def eR (σ : Mem) (e : Nat) : List (Nat × Nat) := eQ σ e (wtE σ e) 0 ++ [(13, e), (12, e)]
def ev (σ : Mem) (e : Nat) : List (Nat × Nat) := eC e ++ eR σ e
def opS (σ : Mem) (x : Nat) : Prop := ¬ σ 11 x 0 = -1
def carF (σ : Mem) (e k v : Nat) : Prop := ∃ j, k ≤ j ∧ j < wtE σ e ∧ σ 14 e j = 6 ∧ v = (σ 15 e j).toNatClampNeg
def car (σ : Mem) (e v : Nat) : Prop := carF σ e 0 v
/-- S is the least set of ends not closed that holds those of I and every such end that a message to one of S carries -/
def Cov (σ : Mem) (I : Nat → Prop) (S : List Nat) : Prop := S.Nodup ∧ (∀ x, x ∈ S → x < 12 ∧ opS σ x) ∧ (∀ x, I x → opS σ x → x ∈ S) ∧ (∀ x v, x ∈ S → car σ x v → opS σ v → v ∈ S) ∧ ∀ C : Nat → Prop, (∀ x, I x → opS σ x → C x) → (∀ x v, opS σ x → C x → car σ x v → opS σ v → C v) → ∀ x, x ∈ S → C x
theorem Cov.sub {σ : Mem} {I : Nat → Prop} {S T : List Nat} (h : Cov σ I S) (h2 : Cov σ I T) : ∀ x, x ∈ S → x ∈ T := h.2.2.2.2 (fun x => x ∈ T) h2.2.2.1 (fun x v _ hx => h2.2.2.2.1 x v hx)
theorem Cov.uniq {σ : Mem} {I : Nat → Prop} {S T : List Nat} (h : Cov σ I S) (h2 : Cov σ I T) : S.Perm T := (List.perm_ext_iff_of_nodup h.1 h2.1).mpr (fun x => ⟨h.sub h2 x, h2.sub h x⟩)
theorem Cov.app {σ σ1 : Mem} {I I1 I2 : Nat → Prop} {S1 S2 : List Nat} (h1 : Cov σ I1 S1) (h2 : Cov σ1 I2 S2) (ho : ∀ x, opS σ1 x ↔ opS σ x ∧ x ∉ S1) (hc : ∀ x v, opS σ1 x → (car σ1 x v ↔ car σ x v)) (hI : ∀ x, I x → opS σ x → I1 x ∨ x ∈ S1 ∨ I2 x) (hI1 : ∀ x, I1 x → opS σ x → I x) (hI2 : ∀ x, I2 x → opS σ1 x → I x) : Cov σ I (S1 ++ S2) := by
  obtain ⟨a1, a2, a3, a4, a5⟩ := h1
  obtain ⟨b1, b2, b3, b4, b5⟩ := h2
  refine ⟨List.nodup_append.mpr ⟨a1, b1, fun x hx y hy e => ((ho y).mp (b2 y hy).2).2 (e ▸ hx)⟩, fun x hx => ?_, fun x hx hox => ?_, fun x v hx hcv hov => ?_, fun C c1 c2 x hx => ?_⟩
  · rcases List.mem_append.mp hx with z | z
    · exact a2 x z
    · exact ⟨(b2 x z).1, ((ho x).mp (b2 x z).2).1⟩
  · rcases hI x hx hox with z | z | z
    · exact List.mem_append.mpr (Or.inl (a3 x z hox))
    · exact List.mem_append.mpr (Or.inl z)
    · by_cases y : x ∈ S1
      · exact List.mem_append.mpr (Or.inl y)
      · exact List.mem_append.mpr (Or.inr (b3 x z ((ho x).mpr ⟨hox, y⟩)))
  · by_cases y : v ∈ S1
    · exact List.mem_append.mpr (Or.inl y)
    · rcases List.mem_append.mp hx with z | z
      · exact absurd (a4 x v z hcv hov) y
      · exact List.mem_append.mpr (Or.inr (b4 x v z ((hc x v (b2 x z).2).mpr hcv) ((ho v).mpr ⟨hov, y⟩)))
  · rcases List.mem_append.mp hx with z | z
    · exact a5 C (fun x h1 h2 => c1 x (hI1 x h1 h2) h2) c2 x z
    · exact b5 C (fun x h1 h2 => c1 x (hI2 x h1 h2) ((ho x).mp h2).1) (fun x v h1 h2 h3 h4 => c2 x v ((ho x).mp h1).1 h2 ((hc x v h1).mp h3) ((ho v).mp h4).1) x z
theorem Cov.cons {σ σ1 : Mem} {e : Nat} {S : List Nat} (he : e < 12) (hoe : opS σ e) (h : Cov σ1 (car σ e) S) (ho : ∀ x, opS σ1 x ↔ opS σ x ∧ x ≠ e) (hc : ∀ x v, x ≠ e → (car σ1 x v ↔ car σ x v)) : Cov σ (fun x => x = e) (e :: S) := by
  obtain ⟨b1, b2, b3, b4, b5⟩ := h
  refine ⟨List.nodup_cons.mpr ⟨fun z => ((ho e).mp (b2 e z).2).2 rfl, b1⟩, fun x hx => ?_, fun x hx hox => by rw [hx]; exact List.mem_cons_self, fun x v hx hcv hov => ?_, fun C c1 c2 x hx => ?_⟩
  · rcases List.mem_cons.mp hx with z | z
    · rw [z]; exact ⟨he, hoe⟩
    · exact ⟨(b2 x z).1, ((ho x).mp (b2 x z).2).1⟩
  · by_cases y : v = e
    · rw [y]; exact List.mem_cons_self
    · rcases List.mem_cons.mp hx with z | z
      · rw [z] at hcv; exact List.mem_cons_of_mem _ (b3 v hcv ((ho v).mpr ⟨hov, y⟩))
      · exact List.mem_cons_of_mem _ (b4 x v z ((hc x v (((ho x).mp (b2 x z).2).2)).mpr hcv) ((ho v).mpr ⟨hov, y⟩))
  · have ce : C e := c1 e rfl hoe
    rcases List.mem_cons.mp hx with z | z
    · rw [z]; exact ce
    · exact b5 C (fun x h1 h2 => c2 e x hoe ce h1 ((ho x).mp h2).1) (fun x v h1 h2 h3 h4 => c2 x v ((ho x).mp h1).1 h2 ((hc x v ((ho x).mp h1).2).mp h3) ((ho v).mp h4).1) x z
theorem Cov.nil {σ : Mem} {I : Nat → Prop} (h : ∀ x, I x → ¬ opS σ x) : Cov σ I [] := ⟨List.nodup_nil, fun x hx => absurd hx List.not_mem_nil, fun x h1 h2 => absurd h2 (h x h1), fun x v hx => absurd hx List.not_mem_nil, fun C _ _ x hx => absurd hx List.not_mem_nil⟩
theorem wt_of {σ σ1 : Mem} {e : Nat} (h : σ1 13 e 0 = σ 13 e 0) : wtE σ1 e = wtE σ e := by unfold wtE; rw [h]
theorem carF_of {σ σ1 : Mem} {e k v : Nat} (h : σ1 13 e 0 = σ 13 e 0) (h4 : ∀ j, σ1 14 e j = σ 14 e j) (h5 : ∀ j, σ1 15 e j = σ 15 e j) : carF σ1 e k v ↔ carF σ e k v := by
  unfold carF
  rw [wt_of h]
  constructor
  · rintro ⟨j, a, b, c, d⟩; exact ⟨j, a, b, by rw [← h4]; exact c, by rw [← h5]; exact d⟩
  · rintro ⟨j, a, b, c, d⟩; exact ⟨j, a, b, by rw [h4]; exact c, by rw [h5]; exact d⟩
theorem eQ_of {σ σ1 : Mem} {e : Nat} (h4 : ∀ j, σ1 14 e j = σ 14 e j) (h5 : ∀ j, σ1 15 e j = σ 15 e j) : ∀ n k, eQ σ1 e n k = eQ σ e n k := by
  intro n
  induction n with
  | zero => intro k; rfl
  | succ n ih => intro k; unfold eQ; rw [h4, h5, ih]
theorem ev_of {σ σ1 : Mem} {e : Nat} (h : σ1 13 e 0 = σ 13 e 0) (h4 : ∀ j, σ1 14 e j = σ 14 e j) (h5 : ∀ j, σ1 15 e j = σ 15 e j) : ev σ1 e = ev σ e := by
  unfold ev eR
  rw [wt_of h, eQ_of h4 h5]
theorem fm_of {α β : Type} {f g : α → List β} : ∀ S : List α, (∀ x, x ∈ S → f x = g x) → S.flatMap f = S.flatMap g := by
  intro S
  induction S with
  | nil => intro _; rfl
  | cons a S ih =>
    intro h
    rw [List.flatMap_cons, List.flatMap_cons, h a List.mem_cons_self, ih (fun x hx => h x (List.mem_cons_of_mem _ hx))]
/-- nothing but what concerns the ends matters -/
theorem Cov.of {σ σ1 : Mem} {I I1 : Nat → Prop} {S : List Nat} (h : Cov σ1 I1 S) (h1 : ∀ x, σ1 11 x 0 = σ 11 x 0) (h3 : ∀ x, σ1 13 x 0 = σ 13 x 0) (h4 : ∀ x j, σ1 14 x j = σ 14 x j) (h5 : ∀ x j, σ1 15 x j = σ 15 x j) (hI : ∀ x, opS σ x → (I1 x ↔ I x)) : Cov σ I S := by
  have ho : ∀ x, opS σ1 x ↔ opS σ x := fun x => by unfold opS; rw [h1]
  have hc : ∀ x v, car σ1 x v ↔ car σ x v := fun x v => carF_of (h3 x) (h4 x) (h5 x)
  obtain ⟨b1, b2, b3, b4, b5⟩ := h
  exact ⟨b1, fun x hx => ⟨(b2 x hx).1, (ho x).mp (b2 x hx).2⟩, fun x a b => b3 x ((hI x b).mpr a) ((ho x).mpr b), fun x v a b c => b4 x v a ((hc x v).mpr b) ((ho v).mpr c), fun C c1 c2 => b5 C (fun x a b => c1 x ((hI x ((ho x).mp b)).mp a) ((ho x).mp b)) (fun x v a b c d => c2 x v ((ho x).mp a) b ((hc x v).mp c) ((ho v).mp d))⟩
theorem mem_eM {K i : Nat} {lt v : Int32} (hK : K = 11 ∨ K = 12 ∨ K = 13) : (K, i) ∉ eM lt v := by
  unfold eM
  intro h
  split at h
  · simp at h; omega
  · simp at h; omega
theorem mem_eQ {σ : Mem} {e K i : Nat} (hK : K = 11 ∨ K = 12 ∨ K = 13) : ∀ n k, (K, i) ∉ eQ σ e n k := by
  intro n
  induction n with
  | zero => intro k h; cases h
  | succ n ih =>
    intro k h
    unfold eQ at h
    rcases List.mem_append.mp h with z | z
    · exact mem_eM hK z
    · exact ih _ z
theorem mem_ev {σ : Mem} {e x K : Nat} (hK : K = 11 ∨ K = 12 ∨ K = 13) : (K, x) ∈ ev σ e ↔ x = e := by
  unfold ev eR eC
  have h := mem_eQ (σ := σ) (e := e) (i := x) hK (wtE σ e) 0
  simp only [List.mem_append, List.mem_cons, Prod.mk.injEq, List.not_mem_nil, or_false]
  constructor
  · rintro ((z | z) | z | z | z)
    · exact z.2
    · omega
    · exact absurd z h
    · exact z.2
    · exact z.2
  · intro z
    rcases hK with y | y | y
    · exact Or.inl (Or.inl ⟨y, z⟩)
    · exact Or.inr (Or.inr (Or.inr ⟨y, z⟩))
    · exact Or.inr (Or.inr (Or.inl ⟨y, z⟩))
theorem mem_evs {σ : Mem} {S : List Nat} {x K : Nat} (hK : K = 11 ∨ K = 12 ∨ K = 13) : (K, x) ∈ S.flatMap (ev σ) ↔ x ∈ S := by
  rw [List.mem_flatMap]
  constructor
  · rintro ⟨e, h1, h2⟩; rw [(mem_ev hK).mp h2]; exact h1
  · intro h; exact ⟨x, h, (mem_ev hK).mpr rfl⟩
/-- the class did: steps X, and the clearing of a covering set of I -/
def Did (σ : Mem) (I : Nat → Prop) (X : List (Nat × Nat)) (g : Int32) (r : Int32 × Mem) : Prop := ∃ (S : List Nat) (L : List (Nat × Nat)), Cov σ I S ∧ L.Perm (X ++ S.flatMap (ev σ)) ∧ r = L.foldl ap (g, σ)
/-- what a run of the class's steps leaves of the ends -/
theorem ends_after {σ : Mem} {S : List Nat} {X L : List (Nat × Nat)} {g : Int32} (hX : ∀ K x, K = 11 ∨ K = 12 ∨ K = 13 → (K, x) ∉ X) (hL : L.Perm (X ++ S.flatMap (ev σ))) :
    (∀ x, opS (L.foldl ap (g, σ)).2 x ↔ opS σ x ∧ x ∉ S) ∧ (∀ x, x ∉ S → (L.foldl ap (g, σ)).2 13 x 0 = σ 13 x 0 ∧ (L.foldl ap (g, σ)).2 11 x 0 = σ 11 x 0) ∧ (∀ K x j, K = 14 ∨ K = 15 → (∀ q, q ∈ L → q.1 < 14) → (L.foldl ap (g, σ)).2 K x j = σ K x j) ∧ ∀ K x, K = 11 ∨ K = 12 ∨ K = 13 → ((K, x) ∈ L ↔ x ∈ S) := by
  have hm : ∀ K x, K = 11 ∨ K = 12 ∨ K = 13 → ((K, x) ∈ L ↔ x ∈ S) := fun K x hK => by
    rw [hL.mem_iff, List.mem_append, mem_evs hK]
    exact ⟨fun z => z.elim (fun y => absurd y (hX K x hK)) id, Or.inr⟩
  refine ⟨fun x => ?_, fun x hx => ⟨?_, ?_⟩, fun K x j hK hq => ?_, hm⟩
  · unfold opS
    by_cases h : x ∈ S
    · rw [fd_in (by omega) L _ ((hm 11 x (by omega)).mpr h)]
      exact ⟨fun z => absurd rfl z, fun z => absurd h z.2⟩
    · rw [fd_out (by omega) L _ (fun z => h ((hm 11 x (by omega)).mp z.2.2))]
      exact ⟨fun z => ⟨z, h⟩, fun z => z.1⟩
  · exact fd_out (by omega) L _ (fun z => hx ((hm 13 x (by omega)).mp z.2.2))
  · exact fd_out (by omega) L _ (fun z => hx ((hm 11 x (by omega)).mp z.2.2))
  · exact fd_out (by omega) L _ (fun z => by have := hq _ z.2.2; simp at this; omega)
theorem lo_eM {lt v : Int32} : ∀ q, q ∈ eM lt v → q.1 < 14 := by
  intro q h
  unfold eM at h
  split at h
  · simp at h; rcases h with z | z | z | z <;> subst z <;> simp
  · simp at h; subst h; decide
theorem lo_eQ {σ : Mem} {e : Nat} : ∀ n k q, q ∈ eQ σ e n k → q.1 < 14 := by
  intro n
  induction n with
  | zero => intro k q h; cases h
  | succ n ih =>
    intro k q h
    unfold eQ at h
    rcases List.mem_append.mp h with z | z
    · exact lo_eM q z
    · exact ih _ q z
theorem lo_ev {σ : Mem} {e : Nat} : ∀ q, q ∈ ev σ e → q.1 < 14 := by
  intro q h
  unfold ev eR eC at h
  rcases List.mem_append.mp h with z | z
  · simp at z; rcases z with z | z <;> subst z <;> simp
  · rcases List.mem_append.mp z with y | y
    · exact lo_eQ _ _ q y
    · simp at y; rcases y with y | y <;> subst y <;> simp
theorem lo_evs {σ : Mem} {S : List Nat} {X L : List (Nat × Nat)} (hX : ∀ q, q ∈ X → q.1 < 14) (hL : L.Perm (X ++ S.flatMap (ev σ))) : ∀ q, q ∈ L → q.1 < 14 := by
  intro q hq
  rcases List.mem_append.mp (hL.mem_iff.mp hq) with z | z
  · exact hX q z
  · obtain ⟨e, -, h⟩ := List.mem_flatMap.mp z
    exact lo_ev q h
/-- ends of the class that are not closed -/
def opC (σ : Mem) : Nat → Nat
  | 0 => 0
  | n + 1 => opC σ n + (if σ 11 n 0 = -1 then 0 else 1)
theorem opC_mono {σ σ1 : Mem} (h : ∀ x, opS σ1 x → opS σ x) : ∀ n, opC σ1 n ≤ opC σ n := by
  intro n
  induction n with
  | zero => exact Nat.le_refl _
  | succ n ih =>
    unfold opC
    by_cases h1 : σ1 11 n 0 = -1
    · rw [if_pos h1]; omega
    · rw [if_neg h1, if_neg (h n h1)]; omega
theorem opC_lt {σ σ1 : Mem} {e : Nat} (h : ∀ x, opS σ1 x → opS σ x) (h1 : opS σ e) (h2 : σ1 11 e 0 = -1) : ∀ n, e < n → opC σ1 n + 1 ≤ opC σ n := by
  intro n
  induction n with
  | zero => intro h; omega
  | succ n ih =>
    intro he
    unfold opC
    by_cases z : e = n
    · subst z
      have := opC_mono h e
      rw [if_pos h2, if_neg h1]; omega
    · have := ih (by omega)
      by_cases y : σ1 11 n 0 = -1
      · rw [if_pos y]; omega
      · rw [if_neg y, if_neg (h n y)]; omega
theorem opC_le {σ : Mem} : ∀ n, opC σ n ≤ n := by
  intro n
  induction n with
  | zero => exact Nat.le_refl _
  | succ n ih => unfold opC; split <;> omega
