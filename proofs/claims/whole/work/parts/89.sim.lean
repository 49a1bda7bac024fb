/-! What the class's clearing does, as steps. -/
theorem did_dr {f : Nat} (hA : ∀ σ e, e < 12 → QW σ → opC σ 12 ≤ f → Did σ (fun x => x = e) [] 0 (clF f σ e)) {σ : Mem} {lt v : Int32} (hq : QW σ) (ho : opC σ 12 ≤ f) (hv : isB lt ∨ lt = 6 → vp_in v 12) : Did σ (fun x => lt = 6 ∧ x = v.toNatClampNeg) (eM lt v) 0 (drF (clF f) σ lt v) := by
  unfold drF eM
  by_cases h1 : isB lt
  · rw [if_pos h1, if_pos h1]
    refine ⟨[], _, Cov.nil (fun x hx => ?_), List.Perm.of_eq (List.append_nil _).symm, ?_⟩
    · rw [hx.1] at h1; exact absurd (by decide) h1.2
    · show _ = ap (ap (ap (ap (0, σ) (0, 0)) (6 + 2, v.toNatClampNeg)) (7 + 2, v.toNatClampNeg)) (1, 0)
      rw [ap_0, ap_z, ap_z, ap_1]
      rfl
  · rw [if_neg h1, if_neg h1]
    by_cases h2 : lt = 6
    · rw [if_pos h2]
      have e0 : ∀ K i j, K ≠ 0 → dpM σ K i j = σ K i j := fun K i j hK => upK (fun z => hK z.1)
      obtain ⟨S, L, a1, a2, a3⟩ := hA (dpM σ) _ (vin_lt (hv (Or.inr h2))) (QWdp hq) (Nat.le_trans (opC_mono (fun x hx => by unfold opS at hx ⊢; rw [e0 _ _ _ (by decide)] at hx; exact hx) 12) ho)
      refine ⟨S, (0, 0) :: L, a1.of (fun x => e0 _ _ _ (by decide)) (fun x => e0 _ _ _ (by decide)) (fun x j => e0 _ _ _ (by decide)) (fun x j => e0 _ _ _ (by decide)) (fun x _ => ⟨fun z => ⟨h2, z⟩, fun z => z.2⟩), ?_, a3⟩
      rw [fm_of (f := ev (dpM σ)) (g := ev σ) S (fun x _ => ev_of (e0 _ _ _ (by decide)) (fun j => e0 _ _ _ (by decide)) (fun j => e0 _ _ _ (by decide)))] at a2
      exact List.Perm.cons _ a2
    · rw [if_neg h2]
      exact ⟨[], _, Cov.nil (fun x hx => absurd hx.1 h2), List.Perm.of_eq (List.append_nil _).symm, rfl⟩
theorem did_clL {f : Nat} (hA : ∀ σ e, e < 12 → QW σ → opC σ 12 ≤ f → Did σ (fun x => x = e) [] 0 (clF f σ e)) {e wt : Nat} (he : e < 12) (hw : wt ≤ 3) : ∀ n k g σ, σ 13 e 0 = nI wt → k + n = wt → QW σ → opC σ 12 ≤ f → σ 11 e 0 = -1 → Did σ (carF σ e k) (eQ σ e n k) g (clL (clF f) e (3 - k) k g σ) := by
  intro n
  induction n with
  | zero =>
    intro k g σ h13 hk hq ho hc
    have hwt : wtE σ e = wt := by unfold wtE; rw [h13, nI_clamp (by omega)]
    rw [clL_out (by rw [h13]; exact (nI_leI (by omega) (by omega)).mpr (by omega))]
    refine ⟨[], [], Cov.nil (fun x hx => ?_), List.Perm.refl _, rfl⟩
    obtain ⟨j, h1, h2, -⟩ := hx
    rw [hwt] at h2
    omega
  | succ n ih =>
    intro k g σ h13 hk hq ho hc
    have hwt : wtE σ e = wt := by unfold wtE; rw [h13, nI_clamp (by omega)]
    have hle : ¬ σ 13 e 0 ≤ nI k := by rw [h13]; exact fun z => by have := (nI_leI (by omega) (by omega)).mp z; omega
    have hat := QWat hq he hle (by omega)
    rw [clL_in hle (by omega)]
    obtain ⟨S1, L1, c1, p1, r1⟩ := did_dr hA hq ho hat.2
    have hq1 : QW (drF (clF f) σ (σ 14 e k) (σ 15 e k)).2 := QWdr (QWcl f) hq hat.2
    rw [r1] at hq1 ⊢
    have hX : ∀ K x, K = 11 ∨ K = 12 ∨ K = 13 → (K, x) ∉ eM (σ 14 e k) (σ 15 e k) := fun K x hK => mem_eM hK
    obtain ⟨b1, b2, b3, b4⟩ := ends_after (g := 0) hX p1
    have b3 := fun K x j hK => b3 K x j hK (lo_evs lo_eM p1)
    have heS : e ∉ S1 := fun z => (c1.2.1 e z).2 hc
    have h14 : ∀ x j, (L1.foldl ap (0, σ)).2 14 x j = σ 14 x j := fun x j => b3 14 x j (Or.inl rfl)
    have h15 : ∀ x j, (L1.foldl ap (0, σ)).2 15 x j = σ 15 x j := fun x j => b3 15 x j (Or.inr rfl)
    obtain ⟨S2, L2, c2, p2, r2⟩ := ih (k + 1) (g + (L1.foldl ap (0, σ)).1) (L1.foldl ap (0, σ)).2 ((b2 e heS).1.trans h13) (by omega) hq1 (Nat.le_trans (opC_mono (fun x hx => ((b1 x).mp hx).1) 12) ho) ((b2 e heS).2.trans hc)
    have hnS : ∀ x, opS (L1.foldl ap (0, σ)).2 x → x ∉ S1 := fun x hx => ((b1 x).mp hx).2
    refine ⟨S1 ++ S2, L1 ++ L2, Cov.app c1 c2 b1 (fun x v hx => carF_of (b2 x (hnS x hx)).1 (h14 x) (h15 x)) (fun x hx hox => ?_) (fun x hx _ => ⟨k, Nat.le_refl _, by rw [hwt]; omega, hx.1, hx.2⟩) (fun x hx _ => ?_), ?_, ?_⟩
    · obtain ⟨j, j1, j2, j3, j4⟩ := hx
      by_cases z : j = k
      · subst z; exact Or.inl ⟨j3, j4⟩
      · exact Or.inr (Or.inr ((carF_of (b2 e heS).1 (h14 e) (h15 e)).mpr ⟨j, by omega, j2, j3, j4⟩))
    · obtain ⟨j, j1, j2, j3, j4⟩ := (carF_of (b2 e heS).1 (h14 e) (h15 e)).mp hx
      exact ⟨j, by omega, j2, j3, j4⟩
    · rw [eQ_of (h14 e) (h15 e), fm_of (f := ev (L1.foldl ap (0, σ)).2) (g := ev σ) S2 (fun x hx => ev_of (b2 x (hnS x (c2.2.1 x hx).2)).1 (h14 x) (h15 x))] at p2
      rw [List.perm_iff_count] at p1 p2 ⊢
      intro a
      have q1 := p1 a
      have q2 := p2 a
      unfold eQ
      simp only [List.count_append, List.flatMap_append] at q1 q2 ⊢
      omega
    · rw [r2, List.foldl_append, fd_g L1 g σ]
theorem did_cl : ∀ f σ e, e < 12 → QW σ → opC σ 12 ≤ f → Did σ (fun x => x = e) [] 0 (clF f σ e) := by
  intro f
  induction f with
  | zero =>
    intro σ e he hq ho
    refine ⟨[], [], Cov.nil (fun x hx hox => ?_), List.Perm.refl _, rfl⟩
    rw [hx] at hox
    have := opC_lt (σ := σ) (σ1 := up σ 11 e 0 (-1)) (e := e) (fun x hx => by unfold opS up at hx; unfold opS; split at hx; exact absurd rfl hx; exact hx) hox up_self 12 he
    omega
  | succ f ih =>
    intro σ e he hq ho
    unfold clF
    by_cases h1 : σ 11 e 0 = -1
    · rw [if_pos h1]
      exact ⟨[], [], Cov.nil (fun x hx hox => hox (by rw [hx]; exact h1)), List.Perm.refl _, rfl⟩
    · rw [if_neg h1]
      have ho1 : ∀ x, opS (up σ 11 e 0 (-1)) x ↔ opS σ x ∧ x ≠ e := fun x => by
        unfold opS
        by_cases z : x = e
        · rw [z, up_self]; exact ⟨fun y => absurd rfl y, fun y => absurd rfl y.2⟩
        · rw [upK (by omega)]; exact ⟨fun y => ⟨y, z⟩, fun y => y.1⟩
      have e0 : ∀ K i j, K ≠ 11 → up σ 11 e 0 (-1) K i j = σ K i j := fun K i j hK => upK (fun z => hK z.1)
      have hlt := opC_lt (σ := σ) (σ1 := up σ 11 e 0 (-1)) (e := e) (fun x hx => ((ho1 x).mp hx).1) h1 up_self 12 he
      obtain ⟨wt, w1, w2, -⟩ := hq e he
      have hwt : wtE σ e = wt := by unfold wtE; rw [w2, nI_clamp (by omega)]
      obtain ⟨S, L, c, p, r⟩ := did_clL ih he w1 wt 0 1 (up σ 11 e 0 (-1)) ((e0 _ _ _ (by decide)).trans w2) (by omega) (QWup hq (by decide)) (by omega) up_self
      have r : clL (clF f) e 3 0 1 (up σ 11 e 0 (-1)) = L.foldl ap (1, up σ 11 e 0 (-1)) := r
      have hcf : ∀ x k v, carF (up σ 11 e 0 (-1)) x k v ↔ carF σ x k v := fun x k v => carF_of (e0 _ _ _ (by decide)) (fun j => e0 _ _ _ (by decide)) (fun j => e0 _ _ _ (by decide))
      refine ⟨e :: S, (11, e) :: (1, 0) :: (L ++ [(13, e), (12, e)]), Cov.cons he h1 (c.of (fun x => rfl) (fun x => rfl) (fun x j => rfl) (fun x j => rfl) (fun x _ => hcf e 0 x)) ho1 (fun x v _ => hcf x 0 v), ?_, ?_⟩
      · rw [eQ_of (fun j => e0 _ _ _ (by decide)) (fun j => e0 _ _ _ (by decide)), fm_of (f := ev (up σ 11 e 0 (-1))) (g := ev σ) S (fun x _ => ev_of (e0 _ _ _ (by decide)) (fun j => e0 _ _ _ (by decide)) (fun j => e0 _ _ _ (by decide)))] at p
        rw [List.perm_iff_count] at p ⊢
        intro a
        have q := p a
        rw [List.flatMap_cons]
        unfold ev eR eC
        rw [hwt]
        have z1 : List.count a ((11, e) :: (1, 0) :: (L ++ [(13, e), (12, e)])) = List.count a ([(11, e), (1, 0)] ++ (L ++ [(13, e), (12, e)])) := rfl
        rw [z1]
        simp only [List.count_append, List.nil_append] at q ⊢
        have z2 : List.count a (List.flatMap (fun x => ev σ x) S) = List.count a (List.flatMap (ev σ) S) := rfl
        have z3 : List.count a (List.flatMap (fun e => [(11, e), (1, 0)] ++ (eQ σ e (wtE σ e) 0 ++ [(13, e), (12, e)])) S) = List.count a (List.flatMap (ev σ) S) := rfl
        omega
      · rw [List.foldl_cons, List.foldl_cons, List.foldl_append, show ap (0, σ) (11, e) = (0, up σ 11 e 0 (-1)) from ap_z (K := 9), ap_1, show (0 + 1 : Int32) = 1 from rfl, r]
        generalize List.foldl ap (1, up σ 11 e 0 (-1)) L = s
        obtain ⟨g, τ⟩ := s
        show _ = ap (ap (g, τ) (11 + 2, e)) (10 + 2, e)
        rw [ap_z, ap_z]
        rfl
/-- all ends of an owner, one after the other -/
theorem did_ke {q : Int32} (hq0 : ¬ q = -1) : ∀ n k g σ, k + n = 12 → QW σ → Did σ (fun x => k ≤ x ∧ x < 12 ∧ σ 11 x 0 = q) [] g (keL q n k g σ) := by
  intro n
  induction n with
  | zero =>
    intro k g σ hk hq
    exact ⟨[], [], Cov.nil (fun x hx => by omega), List.Perm.refl _, rfl⟩
  | succ n ih =>
    intro k g σ hk hq
    unfold keL
    by_cases h1 : σ 11 k 0 = q
    · rw [if_pos h1]
      obtain ⟨S1, L1, c1, p1, r1⟩ := did_cl 12 σ k (by omega) hq (opC_le 12)
      have hq1 : QW (clF 12 σ k).2 := QWcl 12 σ k hq (by omega)
      rw [r1] at hq1 ⊢
      obtain ⟨b1, b2, b3, b4⟩ := ends_after (g := 0) (fun _ _ _ => List.not_mem_nil) p1
      have b3 := fun K x j hK => b3 K x j hK (lo_evs (fun q h => absurd h List.not_mem_nil) p1)
      have h14 : ∀ x j, (L1.foldl ap (0, σ)).2 14 x j = σ 14 x j := fun x j => b3 14 x j (Or.inl rfl)
      have h15 : ∀ x j, (L1.foldl ap (0, σ)).2 15 x j = σ 15 x j := fun x j => b3 15 x j (Or.inr rfl)
      obtain ⟨S2, L2, c2, p2, r2⟩ := ih (k + 1) (g + (L1.foldl ap (0, σ)).1) (L1.foldl ap (0, σ)).2 (by omega) hq1
      have hnS : ∀ x, opS (L1.foldl ap (0, σ)).2 x → x ∉ S1 := fun x hx => ((b1 x).mp hx).2
      refine ⟨S1 ++ S2, L1 ++ L2, Cov.app c1 c2 b1 (fun x v hx => carF_of (b2 x (hnS x hx)).1 (h14 x) (h15 x)) (fun x hx hox => ?_) (fun x hx _ => by rw [hx]; exact ⟨Nat.le_refl _, by omega, h1⟩) (fun x hx ho => ?_), ?_, ?_⟩
      · by_cases z : x = k
        · exact Or.inl z
        · by_cases y : x ∈ S1
          · exact Or.inr (Or.inl y)
          · exact Or.inr (Or.inr ⟨by omega, hx.2.1, (b2 x y).2.trans hx.2.2⟩)
      · exact ⟨by omega, hx.2.1, (b2 x (hnS x ho)).2.symm.trans hx.2.2⟩
      · rw [fm_of (f := ev (L1.foldl ap (0, σ)).2) (g := ev σ) S2 (fun x hx => ev_of (b2 x (hnS x (c2.2.1 x hx).2)).1 (h14 x) (h15 x))] at p2
        rw [List.nil_append] at p1 p2 ⊢
        rw [List.flatMap_append]
        exact List.Perm.append p1 p2
      · rw [r2, List.foldl_append, fd_g L1 g σ]
    · rw [if_neg h1]
      obtain ⟨S, L, c, p, r⟩ := ih (k + 1) g σ (by omega) hq
      refine ⟨S, L, c.of (fun x => rfl) (fun x => rfl) (fun x j => rfl) (fun x j => rfl) (fun x _ => ⟨fun z => ⟨by omega, z.2⟩, fun z => ⟨?_, z.2⟩⟩), p, r⟩
      rcases Nat.lt_or_ge k x with y | y
      · exact y
      · exact absurd (by rw [show k = x by omega]; exact z.2.2) h1
