/-! The class's constructor: laid by gen/m36.py. -/
def s0M : Mem := fun a _ _ => if a = 8 ∨ a = 11 then -1 else 0
def s1M : Mem := up s0M 2 0 0 1
def stM (ar : Nat → ClassId) (base : Nat) (σ : Mem) (fl : List Value) (a2 a4 a5 a6 : Nat) : Nat → va_E := fun k =>
  if k = 0 then .inr (0, fl) else if k = 7 then .inl (ar 3, 4, refs (fun j => if j < a2 then some (base + ad 7 (j + 1)) else none)) else if k = 29 then .inl (ar 4, 12, refs (fun j => if j < a4 then some (base + ad 12 j) else none))
  else if k = 54 then .inl (ar 3, 6, refs (fun j => if j < a5 then some (base + ad 7 (j + 5)) else none)) else if k = 85 then .inl (ar 5, 12, refs (fun j => if j < a6 then some (base + ad 14 j) else none)) else mem ar base σ k
def rmSy : Room := { frames := 2, cells := 121, slots := 789, locals := 100 }
section ST
variable {D : va_G} {ar : Nat → ClassId} {base n : Nat} {H : Heap} {σ : Mem} {fl : List Value} {a2 a4 a5 a6 : Nat} {F : Nat → va_E} {x : va_E}
theorem st_push (hx : F n = x) (h : va_P D classes (wl base (n + 1) (va_up F n x)) H) : va_P D classes (wl base (n + 1) F) H := by
  rw [wl_congr (M' := F)] at h
  · exact h
  · intro k hk
    by_cases h1 : k = n
    · subst h1; rw [va_up_self, hx]
    · rw [va_up_ne _ _ h1]
theorem st_mem {k : Nat} (h : k ≠ 0 ∧ k ≠ 7 ∧ k ≠ 29 ∧ k ≠ 54 ∧ k ≠ 85) : stM ar base σ fl a2 a4 a5 a6 k = mem ar base σ k := by
  unfold stM
  rw [if_neg h.1, if_neg h.2.1, if_neg h.2.2.1, if_neg h.2.2.2.1, if_neg h.2.2.2.2]
theorem st_fld {fl' : List Value} (h : va_P D classes (wl base n (va_up (stM ar base σ fl a2 a4 a5 a6) 0 (.inr (0, fl')))) H) : va_P D classes (wl base n (stM ar base σ fl' a2 a4 a5 a6)) H := by
  rw [wl_congr (M' := stM ar base σ fl' a2 a4 a5 a6)] at h
  · exact h
  · intro k hk
    by_cases h1 : k = 0
    · subst h1; rw [va_up_self]; rfl
    · rw [va_up_ne _ _ h1]; unfold stM; rw [if_neg h1, if_neg h1]
theorem st_al (hn : n ≤ 122) (h : va_P D classes (wl base n (va_up (stM ar base s0M fl a2 a4 a5 a6) 28 (.inl (ar 2, 4, .inl (fun j => s1M 2 0 j))))) H) : va_P D classes (wl base n (stM ar base s1M fl a2 a4 a5 a6)) H := by
  rw [wl_congr (M' := stM ar base s1M fl a2 a4 a5 a6)] at h
  · exact h
  · intro k hk
    by_cases h1 : k = 28
    · subst h1; rw [va_up_self, st_mem (by decide)]; rfl
    · rw [va_up_ne _ _ h1]
      by_cases h2 : k ≠ 0 ∧ k ≠ 7 ∧ k ≠ 29 ∧ k ≠ 54 ∧ k ≠ 85
      · rw [st_mem h2, st_mem h2]
        obtain ⟨g1, g2, g3⟩ := ad_back k (by omega)
        unfold mem s1M
        refine (cont_ne (k := 2) (i := 0) (by decide) (fun z => h1 ?_) (fun z => by rw [z] at g3; omega) g2).symm
        rw [← g1, z.1, z.2]
        rfl
      · unfold stM
        by_cases g0 : k = 0
        · rw [if_pos g0, if_pos g0]
        · rw [if_neg g0, if_neg g0]
          by_cases g1 : k = 7
          · rw [if_pos g1, if_pos g1]
          · rw [if_neg g1, if_neg g1]
            by_cases g2 : k = 29
            · rw [if_pos g2, if_pos g2]
            · rw [if_neg g2, if_neg g2]
              by_cases g3 : k = 54
              · rw [if_pos g3, if_pos g3]
              · rw [if_neg g3, if_neg g3]
                by_cases g4 : k = 85
                · rw [if_pos g4, if_pos g4]
                · exact absurd ⟨g0, g1, g2, g3, g4⟩ h2
theorem fl_up {g : Nat → Nat} {k v : Nat} (hv : v = g k) : va_up (fun j => if j < k then some (g j) else none) k (some v) = fun j => if j < k + 1 then some (g j) else none := by
  funext j
  unfold va_up
  by_cases h : j = k
  · subst h; subst hv; rw [if_pos rfl, if_pos (Nat.lt_succ_self _)]
  · rw [if_neg h]
    show (if j < k then some (g j) else none) = _
    by_cases h2 : j < k
    · rw [if_pos h2, if_pos (by omega)]
    · rw [if_neg h2, if_neg (by omega)]

theorem st_a2 {k v : Nat} (hv : v = ad 7 (k + 1)) (h : va_P D classes (wl base n (va_up (stM ar base σ fl k a4 a5 a6) 7 (.inl (ar 3, 4, refs (va_up (fun j => if j < k then some (base + ad 7 (j + 1)) else none) k (some (base + v))))))) H) : va_P D classes (wl base n (stM ar base σ fl (k + 1) a4 a5 a6)) H := by
  rw [wl_congr (M' := stM ar base σ fl (k + 1) a4 a5 a6)] at h
  · exact h
  · intro q hq
    by_cases h1 : q = 7
    · subst h1; rw [va_up_self, fl_up (g := fun j => base + ad 7 (j + 1)) (by rw [hv])]; rfl
    · rw [va_up_ne _ _ h1]; unfold stM; by_cases g0 : q = 0
      · rw [if_pos g0, if_pos g0]
      · rw [if_neg g0, if_neg g0]
        rw [if_neg h1, if_neg h1]
theorem st_a4 {k v : Nat} (hv : v = ad 12 k) (h : va_P D classes (wl base n (va_up (stM ar base σ fl a2 k a5 a6) 29 (.inl (ar 4, 12, refs (va_up (fun j => if j < k then some (base + ad 12 j) else none) k (some (base + v))))))) H) : va_P D classes (wl base n (stM ar base σ fl a2 (k + 1) a5 a6)) H := by
  rw [wl_congr (M' := stM ar base σ fl a2 (k + 1) a5 a6)] at h
  · exact h
  · intro q hq
    by_cases h1 : q = 29
    · subst h1; rw [va_up_self, fl_up (g := fun j => base + ad 12 j) (by rw [hv])]; rfl
    · rw [va_up_ne _ _ h1]; unfold stM; by_cases g0 : q = 0
      · rw [if_pos g0, if_pos g0]
      · rw [if_neg g0, if_neg g0]
        by_cases g7 : q = 7
        · rw [if_pos g7, if_pos g7]
        · rw [if_neg g7, if_neg g7]
          rw [if_neg h1, if_neg h1]
theorem st_a5 {k v : Nat} (hv : v = ad 7 (k + 5)) (h : va_P D classes (wl base n (va_up (stM ar base σ fl a2 a4 k a6) 54 (.inl (ar 3, 6, refs (va_up (fun j => if j < k then some (base + ad 7 (j + 5)) else none) k (some (base + v))))))) H) : va_P D classes (wl base n (stM ar base σ fl a2 a4 (k + 1) a6)) H := by
  rw [wl_congr (M' := stM ar base σ fl a2 a4 (k + 1) a6)] at h
  · exact h
  · intro q hq
    by_cases h1 : q = 54
    · subst h1; rw [va_up_self, fl_up (g := fun j => base + ad 7 (j + 5)) (by rw [hv])]; rfl
    · rw [va_up_ne _ _ h1]; unfold stM; by_cases g0 : q = 0
      · rw [if_pos g0, if_pos g0]
      · rw [if_neg g0, if_neg g0]
        by_cases g7 : q = 7
        · rw [if_pos g7, if_pos g7]
        · rw [if_neg g7, if_neg g7]
          by_cases g29 : q = 29
          · rw [if_pos g29, if_pos g29]
          · rw [if_neg g29, if_neg g29]
            rw [if_neg h1, if_neg h1]
theorem st_a6 {k v : Nat} (hv : v = ad 14 k) (h : va_P D classes (wl base n (va_up (stM ar base σ fl a2 a4 a5 k) 85 (.inl (ar 5, 12, refs (va_up (fun j => if j < k then some (base + ad 14 j) else none) k (some (base + v))))))) H) : va_P D classes (wl base n (stM ar base σ fl a2 a4 a5 (k + 1))) H := by
  rw [wl_congr (M' := stM ar base σ fl a2 a4 a5 (k + 1))] at h
  · exact h
  · intro q hq
    by_cases h1 : q = 85
    · subst h1; rw [va_up_self, fl_up (g := fun j => base + ad 14 j) (by rw [hv])]; rfl
    · rw [va_up_ne _ _ h1]; unfold stM; by_cases g0 : q = 0
      · rw [if_pos g0, if_pos g0]
      · rw [if_neg g0, if_neg g0]
        by_cases g7 : q = 7
        · rw [if_pos g7, if_pos g7]
        · rw [if_neg g7, if_neg g7]
          by_cases g29 : q = 29
          · rw [if_pos g29, if_pos g29]
          · rw [if_neg g29, if_neg g29]
            by_cases g54 : q = 54
            · rw [if_pos g54, if_pos g54]
            · rw [if_neg g54, if_neg g54]
              rw [if_neg h1, if_neg h1]
/-- a made contract, block, end is the picture's -/
theorem st_co {c : Nat} (hc : c < 11) (hn : cad c = n) (hσ : ∀ a j, (a = 3 ∨ a = 4 ∨ a = 5 ∨ a = 6 ∨ a = 7) → σ a c j = 0) (hF : ∀ j, j ≤ 4 → F (n + j) = mem ar base σ (n + j)) (h : va_P D classes (wl base (n + 5) (coM ar base (va_up F n x) n)) H) : va_P D classes (wl base (n + 5) F) H := by
  rw [wl_congr (M' := F)] at h
  · exact h
  · intro k hk
    subst hn
    have z4 : (fun j => σ 4 c j) = fun _ => 0 := funext fun j => hσ 4 j (by decide)
    have z5 : (fun j => σ 5 c j) = fun _ => 0 := funext fun j => hσ 5 j (by decide)
    have z6 : (fun j => σ 6 c j) = fun _ => 0 := funext fun j => hσ 6 j (by decide)
    have z7 : (fun j => σ 7 c j) = fun _ => 0 := funext fun j => hσ 7 j (by decide)
    by_cases h0 : k < cad c
    · unfold coM; rw [if_neg (by omega), if_neg (by omega), va_up_ne _ _ (by omega)]
    · obtain ⟨j, rfl, hj⟩ : ∃ j, k = cad c + j ∧ j ≤ 4 := ⟨k - cad c, by omega, by omega⟩
      rw [hF j hj]
      have hj' : j = 0 ∨ j = 1 ∨ j = 2 ∨ j = 3 ∨ j = 4 := by omega
      rcases hj' with rfl | rfl | rfl | rfl | rfl
      · show coM ar base _ (cad c) (cad c) = mem ar base σ (ad 7 c)
        rw [mem_at (by decide) hc]
        unfold coM
        rw [if_pos rfl]
        show _ = (Sum.inr (1, [.ref (base + (cad c + 1)), .ref (base + (cad c + 2)), .ref (base + (cad c + 3)), .ref (base + (cad c + 4)), .int (σ 3 c 0)]) : va_E)
        rw [hσ 3 0 (by decide)]
      · show coM ar base _ (cad c) (cad c + 1) = mem ar base σ (ad 8 c)
        rw [mem_at (by decide) hc]
        unfold coM
        rw [if_neg (by omega), if_pos (by omega)]
        show _ = Sum.inl (ar 0, 9, Sum.inl (fun j => σ 4 c j))
        rw [z4]
      · show coM ar base _ (cad c) (cad c + 2) = mem ar base σ (ad 9 c)
        rw [mem_at (by decide) hc]
        unfold coM
        rw [if_neg (by omega), if_pos (by omega)]
        show _ = Sum.inl (ar 0, 9, Sum.inl (fun j => σ 5 c j))
        rw [z5]
      · show coM ar base _ (cad c) (cad c + 3) = mem ar base σ (ad 10 c)
        rw [mem_at (by decide) hc]
        unfold coM
        rw [if_neg (by omega), if_pos (by omega)]
        show _ = Sum.inl (ar 0, 9, Sum.inl (fun j => σ 6 c j))
        rw [z6]
      · show coM ar base _ (cad c) (cad c + 4) = mem ar base σ (ad 11 c)
        rw [mem_at (by decide) hc]
        unfold coM
        rw [if_neg (by omega), if_pos (by omega)]
        show _ = Sum.inl (ar 0, 9, Sum.inl (fun j => σ 7 c j))
        rw [z7]
theorem st_bl {b : Nat} (hb : b < 12) (hn : 30 + 2 * b = n) (h8 : σ 8 b 0 = -1) (h9 : σ 9 b 0 = 0) (hz : (fun j => σ 10 b j) = fun _ => 0) (hF : ∀ j, j ≤ 1 → F (n + j) = mem ar base σ (n + j)) (h : va_P D classes (wl base (n + 2) (blM ar base (va_up F n x) n)) H) : va_P D classes (wl base (n + 2) F) H := by
  rw [wl_congr (M' := F)] at h
  · exact h
  · intro k hk
    subst hn
    by_cases h0 : k < 30 + 2 * b
    · unfold blM; rw [if_neg (by omega), if_neg (by omega), va_up_ne _ _ (by omega)]
    · obtain ⟨j, rfl, hj⟩ : ∃ j, k = 30 + 2 * b + j ∧ j ≤ 1 := ⟨k - (30 + 2 * b), by omega, by omega⟩
      rw [hF j hj]
      have hj' : j = 0 ∨ j = 1 := by omega
      rcases hj' with rfl | rfl
      · show blM ar base _ (30 + 2 * b) (30 + 2 * b) = mem ar base σ (ad 12 b)
        rw [mem_at (by decide) hb]
        unfold blM
        rw [if_pos rfl]
        show _ = (Sum.inr (2, [.ref (base + (31 + 2 * b)), .int (σ 8 b 0), .int (σ 9 b 0)]) : va_E)
        rw [h8, h9, show 30 + 2 * b + 1 = 31 + 2 * b from by omega]
      · rw [show 30 + 2 * b + 1 = ad 13 b from by show _ = 31 + 2 * b; omega, mem_at (kd := 13) (by decide) hb]
        show blM ar base _ (30 + 2 * b) (31 + 2 * b) = Sum.inl (ar 0, 8, Sum.inl (fun j => σ 10 b j))
        unfold blM
        rw [if_neg (by omega), if_pos (by omega), hz]
theorem st_en {b : Nat} (hb : b < 12) (hn : 86 + 3 * b = n) (h8 : σ 11 b 0 = -1) (h9 : σ 12 b 0 = 0) (h10 : σ 13 b 0 = 0) (hz : (fun j => σ 14 b j) = fun _ => 0) (hz2 : (fun j => σ 15 b j) = fun _ => 0) (hF : ∀ j, j ≤ 2 → F (n + j) = mem ar base σ (n + j)) (h : va_P D classes (wl base (n + 3) (enM ar base (va_up F n x) n)) H) : va_P D classes (wl base (n + 3) F) H := by
  rw [wl_congr (M' := F)] at h
  · exact h
  · intro k hk
    subst hn
    by_cases h0 : k < 86 + 3 * b
    · unfold enM; rw [if_neg (by omega), if_neg (by omega), va_up_ne _ _ (by omega)]
    · obtain ⟨j, rfl, hj⟩ : ∃ j, k = 86 + 3 * b + j ∧ j ≤ 2 := ⟨k - (86 + 3 * b), by omega, by omega⟩
      rw [hF j hj]
      have hj' : j = 0 ∨ j = 1 ∨ j = 2 := by omega
      rcases hj' with rfl | rfl | rfl
      · show enM ar base _ (86 + 3 * b) (86 + 3 * b) = mem ar base σ (ad 14 b)
        rw [mem_at (by decide) hb]
        unfold enM
        rw [if_pos rfl]
        show _ = (Sum.inr (3, [.ref (base + (87 + 3 * b)), .ref (base + (88 + 3 * b)), .int (σ 11 b 0), .int (σ 12 b 0), .int (σ 13 b 0)]) : va_E)
        rw [h8, h9, h10, show 86 + 3 * b + 1 = 87 + 3 * b from by omega, show 86 + 3 * b + 2 = 88 + 3 * b from by omega]
      · rw [show 86 + 3 * b + 1 = ad 15 b from by show _ = 87 + 3 * b; omega, mem_at (kd := 15) (by decide) hb]
        show enM ar base _ (86 + 3 * b) (87 + 3 * b) = Sum.inl (ar 0, 3, Sum.inl (fun j => σ 14 b j))
        unfold enM
        rw [if_neg (by omega), if_pos (by omega), hz]
      · rw [show 86 + 3 * b + 2 = ad 16 b from by show _ = 88 + 3 * b; omega, mem_at (kd := 16) (by decide) hb]
        show enM ar base _ (86 + 3 * b) (88 + 3 * b) = Sum.inl (ar 0, 3, Sum.inl (fun j => σ 15 b j))
        unfold enM
        rw [if_neg (by omega), if_pos (by omega), hz2]
theorem arrV_congr {c : ClassId} {N : Nat} {f g : Nat → Value} (h : ∀ j, j < N → f j = g j) : arrV c N f = arrV c N g := by
  unfold arrV
  rw [show (fun j : Fin N => f j.val) = fun j : Fin N => g j.val from funext fun j => h j.val j.isLt]
theorem refs_at {q : Nat} {cA : ClassId} {N : Nat} {f g : Nat → Option Nat} (hfg : ∀ j, j < N → f j = g j) (h : va_at D classes (q, .inl (cA, N, refs f)) H) : va_at D classes (q, .inl (cA, N, refs g)) H := by
  have h1 : H[q]? = some (vp_cell cA (N, refs f)) := h
  show H[q]? = some (vp_cell cA (N, refs g))
  rw [h1, vp_cell_q, vp_cell_q, arrV_congr (fun j hj => by rw [hfg j hj])]
theorem st_fin (h : va_P D classes (wl base 122 (stM ar base s1M [.ref (base + 1), .int 0, .ref (base + 2), .ref (base + 7), .ref (base + 28), .ref (base + 29), .ref (base + 54), .ref (base + 85), .int 0, .int 0, .int 0, .int 0] 4 12 6 12)) H) : va_P D classes (wl base 122 (mem ar base s1M)) H := by
  intro k q hq
  obtain ⟨hk, rfl⟩ := wl_some hq
  have h1 := wl_at h hk
  by_cases h2 : k ≠ 0 ∧ k ≠ 7 ∧ k ≠ 29 ∧ k ≠ 54 ∧ k ≠ 85
  · rw [st_mem h2] at h1; exact h1
  · by_cases g0 : k = 0
    · subst g0; exact h1
    · by_cases g1 : k = 7
      · subst g1; exact refs_at (fun j hj => if_pos hj) h1
      · by_cases g2 : k = 29
        · subst g2; exact refs_at (fun j hj => if_pos hj) h1
        · by_cases g3 : k = 54
          · subst g3; exact refs_at (fun j hj => if_pos hj) h1
          · by_cases g4 : k = 85
            · subst g4; exact refs_at (fun j hj => if_pos hj) h1
            · exact absurd ⟨g0, g1, g2, g3, g4⟩ h2
end ST
theorem W.cnt {p : Program} {l : Launch} {e : Env} {R : Room} {s : State} {m : MethodId} {args : Array Value} {below : List Frame} {meth : Method} {c : Code} {H : Heap} {locs : List Loc} {cells slots : Nat} {Q : State → Prop} {g : JFrame} (c2 s2 : Nat) (h1 : cells = c2) (h2 : slots = s2) (k : W p l e R s m args below meth c H locs c2 s2 Q g) : W p l e R s m args below meth c H locs cells slots Q g := by
  subst h1; subst h2; exact k
