/-! The class's cells as a picture of a memory σ of ints: σ kind i j. Cells stand in the order in which the constructor makes them. -/
abbrev Mem : Type := Nat → Nat → Nat → Int32
def up (σ : Mem) (k i j : Nat) (v : Int32) : Mem := fun a b c => if a = k ∧ b = i ∧ c = j then v else σ a b c
theorem up_self {σ : Mem} {k i j : Nat} {v : Int32} : up σ k i j v k i j = v := by simp [up]
/-- the place of contract number c: 0 the draft, 1 .. 4 the contracts, 5 .. 10 the channels' -/
def cad (c : Nat) : Nat := if c = 0 then 2 else if c < 5 then 8 + 5 * (c - 1) else 55 + 5 * (c - 5)
/-- the place of a cell of a kind -/
def ad (kd i : Nat) : Nat := match kd with
  | 0 => 0 | 1 => 1 | 2 => 7 | 3 => 28 | 4 => 29 | 5 => 54 | 6 => 85
  | 7 => cad i | 8 => cad i + 1 | 9 => cad i + 2 | 10 => cad i + 3 | 11 => cad i + 4
  | 12 => 30 + 2 * i | 13 => 31 + 2 * i | 14 => 86 + 3 * i | 15 => 87 + 3 * i | _ => 88 + 3 * i
def adN (kd : Nat) : Nat := if kd < 7 then 1 else if kd < 12 then 11 else 12
def ckOf (k : Nat) : Nat := if k = 0 then 0 else if k = 1 then 1 else if k < 7 then 7 + (k - 2) else if k = 7 then 2 else if k < 28 then 7 + (k - 8) % 5 else if k = 28 then 3 else if k = 29 then 4 else if k < 54 then 12 + (k - 30) % 2 else if k = 54 then 5 else if k < 85 then 7 + (k - 55) % 5 else if k = 85 then 6 else 14 + (k - 86) % 3
def ciOf (k : Nat) : Nat := if k < 8 then 0 else if k < 28 then 1 + (k - 8) / 5 else if k < 30 then 0 else if k < 54 then (k - 30) / 2 else if k = 54 then 0 else if k < 85 then 5 + (k - 55) / 5 else if k = 85 then 0 else (k - 86) / 3
theorem ad_ok : ∀ kd, kd < 17 → ∀ i, i < adN kd → (ckOf (ad kd i) = kd ∧ ciOf (ad kd i) = i ∧ ad kd i < 122) := by decide +kernel
theorem ad_back : ∀ k, k < 122 → (ad (ckOf k) (ciOf k) = k ∧ ckOf k < 17 ∧ ciOf k < adN (ckOf k)) := by decide +kernel
theorem ad_lt {kd i : Nat} (h : kd < 17) (hi : i < adN kd) : ad kd i < 122 := (ad_ok kd h i hi).2.2
abbrev refs (f : Nat → Option Nat) : (Nat → Int32) ⊕ (Nat → Int64) ⊕ (Nat → UInt32) ⊕ (Nat → UInt64) ⊕ (Nat → Option Nat) := .inr (.inr (.inr (.inr f)))
/-- what the cell of a kind holds -/
def cont (ar : Nat → ClassId) (base : Nat) (σ : Mem) (kd i : Nat) : va_E := match kd with
  | 0 => .inr (0, [.ref (base + ad 1 0), .int (σ 0 0 0), .ref (base + ad 7 0), .ref (base + ad 2 0), .ref (base + ad 3 0), .ref (base + ad 4 0), .ref (base + ad 5 0), .ref (base + ad 6 0), .int (σ 0 0 1), .int (σ 0 0 2), .int (σ 0 0 3), .int (σ 0 0 4)])
  | 1 => .inl (ar 1, 36, .inl (fun j => σ 1 0 j))
  | 2 => .inl (ar 3, 4, refs (fun j => some (base + ad 7 (j + 1))))
  | 3 => .inl (ar 2, 4, .inl (fun j => σ 2 0 j))
  | 4 => .inl (ar 4, 12, refs (fun j => some (base + ad 12 j)))
  | 5 => .inl (ar 3, 6, refs (fun j => some (base + ad 7 (j + 5))))
  | 6 => .inl (ar 5, 12, refs (fun j => some (base + ad 14 j)))
  | 7 => .inr (1, [.ref (base + ad 8 i), .ref (base + ad 9 i), .ref (base + ad 10 i), .ref (base + ad 11 i), .int (σ 3 i 0)])
  | 8 => .inl (ar 0, 9, .inl (fun j => σ 4 i j))
  | 9 => .inl (ar 0, 9, .inl (fun j => σ 5 i j))
  | 10 => .inl (ar 0, 9, .inl (fun j => σ 6 i j))
  | 11 => .inl (ar 0, 9, .inl (fun j => σ 7 i j))
  | 12 => .inr (2, [.ref (base + ad 13 i), .int (σ 8 i 0), .int (σ 9 i 0)])
  | 13 => .inl (ar 0, 8, .inl (fun j => σ 10 i j))
  | 14 => .inr (3, [.ref (base + ad 15 i), .ref (base + ad 16 i), .int (σ 11 i 0), .int (σ 12 i 0), .int (σ 13 i 0)])
  | 15 => .inl (ar 0, 3, .inl (fun j => σ 14 i j))
  | _ => .inl (ar 0, 3, .inl (fun j => σ 15 i j))
def mem (ar : Nat → ClassId) (base : Nat) (σ : Mem) (k : Nat) : va_E := cont ar base σ (ckOf k) (ciOf k)
theorem mem_at {ar : Nat → ClassId} {base : Nat} {σ : Mem} {kd i : Nat} (h : kd < 17) (hi : i < adN kd) : mem ar base σ (ad kd i) = cont ar base σ kd i := by
  obtain ⟨h1, h2, -⟩ := ad_ok kd h i hi
  simp only [mem, h1, h2]
/-- the kind of the cells in which an int of kind k lies -/
def ow (k : Nat) : Nat := match k with
  | 0 => 0 | 1 => 1 | 2 => 3 | 3 => 7 | 4 => 8 | 5 => 9 | 6 => 10 | 7 => 11 | 8 => 12 | 9 => 12 | 10 => 13 | 11 => 14 | 12 => 14 | 13 => 14 | 14 => 15 | _ => 16
theorem cont_ne {ar : Nat → ClassId} {base : Nat} {σ : Mem} {k i j : Nat} {v : Int32} (hk : k < 16) {kd' i' : Nat} (h : ¬ (kd' = ow k ∧ i' = i)) (h0 : adN kd' = 1 → i' = 0) (hkd : kd' < 17) : cont ar base (up σ k i j v) kd' i' = cont ar base σ kd' i' := by
  have hk' : k = 0 ∨ k = 1 ∨ k = 2 ∨ k = 3 ∨ k = 4 ∨ k = 5 ∨ k = 6 ∨ k = 7 ∨ k = 8 ∨ k = 9 ∨ k = 10 ∨ k = 11 ∨ k = 12 ∨ k = 13 ∨ k = 14 ∨ k = 15 := by omega
  have hd' : kd' = 0 ∨ kd' = 1 ∨ kd' = 2 ∨ kd' = 3 ∨ kd' = 4 ∨ kd' = 5 ∨ kd' = 6 ∨ kd' = 7 ∨ kd' = 8 ∨ kd' = 9 ∨ kd' = 10 ∨ kd' = 11 ∨ kd' = 12 ∨ kd' = 13 ∨ kd' = 14 ∨ kd' = 15 ∨ kd' = 16 := by omega
  rcases hd' with rfl | rfl | rfl | rfl | rfl | rfl | rfl | rfl | rfl | rfl | rfl | rfl | rfl | rfl | rfl | rfl | rfl <;>
    rcases hk' with rfl | rfl | rfl | rfl | rfl | rfl | rfl | rfl | rfl | rfl | rfl | rfl | rfl | rfl | rfl | rfl <;>
    first
    | rfl
    | (simp [ow, adN] at h h0; simp [cont, up]; done)
    | (simp [ow, adN] at h h0; subst h0; simp [cont, up, h]; done)
    | (simp [ow, adN] at h h0; simp [cont, up, h]; done)
/-- a store into the picture: the cell's new content is what the picture of the new memory has there -/
theorem mem_up {ar : Nat → ClassId} {base : Nat} {σ : Mem} {k i j : Nat} {v : Int32} {D : va_G} {H : Heap} {cl : List vw_C} {x : va_E} (hk : k < 16) (hi : i < adN (ow k)) (he : x = cont ar base (up σ k i j v) (ow k) i)
    (hP : va_P D cl (wl base 122 (va_up (mem ar base σ) (ad (ow k) i) x)) H) : va_P D cl (wl base 122 (mem ar base (up σ k i j v))) H := by
  have how : ow k < 17 := by
    have : ∀ k, k < 16 → ow k < 17 := by decide
    exact this k hk
  rw [wl_congr (M' := mem ar base (up σ k i j v))] at hP
  · exact hP
  · intro a ha
    by_cases h : a = ad (ow k) i
    · subst h
      rw [va_up_self, mem_at how hi, he]
    · rw [va_up_ne _ _ h]
      obtain ⟨h1, h2, h3⟩ := ad_back a ha
      show cont ar base σ (ckOf a) (ciOf a) = cont ar base (up σ k i j v) (ckOf a) (ciOf a)
      refine (cont_ne hk (fun z => h ?_) (fun z => by rw [z] at h3; omega) h2).symm
      rw [← h1, z.1, z.2]
