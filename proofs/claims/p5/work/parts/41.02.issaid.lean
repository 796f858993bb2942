theorem mj_pf_le {f : Nat → Option Int} : ∀ {n D : Nat}, mj_pf f n = some D → D ≤ n
  | 0, D, h => by
    have : 0 = D := Option.some.inj h
    omega
  | n + 1, D, h => by
    have h : (match mj_pf f n, f n with
      | some D, some v => if v = 20 then (if 1 ≤ D then some D else none) else if v = 21 ∨ v = 22 then (if 2 ≤ D then some (D - 1) else none) else some (D + 1)
      | _, _ => none) = some D := h
    split at h
    · next D' v hD hv =>
      have := mj_pf_le hD
      split at h
      · split at h
        · have := Option.some.inj h; omega
        · cases h
      · split at h
        · split at h
          · have := Option.some.inj h; omega
          · cases h
        · have := Option.some.inj h; omega
    · cases h
theorem mj_pf_pre {f : Nat → Option Int} : ∀ {m n D : Nat}, mj_pf f (n + m) = some D → ∃ D', mj_pf f n = some D'
  | 0, n, D, h => ⟨D, h⟩
  | m + 1, n, D, h => by
    have h : (match mj_pf f (n + m), f (n + m) with
      | some D, some v => if v = 20 then (if 1 ≤ D then some D else none) else if v = 21 ∨ v = 22 then (if 2 ≤ D then some (D - 1) else none) else some (D + 1)
      | _, _ => none) = some D := h
    split at h
    · next D' v hD hv => exact mj_pf_pre hD
    · cases h
/-- the next code of a row -/
theorem mj_pf_nx {f : Nat → Option Int} {n D D' : Nat} (h1 : mj_pf f n = some D) (h2 : mj_pf f (n + 1) = some D') : ∃ v, f n = some v ∧ ((v = 20 ∧ 1 ≤ D ∧ D' = D) ∨ ((v = 21 ∨ v = 22) ∧ 2 ≤ D ∧ D' + 1 = D) ∨ (v ≠ 20 ∧ v ≠ 21 ∧ v ≠ 22 ∧ D' = D + 1)) := by
  have h2' : (match mj_pf f n, f n with
    | some D, some v => if v = 20 then (if 1 ≤ D then some D else none) else if v = 21 ∨ v = 22 then (if 2 ≤ D then some (D - 1) else none) else some (D + 1)
    | _, _ => none) = some D' := h2
  rw [h1] at h2'
  split at h2'
  · next D'' v hD hv =>
    cases hD
    refine ⟨v, hv, ?_⟩
    split at h2'
    · next e =>
      split at h2'
      · next g => exact Or.inl ⟨e, g, (Option.some.inj h2').symm⟩
      · cases h2'
    · next e =>
      split at h2'
      · next e2 =>
        split at h2'
        · next g => exact Or.inr (Or.inl ⟨e2, g, by have := Option.some.inj h2'; omega⟩)
        · cases h2'
      · next e2 => exact Or.inr (Or.inr ⟨e, fun q => e2 (Or.inl q), fun q => e2 (Or.inr q), (Option.some.inj h2').symm⟩)
  · cases h2'
