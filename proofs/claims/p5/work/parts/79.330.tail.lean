/-! a call whose answer is given back as it is -/
theorem eh_e.rett {cal : eh_K} {q : ri_M × ri_T} {pc : Nat} {lo : List (Nat × Value)} {rs : List Value} {h h' : ri_H} {v : Option Value} {m : Nat} {ax : List Nat} {w : Value} (E : eh_e cal q pc lo (v.toList ++ []) h rs h') (hp : Nat.beq pc 70000 = false) (hl : ri_look2 q.2 pc = some (.ireturn, m, ax, w)) : rs.head? = v ∧ h' = h := by
  cases v with
  | none =>
    obtain ⟨r, h1, -, -⟩ := eh_e.rt (st := []) E hp hl rfl
    have h1 : (none : Option (List Value)) = some r := h1
    cases h1
  | some v =>
    obtain ⟨r1, r2⟩ := eh_e.reti (v := v) E hp hl
    exact ⟨by rw [r1]; rfl, r2⟩
