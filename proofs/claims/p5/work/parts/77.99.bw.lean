/-! a byte's write -/
theorem eh_e.bw {cal : eh_K} {q : ri_M × ri_T} {pc p r n m : Nat} {lo : List (Nat × Value)} {st rs : List Value} {h h' : ri_H} {G : eh_W} {x y : Int32} {ax : List Nat} {w : Value} (E : eh_e cal q pc lo (.int y :: .int x :: .ref r :: st) h rs h') (hp : Nat.beq pc 70000 = false) (hl : ri_look2 q.2 pc = some (.bastore, m, ax, w)) (hn : pc + 1 = p) (hV : eh_V h = G) (hx : x.toNatClampNeg = n) : ∃ h1, eh_V h1 = eh_u G r n (.int y.toInt8.toInt32) ∧ eh_N h1 = eh_N h ∧ eh_e cal q p lo st h1 rs h' := by
  obtain ⟨k, z, f1, s1, E1⟩ := E.inv hp hl rfl
  have s1 : (match ri_ast ri_g2 (.ref r) x (.int y.toInt8.toInt32) h with
        | some h' => some (pc + 1, lo, st, h', k, z)
        | none => (bif decide (y = 0) || decide (y = 1) then (match ri_ast ri_g4 (.ref r) x (.int y) h with
            | some h' => some (pc + 1, lo, st, h', k, z)
            | none => none) else none)) = some f1 := s1
  subst hV hn hx
  cases ha : ri_ast ri_g2 (.ref r) x (.int y.toInt8.toInt32) h with
  | some h1 =>
    rw [ha] at s1
    have s1 := Option.some.inj s1
    subst s1
    obtain ⟨a1, a2⟩ := eh_ast ha
    exact ⟨h1, a1, a2, k, z, E1⟩
  | none =>
    rw [ha] at s1
    dsimp only at s1
    cases hb : (decide (y = 0) || decide (y = 1)) with
    | false => rw [hb] at s1; cases s1
    | true =>
      rw [hb] at s1
      dsimp only [cond_true] at s1
      cases hc : ri_ast ri_g4 (.ref r) x (.int y) h with
      | none => rw [hc] at s1; cases s1
      | some h1 =>
        rw [hc] at s1
        have s1 := Option.some.inj s1
        subst s1
        obtain ⟨a1, a2⟩ := eh_ast hc
        have e : y.toInt8.toInt32 = y := by
          rw [Bool.or_eq_true, decide_eq_true_eq, decide_eq_true_eq] at hb
          rcases hb with hb | hb <;> (rw [hb]; decide)
        exact ⟨h1, by rw [e]; exact a1, a2, k, z, E1⟩
