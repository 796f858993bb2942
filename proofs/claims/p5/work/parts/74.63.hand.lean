/-! line (the reference's) returns -/
theorem tp_170 {d : Nat} {h h' : ri_H} {v : Option Value} {b : Nat → Int32} {n m : Nat} (E : ri_calE ri_md (d + 6) 170 [.ref 0] h = some (v, h')) (iv : iM b n m (eh_V h)) : ∃ x : Int32, v = some (.int x) ∧ iM b n m (eh_V h') ∧ eh_N h' = eh_N h := by
  obtain ⟨rs, hrs, E⟩ := eh_in E (q := md_170) rfl
  have fin : ∀ {h1 : ri_H}, eh_N h1 = eh_N h → (∃ x : Int32, rs = [.int x] ∧ iM b n m (eh_V h') ∧ eh_N h' = eh_N h1) → ∃ x : Int32, v = some (.int x) ∧ iM b n m (eh_V h') ∧ eh_N h' = eh_N h := fun e ⟨x, q1, q2, q3⟩ => ⟨x, by rw [← hrs, q1]; rfl, q2, by rw [q3, e]⟩
  have z := ln_d E rfl iv rfl
  rcases z with ⟨-, r1, r2, r3, r4⟩ | ⟨-, -, -, -, -, -, -, -, -, -, r1, r2, r3, r4⟩ | ⟨-, -, -, -, -, -, -, -, -, -, h1, lo1, E1, a1, a2, a3, a4⟩ | ⟨-, -, -, -, -, -, -, -, -, h1, lo1, E1, a1, a2, a3, a4⟩ | ⟨-, -, -, -, -, -, -, -, h1, lo1, E1, a1, a2, a3, a4⟩ | ⟨-, -, -, -, -, -, -, h1, lo1, E1, a1, a2, a3, a4⟩ | ⟨-, -, -, -, -, -, h1, lo1, E1, a1, a2, a3, a4⟩ | ⟨-, -, -, -, -, h1, lo1, E1, a1, a2, a3, a4⟩ | ⟨-, -, -, -, h1, lo1, E1, a1, a2, a3, a4⟩ | ⟨-, -, -, h1, lo1, E1, a1, a2, a3, a4⟩ | ⟨-, -, h1, lo1, E1, a1, a2, a3, a4⟩
  · exact ⟨_, by rw [← hrs, r1]; rfl, by rw [r2]; exact r4, r3⟩
  · exact ⟨_, by rw [← hrs, r1]; rfl, by rw [r2]; exact r4, r3⟩
  · exact fin a2 (tq_ln_8 E1 a1 a3 a4)
  · exact fin a2 (tq_ln_7 E1 a1 a3 a4)
  · exact fin a2 (tq_ln_6 E1 a1 a3 a4)
  · exact fin a2 (tq_ln_5 E1 a1 a3 a4)
  · exact fin a2 (tq_ln_4 E1 a1 a3 a4)
  · exact fin a2 (tq_ln_3 E1 a1 a3 a4)
  · exact fin a2 (tq_ln_2 E1 a1 a3 a4)
  · exact fin a2 (tq_ln_1 E1 a1 a3 a4)
  · exact fin a2 (tq_ln_0 E1 a1 a3 a4)
