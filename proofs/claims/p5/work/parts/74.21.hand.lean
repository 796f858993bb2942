/-! readLesson (the class's) returns -/
section LEL
variable {d : Nat} {rs : List Value} {h' : ri_H} {b : Nat → Int32} {n m : Nat} {l cu : Int32}
theorem le_tp : ∀ (f k : Nat) (lo : List (Nat × Value)) (h : ri_H) (G : eh_W), k + f = 8 → eh_e (ri_calE ri_md (d + 4)) md_47 47 lo [] h rs h' → eh_V h = G → iC b n m G → ri_lk lo 0 = some (.ref 4) → ri_lk lo 1 = some (.int l) → ri_lk lo 2 = some (.int cu) → ri_lk lo 3 = some (.int (nI k)) → ∃ x : Int32, rs = [.int x] ∧ iC b n m (eh_V h') ∧ eh_N h' = eh_N h := by
  intro f
  induction f with
  | zero =>
    intro k lo h G hf E hV iv l0 l1 l2 l3
    have z := le_i E hV iv l0 l1 l2 l3
    rw [lx_i (a := k) (by omega)] at z
    rcases z with ⟨c, -, r1, r2, r3, r4⟩ | ⟨c, -, r1, r2, r3, r4⟩ | ⟨c, -⟩ | ⟨_, _, c, -⟩ | ⟨_, _, c, -⟩
    · exact ⟨_, r1, by rw [r2]; exact r4, r3⟩
    · exact ⟨_, r1, by rw [r2]; exact r4, r3⟩
    all_goals omega
  | succ f ih =>
    intro k lo h G hf E hV iv l0 l1 l2 l3
    have z := le_i E hV iv l0 l1 l2 l3
    rw [lx_i (a := k) (by omega)] at z
    rcases z with ⟨c, -⟩ | ⟨c, -⟩ | ⟨c, -, r1, r2, r3, r4⟩ | ⟨_, h7, c, -, -, -, -, h1, lo1, E1, a1, a2, a3, a4, a5, a6, a7⟩ | ⟨_, _, c, -, -, -, -, r1, r2, r3, r4⟩
    · omega
    · omega
    · exact ⟨_, r1, by rw [r2]; exact r4, r3⟩
    · rw [lx_a1] at a7
      obtain ⟨x, q1, q2, q3⟩ := ih (k + 1) lo1 h1 _ (by omega) E1 a1 a3 a4 a5 a6 a7
      exact ⟨x, q1, q2, by rw [q3, a2]⟩
    · exact ⟨_, r1, by rw [r2]; exact r4, r3⟩
end LEL
theorem tp_47 {d : Nat} {h h' : ri_H} {v : Option Value} {b : Nat → Int32} {n m : Nat} {l : Int32} (E : ri_calE ri_md (d + 5) 47 [.ref 4, .int l] h = some (v, h')) (iv : iC b n m (eh_V h)) : ∃ x : Int32, v = some (.int x) ∧ iC b n m (eh_V h') ∧ eh_N h' = eh_N h := by
  obtain ⟨rs, hrs, E⟩ := eh_in E (q := md_47) rfl
  rcases le_a E rfl iv rfl rfl with ⟨_, _, -, -, -, h1, lo1, E1, a1, a2, a3, a4, a5, a6, a7⟩ | ⟨_, _, -, -, -, r1, r2, r3, r4⟩
  · obtain ⟨x, q1, q2, q3⟩ := le_tp 8 0 lo1 h1 _ rfl E1 a1 a3 a4 a5 a6 a7
    exact ⟨x, by rw [← hrs, q1]; rfl, q2, by rw [q3, a2]⟩
  · exact ⟨_, by rw [← hrs, r1]; rfl, by rw [r2]; exact r4, r3⟩
