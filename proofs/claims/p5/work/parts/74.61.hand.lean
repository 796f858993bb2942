/-! readLesson (the reference's) returns -/
section MLL
variable {d : Nat} {rs : List Value} {h' : ri_H} {b : Nat → Int32} {n m : Nat} {kk : Int32}
theorem ml_tp : ∀ (f k : Nat) (lo : List (Nat × Value)) (h : ri_H) (G : eh_W), k + f = 8 → eh_e (ri_calE ri_md (d + 3)) md_171 80 lo [] h rs h' → eh_V h = G → iM b n m G → ri_lk lo 0 = some (.ref 0) → ri_lk lo 1 = some (.int kk) → ri_lk lo 2 = some (.int (nI k)) → ∃ x : Int32, rs = [.int x] ∧ iM b n m (eh_V h') ∧ eh_N h' = eh_N h := by
  intro f
  induction f with
  | zero =>
    intro k lo h G hf E hV iv l0 l1 l2
    have e8 : nI k = 8 := by rw [show k = 8 by omega]; rfl
    rcases ml_i E hV iv l0 l1 l2 with ⟨_, _, _, _, _, -, -, c, -⟩ | ⟨_, _, _, _, _, -, -, c, -⟩ | ⟨_, _, _, -, -, c, -⟩ | ⟨-, -, -, r1, r2, r3, r4⟩ | ⟨-, -, r1, r2, r3, r4⟩ | ⟨-, -, r1, r2, r3, r4⟩ | ⟨-, -, r1, r2, r3, r4⟩
    · exact absurd e8 c
    · exact absurd e8 c
    · exact absurd e8 c
    all_goals exact ⟨_, r1, by rw [r2]; exact r4, r3⟩
  | succ f ih =>
    intro k lo h G hf E hV iv l0 l1 l2
    rcases ml_i E hV iv l0 l1 l2 with ⟨_, _, _, _, _, -, -, -, -, -, -, -, -, -, -, h1, lo1, E1, a1, a2, a3, a4, a5, a6, a7⟩ | ⟨_, _, _, _, _, -, -, -, -, -, -, -, -, -, -, r1, r2, r3, r4⟩ | ⟨_, _, _, -, -, -, -, -, -, -, r1, r2, r3, r4⟩ | ⟨-, -, -, r1, r2, r3, r4⟩ | ⟨-, -, r1, r2, r3, r4⟩ | ⟨-, -, r1, r2, r3, r4⟩ | ⟨-, -, r1, r2, r3, r4⟩
    · rw [lx_a1] at a6
      obtain ⟨x, q1, q2, q3⟩ := ih (k + 1) lo1 h1 _ (by omega) E1 a1 a3 a4 a5 a6
      exact ⟨x, q1, q2, by rw [q3, a2]⟩
    all_goals exact ⟨_, r1, by rw [r2]; exact r4, r3⟩
end MLL
theorem tp_171 {d : Nat} {h h' : ri_H} {v : Option Value} {b : Nat → Int32} {n m : Nat} (E : ri_calE ri_md (d + 5) 171 [.ref 0] h = some (v, h')) (iv : iM b n m (eh_V h)) : ∃ x : Int32, v = some (.int x) ∧ iM b n m (eh_V h') ∧ eh_N h' = eh_N h := by
  obtain ⟨rs, hrs, E⟩ := eh_in E (q := md_171) rfl
  rcases ml_a E rfl iv rfl with ⟨_, _, _, _, -, -, -, -, -, -, -, r1, r2, r3, r4⟩ | ⟨_, _, _, _, _, _, _, _, -, -, -, -, -, -, -, -, -, -, -, -, -, h1, lo1, E1, a1, a2, a3, a4, a5, a6⟩ | ⟨_, _, _, _, _, _, -, -, -, -, -, -, -, -, -, -, r1, r2, r3, r4⟩ | ⟨-, r1, r2, r3, r4⟩
  · exact ⟨_, by rw [← hrs, r1]; rfl, by rw [r2]; exact r4, r3⟩
  · obtain ⟨x, q1, q2, q3⟩ := ml_tp 8 0 lo1 h1 _ rfl E1 a1 a3 a4 a5 a6
    exact ⟨x, by rw [← hrs, q1]; rfl, q2, by rw [q3, a2]⟩
  · exact ⟨_, by rw [← hrs, r1]; rfl, by rw [r2]; exact r4, r3⟩
  · exact ⟨_, by rw [← hrs, r1]; rfl, by rw [r2]; exact r4, r3⟩
