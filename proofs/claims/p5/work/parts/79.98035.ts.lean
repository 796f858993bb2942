section TS2
variable {d : Nat} {h h' : ri_H} {v : Option Value} {b : Nat → Int32} {n m : Nat} {w w0 w1 : Int32}
theorem ts_162 (E : ri_calE ri_md (d + 3) 162 [.ref 0, .int w] h = some (v, h')) (iv : iT b n m (eh_V h)) : ∃ x : Int32, v = some (.int x) ∧ iT b n m (eh_V h') ∧ eh_N h' = eh_N h := by
  obtain ⟨-, b', e, im⟩ := iv
  obtain ⟨x, r1, r2, r3⟩ := tp_162 E im
  exact ⟨x, r1, r2.T e, r3⟩
theorem ts_164 (E : ri_calE ri_md (d + 3) 164 [.ref 0, .int w0, .int w1] h = some (v, h')) (iv : iT b n m (eh_V h)) : ∃ x : Int32, v = some (.int x) ∧ iT b n m (eh_V h') ∧ eh_N h' = eh_N h := by
  obtain ⟨-, b', e, im⟩ := iv
  obtain ⟨x, r1, r2, r3⟩ := tp_164 E im
  exact ⟨x, r1, r2.T e, r3⟩
end TS2
