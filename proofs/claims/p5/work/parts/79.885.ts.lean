/-! operand, behind (reference): they return -/
section TSO
variable {d : Nat} {h h' : ri_H} {v : Option Value} {b : Nat → Int32} {n m : Nat}
/-- which TOKEN it is -/
def opk (G : eh_W) (no op le : Int32) : Prop := (no = 1 ∧ op = 0 ∧ eh_i G 0 11 = 1 ∧ eh_l G 0 17 = lx_Wd 15) ∨ (no = 0 ∧ op = 1 ∧ eh_i G 0 11 = 3 ∧ eh_i G 0 14 = 40) ∨ (no = 0 ∧ op = 0 ∧ ¬ (eh_i G 0 11 = 1 ∧ eh_l G 0 17 = lx_Wd 15) ∧ ¬ (eh_i G 0 11 = 3 ∧ eh_i G 0 14 = 40) ∧ lf_M G le)
theorem opr_a {G : eh_W} (E : ri_calE ri_md (d + 4) 246 [.ref 0] h = some (v, h')) (hV : eh_V h = G) (iv : iT b n m G) : ∃ rs hz loz no op le, rs.head? = v ∧ eh_e (ri_calE ri_md (d + 3)) md_246 20 loz [] hz rs h' ∧ eh_V hz = G ∧ eh_N hz = eh_N h ∧ ri_lk loz 0 = some (.ref 0) ∧ ri_lk loz 1 = some (.int no) ∧ ri_lk loz 2 = some (.int op) ∧ ri_lk loz 3 = some (.int le) ∧ opk G no op le := by
  obtain ⟨rs, hrs, E⟩ := eh_in E (q := md_246) rfl
  rcases zp_a (d := d + 1) E hV iv rfl with ⟨x, c0, c1, c2, hz, loz, E1, w1, w2, -, l0, l1, l2, l3⟩ | ⟨x, c0, c1, c2, c3, hz, loz, E1, w1, w2, -, l0, l1, l2, l3⟩ | ⟨x, c0, c1, c2, c3, hz, loz, E1, w1, w2, -, l0, l1, l2, l3⟩ | ⟨x, c0, c1, c2, hz, loz, E1, w1, w2, -, l0, l1, l2, l3⟩ | ⟨x, c0, c1, c2, hz, loz, E1, w1, w2, -, l0, l1, l2, l3⟩
  · exact ⟨rs, hz, loz, _, _, x, hrs, E1, w1, w2, l0, l1, l2, l3, Or.inr (Or.inr ⟨rfl, rfl, fun y => c0 y.1, fun y => c1 y.1, c2⟩)⟩
  · exact ⟨rs, hz, loz, _, _, x, hrs, E1, w1, w2, l0, l1, l2, l3, Or.inr (Or.inr ⟨rfl, rfl, fun y => c0 y.1, fun y => c2 y.2, c3⟩)⟩
  · exact ⟨rs, hz, loz, _, _, x, hrs, E1, w1, w2, l0, l1, l2, l3, Or.inr (Or.inl ⟨rfl, rfl, c1, c2⟩)⟩
  · exact ⟨rs, hz, loz, _, _, x, hrs, E1, w1, w2, l0, l1, l2, l3, Or.inr (Or.inr ⟨rfl, rfl, fun y => c1 y.2, fun y => absurd (y.1.symm.trans c0) (by decide), c2⟩)⟩
  · exact ⟨rs, hz, loz, _, _, x, hrs, E1, w1, w2, l0, l1, l2, l3, Or.inl ⟨rfl, rfl, c0, c1⟩⟩
theorem ts_246 (E : ri_calE ri_md (d + 4) 246 [.ref 0] h = some (v, h')) (iv : iT b n m (eh_V h)) : ∃ x : Int32, v = some (.int x) ∧ iT b n m (eh_V h') ∧ eh_N h' = eh_N h := by
  obtain ⟨rs, hz, loz, no, op, le, hrs, E1, w1, w2, l0, l1, l2, l3, K⟩ := opr_a E rfl iv
  rcases K with ⟨rfl, rfl, -⟩ | ⟨rfl, rfl, -⟩ | ⟨rfl, rfl, -⟩
  · obtain ⟨x, q1, q2, q3⟩ := tq_zp_n (d := d + 1) E1 w1 iv l0 l1 l2 l3
    exact ⟨x, by rw [← hrs, q1]; rfl, q2, q3.trans w2⟩
  · obtain ⟨x, q1, q2, q3⟩ := tq_zp_o (d := d + 1) E1 w1 iv l0 l1 l2 l3
    exact ⟨x, by rw [← hrs, q1]; rfl, q2, q3.trans w2⟩
  · obtain ⟨x, q1, q2, q3⟩ := tq_zp_l (d := d + 1) E1 w1 iv l0 l1 l2 l3
    exact ⟨x, by rw [← hrs, q1]; rfl, q2, q3.trans w2⟩
theorem ts_247 (E : ri_calE ri_md (d + 4) 247 [.ref 0] h = some (v, h')) (iv : iT b n m (eh_V h)) : ∃ x : Int32, v = some (.int x) ∧ iT b n m (eh_V h') ∧ eh_N h' = eh_N h := by
  obtain ⟨rs, hrs, E⟩ := eh_in E (q := md_247) rfl
  obtain ⟨x, q1, q2, q3⟩ := tq_zb_a (d := d + 1) E rfl iv rfl
  exact ⟨x, by rw [← hrs, q1]; rfl, q2, q3⟩
end TSO
