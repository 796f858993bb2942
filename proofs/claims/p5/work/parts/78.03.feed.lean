/-! feed on both sides: the bytes stay alike -/
theorem J_feed {d e n : Nat} {hc hc' hm hm' : ri_H} {v1 v2 : Option Value} {a0 a1 a2 a3 a4 : Int32} (E1 : ri_calE ri_md (d + 2) 101 [.ref 0, .int a0, .int a1, .int a2, .int a3, .int a4] hc = some (v1, hc')) (E2 : ri_calE ri_md (e + 2) 145 [.ref 0, .int a0, .int a1, .int a2, .int a3, .int a4] hm = some (v2, hm')) (tc : eh_ty tC (eh_V hc)) (tm : eh_ty tM (eh_V hm)) (hn : eh_i (eh_V hc) 0 1 = nI n) (hn' : eh_i (eh_V hm) 0 2 = nI n) (n9 : n ≤ 940) (hb : ∀ i, i < 940 → eh_i (eh_V hc) 1 i = eh_i (eh_V hm) 1 i) : ∀ i, i < 940 → eh_i (eh_V hc') 1 i = eh_i (eh_V hm') 1 i := by
  have z1 := sp_101 E1 rfl tc
  have z2 := sp_145 E2 rfl tm
  rw [hn, show nI n + 20 = nI (n + 20) from (Int32.ofNat_add n 20).symm, lx_i (a := n + 20) (by omega)] at z1
  rw [hn', show nI n + 20 = nI (n + 20) from (Int32.ofNat_add n 20).symm, lx_i (a := n + 20) (by omega)] at z2
  rcases z1 with ⟨g1, g2, g3, g4, g5, c, b1, -, b2, -, b3, -, b4, -, b5, -, -, r2, -⟩ | ⟨c, -, r2, -⟩
  · rcases z2 with ⟨k1, k2, k3, k4, k5, -, d1, -, d2, -, d3, -, d4, -, d5, -, -, s2, -⟩ | ⟨c', -⟩
    · obtain ⟨p1, q1, w1⟩ := ap_J b1 d1 (by omega) hn hn' hb
      obtain ⟨p2, q2, w2⟩ := ap_J b2 d2 (by omega) p1 q1 w1
      obtain ⟨p3, q3, w3⟩ := ap_J b3 d3 (by omega) p2 q2 w2
      obtain ⟨p4, q4, w4⟩ := ap_J b4 d4 (by omega) p3 q3 w3
      obtain ⟨p5, q5, w5⟩ := ap_J b5 d5 (by omega) p4 q4 w4
      rw [r2, s2]
      exact w5
    · omega
  · rcases z2 with ⟨k1, k2, k3, k4, k5, c', -⟩ | ⟨-, -, s2, -⟩
    · omega
    · rw [r2, s2]
      exact hb
