/-! does, waves answer alike -/
theorem nI_set {P : Nat} (hP : P ≤ 8) : ((1 : Int32) <<< (nI P &&& 31)).toInt = (2 ^ P : Nat) ∧ 2 ^ P ≤ 256 := by
  have h8 : 2 ^ P ≤ 2 ^ 8 := Nat.pow_le_pow_right (by decide) hP
  have h8 : 2 ^ P ≤ 256 := h8
  rw [show (1 : Int32) = nI 1 from rfl, nI_shl (y := 1) (s := P) (by omega) (by omega), Nat.one_mul, lx_i (by omega)]
  exact ⟨rfl, h8⟩
section JDW
variable {d e : Nat} {hc hc' hm hm' : ri_H} {v1 v2 : Option Value} {cu se : Int32}
/-- what the checks of both say -/
theorem dw_ck {q : Nat → Nat} {Gc Gm : eh_W} (Q : LI q 23 2 0 Gc Gm) : eh_i Gc 25 0 = nI (q 0) ∧ eh_i Gm 2 3 = nI (q 0) ∧ q 0 ≤ 6 ∧ eh_i Gc 25 1 = nI (q 1) ∧ eh_i Gm 2 4 = nI (q 1) ∧ q 1 ≤ 8 := by
  obtain ⟨-, ⟨s4, -⟩, -⟩ := Q
  obtain ⟨a1, a2, a3⟩ := s4 0 (by decide)
  obtain ⟨b1, b2, b3⟩ := s4 1 (by decide)
  exact ⟨a1, a2, a3, b1, b2, b3⟩
theorem dw_in {q0 q1 : Nat} (h6 : q0 ≤ 6) (h8 : q1 ≤ 8) (a : ¬ cu.toInt < 0) (b : cu.toInt < (nI q0).toInt) (c : ¬ se.toInt < 0) (d : se.toInt < ((1 : Int32) <<< (nI q1 &&& 31)).toInt) : ∃ cc sw, cc < 6 ∧ sw < 256 ∧ cu = nI cc ∧ se = nI sw := by
  obtain ⟨e1, e2⟩ := nI_set h8
  rw [lx_i (by omega)] at b
  rw [e1] at d
  obtain ⟨cc, c1, rfl⟩ := nI_to (l := cu) (q := q0) (by omega) b (by omega)
  obtain ⟨sw, s1, rfl⟩ := nI_to (l := se) (q := 2 ^ q1) (by omega) d (by omega)
  exact ⟨cc, sw, by omega, by omega, rfl, rfl⟩
theorem J_waves (E1 : ri_calE ri_md (d + 3) 118 [.ref 0, .int cu, .int se] hc = some (v1, hc')) (E2 : ri_calE ri_md (e + 5) 214 [.ref 0, .int cu, .int se] hm = some (v2, hm')) (tc : eh_ty tC (eh_V hc)) (tm : eh_ty tM (eh_V hm)) (Q : LQ (eh_V hc) (eh_V hm)) : v1 = v2 := by
  obtain ⟨⟨q, Q⟩, -⟩ := Q
  obtain ⟨a1, a2, a3, b1, b2, b3⟩ := dw_ck Q
  have z1 := ws_c (d := d + 1) E1 rfl tc
  have z2 := ws_m (d := e + 2) E2 rfl tm
  rw [a1, b1] at z1
  rw [a2, b2, nI_m1 (by omega)] at z2
  have k0 : (nI (q 0)).toInt = (q 0 : Int) := lx_i (by omega)
  rcases z1 with ⟨x, r1, -⟩ | ⟨x, y, r1, -⟩ | ⟨x, y, w, r1, -⟩ | ⟨x, y, w, u, r1, -⟩ | ⟨x, y, w, u, h1, w1, n1, t1, X1⟩
  · rcases z2 with ⟨x', r2, -⟩ | ⟨x', y', r2, -⟩ | ⟨x', y', w', r2, -⟩ | ⟨x', y', w', u', r2, -⟩ | ⟨x', y', w', u', -⟩
    · rw [r1, r2]
    · rw [r1, r2]
    · rw [r1, r2]
    · rw [r1, r2]
    · omega
  · rcases z2 with ⟨x', r2, -⟩ | ⟨x', y', r2, -⟩ | ⟨x', y', w', r2, -⟩ | ⟨x', y', w', u', r2, -⟩ | ⟨x', y', w', u', -⟩
    · rw [r1, r2]
    · rw [r1, r2]
    · rw [r1, r2]
    · rw [r1, r2]
    · omega
  · rcases z2 with ⟨x', r2, -⟩ | ⟨x', y', r2, -⟩ | ⟨x', y', w', r2, -⟩ | ⟨x', y', w', u', r2, -⟩ | ⟨x', y', w', u', -⟩
    · rw [r1, r2]
    · rw [r1, r2]
    · rw [r1, r2]
    · rw [r1, r2]
    · omega
  · rcases z2 with ⟨x', r2, -⟩ | ⟨x', y', r2, -⟩ | ⟨x', y', w', r2, -⟩ | ⟨x', y', w', u', r2, -⟩ | ⟨x', y', w', u', -⟩
    · rw [r1, r2]
    · rw [r1, r2]
    · rw [r1, r2]
    · rw [r1, r2]
    · omega
  · rcases z2 with ⟨x', -⟩ | ⟨x', y', -⟩ | ⟨x', y', w', -⟩ | ⟨x', y', w', u', -⟩ | ⟨x', y', w', u', h2, w2, n2, t2, X2⟩
    · omega
    · omega
    · omega
    · omega
    · obtain ⟨cc, sw, c6, s8, rfl, rfl⟩ := dw_in a3 b3 x y w u
      obtain ⟨ku, sz, ce, hi, D1, D2, D3, -⟩ := LD_of Q
      obtain ⟨z, z1, rfl, -⟩ := xv_34 (d := d) X1 w1 t1 ⟨rfl, rfl, s8, c6, D1, D3⟩
      obtain ⟨G1, ⟨-, -, b, b1, b2, b3⟩, -, rfl, -⟩ := xw_193 (d := e) X2 w2 t2 ⟨rfl, rfl, s8, c6, D1, LDm_fr D2 (fun j => rfl)⟩
      rw [b2, ws_uq z1 b1 b3]
theorem J_does (E1 : ri_calE ri_md (d + 3) 117 [.ref 0, .int cu, .int se] hc = some (v1, hc')) (E2 : ri_calE ri_md (e + 5) 213 [.ref 0, .int cu, .int se] hm = some (v2, hm')) (tc : eh_ty tC (eh_V hc)) (tm : eh_ty tM (eh_V hm)) (Q : LQ (eh_V hc) (eh_V hm)) : v1 = v2 := by
  obtain ⟨⟨q, Q⟩, -⟩ := Q
  obtain ⟨a1, a2, a3, b1, b2, b3⟩ := dw_ck Q
  have z1 := do_c (d := d + 1) E1 rfl tc
  have z2 := do_m (d := e + 2) E2 rfl tm
  rw [a1, b1] at z1
  rw [a2, b2, nI_m1 (by omega)] at z2
  have k0 : (nI (q 0)).toInt = (q 0 : Int) := lx_i (by omega)
  rcases z1 with ⟨x, r1, -⟩ | ⟨x, y, r1, -⟩ | ⟨x, y, w, r1, -⟩ | ⟨x, y, w, u, r1, -⟩ | ⟨x, y, w, u, h1, w1, n1, t1, X1⟩
  · rcases z2 with ⟨x', r2, -⟩ | ⟨x', y', r2, -⟩ | ⟨x', y', w', r2, -⟩ | ⟨x', y', w', u', r2, -⟩ | ⟨x', y', w', u', -⟩
    · rw [r1, r2]
    · rw [r1, r2]
    · rw [r1, r2]
    · rw [r1, r2]
    · omega
  · rcases z2 with ⟨x', r2, -⟩ | ⟨x', y', r2, -⟩ | ⟨x', y', w', r2, -⟩ | ⟨x', y', w', u', r2, -⟩ | ⟨x', y', w', u', -⟩
    · rw [r1, r2]
    · rw [r1, r2]
    · rw [r1, r2]
    · rw [r1, r2]
    · omega
  · rcases z2 with ⟨x', r2, -⟩ | ⟨x', y', r2, -⟩ | ⟨x', y', w', r2, -⟩ | ⟨x', y', w', u', r2, -⟩ | ⟨x', y', w', u', -⟩
    · rw [r1, r2]
    · rw [r1, r2]
    · rw [r1, r2]
    · rw [r1, r2]
    · omega
  · rcases z2 with ⟨x', r2, -⟩ | ⟨x', y', r2, -⟩ | ⟨x', y', w', r2, -⟩ | ⟨x', y', w', u', r2, -⟩ | ⟨x', y', w', u', -⟩
    · rw [r1, r2]
    · rw [r1, r2]
    · rw [r1, r2]
    · rw [r1, r2]
    · omega
  · rcases z2 with ⟨x', -⟩ | ⟨x', y', -⟩ | ⟨x', y', w', -⟩ | ⟨x', y', w', u', -⟩ | ⟨x', y', w', u', h2, w2, n2, t2, X2⟩
    · omega
    · omega
    · omega
    · omega
    · obtain ⟨cc, sw, c6, s8, rfl, rfl⟩ := dw_in a3 b3 x y w u
      obtain ⟨ku, sz, ce, hi, D1, D2, D3, wd, -, w8, -, hw, D4⟩ := LD_of Q
      obtain ⟨z, z1, rfl, -⟩ := xb_33 (d := d) X1 w1 t1 ⟨rfl, rfl, s8, c6, D1, D3⟩
      obtain ⟨y, G1, rfl, -, -, rfl, -⟩ := xh_192 (d := e) (w := wd) X2 w2 t2 ⟨rfl, rfl, s8, c6, D1, LDm_fr D2 (fun j => rfl)⟩ hw w8
      rw [ht_eq z1 D4 w8]
end JDW
