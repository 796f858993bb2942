/-! step answers alike -/
theorem nI_m1 {n : Nat} (h : n ≤ 100000) : (nI n - 1).toInt = (n : Int) - 1 := by
  cases n with
  | zero => decide
  | succ n =>
    rw [show nI (n + 1) - 1 = nI (n + 1 - 1) from lx_sub (b := 1) (by omega), lx_i (by omega)]
    omega
theorem nI_to {l : Int32} {q : Nat} (h0 : 0 ≤ l.toInt) (h1 : l.toInt < q) (hq : q ≤ 100000) : ∃ k, k < q ∧ l = nI k := ⟨l.toInt.toNat, by omega, by
  apply Int32.toInt_inj.mp
  rw [lx_i (by omega)]
  omega⟩
section JST
variable {d e : Nat} {hc hc' hm hm' : ri_H} {v1 v2 : Option Value} {l i : Int32}
theorem J_step (E1 : ri_calE ri_md (d + 2) 108 [.ref 0, .int l, .int i] hc = some (v1, hc')) (E2 : ri_calE ri_md (e + 3) 186 [.ref 0, .int l, .int i] hm = some (v2, hm')) (tc : eh_ty tC (eh_V hc)) (tm : eh_ty tM (eh_V hm)) (Q : LQ (eh_V hc) (eh_V hm)) : v1 = v2 := by
  obtain ⟨⟨q, -, ⟨s4, -⟩, ⟨b1, -⟩, -⟩, -⟩ := Q
  have e25 : eh_i (eh_V hc) 25 1 = nI (q 1) := (s4 1 (by decide)).1
  have e4 : eh_i (eh_V hm) 2 4 = nI (q 1) := (s4 1 (by decide)).2.1
  have q8 : q 1 ≤ 8 := (s4 1 (by decide)).2.2
  have z1 := st_c E1 rfl tc
  have z2 := st_m E2 rfl tm
  rw [e25, lx_i (a := q 1) (by omega)] at z1
  rw [e4, nI_m1 (by omega)] at z2
  by_cases hl : 0 ≤ l.toInt ∧ l.toInt < (q 1 : Int)
  · obtain ⟨k, hk, rfl⟩ := nI_to hl.1 hl.2 (by omega)
    obtain ⟨-, -, s, s8, c10, m18, st, -⟩ := b1 k hk
    have c10 : eh_i (eh_V hc) 28 k = nI s := c10
    have m18 : eh_i (eh_V hm) 2 (0 + (18 + k)) = nI s := m18 hk
    rw [Nat.zero_add] at m18
    rw [lx_i (a := k) (by omega), lx_cl (a := k) (by omega), c10, lx_i (a := s) (by omega)] at z1
    rw [lx_i (a := k) (by omega), show (18 : Int32) + nI k = nI (18 + k) from lx_add 18 k, lx_cl (a := 18 + k) (by omega), m18, nI_m1 (by omega)] at z2
    by_cases hi : 0 ≤ i.toInt ∧ i.toInt < (s : Int)
    · obtain ⟨j, hj, rfl⟩ := nI_to hi.1 hi.2 (by omega)
      have v : eh_i (eh_V hc) 29 (8 * k + j) = eh_i (eh_V hm) 2 (0 + (26 + 8 * k + j)) := (st j hj).1
      rw [Nat.zero_add] at v
      rw [lx_i (a := j) (by omega), show nI k * 8 = nI (k * 8) from (Int32.ofNat_mul k 8).symm, show nI (k * 8) + nI j = nI (k * 8 + j) from lx_add (k * 8) j, lx_cl (a := k * 8 + j) (by omega), show k * 8 + j = 8 * k + j by omega] at z1
      rw [lx_i (a := j) (by omega), show (8 : Int32) * nI k = nI (8 * k) from (Int32.ofNat_mul 8 k).symm, show (26 : Int32) + nI (8 * k) = nI (26 + 8 * k) from lx_add 26 (8 * k), show nI (26 + 8 * k) + nI j = nI (26 + 8 * k + j) from lx_add (26 + 8 * k) j, lx_cl (a := 26 + 8 * k + j) (by omega)] at z2
      rcases z1 with ⟨w, -⟩ | ⟨-, w, -⟩ | ⟨-, -, w, -⟩ | ⟨-, -, -, -, r1, -⟩ | ⟨-, -, -, w, -⟩
      · omega
      · omega
      · omega
      · rcases z2 with ⟨w, -⟩ | ⟨-, w, -⟩ | ⟨-, -, w, -⟩ | ⟨-, -, -, w, -⟩ | ⟨-, -, -, -, r2, -⟩
        · omega
        · omega
        · omega
        · omega
        · rw [r1, r2, v]
      · omega
    · rcases z1 with ⟨w, -⟩ | ⟨-, w, -⟩ | ⟨-, -, w, r1, -⟩ | ⟨-, -, w, w2, -⟩ | ⟨-, -, w, w2, r1, -⟩
      · omega
      · omega
      · rcases z2 with ⟨w, -⟩ | ⟨-, w, -⟩ | ⟨-, -, w, r2, -⟩ | ⟨-, -, w, w2, r2, -⟩ | ⟨-, -, w, w2, -⟩
        · omega
        · omega
        · rw [r1, r2]
        · rw [r1, r2]
        · omega
      · omega
      · rcases z2 with ⟨w, -⟩ | ⟨-, w, -⟩ | ⟨-, -, w, r2, -⟩ | ⟨-, -, w, w2, r2, -⟩ | ⟨-, -, w, w2, -⟩
        · omega
        · omega
        · rw [r1, r2]
        · rw [r1, r2]
        · omega
  · rcases z1 with ⟨w, r1, -⟩ | ⟨w, w2, r1, -⟩ | ⟨w, w2, -⟩ | ⟨w, w2, -⟩ | ⟨w, w2, -⟩
    · rcases z2 with ⟨w, r2, -⟩ | ⟨w, w2, r2, -⟩ | ⟨w, w2, -⟩ | ⟨w, w2, -⟩ | ⟨w, w2, -⟩
      · rw [r1, r2]
      · rw [r1, r2]
      · omega
      · omega
      · omega
    · rcases z2 with ⟨w, r2, -⟩ | ⟨w, w2, r2, -⟩ | ⟨w, w2, -⟩ | ⟨w, w2, -⟩ | ⟨w, w2, -⟩
      · rw [r1, r2]
      · rw [r1, r2]
      · omega
      · omega
      · omega
    · omega
    · omega
    · omega
end JST
