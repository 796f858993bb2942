/-! learnt (reference): the tape is read -/
section YR
variable {d w W N M q0 : Nat} {h' : ri_H} {rs : List Value} {G : eh_W}
/-- what a block must be, as the reference asks it -/
theorem lsX_m {J : Nat} (hb : bRa G) (h940 : W * J < 940) (q6 : q0 ≤ 6) : ((eh_i G 1 (W * J) &&& 255).toInt < 0 → False) ∧ (¬ (eh_i G 1 (W * J) &&& 255).toInt < 0) ∧ (((q0 : Int) - 1 < (eh_i G 1 (W * J) &&& 255).toInt → ¬ lsX G W q0 w J)) ∧ (¬ ((q0 : Int) - 1 < (eh_i G 1 (W * J) &&& 255).toInt) → 0 ≤ (eh_i G 1 (W * J)).toInt ∧ (eh_i G 1 (W * J)).toInt < (q0 : Int)) := by
  obtain ⟨b1, b2⟩ := hb _ h940
  rcases oc_ b1 b2 with ⟨o1, o2⟩ | ⟨o1, o2⟩
  · rw [o2]
    exact ⟨fun x => by omega, by omega, fun x y => by have := y.2.1; omega, fun x => by omega⟩
  · exact ⟨fun x => by omega, by omega, fun _ y => by have := y.1; omega, fun x => by omega⟩
theorem ylm_read (hW : W = w + 1) (w8 : w ≤ 8) (hN : N = W * M) (h940 : N ≤ 940) (ty : eh_ty tM G) (hw : eh_i G 2 0 = nI w) (hq : eh_i G 2 3 = nI q0) (q6 : q0 ≤ 6) (hs : eh_i G 0 3 = nI N) (hb : bRa G) : ∀ (n J : Nat) (lo : List (Nat × Value)) (h : ri_H), J + n = M → eh_e (ri_calE ri_md (d + 2)) md_219 41 lo [] h rs h' → eh_V h = G → ri_lk lo 0 = some (.ref 0) → ri_lk lo 1 = some (.int (nI W)) → ri_lk lo 2 = some (.int (nI (W * J))) → (∀ j, j < J → lsX G W q0 w j) → ((∀ j, j < M → lsX G W q0 w j) ∧ ∃ h1 lo1, eh_e (ri_calE ri_md (d + 2)) md_219 102 lo1 [] h1 rs h' ∧ eh_V h1 = G ∧ eh_N h1 = eh_N h ∧ ri_lk lo1 0 = some (.ref 0) ∧ ri_lk lo1 1 = some (.int (nI W)) ∧ ri_lk lo1 2 = some (.int 0) ∧ ri_lk lo1 3 = some (.int (((1 : Int32) <<< ((eh_i G 2 4) &&& 31)) - 1)) ∧ ri_lk lo1 4 = some (.int (((1 : Int32) <<< ((eh_i G 2 4) &&& 31)) - 1)) ∧ ri_lk lo1 5 = some (.int 0) ∧ ri_lk lo1 6 = some (.int 0)) ∨ (¬ (∀ j, j < M → lsX G W q0 w j) ∧ rs = [.int (-1)] ∧ eh_V h' = G) := by
  intro n
  induction n with
  | zero =>
    intro J lo h hn E hV l0 l1 l2 ok
    have hJ : J = M := by omega
    subst hJ
    have z := ylm_b (d := d) E hV ty l0 l1 l2 rfl hw w8 (by
      rw [hs, lx_i (by omega), lx_i (by omega)]
      omega) hb
    rw [hs, lx_i (a := W * J) (by omega), lx_i (a := N) (by omega)] at z
    rcases z with ⟨-, h1, lo1, E1, v1, n1, -, m0, m1, m2, m3, m4, m5, m6⟩ | ⟨c, -⟩ | ⟨c, -⟩ | ⟨x, c, -⟩ | ⟨x, c, -⟩
    · exact Or.inl ⟨ok, h1, lo1, E1, v1, n1, m0, m1, m2, m3, m4, m5, m6⟩
    all_goals omega
  | succ n ih =>
    intro J lo h hn E hV l0 l1 l2 ok
    have hJ : J < M := by omega
    have hm : W * (J + 1) ≤ W * M := Nat.mul_le_mul_left W hJ
    rw [Nat.mul_succ] at hm
    have z := ylm_b (d := d) E hV ty l0 l1 l2 rfl hw w8 (by
      intro _
      omega) hb
    obtain ⟨k1, k2, k3, k4⟩ := lsX_m (G := G) (W := W) (q0 := q0) (w := w) (J := J) hb (by omega) q6
    rw [hs, lx_i (a := W * J) (by omega), lx_i (a := N) (by omega), lx_cl (a := W * J) (by omega), hq, nI_m1 (by omega), show nI (W * J) + nI W = nI (W * J + W) from lx_add _ _] at z
    rcases z with ⟨c, -⟩ | ⟨-, c, -⟩ | ⟨-, -, c, r1, r2, r3⟩ | ⟨x, -, -, c, y, nn, h1, lo1, E1, v1, n1, -, m0, m1, m2⟩ | ⟨x, -, -, c, y, nn, r1, r2, r3⟩
    · omega
    · exact (k1 c).elim
    · exact Or.inr ⟨fun x => k3 c (x J hJ), r1, r2⟩
    · have okH : hOK G w (W * J + 1) := by
        rcases y with ⟨a, -⟩ | ⟨-, b⟩
        · exact a
        · rw [b] at nn
          exact absurd (show (-1 : Int32).toInt < 0 by decide) nn
      rw [← Nat.mul_succ] at m2
      rcases ih (J + 1) lo1 h1 (by omega) E1 v1 m0 m1 m2 (fun j hj => by
        by_cases e : j = J
        · rw [e]
          exact ⟨(k4 c).1, (k4 c).2, okH⟩
        · exact ok j (by omega)) with ⟨a, h2, lo2, E2, v2, n2, p⟩ | r
      · exact Or.inl ⟨a, h2, lo2, E2, v2, n2.trans n1, p⟩
      · exact Or.inr r
    · refine Or.inr ⟨fun u => ?_, r1, r2⟩
      rcases y with ⟨-, b⟩ | ⟨a, -⟩
      · have := hNM_lt G (W * J + 1) w8
        rw [b, lx_i (by omega)] at nn
        omega
      · exact a (u J hJ).2.2
end YR
