/-! heightsOf, wavesOf (reference) -/
/-- the number whose digits by 4 are the cells' rests -/
def pkd (r : Nat → Nat) : Nat → Nat
  | 0 => 0
  | n + 1 => 4 * pkd (fun k => r (k + 1)) n + r 0 % 4
theorem pkd_dg : ∀ (n : Nat) (r : Nat → Nat) (k : Nat), dg (pkd r n) k = if k < n then r k % 4 else 0
  | 0, _, k => by
    rw [if_neg (Nat.not_lt_zero k)]
    exact dg_0 k
  | n + 1, r, 0 => by
    rw [if_pos (Nat.succ_pos n)]
    show (4 * pkd (fun k => r (k + 1)) n + r 0 % 4) % 4 = r 0 % 4
    omega
  | n + 1, r, k + 1 => by
    show dg ((4 * pkd (fun k => r (k + 1)) n + r 0 % 4) / 4) k = _
    rw [show (4 * pkd (fun k => r (k + 1)) n + r 0 % 4) / 4 = pkd (fun k => r (k + 1)) n by omega, pkd_dg n _ k]
    by_cases h : k < n
    · rw [if_pos h, if_pos (by omega)]
    · rw [if_neg h, if_neg (by omega)]
theorem pkd_lt : ∀ (n : Nat) (r : Nat → Nat), pkd r n < 4 ^ n
  | 0, _ => Nat.one_pos
  | n + 1, r => by
    have := pkd_lt n (fun k => r (k + 1))
    show 4 * pkd (fun k => r (k + 1)) n + r 0 % 4 < 4 ^ (n + 1)
    rw [Nat.pow_succ]
    omega
/-- the upper cells, from k on -/
theorem pkd_up : ∀ (k n : Nat) (r : Nat → Nat), 4 * pkd (fun j => r (j + (k + 1))) n + r k % 4 = pkd (fun j => r (j + k)) (n + 1) := fun k n r => by
  show _ = 4 * pkd (fun j => r (j + 1 + k)) n + r (0 + k) % 4
  rw [Nat.zero_add, show (fun j => r (j + (k + 1))) = (fun j => r (j + 1 + k)) from funext (fun j => by rw [show j + (k + 1) = j + 1 + k by omega])]
section XH
variable {d c sw P : Nat} {ku sz : Nat → Nat} {ce hi : Nat → Nat → Nat} {cu se : Int32} {h' : ri_H} {rs : List Value} {cal : eh_K} {G : eh_W} {r : Nat → Nat}
theorem nI_4 (a b : Nat) : (4 : Int32) * nI a + nI b = nI (4 * a + b) := by
  rw [show (4 : Int32) * nI a = nI (4 * a) from (Int32.ofNat_mul 4 a).symm]
  exact lx_add (4 * a) b
/-- at k - 1, the cells from k on are in v -/
theorem xh_loop (ty : eh_ty tM G) (hr : rwM r G) : ∀ (k n : Nat) (lo : List (Nat × Value)) (h : ri_H), k + n ≤ 8 → eh_e cal md_192 18 lo [] h rs h' → eh_V h = G → ri_lk lo 0 = some (.ref 0) → ri_lk lo 1 = some (.int cu) → ri_lk lo 2 = some (.int se) → ri_lk lo 3 = some (.int (nI (pkd (fun j => r (j + k)) n))) → ri_lk lo 4 = some (.int (nI k - 1)) → rs = [.int (nI (pkd r (n + k)))] ∧ eh_V h' = G ∧ eh_N h' = eh_N h := by
  intro k
  induction k with
  | zero =>
    intro n lo h hn E hV l0 l1 l2 l3 l4
    rcases xh_l E hV ty l0 l1 l2 l3 l4 with ⟨-, r1, r2, r3⟩ | ⟨c, -⟩
    · exact ⟨r1, r2, r3⟩
    · exact absurd (show (nI 0 - 1 : Int32).toInt < 0 by decide) c
  | succ k ih =>
    intro n lo h hn E hV l0 l1 l2 l3 l4
    rw [show nI (k + 1) - 1 = nI (k + 1 - 1) from lx_sub (b := 1) (by omega), Nat.add_sub_cancel] at l4
    have z := xh_l E hV ty l0 l1 l2 l3 l4
    rw [lx_i (a := k) (by omega), lx_cl (a := k) (by omega), hr k (by omega), nI_4, pkd_up] at z
    rcases z with ⟨c, -⟩ | ⟨-, h1, lo1, E1, v1, n1, -, m0, m1, m2, m3, m4⟩
    · omega
    · rw [← Int32.sub_eq_add_neg] at m4
      obtain ⟨r1, r2, r3⟩ := ih (n + 1) lo1 h1 (by omega) E1 v1 m0 m1 m2 m3 m4
      rw [show n + 1 + k = n + (k + 1) by omega] at r1
      exact ⟨r1, r2, r3.trans n1⟩
/-- heightsOf: the cells' heights, packed; w cells -/
def ht_M (c sw P w : Nat) (ku sz : Nat → Nat) (ce hi : Nat → Nat → Nat) : Nat := pkd (fun k => rR (chs c sw ku) sz ce hi P k 8) w
theorem xh_192 {w : Nat} {h : ri_H} {v : Option Value} (E : ri_calE ri_md (d + 4) 192 [.ref 0, .int cu, .int se] h = some (v, h')) (hV : eh_V h = G) (ty : eh_ty tM G) (D : xD c sw P ku sz ce hi cu se G) (hw : eh_i G 2 0 = nI w) (hw8 : w ≤ 8) : ∃ (u : Int32) (G1 : eh_W), u = nI (ht_M c sw P w ku sz ce hi) ∧ eh_fr pMv G G1 ∧ eh_ty tM G1 ∧ v = some (.int u) ∧ eh_V h' = G1 ∧ eh_N h' = eh_N h := by
  obtain ⟨rs, hrs, E⟩ := eh_in E (q := md_192) rfl
  obtain ⟨G1, ⟨f1, r1, -⟩, t1, h1, lo1, E1, v1, n1, -, m0, m1, m2, m3, m4⟩ := xh_a (d := d) E hV ty rfl rfl rfl D
  rw [f1.i rfl, hw] at m4
  obtain ⟨s1, s2, s3⟩ := xh_loop t1 r1 w 0 lo1 h1 (by omega) E1 v1 m0 m1 m2 m3 m4
  rw [Nat.zero_add] at s1
  exact ⟨_, G1, rfl, f1, t1, by rw [← hrs, s1]; rfl, s2, s3.trans n1⟩
end XH
