/-! wavesAt, cellsOf (class) -/
theorem dg_bit : ∀ k y : Nat, y / 2 ^ (2 * k + 1) % 2 = dg y k / 2
  | 0, y => by
    show y / 2 ^ 1 % 2 = y % 4 / 2
    rw [Nat.pow_one]
    omega
  | k + 1, y => by
    show _ = dg (y / 4) k / 2
    rw [← dg_bit k (y / 4), Nat.div_div_eq_div_mul, show 2 * (k + 1) + 1 = 2 * k + 1 + 1 + 1 by omega, Nat.pow_succ, Nat.pow_succ]
    congr 2
    omega
theorem nI_b0 {w s : Nat} (hw : w < 2147483648) (hs : s < 32) : (nI w >>> (nI s &&& 31)) &&& 1 = 0 ↔ Nat.testBit w s = false := by
  rw [nI_shr hw hs, show (1 : Int32) = nI 1 from rfl, nI_and, Nat.testBit_eq_decide_div_mod_eq, decide_eq_false_iff_not, Nat.and_one_is_mod]
  constructor
  · intro h
    have : w / 2 ^ s % 2 = 0 := lx_inj (by omega) (by omega) h
    omega
  · intro h
    rw [show w / 2 ^ s % 2 = 0 by omega]
    rfl
/-- the high digits of a number -/
def hgC (b : Nat → Bool) (y : Nat) : Prop := y < 65536 ∧ ∀ k, k < 8 → dg y k = if b k = true then 2 else 0
/-- a set of cells -/
def wsC (b : Nat → Bool) (u : Int32) : Prop := ∃ w, w < 256 ∧ u = nI w ∧ ∀ k, k < 8 → Nat.testBit w k = b k
theorem or_bit2 : ∀ (w : Fin 256) (k : Fin 8), (nI w.val ||| (nI 1 <<< (nI k.val &&& 31))) = nI (w.val ||| 1 <<< k.val) ∧ (nI w.val ||| (nI 0 <<< (nI k.val &&& 31))) = nI w.val := by decide +kernel
theorem tb_1l {w k : Nat} (hw : w < 256) (hk : k < 8) : w ||| 1 <<< k < 256 := Nat.or_lt_two_pow (n := 8) hw (by
  rw [Nat.one_shiftLeft]
  exact Nat.pow_lt_pow_right (by decide) hk)
section XC
variable {cal : eh_K} {h' : ri_H} {rs : List Value} {G : eh_W} {y : Nat} {b : Nat → Bool}
theorem xc_loop (ty : eh_ty tC G) (H : hgC b y) : ∀ (f k : Nat) (lo : List (Nat × Value)) (h : ri_H) (w : Nat), k + f = 8 → eh_e cal md_35 4 lo [] h rs h' → eh_V h = G → ri_lk lo 0 = some (.int (nI y)) → ri_lk lo 1 = some (.int (nI w)) → ri_lk lo 2 = some (.int (nI k)) → w < 256 → (∀ j, j < 8 → Nat.testBit w j = (Nat.blt j k && b j)) → (∃ u, wsC b u ∧ rs = [.int u]) ∧ eh_V h' = G ∧ eh_N h' = eh_N h := by
  intro f
  induction f with
  | zero =>
    intro k lo h w hf E hV l0 l1 l2 hw hb
    have z := xc_l E hV ty l0 l1 l2
    rw [lx_i (a := k) (by omega)] at z
    rcases z with ⟨-, r1, r2, r3⟩ | ⟨c, -⟩
    · refine ⟨⟨_, ⟨w, hw, rfl, fun j hj => ?_⟩, r1⟩, r2, r3⟩
      rw [hb j hj, Nat.blt_eq.mpr (by omega)]
      rfl
    · omega
  | succ f ih =>
    intro k lo h w hf E hV l0 l1 l2 hw hb
    have hk : k < 8 := by omega
    have z := xc_l E hV ty l0 l1 l2
    rw [lx_i (a := k) (by omega), show (2 : Int32) * nI k = nI (2 * k) from (Int32.ofNat_mul 2 k).symm, show nI (2 * k) + 1 = nI (2 * k + 1) from lx_a1 (2 * k), nI_shr (y := y) (s := 2 * k + 1) (by have := H.1; omega) (by omega), show (1 : Int32) = nI 1 from rfl, nI_and, Nat.and_one_is_mod, dg_bit, H.2 k hk, show nI k + nI 1 = nI (k + 1) from lx_add k 1] at z
    rcases z with ⟨c, -⟩ | ⟨-, h1, lo1, E1, v1, n1, -, m0, m1, m2⟩
    · omega
    · obtain ⟨o1, o2⟩ := or_bit2 ⟨w, hw⟩ ⟨k, hk⟩
      have o1 : (nI w ||| (nI 1 <<< (nI k &&& 31))) = nI (w ||| 1 <<< k) := o1
      have o2 : (nI w ||| (nI 0 <<< (nI k &&& 31))) = nI w := o2
      have hs : ∀ j, j ≠ k → Nat.blt j (k + 1) = Nat.blt j k := fun j hj => by
        by_cases x : j < k
        · rw [Nat.blt_eq.mpr x, Nat.blt_eq.mpr (by omega)]
        · rw [blt_no x, blt_no (by omega)]
      by_cases e : b k = true
      · rw [if_pos e, show (2 / 2 : Nat) = 1 from rfl, o1] at m1
        obtain ⟨r1, r2, r3⟩ := ih (k + 1) lo1 h1 (w ||| 1 <<< k) (by omega) E1 v1 m0 m1 m2 (tb_1l hw hk) (fun j hj => by
          rw [tb_or, hb j hj]
          by_cases x : j = k
          · rw [x, e, Nat.blt_eq.mpr (Nat.lt_succ_self k), decide_eq_true rfl]
            cases Nat.blt k k <;> rfl
          · rw [hs j x, decide_eq_false (fun y => x y.symm), Bool.or_false])
        exact ⟨r1, r2, r3.trans n1⟩
      · rw [if_neg e, show (0 / 2 : Nat) = 0 from rfl, o2] at m1
        obtain ⟨r1, r2, r3⟩ := ih (k + 1) lo1 h1 w (by omega) E1 v1 m0 m1 m2 hw (fun j hj => by
          rw [hb j hj]
          by_cases x : j = k
          · rw [x, lx_no e, Bool.and_false, Bool.and_false]
          · rw [hs j x])
        exact ⟨r1, r2, r3.trans n1⟩
theorem xc_35 {d : Nat} {h : ri_H} {v : Option Value} {hg : Int32} (E : ri_calE ri_md (d + 1) 35 [.int hg] h = some (v, h')) (hV : eh_V h = G) (ty : eh_ty tC G) (e : hg = nI y) (H : hgC b y) : ∃ u : Int32, wsC b u ∧ v = some (.int u) ∧ eh_V h' = G ∧ eh_N h' = eh_N h := by
  subst e
  obtain ⟨rs, hrs, E⟩ := eh_in E (q := md_35) rfl
  obtain ⟨h1, lo1, E1, v1, n1, -, m0, m1, m2⟩ := xc_a E hV ty rfl
  obtain ⟨⟨u, u1, r1⟩, r2, r3⟩ := xc_loop ty H 8 0 lo1 h1 0 (by omega) E1 v1 m0 m1 m2 (by decide) (fun j _ => by
    rw [Nat.zero_testBit, blt_no (Nat.not_lt_zero j)]
    rfl)
  exact ⟨u, u1, by rw [← hrs, r1]; rfl, r2, r3.trans n1⟩
end XC
