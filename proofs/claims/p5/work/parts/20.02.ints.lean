/-! intervals under the machine's arithmetic -/
def sx_N (x : Int32) : Nat := x.toBitVec.toNat
theorem sx_N_lt (x : Int32) : sx_N x < 4294967296 := x.toBitVec.isLt
theorem sx_toI (x : Int32) : x.toInt = if sx_N x < 2147483648 then (sx_N x : Int) else (sx_N x : Int) - 4294967296 := by
  have h : x.toInt = x.toBitVec.toInt := rfl
  rw [h, BitVec.toInt_eq_toNat_cond]
  have := sx_N_lt x
  unfold sx_N at this ⊢
  split <;> split <;> omega
theorem sx_nn {x : Int32} (h : 0 ≤ x.toInt) : x.toInt = (sx_N x : Int) ∧ sx_N x < 2147483648 := by
  have := sx_toI x
  have := sx_N_lt x
  split at * <;> omega
theorem sx_nn' {x : Int32} (h : sx_N x < 2147483648) : x.toInt = (sx_N x : Int) := by
  have := sx_toI x
  rw [if_pos h] at this
  exact this
theorem sx_bd (x : Int32) : -2147483648 ≤ x.toInt ∧ x.toInt ≤ 2147483647 := by
  have := sx_toI x
  have := sx_N_lt x
  split at * <;> omega
theorem sx_ofI (x : Int32) {y : Int} (h : x.toInt = y) : Int32.ofInt y = x := by
  rw [← h, Int32.ofInt_toInt]
theorem sx_bm {y : Int} (h1 : -2147483648 ≤ y) (h2 : y ≤ 2147483647) : y.bmod (2 ^ 32) = y := Int.bmod_eq_of_le (by omega) (by omega)
def sx_con (o : Nat) (x y : Int32) : Int32 := match o with
  | 0 => x + y
  | 1 => x - y
  | 2 => x * y
  | 3 => x &&& y
  | 4 => x ||| y
  | 5 => x ^^^ y
  | 6 => x <<< (y &&& 31)
  | 7 => x >>> (y &&& 31)
  | 8 => (x.toUInt32 >>> (y.toUInt32 &&& Int32.toUInt32 31)).toInt32
  | 9 => x / y
  | _ => x - x / y * y
theorem sx_sm : ∀ n : Nat, n < 32 → ((Int32.ofInt (n : Int) &&& 31).toBitVec.smod 32).toNat = n := by decide +kernel
theorem sx_su : ∀ n : Nat, n < 32 → ((Int32.ofInt (n : Int)).toUInt32 &&& Int32.toUInt32 31).toNat % 32 = n := by decide +kernel
theorem sx_N_and (x y : Int32) : sx_N (x &&& y) = sx_N x &&& sx_N y := by
  unfold sx_N
  rw [Int32.toBitVec_and, BitVec.toNat_and]
theorem sx_N_or (x y : Int32) : sx_N (x ||| y) = sx_N x ||| sx_N y := by
  unfold sx_N
  rw [Int32.toBitVec_or, BitVec.toNat_or]
theorem sx_N_xor (x y : Int32) : sx_N (x ^^^ y) = sx_N x ^^^ sx_N y := by
  unfold sx_N
  rw [Int32.toBitVec_xor, BitVec.toNat_xor]
theorem sx_sh_y {y : Int32} (h0 : 0 ≤ y.toInt) (h1 : y.toInt ≤ 31) : ∃ n : Nat, n < 32 ∧ y.toInt = (n : Int) ∧ y = Int32.ofInt (n : Int) := by
  refine ⟨y.toInt.toNat, by omega, by omega, ?_⟩
  rw [sx_ofI y]
  omega
theorem sx_shl {x y : Int32} {n : Nat} (hn : n < 32) (hy : y = Int32.ofInt (n : Int)) : sx_N (x <<< (y &&& 31)) = sx_N x * 2 ^ n % 4294967296 := by
  unfold sx_N
  rw [Int32.toBitVec_shiftLeft, hy, BitVec.shiftLeft_eq', sx_sm n hn, BitVec.toNat_shiftLeft, Nat.shiftLeft_eq]
theorem sx_shr (x y : Int32) : ∃ n : Nat, (x >>> (y &&& 31)).toInt = x.toInt / 2 ^ n ∧ (∀ m : Nat, m < 32 → y = Int32.ofInt (m : Int) → n = m) := by
  refine ⟨((y &&& 31).toBitVec.smod 32).toNat, ?_, fun m hm hy => by rw [hy]; exact sx_sm m hm⟩
  show (x >>> (y &&& 31)).toBitVec.toInt = _
  rw [Int32.toBitVec_shiftRight, BitVec.sshiftRight_eq', BitVec.toInt_sshiftRight, Int.shiftRight_eq_div_pow]
  rfl
theorem sx_ushr (x y : Int32) : ∃ n : Nat, n < 32 ∧ sx_N ((x.toUInt32 >>> (y.toUInt32 &&& Int32.toUInt32 31)).toInt32) = sx_N x / 2 ^ n ∧ (∀ m : Nat, m < 32 → y = Int32.ofInt (m : Int) → n = m) := by
  refine ⟨(y.toUInt32 &&& Int32.toUInt32 31).toNat % 32, Nat.mod_lt _ (by decide), ?_, fun m hm hy => by rw [hy]; exact sx_su m hm⟩
  show (x.toUInt32 >>> (y.toUInt32 &&& Int32.toUInt32 31)).toNat = _
  rw [UInt32.toNat_shiftRight, Nat.shiftRight_eq_div_pow]
  rfl
def sx_fu : Int × Int := (-2147483648, 2147483647)
def sx_fit (a b : Int) : Int × Int := bif sx_ble (-2147483648) a && sx_ble b 2147483647 then (a, b) else sx_fu
def sx_wd (b d : Int) : Int := ((2 ^ (Nat.log2 (sx_max b d).toNat + 1) : Nat) : Int) - 1
/-- the interval of an operation -/
def sx_iop (o : Nat) (a b c d : Int) : Int × Int := match o with
  | 0 => sx_fit (a + c) (b + d)
  | 1 => sx_fit (a - d) (b - c)
  | 2 => bif sx_ble 0 a then sx_fit (bif sx_ble 0 c then a * c else b * c) (bif sx_ble 0 d then b * d else a * d) else sx_fu
  | 3 => bif sx_beq c 255 && (sx_beq d 255 && (sx_ble (-256) a && sx_ble b (-1))) then (a + 256, b + 256) else bif sx_ble 0 a then (0, bif sx_ble 0 c then sx_min b d else b) else bif sx_ble 0 c then (0, d) else sx_fu
  | 4 => bif sx_ble 0 a && sx_ble 0 c then (0, sx_wd b d) else sx_fu
  | 5 => bif sx_ble 0 a && sx_ble 0 c then (0, sx_wd b d) else sx_fu
  | 6 => bif sx_ble 0 a && (sx_ble 0 c && sx_ble d 31) then sx_fit 0 (b * ((2 ^ d.toNat : Nat) : Int)) else sx_fu
  | 7 => bif sx_ble 0 a then (0, bif sx_ble 0 c && sx_ble d 31 then b / ((2 ^ c.toNat : Nat) : Int) else b) else sx_fu
  | 8 => bif sx_ble 0 c && sx_ble d 31 then (bif sx_ble 0 a then (0, b / ((2 ^ c.toNat : Nat) : Int)) else bif sx_ble 1 c then (0, ((2 ^ (32 - c.toNat) : Nat) : Int) - 1) else sx_fu) else bif sx_ble 0 a then (0, b) else sx_fu
  | 9 => bif sx_ble 0 a && sx_ble 1 c then (0, b / c) else sx_fu
  | _ => bif sx_ble 1 c then (bif sx_ble 0 a then (0, sx_min b (d - 1)) else (1 - d, d - 1)) else sx_fu
theorem sx_fu_ok (x : Int32) : sx_fu.1 ≤ x.toInt ∧ x.toInt ≤ sx_fu.2 := sx_bd x
theorem sx_fit_ok {a b y : Int} {x : Int32} (h1 : a ≤ y) (h2 : y ≤ b) (hx : x.toInt = y.bmod (2 ^ 32)) : (sx_fit a b).1 ≤ x.toInt ∧ x.toInt ≤ (sx_fit a b).2 := by
  unfold sx_fit
  cases e : (sx_ble (-2147483648) a && sx_ble b 2147483647) with
  | false => exact sx_fu_ok x
  | true =>
    simp only [Bool.and_eq_true, sx_ble_iff] at e
    rw [hx, sx_bm (by omega) (by omega)]
    exact ⟨h1, h2⟩
theorem sx_wd_ok {b d : Int} {m n r : Nat} (hm : (m : Int) ≤ b) (hn : (n : Int) ≤ d) (hr : ∀ k, m < 2 ^ k → n < 2 ^ k → r < 2 ^ k) : (r : Int) ≤ sx_wd b d := by
  unfold sx_wd
  have h1 := sx_max_l b d
  have h2 : (sx_max b d).toNat < 2 ^ (Nat.log2 (sx_max b d).toNat + 1) := Nat.lt_log2_self
  have := hr (Nat.log2 (sx_max b d).toNat + 1) (by omega) (by omega)
  omega
theorem sx_q {a b : Int} {n : Nat} (h0 : 0 ≤ a) (hab : a ≤ b) : 0 ≤ a / 2 ^ n ∧ a / 2 ^ n ≤ b := by
  have hp : (0 : Int) < 2 ^ n := Int.pow_pos (by decide)
  refine ⟨Int.ediv_nonneg h0 (Int.le_of_lt hp), Int.le_trans (Int.ediv_le_self _ h0) hab⟩
theorem sx_qm {a b : Int} {n c : Nat} (h0 : 0 ≤ a) (hab : a ≤ b) (hc : c ≤ n) : a / 2 ^ n ≤ b / ((2 ^ c : Nat) : Int) := by
  have e1 : a = (a.toNat : Int) := by omega
  have e2 : b = (b.toNat : Int) := by omega
  rw [e1, e2]
  have e3 : ((2 : Int) ^ n) = ((2 ^ n : Nat) : Int) := by simp
  rw [e3]
  have := Nat.div_le_div (show a.toNat ≤ b.toNat by omega) (Nat.pow_le_pow_right (show 0 < 2 by decide) hc) (Nat.ne_of_gt (Nat.two_pow_pos c))
  exact_mod_cast this
theorem sx_rem {x y : Int32} (hy : 1 ≤ y.toInt) : (x - x / y * y).toInt = x.toInt.tmod y.toInt := by
  have hne : y ≠ -1 := by
    rintro rfl
    have : (-1 : Int32).toInt = -1 := by decide
    omega
  have h1 : (x / y).toInt = x.toInt.tdiv y.toInt := Int32.toInt_div_of_ne_right _ _ hne
  have h2 := Int.mul_tdiv_add_tmod x.toInt y.toInt
  have h3 := Int.tmod_lt_of_pos x.toInt (show 0 < y.toInt by omega)
  have h4 := Int.lt_tmod_of_pos x.toInt (show 0 < y.toInt by omega)
  have hx := sx_bd x
  have hyb := sx_bd y
  have h5 : y.toInt * x.toInt.tdiv y.toInt = x.toInt - x.toInt.tmod y.toInt := by omega
  have h6 : -2147483648 ≤ x.toInt - x.toInt.tmod y.toInt ∧ x.toInt - x.toInt.tmod y.toInt ≤ 2147483647 := by
    by_cases h0 : 0 ≤ x.toInt
    · have := Int.tmod_nonneg y.toInt h0
      have h7 : 0 ≤ y.toInt * x.toInt.tdiv y.toInt := Int.mul_nonneg (by omega) (Int.tdiv_nonneg h0 (by omega))
      omega
    · have h8 := Int.tmod_nonneg y.toInt (show 0 ≤ -x.toInt by omega)
      rw [Int.neg_tmod] at h8
      have h7 : 0 ≤ y.toInt * (-x.toInt).tdiv y.toInt := Int.mul_nonneg (by omega) (Int.tdiv_nonneg (by omega) (by omega))
      rw [Int.neg_tdiv, Int.mul_neg] at h7
      omega
  rw [Int32.toInt_sub, Int32.toInt_mul, h1, Int.mul_comm, h5, sx_bm h6.1 h6.2]
  rw [show x.toInt - (x.toInt - x.toInt.tmod y.toInt) = x.toInt.tmod y.toInt by omega]
  exact sx_bm (by omega) (by omega)
set_option maxHeartbeats 4000000 in
theorem sx_iop_ok {o : Nat} {a b c d : Int} {x y : Int32} (ha : a ≤ x.toInt) (hb : x.toInt ≤ b) (hc : c ≤ y.toInt) (hd : y.toInt ≤ d) : (sx_iop o a b c d).1 ≤ (sx_con o x y).toInt ∧ (sx_con o x y).toInt ≤ (sx_iop o a b c d).2 := by
  unfold sx_iop sx_con
  split
  · exact sx_fit_ok (y := x.toInt + y.toInt) (by omega) (by omega) (Int32.toInt_add x y)
  · exact sx_fit_ok (y := x.toInt - y.toInt) (by omega) (by omega) (Int32.toInt_sub x y)
  · cases e : sx_ble 0 a with
    | false => exact sx_fu_ok _
    | true =>
      have e := sx_ble_iff.mp e
      have x0 : 0 ≤ x.toInt := by omega
      refine sx_fit_ok (y := x.toInt * y.toInt) ?_ ?_ (Int32.toInt_mul x y)
      · have l1 : x.toInt * c ≤ x.toInt * y.toInt := Int.mul_le_mul_of_nonneg_left hc x0
        cases e1 : sx_ble 0 c with
        | true => exact Int.le_trans (Int.mul_le_mul_of_nonneg_right ha (sx_ble_iff.mp e1)) l1
        | false =>
          have := sx_ble_no e1
          exact Int.le_trans (Int.mul_le_mul_of_nonpos_right hb (by omega)) l1
      · have l1 : x.toInt * y.toInt ≤ x.toInt * d := Int.mul_le_mul_of_nonneg_left hd x0
        cases e1 : sx_ble 0 d with
        | true => exact Int.le_trans l1 (Int.mul_le_mul_of_nonneg_right hb (sx_ble_iff.mp e1))
        | false =>
          have := sx_ble_no e1
          exact Int.le_trans l1 (Int.mul_le_mul_of_nonpos_right ha (by omega))
  · cases e9 : (sx_beq c 255 && (sx_beq d 255 && (sx_ble (-256) a && sx_ble b (-1)))) with
    | true =>
      simp only [Bool.and_eq_true, sx_ble_iff] at e9
      have e1 := sx_beq_ok e9.1
      have e2 := sx_beq_ok e9.2.1
      have hy : y = 255 := Int32.toInt_inj.mp (by
        have : (255 : Int32).toInt = 255 := by decide
        omega)
      have hN : sx_N (x &&& y) = sx_N x % 256 := by
        rw [hy, sx_N_and, show sx_N 255 = 2 ^ 8 - 1 by decide, Nat.and_two_pow_sub_one_eq_mod]
      have hx1 := sx_toI x
      have hx2 := sx_N_lt x
      have hx3 : (sx_N x : Int) = x.toInt + 4294967296 := by split at hx1 <;> omega
      have l2 : (x &&& y).toInt = (sx_N (x &&& y) : Int) := sx_nn' (by omega)
      exact ⟨by dsimp only [cond_true]; omega, by dsimp only [cond_true]; omega⟩
    | false =>
    dsimp only [cond_false]
    cases e : sx_ble 0 a with
    | true =>
      have e := sx_ble_iff.mp e
      obtain ⟨x1, x2⟩ := sx_nn (x := x) (by omega)
      have l1 : sx_N (x &&& y) ≤ sx_N x := by rw [sx_N_and]; exact Nat.and_le_left
      have l2 : (x &&& y).toInt = (sx_N (x &&& y) : Int) := sx_nn' (by omega)
      dsimp only [cond_true]
      cases e1 : sx_ble 0 c with
      | true =>
        have e1 := sx_ble_iff.mp e1
        obtain ⟨y1, y2⟩ := sx_nn (x := y) (by omega)
        have l3 : sx_N (x &&& y) ≤ sx_N y := by rw [sx_N_and]; exact Nat.and_le_right
        exact ⟨by omega, sx_min_g (by omega) (by omega)⟩
      | false => exact ⟨by omega, by dsimp only [cond_false]; omega⟩
    | false =>
      dsimp only [cond_false]
      cases e1 : sx_ble 0 c with
      | true =>
        have e1 := sx_ble_iff.mp e1
        obtain ⟨y1, y2⟩ := sx_nn (x := y) (by omega)
        have l3 : sx_N (x &&& y) ≤ sx_N y := by rw [sx_N_and]; exact Nat.and_le_right
        have l2 : (x &&& y).toInt = (sx_N (x &&& y) : Int) := sx_nn' (by omega)
        exact ⟨by dsimp only [cond_true]; omega, by dsimp only [cond_true]; omega⟩
      | false => exact sx_fu_ok _
  · cases e : (sx_ble 0 a && sx_ble 0 c) with
    | false => exact sx_fu_ok _
    | true =>
      simp only [Bool.and_eq_true, sx_ble_iff] at e
      obtain ⟨x1, x2⟩ := sx_nn (x := x) (by omega)
      obtain ⟨y1, y2⟩ := sx_nn (x := y) (by omega)
      have l1 : sx_N (x ||| y) < 2 ^ 31 := by rw [sx_N_or]; exact Nat.or_lt_two_pow x2 y2
      have l2 : (x ||| y).toInt = (sx_N (x ||| y) : Int) := sx_nn' l1
      refine ⟨by dsimp only [cond_true]; omega, ?_⟩
      dsimp only [cond_true]
      rw [l2]
      exact sx_wd_ok (m := sx_N x) (n := sx_N y) (by omega) (by omega) (fun k h1 h2 => by rw [sx_N_or]; exact Nat.or_lt_two_pow h1 h2)
  · cases e : (sx_ble 0 a && sx_ble 0 c) with
    | false => exact sx_fu_ok _
    | true =>
      simp only [Bool.and_eq_true, sx_ble_iff] at e
      obtain ⟨x1, x2⟩ := sx_nn (x := x) (by omega)
      obtain ⟨y1, y2⟩ := sx_nn (x := y) (by omega)
      have l1 : sx_N (x ^^^ y) < 2 ^ 31 := by rw [sx_N_xor]; exact Nat.xor_lt_two_pow x2 y2
      have l2 : (x ^^^ y).toInt = (sx_N (x ^^^ y) : Int) := sx_nn' l1
      refine ⟨by dsimp only [cond_true]; omega, ?_⟩
      dsimp only [cond_true]
      rw [l2]
      exact sx_wd_ok (m := sx_N x) (n := sx_N y) (by omega) (by omega) (fun k h1 h2 => by rw [sx_N_xor]; exact Nat.xor_lt_two_pow h1 h2)
  · cases e : (sx_ble 0 a && (sx_ble 0 c && sx_ble d 31)) with
    | false => exact sx_fu_ok _
    | true =>
      simp only [Bool.and_eq_true, sx_ble_iff] at e
      dsimp only [cond_true]
      obtain ⟨x1, x2⟩ := sx_nn (x := x) (by omega)
      obtain ⟨n, n1, n2, n3⟩ := sx_sh_y (y := y) (by omega) (by omega)
      unfold sx_fit
      cases e2 : (sx_ble (-2147483648) 0 && sx_ble (b * ((2 ^ d.toNat : Nat) : Int)) 2147483647) with
      | false => exact sx_fu_ok _
      | true =>
        simp only [Bool.and_eq_true, sx_ble_iff] at e2
        have h1 := sx_shl (x := x) n1 n3
        have h2 : sx_N x * 2 ^ n ≤ b.toNat * 2 ^ d.toNat := Nat.mul_le_mul (by omega) (Nat.pow_le_pow_right (by decide) (by omega))
        have h3 : ((b.toNat * 2 ^ d.toNat : Nat) : Int) = b * ((2 ^ d.toNat : Nat) : Int) := by
          rw [Int.natCast_mul]
          congr 1
          omega
        rw [Nat.mod_eq_of_lt (by omega)] at h1
        have h4 := sx_nn' (x := x <<< (y &&& 31)) (by omega)
        exact ⟨by dsimp only [cond_true]; omega, by dsimp only [cond_true]; omega⟩
  · cases e : sx_ble 0 a with
    | false => exact sx_fu_ok _
    | true =>
      have e := sx_ble_iff.mp e
      obtain ⟨n, n1, n2⟩ := sx_shr x y
      have h1 := sx_q (n := n) (show 0 ≤ x.toInt by omega) hb
      dsimp only [cond_true]
      rw [n1]
      cases e1 : (sx_ble 0 c && sx_ble d 31) with
      | false => exact h1
      | true =>
        simp only [Bool.and_eq_true, sx_ble_iff] at e1
        obtain ⟨m, m1, m2, m3⟩ := sx_sh_y (y := y) (by omega) (by omega)
        have := n2 m m1 m3
        subst this
        exact ⟨h1.1, sx_qm (by omega) hb (by omega)⟩
  · obtain ⟨n, n0, n1, n2⟩ := sx_ushr x y
    have hN := sx_N_lt x
    have e3 : ((2 : Int) ^ n) = ((2 ^ n : Nat) : Int) := by simp
    cases e1 : (sx_ble 0 c && sx_ble d 31) with
    | true =>
      simp only [Bool.and_eq_true, sx_ble_iff] at e1
      dsimp only [cond_true]
      obtain ⟨m, m1, m2, m3⟩ := sx_sh_y (y := y) (by omega) (by omega)
      have := n2 m m1 m3
      subst this
      cases e : sx_ble 0 a with
      | true =>
        have e := sx_ble_iff.mp e
        obtain ⟨x1, x2⟩ := sx_nn (x := x) (by omega)
        have l1 : sx_N x / 2 ^ n ≤ sx_N x := Nat.div_le_self _ _
        have l2 := sx_nn' (x := (x.toUInt32 >>> (y.toUInt32 &&& Int32.toUInt32 31)).toInt32) (by omega)
        have l3 := sx_qm (n := n) (c := c.toNat) (show 0 ≤ x.toInt by omega) hb (by omega)
        rw [x1, e3] at l3
        have l4 : ((sx_N x / 2 ^ n : Nat) : Int) = (sx_N x : Int) / ((2 ^ n : Nat) : Int) := by exact_mod_cast rfl
        exact ⟨by dsimp only [cond_true]; omega, by dsimp only [cond_true]; rw [l2, n1, l4]; exact l3⟩
      | false =>
        dsimp only [cond_false]
        cases e4 : sx_ble 1 c with
        | false => exact sx_fu_ok _
        | true =>
          have e4 := sx_ble_iff.mp e4
          have l1 : sx_N x / 2 ^ n < 2 ^ (32 - n) := by
            rw [Nat.div_lt_iff_lt_mul (Nat.two_pow_pos n), ← Nat.pow_add, show 32 - n + n = 32 by omega]
            exact hN
          have l2 : 2 ^ (32 - n) ≤ 2 ^ (32 - c.toNat) := Nat.pow_le_pow_right (by decide) (by omega)
          have l3 : 2 ^ (32 - c.toNat) ≤ 2 ^ 31 := Nat.pow_le_pow_right (by decide) (by omega)
          have l4 := sx_nn' (x := (x.toUInt32 >>> (y.toUInt32 &&& Int32.toUInt32 31)).toInt32) (by omega)
          exact ⟨by dsimp only [cond_true]; omega, by dsimp only [cond_true]; omega⟩
    | false =>
      dsimp only [cond_false]
      cases e : sx_ble 0 a with
      | false => exact sx_fu_ok _
      | true =>
        have e := sx_ble_iff.mp e
        obtain ⟨x1, x2⟩ := sx_nn (x := x) (by omega)
        have l1 : sx_N x / 2 ^ n ≤ sx_N x := Nat.div_le_self _ _
        have l2 := sx_nn' (x := (x.toUInt32 >>> (y.toUInt32 &&& Int32.toUInt32 31)).toInt32) (by omega)
        exact ⟨by dsimp only [cond_true]; omega, by dsimp only [cond_true]; omega⟩
  · cases e : (sx_ble 0 a && sx_ble 1 c) with
    | false => exact sx_fu_ok _
    | true =>
      simp only [Bool.and_eq_true, sx_ble_iff] at e
      have hne : y ≠ -1 := by
        rintro rfl
        have : (-1 : Int32).toInt = -1 := by decide
        omega
      rw [Int32.toInt_div_of_ne_right _ _ hne, Int.tdiv_eq_ediv_of_nonneg (by omega)]
      refine ⟨Int.ediv_nonneg (by omega) (by omega), ?_⟩
      dsimp only [cond_true]
      have e1 : x.toInt = (x.toInt.toNat : Int) := by omega
      have e2 : y.toInt = (y.toInt.toNat : Int) := by omega
      have e3 : b = (b.toNat : Int) := by omega
      have e4 : c = (c.toNat : Int) := by omega
      rw [e1, e2, e3, e4]
      have := Nat.div_le_div (show x.toInt.toNat ≤ b.toNat by omega) (show c.toNat ≤ y.toInt.toNat by omega) (by omega)
      exact_mod_cast this
  · cases e : sx_ble 1 c with
    | false => exact sx_fu_ok _
    | true =>
      have e := sx_ble_iff.mp e
      have h1 := sx_rem (x := x) (y := y) (by omega)
      have h2 := Int.tmod_lt_of_pos x.toInt (show 0 < y.toInt by omega)
      have h3 := Int.lt_tmod_of_pos x.toInt (show 0 < y.toInt by omega)
      dsimp only [cond_true]
      rw [h1]
      cases e2 : sx_ble 0 a with
      | true =>
        have e2 := sx_ble_iff.mp e2
        have h4 := Int.tmod_nonneg y.toInt (show 0 ≤ x.toInt by omega)
        have h5 : x.toInt.tmod y.toInt ≤ x.toInt := by
          rw [Int.tmod_eq_emod_of_nonneg (by omega)]
          have := Int.emod_add_mul_ediv x.toInt y.toInt
          have h6 : 0 ≤ y.toInt * (x.toInt / y.toInt) := Int.mul_nonneg (by omega) (Int.ediv_nonneg (by omega) (by omega))
          omega
        exact ⟨h4, sx_min_g (by omega) (by omega)⟩
      | false => exact ⟨by dsimp only [cond_false]; omega, by dsimp only [cond_false]; omega⟩
