/-! HEIGHTS in two bits each: digits by 4; ints that are naturals -/
def dg : Nat → Nat → Nat
  | x, 0 => x % 4
  | x, k + 1 => dg (x / 4) k
theorem dg_lt : ∀ (k x : Nat), dg x k < 4
  | 0, _ => Nat.mod_lt _ (by decide)
  | k + 1, x => dg_lt k (x / 4)
theorem dg_and : ∀ (k x y : Nat), dg (x &&& y) k = dg x k &&& dg y k
  | 0, _, _ => Nat.and_mod_two_pow (n := 2)
  | k + 1, x, y => by
    have h : (x &&& y) / 4 = x / 4 &&& y / 4 := Nat.and_div_two_pow (n := 2)
    show dg ((x &&& y) / 4) k = _
    rw [h]
    exact dg_and k _ _
theorem dg_or : ∀ (k x y : Nat), dg (x ||| y) k = dg x k ||| dg y k
  | 0, _, _ => Nat.or_mod_two_pow (n := 2)
  | k + 1, x, y => by
    have h : (x ||| y) / 4 = x / 4 ||| y / 4 := Nat.or_div_two_pow (n := 2)
    show dg ((x ||| y) / 4) k = _
    rw [h]
    exact dg_or k _ _
theorem dg_xor : ∀ (k x y : Nat), dg (x ^^^ y) k = dg x k ^^^ dg y k
  | 0, _, _ => Nat.xor_mod_two_pow (n := 2)
  | k + 1, x, y => by
    have h : (x ^^^ y) / 4 = x / 4 ^^^ y / 4 := Nat.xor_div_two_pow (n := 2)
    show dg ((x ^^^ y) / 4) k = _
    rw [h]
    exact dg_xor k _ _
theorem dg_add : ∀ (k x y : Nat), (∀ j, dg x j + dg y j < 4) → dg (x + y) k = dg x k + dg y k
  | 0, x, y, h => by
    have h0 : x % 4 + y % 4 < 4 := h 0
    show (x + y) % 4 = x % 4 + y % 4
    omega
  | k + 1, x, y, h => by
    have h0 : x % 4 + y % 4 < 4 := h 0
    have e : (x + y) / 4 = x / 4 + y / 4 := by omega
    show dg ((x + y) / 4) k = _
    rw [e]
    exact dg_add k _ _ (fun j => h (j + 1))
theorem dg_0 : ∀ k : Nat, dg 0 k = 0
  | 0 => rfl
  | k + 1 => dg_0 k
theorem dg_up : ∀ (n x k : Nat), x < 4 ^ n → n ≤ k → dg x k = 0
  | 0, x, k, h, _ => by
    have : x = 0 := by
      rw [Nat.pow_zero] at h
      omega
    rw [this]
    exact dg_0 k
  | n + 1, x, 0, _, h => absurd h (by omega)
  | n + 1, x, k + 1, h, hk => by
    rw [Nat.pow_succ] at h
    exact dg_up n (x / 4) k (by omega) (by omega)
theorem dg_ext : ∀ (n x y : Nat), x < 4 ^ n → y < 4 ^ n → (∀ k, k < n → dg x k = dg y k) → x = y
  | 0, x, y, hx, hy, _ => by
    rw [Nat.pow_zero] at hx hy
    omega
  | n + 1, x, y, hx, hy, h => by
    rw [Nat.pow_succ] at hx hy
    have h0 : x % 4 = y % 4 := h 0 (Nat.succ_pos n)
    have h1 := dg_ext n (x / 4) (y / 4) (by omega) (by omega) (fun k hk => h (k + 1) (by omega))
    omega
/-- added by 4, digit by digit -/
def ad (x y : Nat) : Nat := ((x &&& 21845) + (y &&& 21845)) ^^^ ((x ^^^ y) &&& 43690)
theorem dg_c8 : ∀ k : Fin 8, dg 21845 k.val = 1 ∧ dg 43690 k.val = 2 := by decide
theorem dg_c : ∀ k : Nat, (k < 8 → dg 21845 k = 1 ∧ dg 43690 k = 2) ∧ dg 21845 k ≤ 1 := fun k => by
  refine ⟨fun h => dg_c8 ⟨k, h⟩, ?_⟩
  by_cases h : k < 8
  · exact Nat.le_of_eq (dg_c8 ⟨k, h⟩).1
  · rw [dg_up 8 21845 k (by decide) (by omega)]
    exact Nat.zero_le _
theorem ad_fin : ∀ a b : Fin 4, ((a.val &&& 1) + (b.val &&& 1)) ^^^ ((a.val ^^^ b.val) &&& 2) = (a.val + b.val) % 4 := by decide
theorem dg_ad {k : Nat} (hk : k < 8) (x y : Nat) : dg (ad x y) k = (dg x k + dg y k) % 4 := by
  have h : ∀ j, dg (x &&& 21845) j + dg (y &&& 21845) j < 4 := fun j => by
    rw [dg_and, dg_and]
    have a : dg x j &&& dg 21845 j ≤ dg 21845 j := Nat.and_le_right
    have b : dg y j &&& dg 21845 j ≤ dg 21845 j := Nat.and_le_right
    have c := (dg_c j).2
    omega
  obtain ⟨c5, cA⟩ := (dg_c k).1 hk
  unfold ad
  rw [dg_xor, dg_add k _ _ h, dg_and, dg_and, dg_and, dg_xor, c5, cA]
  exact ad_fin ⟨dg x k, dg_lt k x⟩ ⟨dg y k, dg_lt k y⟩
theorem ad_lt (x y : Nat) : ad x y < 65536 := by
  have a : x &&& 21845 ≤ 21845 := Nat.and_le_right
  have b : y &&& 21845 ≤ 21845 := Nat.and_le_right
  have c : (x ^^^ y) &&& 43690 ≤ 43690 := Nat.and_le_right
  exact Nat.xor_lt_two_pow (n := 16) (by omega) (by omega)
/-! ints -/
theorem nI_and (a b : Nat) : nI a &&& nI b = nI (a &&& b) := Int32.toBitVec_inj.1 (BitVec.ofNat_and (w := 32) (x := a) (y := b)).symm
theorem nI_or (a b : Nat) : nI a ||| nI b = nI (a ||| b) := Int32.toBitVec_inj.1 (BitVec.ofNat_or (w := 32) (x := a) (y := b)).symm
theorem nI_xor (a b : Nat) : nI a ^^^ nI b = nI (a ^^^ b) := Int32.toBitVec_inj.1 (BitVec.ofNat_xor (w := 32) (x := a) (y := b)).symm
theorem nI_s31 : ∀ s : Fin 32, (nI s.val &&& 31).toBitVec.smod 32 = BitVec.ofNat 32 s.val := by decide +kernel
theorem nI_shr {y s : Nat} (hy : y < 2147483648) (hs : s < 32) : nI y >>> (nI s &&& 31) = nI (y / 2 ^ s) := by
  apply Int32.toBitVec_inj.1
  show BitVec.sshiftRight' (BitVec.ofNat 32 y) ((nI s &&& 31).toBitVec.smod 32) = BitVec.ofNat 32 (y / 2 ^ s)
  rw [nI_s31 ⟨s, hs⟩]
  apply BitVec.eq_of_toNat_eq
  have hm : (BitVec.ofNat 32 y).msb = false := by
    rw [BitVec.msb_eq_false_iff_two_mul_lt, BitVec.toNat_ofNat]
    omega
  have hd : y / 2 ^ s ≤ y := Nat.div_le_self _ _
  rw [BitVec.toNat_sshiftRight'_of_msb_false hm, BitVec.toNat_ofNat, BitVec.toNat_ofNat, BitVec.toNat_ofNat, Nat.mod_eq_of_lt (a := y) (by omega), Nat.mod_eq_of_lt (a := s) (by omega), Nat.mod_eq_of_lt (a := y / 2 ^ s) (by omega), Nat.shiftRight_eq_div_pow]
theorem nI_shl {y s : Nat} (hy : y * 2 ^ s < 4294967296) (hs : s < 32) : nI y <<< (nI s &&& 31) = nI (y * 2 ^ s) := by
  apply Int32.toBitVec_inj.1
  show (BitVec.ofNat 32 y) <<< ((nI s &&& 31).toBitVec.smod 32) = BitVec.ofNat 32 (y * 2 ^ s)
  rw [nI_s31 ⟨s, hs⟩]
  apply BitVec.eq_of_toNat_eq
  have hd : y ≤ y * 2 ^ s := Nat.le_mul_of_pos_right _ (Nat.two_pow_pos s)
  rw [BitVec.shiftLeft_eq', BitVec.toNat_shiftLeft, BitVec.toNat_ofNat, BitVec.toNat_ofNat, BitVec.toNat_ofNat, Nat.mod_eq_of_lt (a := y) (by omega), Nat.mod_eq_of_lt (a := s) (by omega), Nat.shiftLeft_eq]
theorem add2_nI (x y : Nat) : add2 (nI x) (nI y) = nI (ad x y) := by
  show ((nI x &&& nI 21845) + (nI y &&& nI 21845)) ^^^ ((nI x ^^^ nI y) &&& nI 43690) = nI (ad x y)
  rw [nI_and, nI_and, nI_xor, nI_and, show nI (x &&& 21845) + nI (y &&& 21845) = nI ((x &&& 21845) + (y &&& 21845)) from lx_add _ _, nI_xor]
  rfl
set_option maxRecDepth 10000 in
theorem wv_fin : ∀ (c : Fin 8) (h : Fin 4), wv (nI (10 * c.val + h.val)) = nI (h.val * 4 ^ c.val) ∧ h.val * 4 ^ c.val < 65536 ∧ ∀ k : Fin 8, dg (h.val * 4 ^ c.val) k.val = if c.val = k.val then h.val else 0 := by decide +kernel
theorem wv_nI {c h : Nat} (hc : c < 8) (hh : h < 4) : wv (nI (10 * c + h)) = nI (h * 4 ^ c) := (wv_fin ⟨c, hc⟩ ⟨h, hh⟩).1
theorem wv_dg {c h k : Nat} (hc : c < 8) (hh : h < 4) (hk : k < 8) : dg (h * 4 ^ c) k = if c = k then h else 0 := (wv_fin ⟨c, hc⟩ ⟨h, hh⟩).2.2 ⟨k, hk⟩
/-- a bit of a set -/
theorem nI_bit {w s : Nat} (hw : w < 2147483648) (hs : s < 32) : (nI w >>> (nI s &&& 31)) &&& 1 = 1 ↔ Nat.testBit w s = true := by
  rw [nI_shr hw hs, show (1 : Int32) = nI 1 from rfl, nI_and, Nat.testBit_eq_decide_div_mod_eq, decide_eq_true_eq, Nat.and_one_is_mod]
  constructor
  · intro h
    exact lx_inj (by omega) (by omega) h
  · intro h
    rw [h]
theorem tb_lt {w s : Nat} (hs : 8 ≤ s) (hw : w < 256) : Nat.testBit w s = false := Nat.testBit_lt_two_pow (Nat.lt_of_lt_of_le hw (Nat.pow_le_pow_right (by decide) hs : 2 ^ 8 ≤ 2 ^ s))
