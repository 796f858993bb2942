/-! the two readers' TOKENS are alike (JT) -/
def lx_c (m o : Nat) (l : Nat → Nat) : Nat → Nat
  | 0 => 0
  | k + 1 => lx_c m o l k * m + (l k - o)
theorem lx_c_cg (m o : Nat) {l l' : Nat → Nat} : ∀ k, (∀ i, i < k → l i = l' i) → lx_c m o l k = lx_c m o l' k
  | 0, _ => rfl
  | k + 1, h => by
    show lx_c m o l k * m + (l k - o) = lx_c m o l' k * m + (l' k - o)
    rw [lx_c_cg m o k (fun i hi => h i (by omega)), h k (by omega)]
theorem lx_c_inj {m o : Nat} {l l' : Nat → Nat} (hm : 0 < m) : ∀ k k', (∀ i, i < k → o < l i ∧ l i < o + m) → (∀ i, i < k' → o < l' i ∧ l' i < o + m) → lx_c m o l k = lx_c m o l' k' → k = k' ∧ ∀ i, i < k → l i = l' i
  | 0, 0, _, _, _ => ⟨rfl, fun i hi => absurd hi (Nat.not_lt_zero i)⟩
  | 0, k' + 1, _, h', e => by
    have e : 0 = lx_c m o l' k' * m + (l' k' - o) := e
    have := h' k' (by omega)
    omega
  | k + 1, 0, h, _, e => by
    have e : lx_c m o l k * m + (l k - o) = 0 := e
    have := h k (by omega)
    omega
  | k + 1, k' + 1, h, h', e => by
    have e : lx_c m o l k * m + (l k - o) = lx_c m o l' k' * m + (l' k' - o) := e
    have q := h k (by omega)
    have q' := h' k' (by omega)
    have e1 : (lx_c m o l k * m + (l k - o)) % m = (lx_c m o l' k' * m + (l' k' - o)) % m := by rw [e]
    rw [Nat.mul_add_mod', Nat.mul_add_mod', Nat.mod_eq_of_lt (by omega), Nat.mod_eq_of_lt (by omega)] at e1
    have e2 : lx_c m o l k * m = lx_c m o l' k' * m := by omega
    have e2 := Nat.eq_of_mul_eq_mul_right hm e2
    obtain ⟨r1, r2⟩ := lx_c_inj hm k k' (fun i hi => h i (by omega)) (fun i hi => h' i (by omega)) e2
    subst r1
    refine ⟨rfl, fun i hi => ?_⟩
    by_cases e3 : i = k
    · subst e3
      omega
    · exact r2 i (by omega)
theorem lx_c_lt {m o : Nat} {l : Nat → Nat} (hm : 0 < m) : ∀ k, (∀ i, i < k → l i < o + m) → lx_c m o l k < m ^ k
  | 0, _ => Nat.one_pos
  | k + 1, h => by
    have ih := lx_c_lt (l := l) hm k (fun i hi => h i (by omega))
    have q := h k (by omega)
    show lx_c m o l k * m + (l k - o) < m ^ k * m
    have : (lx_c m o l k + 1) * m ≤ m ^ k * m := Nat.mul_le_mul_right m ih
    rw [Nat.add_mul] at this
    omega
theorem lx_64 {a b : Nat} (ha : a < 2 ^ 63) (hb : b < 2 ^ 63) (e : Int64.ofNat a = Int64.ofNat b) : a = b := by
  have := congrArg Int64.toInt e
  rw [Int64.toInt_ofNat_of_lt ha, Int64.toInt_ofNat_of_lt hb] at this
  omega
/-- one word, in both codes -/
def VW (cd wd : Int64) : Prop := ∃ (l : Nat → Nat) (k : Nat), k ≤ 7 ∧ (∀ i, i < k → 97 ≤ l i ∧ l i ≤ 122) ∧ cd = Int64.ofNat (lx_c 32 96 l k) ∧ wd = Int64.ofNat (lx_c 256 0 l k)
theorem VW_iff {c w c' w' : Int64} (h : VW c w) (h' : VW c' w') : c = c' ↔ w = w' := by
  obtain ⟨l, k, k1, k2, k3, k4⟩ := h
  obtain ⟨l', k', k1', k2', k3', k4'⟩ := h'
  have a1 : lx_c 32 96 l k < 2 ^ 63 := Nat.lt_of_lt_of_le (lx_c_lt (by decide) k (fun i hi => by have := k2 i hi; omega)) (Nat.le_trans (Nat.pow_le_pow_right (by decide) k1) (by decide))
  have a2 : lx_c 32 96 l' k' < 2 ^ 63 := Nat.lt_of_lt_of_le (lx_c_lt (by decide) k' (fun i hi => by have := k2' i hi; omega)) (Nat.le_trans (Nat.pow_le_pow_right (by decide) k1') (by decide))
  have a3 : lx_c 256 0 l k < 2 ^ 63 := Nat.lt_of_lt_of_le (lx_c_lt (by decide) k (fun i hi => by have := k2 i hi; omega)) (Nat.le_trans (Nat.pow_le_pow_right (by decide) k1) (by decide))
  have a4 : lx_c 256 0 l' k' < 2 ^ 63 := Nat.lt_of_lt_of_le (lx_c_lt (by decide) k' (fun i hi => by have := k2' i hi; omega)) (Nat.le_trans (Nat.pow_le_pow_right (by decide) k1') (by decide))
  rw [k3, k3', k4, k4']
  constructor
  · intro e
    obtain ⟨r1, r2⟩ := lx_c_inj (by decide) k k' (fun i hi => by have := k2 i hi; omega) (fun i hi => by have := k2' i hi; omega) (lx_64 a1 a2 e)
    subst r1
    rw [lx_c_cg 256 0 k r2]
  · intro e
    obtain ⟨r1, r2⟩ := lx_c_inj (by decide) k k' (fun i hi => by have := k2 i hi; omega) (fun i hi => by have := k2' i hi; omega) (lx_64 a3 a4 e)
    subst r1
    rw [lx_c_cg 32 96 k r2]
def lx_keys : List (List Nat) := [[99, 101, 108, 108, 115], [115, 104, 111, 119, 110], [107, 101, 101, 112, 115], [110, 105, 103, 104, 116, 115], [105, 99, 101], [99, 117, 101], [108, 101, 115, 115, 111, 110], [116, 101, 97, 99, 104, 101, 114], [98, 111, 97, 116], [115, 104, 111, 119, 115], [114, 105, 110, 103, 115], [115, 97, 105, 108, 115], [100, 97, 121], [111, 114], [97, 110, 100], [110, 111, 116], [107, 110, 111, 119, 110], [116, 111, 100, 97, 121], [97, 116], [98, 121], [116, 105, 109, 101, 115], [115, 116, 101, 112, 115], [100, 111, 110, 101], [110, 117, 109, 98, 101, 114]]
theorem lx_keys_ok : (List.range 24).all (fun k => Nat.ble (lx_keys.getD k []).length 7 && ((lx_keys.getD k []).all (fun x => Nat.ble 97 x && Nat.ble x 122) && (decide (lx_K k = Int64.ofNat (lx_c 32 96 (fun i => (lx_keys.getD k []).getD i 0) (lx_keys.getD k []).length)) && decide (lx_Wd k = Int64.ofNat (lx_c 256 0 (fun i => (lx_keys.getD k []).getD i 0) (lx_keys.getD k []).length))))) = true := by decide +kernel
theorem VW_key {k : Nat} (hk : k < 24) : VW (lx_K k) (lx_Wd k) := by
  have q := List.all_eq_true.mp lx_keys_ok k (List.mem_range.mpr hk)
  simp only [Bool.and_eq_true, decide_eq_true_eq, Nat.ble_eq] at q
  refine ⟨fun i => (lx_keys.getD k []).getD i 0, (lx_keys.getD k []).length, q.1, fun i hi => ?_, q.2.2.1, q.2.2.2⟩
  have := List.all_eq_true.mp q.2.1 ((lx_keys.getD k [])[i]) (List.getElem_mem hi)
  simp only [Bool.and_eq_true, Nat.ble_eq] at this
  dsimp only
  rw [List.getD_eq_getElem?_getD, List.getElem?_eq_getElem hi]
  exact this
/-! runs -/
section RUNS
variable {b : Nat → Int32} {s : Nat}
def lx_dc (b : Nat → Int32) (s : Nat) : Nat → Nat
  | 0 => 0
  | k + 1 => bif lx_dg (b (s + k)) then lx_dc b s k + 1 else lx_dc b s k
theorem lx_f1 : ∀ k, (lx_f b s k).1 = nI (lx_dc b s k)
  | 0 => rfl
  | k + 1 => by
    unfold lx_f lx_dc
    cases lx_dg (b (s + k)) with
    | true =>
      show (lx_f b s k).1 + 1 = nI (lx_dc b s k + 1)
      rw [lx_f1 k, lx_a1]
    | false => exact lx_f1 k
theorem lx_dc_le : ∀ k, lx_dc b s k ≤ k
  | 0 => Nat.le_refl _
  | k + 1 => by
    have := lx_dc_le k
    unfold lx_dc
    cases lx_dg (b (s + k)) with
    | true => show lx_dc b s k + 1 ≤ k + 1; omega
    | false => show lx_dc b s k ≤ k + 1; omega
theorem lx_dc0 : ∀ k, lx_dc b s k = 0 → ∀ i, i < k → lx_dg (b (s + i)) = false
  | 0, _, i, hi => absurd hi (Nat.not_lt_zero i)
  | k + 1, h, i, hi => by
    unfold lx_dc at h
    cases e : lx_dg (b (s + k)) with
    | true => rw [e] at h; cases h
    | false =>
      rw [e] at h
      by_cases e1 : i = k
      · rw [e1]; exact e
      · exact lx_dc0 k h i (by omega)
theorem lx_dcf : ∀ k, lx_dc b s k = k → ∀ i, i < k → lx_dg (b (s + i)) = true
  | 0, _, i, hi => absurd hi (Nat.not_lt_zero i)
  | k + 1, h, i, hi => by
    have := lx_dc_le (b := b) (s := s) k
    unfold lx_dc at h
    cases e : lx_dg (b (s + k)) with
    | true =>
      rw [e] at h
      by_cases e1 : i = k
      · rw [e1]; exact e
      · exact lx_dcf k (by dsimp only [cond_true] at h; omega) i (by omega)
    | false =>
      rw [e] at h
      dsimp only [cond_false] at h
      omega
theorem lx_dc_0 : ∀ k, (∀ i, i < k → lx_dg (b (s + i)) = false) → lx_dc b s k = 0
  | 0, _ => rfl
  | k + 1, h => by
    unfold lx_dc
    rw [h k (by omega)]
    exact lx_dc_0 k (fun i hi => h i (by omega))
theorem lx_dc_f : ∀ k, (∀ i, i < k → lx_dg (b (s + i)) = true) → lx_dc b s k = k
  | 0, _ => rfl
  | k + 1, h => by
    unfold lx_dc
    rw [h k (by omega)]
    show lx_dc b s k + 1 = k + 1
    rw [lx_dc_f k (fun i hi => h i (by omega))]
theorem lx_al_iff : ∀ k, lx_al b s k = true ↔ ∀ i, i < k → lx_lt (b (s + i)) = lx_lt (b s)
  | 0 => ⟨fun _ i hi => absurd hi (Nat.not_lt_zero i), fun _ => rfl⟩
  | k + 1 => by
    show (lx_al b s k && (lx_lt (b (s + k)) == lx_lt (b s))) = true ↔ _
    rw [Bool.and_eq_true, lx_al_iff k, beq_iff_eq]
    constructor
    · intro h i hi
      by_cases e : i = k
      · rw [e]; exact h.2
      · exact h.1 i (by omega)
    · exact fun h => ⟨fun i hi => h i (by omega), h k (by omega)⟩
theorem lx_run : ∀ f a i, i < lx_rl b f a → (lx_lt (b (a + i)) || lx_dg (b (a + i))) = true
  | 0, _, i, h => absurd h (Nat.not_lt_zero i)
  | f + 1, a, i, h => by
    unfold lx_rl at h
    cases e : (lx_lt (b a) || lx_dg (b a)) with
    | false => rw [e] at h; exact absurd h (Nat.not_lt_zero i)
    | true =>
      rw [e] at h
      cases i with
      | zero => exact e
      | succ i =>
        have := lx_run f (a + 1) i (by dsimp only [cond_true] at h; omega)
        rw [show a + 1 + i = a + (i + 1) by omega] at this
        exact this
theorem lx_xor {x : Int32} (h : lx_lt x = true) : lx_dg x = false := lx_no (fun e => by have := lx_lt_iff.mp h; have := lx_dg_iff.mp e; omega)
/-- the number of a run of digits -/
theorem lx_q_f : ∀ k, k ≤ 3 → (∀ i, i < k → lx_dg (b (s + i)) = true) → lx_q b s k = (lx_f b s k).2.1 ∧ ∃ v : Nat, v < 10 ^ k ∧ (lx_f b s k).2.1 = nI v
  | 0, _, _ => ⟨rfl, 0, by decide, rfl⟩
  | k + 1, hk, h => by
    obtain ⟨e, v, v1, v2⟩ := lx_q_f k (by omega) (fun i hi => h i (by omega))
    have hd := h k (by omega)
    have e1 : lx_q b s (k + 1) = 10 * lx_q b s k + b (s + k) - 48 := by
      show (bif Nat.blt k 3 then _ else _) = _
      rw [Nat.blt_eq.mpr (show k < 3 by omega)]
      rfl
    have e2 : (lx_f b s (k + 1)).2.1 = (lx_f b s k).2.1 * 10 + (b (s + k) - 48) := by
      show (bif lx_dg (b (s + k)) then ((lx_f b s k).1 + 1, (lx_f b s k).2.1 * 10 + (b (s + k) - 48), (lx_f b s k).2.2) else ((lx_f b s k).1, (lx_f b s k).2.1, (lx_f b s k).2.2 * 32 + Int32.toInt64 (b (s + k) - 97 + 1))).2.1 = _
      rw [hd]
      rfl
    refine ⟨?_, v * 10 + ((b (s + k)).toInt.toNat - 48), ?_, ?_⟩
    · rw [e1, e2, e, Int32.mul_comm, Int32.sub_eq_add_neg, Int32.sub_eq_add_neg, Int32.add_assoc]
    · have := lx_dg_iff.mp hd
      rw [Nat.pow_succ]
      omega
    · rw [e2, v2]
      have q := lx_dg_iff.mp hd
      have q2 : ∀ j : Fin 10, Int32.ofInt (48 + (j.val : Int)) - 48 = nI j.val := by decide
      have q3 := q2 ⟨(b (s + k)).toInt.toNat - 48, by omega⟩
      dsimp only at q3
      rw [show (48 : Int) + (((b (s + k)).toInt.toNat - 48 : Nat) : Int) = (b (s + k)).toInt by omega, Int32.ofInt_toInt] at q3
      rw [q3]
      show Int32.ofNat v * Int32.ofNat 10 + Int32.ofNat _ = Int32.ofNat _
      rw [Int32.ofNat_add, Int32.ofNat_mul]
theorem lx_nat64 {n : Nat} (h : n < 2 ^ 63) : (Int64.ofNat n).toBitVec.toNat = n := by
  show n % 2 ^ 64 = n
  omega
theorem lx_sh8 {W c : Nat} (hW : W < 2 ^ 48) (hc : c < 256) : (Int64.ofNat W <<< (Int32.toInt64 8 &&& 63)) ||| Int64.ofNat c = Int64.ofNat (W * 256 + c) := by
  apply Int64.toBitVec_inj.mp
  apply BitVec.eq_of_toNat_eq
  rw [Int64.toBitVec_or, BitVec.toNat_or, lx_nat64 (by omega), lx_nat64 (by omega)]
  show ((Int64.ofNat W).toBitVec <<< 8).toNat ||| c = _
  rw [BitVec.toNat_shiftLeft, lx_nat64 (by omega), Nat.shiftLeft_eq, Nat.mod_eq_of_lt (by omega)]
  have := Nat.shiftLeft_add_eq_or_of_lt (i := 8) (b := c) (by omega) W
  rw [Nat.shiftLeft_eq] at this
  rw [← this]
/-- the codes of a run of letters -/
theorem lx_codes : ∀ k, k ≤ 7 → (∀ i, i < k → lx_lt (b (s + i)) = true) → (lx_f b s k).2.2 = Int64.ofNat (lx_c 32 96 (fun i => (b (s + i)).toInt.toNat) k) ∧ lx_w b s k = Int64.ofNat (lx_c 256 0 (fun i => (b (s + i)).toInt.toNat) k)
  | 0, _, _ => ⟨rfl, rfl⟩
  | k + 1, hk, h => by
    obtain ⟨e1, e2⟩ := lx_codes k (by omega) (fun i hi => h i (by omega))
    have hl := h k (by omega)
    have q := lx_lt_iff.mp hl
    have hd := lx_xor hl
    constructor
    · have f1 : (lx_f b s (k + 1)).2.2 = (lx_f b s k).2.2 * 32 + Int32.toInt64 (b (s + k) - 97 + 1) := by
        show (bif lx_dg (b (s + k)) then ((lx_f b s k).1 + 1, (lx_f b s k).2.1 * 10 + (b (s + k) - 48), (lx_f b s k).2.2) else ((lx_f b s k).1, (lx_f b s k).2.1, (lx_f b s k).2.2 * 32 + Int32.toInt64 (b (s + k) - 97 + 1))).2.2 = _
        rw [hd]
        rfl
      have q2 : ∀ j : Fin 26, Int32.toInt64 (Int32.ofInt (97 + (j.val : Int)) - 97 + 1) = Int64.ofNat (97 + j.val - 96) := by decide
      have q3 := q2 ⟨(b (s + k)).toInt.toNat - 97, by omega⟩
      dsimp only at q3
      rw [show (97 : Int) + (((b (s + k)).toInt.toNat - 97 : Nat) : Int) = (b (s + k)).toInt by omega, Int32.ofInt_toInt, show 97 + ((b (s + k)).toInt.toNat - 97) - 96 = (b (s + k)).toInt.toNat - 96 by omega] at q3
      rw [f1, e1, q3]
      show Int64.ofNat _ * Int64.ofNat 32 + Int64.ofNat _ = Int64.ofNat (_ * 32 + _)
      rw [Int64.ofNat_add, Int64.ofNat_mul]
    · have f1 : lx_w b s (k + 1) = (lx_w b s k <<< (Int32.toInt64 8 &&& 63)) ||| Int32.toInt64 (b (s + k)) := by
        show (bif Nat.blt k 7 then _ else _) = _
        rw [Nat.blt_eq.mpr (show k < 7 by omega)]
        rfl
      have q2 : ∀ j : Fin 26, Int32.toInt64 (Int32.ofInt (97 + (j.val : Int))) = Int64.ofNat (97 + j.val) := by decide
      have q3 := q2 ⟨(b (s + k)).toInt.toNat - 97, by omega⟩
      dsimp only at q3
      rw [show (97 : Int) + (((b (s + k)).toInt.toNat - 97 : Nat) : Int) = (b (s + k)).toInt by omega, Int32.ofInt_toInt, show 97 + ((b (s + k)).toInt.toNat - 97) = (b (s + k)).toInt.toNat by omega] at q3
      have hW : lx_c 256 0 (fun i => (b (s + i)).toInt.toNat) k < 2 ^ 48 := Nat.lt_of_lt_of_le (lx_c_lt (by decide) k (fun i hi => by have := lx_lt_iff.mp (h i (by omega)); omega)) (Nat.le_trans (Nat.pow_le_pow_right (by decide) (show k ≤ 6 by omega)) (by decide))
      rw [f1, e2, q3, lx_sh8 hW (by omega)]
      rfl
end RUNS
/-- the two TOKENS are alike; c: how many bytes lie ahead of it at least -/
abbrev JX (n c : Nat) (Gc Gm : eh_W) : Prop := ∃ x, x ≤ n ∧ c ≤ x ∧ ((eh_i Gc 2 5 = 0 ∧ eh_i Gm 0 11 = 0) ∨ (eh_i Gc 2 5 = 1 ∧ eh_i Gm 0 11 = 4) ∨ (c < x ∧ eh_i Gc 2 4 = nI x ∧ eh_i Gm 0 4 = nI x ∧ ((eh_i Gc 2 5 = 2 ∧ eh_i Gm 0 11 = 1 ∧ ∃ k, k < 24 ∧ eh_i Gc 2 7 = nI k ∧ eh_l Gm 0 17 = lx_Wd k) ∨ (eh_i Gc 2 5 = 3 ∧ eh_i Gm 0 11 = 1 ∧ VW (eh_l Gc 2 8) (eh_l Gm 0 17) ∧ ∀ k, k < 24 → eh_l Gm 0 17 ≠ lx_Wd k) ∨ (eh_i Gc 2 5 = 4 ∧ eh_i Gm 0 11 = 2 ∧ eh_i Gm 0 14 = eh_i Gc 2 7 ∧ 0 ≤ (eh_i Gc 2 7).toInt ∧ (eh_i Gc 2 7).toInt ≤ 999) ∨ (eh_i Gc 2 5 = 5 ∧ eh_i Gm 0 11 = 3 ∧ eh_i Gm 0 14 = eh_i Gc 2 7))))
def JT (n c : Nat) (Gc Gm : eh_W) : Prop := eh_i Gc 2 6 = eh_i Gm 0 12 ∧ JX n c Gc Gm
theorem jt_lex {b : Nat → Int32} {n m a : Nat} {Gc Gm : eh_W} (hn : n ≤ 940) (hm : m ≤ 940) (an : a ≤ n) (HC : TC b n m a Gc) (HM : TM b n m a Gm) : JT n a Gc Gm := by
  have hx : a ≤ lx_x b n m a ∧ lx_x b n m a ≤ a + (lx_s n m - a) := lx_sk_le b _ a
  have hy : a ≤ lx_y b n a ∧ lx_y b n a ≤ a + (n - a) := lx_sk_le b _ a
  have hs : lx_s n m ≤ n ∧ lx_s n m ≤ m ∧ (m < n → lx_s n m = m) ∧ (¬ m < n → lx_s n m = n) := by
    unfold lx_s
    split
    · exact ⟨by omega, by omega, fun _ => rfl, fun h => absurd (by assumption) h⟩
    · exact ⟨by omega, by omega, fun h => absurd h (by assumption), fun _ => rfl⟩
  rcases HC with ⟨c1, c2, c3⟩ | ⟨c1, c2, c3⟩
  · have ey : lx_s n m ≤ lx_y b n a := by
      by_cases h : a ≤ lx_s n m
      · have := lx_sk_ge b (lx_s n m - a) (n - a) a (by omega) (by show _ ≤ lx_x b n m a; omega)
        have : a + (lx_s n m - a) ≤ lx_y b n a := this
        omega
      · omega
    by_cases hmn : m < n
    · rw [if_pos hmn] at c2
      rcases HM with ⟨-, m2, m3⟩ | ⟨m1, -⟩
      · exact ⟨by rw [c3, m3, hs.2.2.1 hmn], a, an, Nat.le_refl _, Or.inr (Or.inl ⟨c2, m2⟩)⟩
      · exact absurd ⟨hmn, by have := hs.2.2.1 hmn; omega⟩ m1
    · rw [if_neg hmn] at c2
      have := hs.2.2.2 hmn
      rcases HM with ⟨m1, -⟩ | ⟨-, m2, m3⟩
      · exact absurd m1.1 hmn
      · rcases m3 with ⟨-, m4⟩ | ⟨m4, -⟩ | ⟨m4, -⟩
        · exact ⟨by rw [c3, m2, this, show lx_y b n a = n by omega], a, an, Nat.le_refl _, Or.inl ⟨c2, m4⟩⟩
        · omega
        · omega
  · have ey : lx_y b n a = lx_x b n m a := lx_sk_mo b (lx_s n m - a) (n - a) a (by omega) (by show lx_x b n m a < _; omega)
    rcases HM with ⟨m1, -⟩ | ⟨-, m2, m3⟩
    · omega
    rw [ey] at m2 m3
    have xn : lx_x b n m a < n := by omega
    refine ⟨by rw [c2, m2], ?_⟩
    have hL : lx_L b n (lx_x b n m a) ≤ n - lx_x b n m a := lx_rl_le _ _ _
    rcases m3 with ⟨m4, -⟩ | ⟨-, m4, m5⟩ | ⟨-, m4, m5⟩
    · omega
    · have l0 := lx_L_zero (n := n) m4
      rcases c3 with ⟨-, c4⟩ | ⟨c4, -⟩
      · rcases c4 with ⟨d1, d2, d3, d4⟩ | ⟨d1, d2⟩
        · rcases m5 with ⟨-, e2, e3, e4⟩ | ⟨e1, -⟩
          · exact ⟨lx_x b n m a + 1, by omega, by omega, Or.inr (Or.inr ⟨by omega, d4, e4, Or.inr (Or.inr (Or.inr ⟨d2, e2, by rw [e3, d3]⟩))⟩)⟩
          · exact absurd d1 e1
        · rcases m5 with ⟨e1, -⟩ | ⟨-, e2⟩
          · exact absurd e1 d1
          · exact ⟨a, an, Nat.le_refl _, Or.inr (Or.inl ⟨d2, e2⟩)⟩
      · exact absurd l0 c4
    · have lp := lx_L_pos (n := n) xn m4
      rcases c3 with ⟨c4, -⟩ | ⟨-, c4, c5⟩
      · exact absurd c4 lp
      obtain ⟨m6, m7⟩ := m5
      have f1 : (lx_F b n (lx_x b n m a)).1 = nI (lx_dc b (lx_x b n m a) (lx_L b n (lx_x b n m a))) := lx_f1 _
      have dle : lx_dc b (lx_x b n m a) (lx_L b n (lx_x b n m a)) ≤ lx_L b n (lx_x b n m a) := lx_dc_le _
      have rn : ∀ i, i < lx_L b n (lx_x b n m a) → (lx_lt (b (lx_x b n m a + i)) || lx_dg (b (lx_x b n m a + i))) = true := fun i hi => lx_run _ _ i hi
      have z0 : (lx_F b n (lx_x b n m a)).1 = 0 → lx_dc b (lx_x b n m a) (lx_L b n (lx_x b n m a)) = 0 := fun e => lx_inj (b := 0) (by omega) (by omega) (by rw [← f1, e]; rfl)
      have zf : (lx_F b n (lx_x b n m a)).1 = nI (lx_L b n (lx_x b n m a)) → lx_dc b (lx_x b n m a) (lx_L b n (lx_x b n m a)) = lx_L b n (lx_x b n m a) := fun e => lx_inj (by omega) (by omega) (by rw [← f1, e])
      have a0 : lx_dc b (lx_x b n m a) (lx_L b n (lx_x b n m a)) = 0 → ∀ i, i < lx_L b n (lx_x b n m a) → lx_lt (b (lx_x b n m a + i)) = true := fun e i hi => by
        have := rn i hi
        rw [lx_dc0 _ e i hi, Bool.or_false] at this
        exact this
      have af : lx_dc b (lx_x b n m a) (lx_L b n (lx_x b n m a)) = lx_L b n (lx_x b n m a) → ∀ i, i < lx_L b n (lx_x b n m a) → lx_lt (b (lx_x b n m a + i)) = false := fun e i hi => lx_no (fun e2 => by
        have := lx_dcf _ e i hi
        rw [lx_xor e2] at this
        cases this)
      have bad : eh_i Gc 2 5 = 1 → eh_i Gm 0 11 = 4 → JX n a Gc Gm := fun e1 e2 => ⟨a, an, Nat.le_refl _, Or.inr (Or.inl ⟨e1, e2⟩)⟩
      rcases m7 with ⟨al, tk⟩ | ⟨al, lt, m8⟩ | ⟨al, lt, m8⟩
      · have na : ∀ v, ¬ ∀ i, i < lx_L b n (lx_x b n m a) → lx_lt (b (lx_x b n m a + i)) = v := fun v h => by
          have := (lx_al_iff (b := b) (s := lx_x b n m a) (lx_L b n (lx_x b n m a))).mpr (fun i hi => by
            rw [h i hi]
            exact (h 0 (by omega)).symm)
          rw [this] at al
          cases al
        rcases c5 with ⟨d1, -⟩ | ⟨-, d2, -⟩ | ⟨-, -, d3⟩
        · exact absurd (a0 (z0 d1)) (na true)
        · exact absurd (af (zf d2)) (na false)
        · exact bad d3 tk
      · have ald : ∀ i, i < lx_L b n (lx_x b n m a) → lx_dg (b (lx_x b n m a + i)) = true := fun i hi => by
          have := rn i hi
          rw [(lx_al_iff _).mp al i hi, lt, Bool.false_or] at this
          exact this
        have dcf := lx_dc_f _ ald
        have n0 : ¬ (lx_F b n (lx_x b n m a)).1 = 0 := fun e => by
          have := z0 e
          omega
        rcases m8 with ⟨l3, tk, nu⟩ | ⟨l3, tk⟩
        · rcases c5 with ⟨d1, -⟩ | ⟨-, -, -, d4, d5⟩ | ⟨-, d2, -⟩
          · exact absurd d1 n0
          · obtain ⟨q1, v, q2, q3⟩ := lx_q_f (b := b) (s := lx_x b n m a) _ l3 ald
            have q3 : (lx_F b n (lx_x b n m a)).2.1 = nI v := q3
            have q1 : _ = (lx_F b n (lx_x b n m a)).2.1 := q1
            have v3 : v < 1000 := Nat.lt_of_lt_of_le q2 (Nat.pow_le_pow_right (by decide) l3)
            refine ⟨lx_x b n m a + lx_L b n (lx_x b n m a), by omega, by omega, Or.inr (Or.inr ⟨by omega, c4, m6, Or.inr (Or.inr (Or.inl ⟨d4, tk, by rw [nu, d5, q1], ?_, ?_⟩))⟩)⟩
            · rw [d5, q3, lx_i (by omega)]
              omega
            · rw [d5, q3, lx_i (by omega)]
              omega
          · exact absurd ⟨by rw [f1, dcf], l3⟩ d2
        · rcases c5 with ⟨d1, -⟩ | ⟨-, -, d3, -⟩ | ⟨-, -, d3⟩
          · exact absurd d1 n0
          · omega
          · exact bad d3 tk
      · have all : ∀ i, i < lx_L b n (lx_x b n m a) → lx_lt (b (lx_x b n m a + i)) = true := fun i hi => by rw [(lx_al_iff _).mp al i hi, lt]
        have dc0 := lx_dc_0 (b := b) (s := lx_x b n m a) (lx_L b n (lx_x b n m a)) (fun i hi => lx_xor (all i hi))
        have e0 : (lx_F b n (lx_x b n m a)).1 = 0 := by rw [f1, dc0]; rfl
        have nf : ¬ (lx_F b n (lx_x b n m a)).1 = nI (lx_L b n (lx_x b n m a)) := fun e => by
          have := zf e
          omega
        rcases m8 with ⟨l7, tk, wd⟩ | ⟨l7, tk⟩
        · rcases c5 with ⟨-, -, d3, d4⟩ | ⟨-, d2, -⟩ | ⟨d1, -⟩
          · obtain ⟨q1, q2⟩ := lx_codes (b := b) (s := lx_x b n m a) _ l7 all
            have q1 : (lx_F b n (lx_x b n m a)).2.2 = _ := q1
            have vw : VW (lx_F b n (lx_x b n m a)).2.2 (eh_l Gm 0 17) := ⟨_, _, l7, fun i hi => by
              have := lx_lt_iff.mp (all i hi)
              omega, q1, by rw [wd, q2]⟩
            rcases d4 with ⟨k, k1, k2, k3, k4⟩ | ⟨k1, k2⟩
            · exact ⟨lx_x b n m a + lx_L b n (lx_x b n m a), by omega, by omega, Or.inr (Or.inr ⟨by omega, c4, m6, Or.inl ⟨k3, tk, k, k1, k4, (VW_iff vw (VW_key k1)).mp k2⟩⟩)⟩
            · exact ⟨lx_x b n m a + lx_L b n (lx_x b n m a), by omega, by omega, Or.inr (Or.inr ⟨by omega, c4, m6, Or.inr (Or.inl ⟨k2, tk, by rw [d3]; exact vw, fun k kk e => k1 k kk ((VW_iff vw (VW_key kk)).mpr e)⟩)⟩)⟩
          · exact absurd d2 nf
          · exact absurd ⟨e0, l7⟩ d1
        · rcases c5 with ⟨-, d2, -⟩ | ⟨-, d2, -⟩ | ⟨-, -, d3⟩
          · omega
          · exact absurd d2 nf
          · exact bad d3 tk
