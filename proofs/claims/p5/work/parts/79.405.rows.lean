/-! what LESSONS leave in the CELLS, round by round, and which CELLS are high -/
def sm (g : Nat → Nat) : Nat → Nat
  | 0 => 0
  | n + 1 => sm g n + g n
theorem sm_cg {g h : Nat → Nat} : ∀ n, (∀ i, i < n → g i = h i) → sm g n = sm h n
  | 0, _ => rfl
  | n + 1, e => by
    show sm g n + g n = sm h n + h n
    rw [sm_cg n (fun i hi => e i (by omega)), e n (by omega)]
theorem sm_z {g : Nat → Nat} : ∀ n, (∀ i, i < n → g i = 0) → sm g n = 0
  | 0, _ => rfl
  | n + 1, e => by
    show sm g n + g n = 0
    rw [sm_z n (fun i hi => e i (by omega)), e n (by omega)]
theorem sm_add (g h : Nat → Nat) : ∀ n, sm (fun i => g i + h i) n = sm g n + sm h n
  | 0 => rfl
  | n + 1 => by
    show sm (fun i => g i + h i) n + (g n + h n) = sm g n + g n + (sm h n + h n)
    rw [sm_add g h n]
    omega
theorem sm_swap (c : Nat → Nat → Nat) (P : Nat) : ∀ n, sm (fun l => sm (fun i => c i l) n) P = sm (fun i => sm (fun l => c i l) P) n
  | 0 => sm_z P (fun _ _ => rfl)
  | n + 1 => by
    show sm (fun l => sm (fun i => c i l) n + c n l) P = sm (fun i => sm (fun l => c i l) P) n + sm (fun l => c n l) P
    rw [sm_add, sm_swap c P n]
theorem sm_tail {g : Nat → Nat} {m : Nat} : ∀ n, m ≤ n → (∀ i, m ≤ i → i < n → g i = 0) → sm g n = sm g m
  | 0, h, _ => by
    rw [show m = 0 by omega]
  | n + 1, h, e => by
    by_cases hm : m = n + 1
    · rw [hm]
    · show sm g n + g n = sm g m
      rw [sm_tail n (by omega) (fun i a b => e i a (by omega)), e n (by omega) (by omega)]
      rfl
/-- what lesson l adds to cell k in round i -/
def rC (f : Nat → Bool) (sz : Nat → Nat) (ce hi : Nat → Nat → Nat) (i l k : Nat) : Nat := bif f l && (Nat.blt i (sz l) && Nat.beq (ce l i) k) then hi l i else 0
/-- the first lessons in round i -/
def rL (f : Nat → Bool) (sz : Nat → Nat) (ce hi : Nat → Nat → Nat) (i k l : Nat) : Nat := sm (fun l => rC f sz ce hi i l k) l
/-- the first rounds -/
def rR (f : Nat → Bool) (sz : Nat → Nat) (ce hi : Nat → Nat → Nat) (P k i : Nat) : Nat := sm (fun i => rL f sz ce hi i k P) i
/-- the longest of those that do -/
def rM (f : Nat → Bool) (sz : Nat → Nat) : Nat → Nat
  | 0 => 0
  | l + 1 => bif f l then (bif Nat.blt (sz l) (rM f sz l) then rM f sz l else sz l) else rM f sz l
/-- was high in one of the first rounds -/
def hB (f : Nat → Bool) (sz : Nat → Nat) (ce hi : Nat → Nat → Nat) (P k : Nat) : Nat → Bool
  | 0 => false
  | i + 1 => hB f sz ce hi P k i || Nat.ble 2 (rR f sz ce hi P k (i + 1) % 4)
section RWS
variable {f : Nat → Bool} {sz : Nat → Nat} {ce hi : Nat → Nat → Nat} {P k i l : Nat}
theorem rC_no (h : f l = false) : rC f sz ce hi i l k = 0 := by
  unfold rC
  rw [h]
  rfl
theorem blt_no {a b : Nat} (h : ¬ a < b) : Nat.blt a b = false := by
  cases e : Nat.blt a b with
  | false => rfl
  | true => exact absurd (Nat.blt_eq.mp e) h
theorem rC_out (h : ¬ i < sz l) : rC f sz ce hi i l k = 0 := by
  unfold rC
  rw [blt_no h]
  cases f l <;> rfl
theorem rC_ce (hf : f l = true) (h : i < sz l) : rC f sz ce hi i l k = if ce l i = k then hi l i else 0 := by
  unfold rC
  rw [hf, Nat.blt_eq.mpr h]
  by_cases e : ce l i = k
  · rw [if_pos e, e, eh_bt]
    rfl
  · rw [if_neg e, eh_bf e]
    rfl
theorem rR_s : rR f sz ce hi P k (i + 1) = rR f sz ce hi P k i + rL f sz ce hi i k P := rfl
theorem rL_s : rL f sz ce hi i k (l + 1) = rL f sz ce hi i k l + rC f sz ce hi i l k := rfl
theorem rM_ge : ∀ n, l < n → f l = true → sz l ≤ rM f sz n
  | 0, h, _ => absurd h (Nat.not_lt_zero l)
  | n + 1, h, e => by
    by_cases hn : l = n
    · subst hn
      show sz l ≤ (bif f l then (bif Nat.blt (sz l) (rM f sz l) then rM f sz l else sz l) else rM f sz l)
      rw [e]
      cases b : Nat.blt (sz l) (rM f sz l) with
      | true => exact Nat.le_of_lt (Nat.blt_eq.mp b)
      | false => exact Nat.le_refl _
    · have ih := rM_ge n (by omega) e
      show sz l ≤ (bif f n then (bif Nat.blt (sz n) (rM f sz n) then rM f sz n else sz n) else rM f sz n)
      cases f n with
      | false => exact ih
      | true =>
        cases b : Nat.blt (sz n) (rM f sz n) with
        | true => exact ih
        | false =>
          have : ¬ sz n < rM f sz n := fun x => by
            rw [Nat.blt_eq.mpr x] at b
            cases b
          show sz l ≤ sz n
          omega
theorem rM_le (h : ∀ l, l < P → sz l ≤ 8) : ∀ n, n ≤ P → rM f sz n ≤ 8
  | 0, _ => Nat.zero_le _
  | n + 1, hn => by
    have ih := rM_le h n (by omega)
    show (bif f n then (bif Nat.blt (sz n) (rM f sz n) then rM f sz n else sz n) else rM f sz n) ≤ 8
    cases f n with
    | false => exact ih
    | true =>
      cases Nat.blt (sz n) (rM f sz n) with
      | true => exact ih
      | false => exact h n (by omega)
/-- behind the longest nothing is added -/
theorem rL_long (h : ¬ i < rM f sz P) : rL f sz ce hi i k P = 0 := sm_z P (fun l hl => by
  cases e : f l with
  | false => exact rC_no e
  | true =>
    have := rM_ge (f := f) (sz := sz) P hl e
    exact rC_out (by omega))
theorem hB_st (h : rL f sz ce hi i k P = 0) : hB f sz ce hi P k (i + 1) = hB f sz ce hi P k i := by
  show (hB f sz ce hi P k i || Nat.ble 2 (rR f sz ce hi P k (i + 1) % 4)) = hB f sz ce hi P k i
  rw [rR_s, h, Nat.add_zero]
  cases i with
  | zero => rfl
  | succ j =>
    show ((hB f sz ce hi P k j || Nat.ble 2 (rR f sz ce hi P k (j + 1) % 4)) || Nat.ble 2 (rR f sz ce hi P k (j + 1) % 4)) = (hB f sz ce hi P k j || Nat.ble 2 (rR f sz ce hi P k (j + 1) % 4))
    cases hB f sz ce hi P k j <;> cases Nat.ble 2 (rR f sz ce hi P k (j + 1) % 4) <;> rfl
theorem hB_end : ∀ n, (∀ j, i ≤ j → rL f sz ce hi j k P = 0) → hB f sz ce hi P k (i + n) = hB f sz ce hi P k i
  | 0, _ => rfl
  | n + 1, h => by
    rw [show i + (n + 1) = (i + n) + 1 by omega, hB_st (h _ (by omega))]
    exact hB_end n h
theorem rR_end : ∀ n, (∀ j, i ≤ j → rL f sz ce hi j k P = 0) → rR f sz ce hi P k (i + n) = rR f sz ce hi P k i
  | 0, _ => rfl
  | n + 1, h => by
    rw [show i + (n + 1) = (i + n) + 1 by omega, rR_s, h _ (by omega), Nat.add_zero]
    exact rR_end n h
end RWS
/-! the LESSONS as numbers, and as they stand in the reference's s -/
def LDb (P : Nat) (ku sz : Nat → Nat) (ce hi : Nat → Nat → Nat) : Prop := P ≤ 8 ∧ ∀ l, l < P → ku l < 6 ∧ sz l ≤ 8 ∧ ∀ i, i < sz l → ce l i < 8 ∧ hi l i < 4
def LDm (P : Nat) (ku sz : Nat → Nat) (ce hi : Nat → Nat → Nat) (G : eh_W) : Prop := eh_i G 2 4 = nI P ∧ ∀ l, l < P → eh_i G 2 (10 + l) = nI (ku l) ∧ eh_i G 2 (18 + l) = nI (sz l) ∧ ∀ i, i < sz l → eh_i G 2 (26 + 8 * l + i) = nI (10 * ce l i + hi l i)
def chs (c sw : Nat) (ku : Nat → Nat) (l : Nat) : Bool := Nat.testBit sw l && Nat.beq (ku l) c
def xD (c sw P : Nat) (ku sz : Nat → Nat) (ce hi : Nat → Nat → Nat) (cu se : Int32) (G : eh_W) : Prop := cu = nI c ∧ se = nI sw ∧ sw < 256 ∧ c < 6 ∧ LDb P ku sz ce hi ∧ LDm P ku sz ce hi G
/-- the reference's row and high alone -/
def pMv (k i : Nat) : Bool := Nat.beq k 7 || (Nat.beq k 0 && Nat.beq i 22)
section LDF
variable {c sw P : Nat} {ku sz : Nat → Nat} {ce hi : Nat → Nat → Nat} {cu se : Int32} {G G1 : eh_W}
theorem LDm_fr (h : LDm P ku sz ce hi G) (f : ∀ j, eh_i G1 2 j = eh_i G 2 j) : LDm P ku sz ce hi G1 := by
  refine ⟨by rw [f]; exact h.1, fun l hl => ?_⟩
  obtain ⟨a, b, d⟩ := h.2 l hl
  exact ⟨by rw [f]; exact a, by rw [f]; exact b, fun i hi => by rw [f]; exact d i hi⟩
theorem xD_fr (h : xD c sw P ku sz ce hi cu se G) (f : eh_fr pMv G G1) : xD c sw P ku sz ce hi cu se G1 := ⟨h.1, h.2.1, h.2.2.1, h.2.2.2.1, h.2.2.2.2.1, LDm_fr h.2.2.2.2.2 (fun _ => f.i rfl)⟩
theorem chs_t {l : Nat} (a : Nat.testBit sw l = true) (b : ku l = c) : chs c sw ku l = true := by
  unfold chs
  rw [a, b, eh_bt]
  rfl
theorem chs_f1 {l : Nat} (a : ¬ Nat.testBit sw l = true) : chs c sw ku l = false := by
  unfold chs
  rw [lx_no a]
  rfl
theorem chs_f2 {l : Nat} (b : ¬ ku l = c) : chs c sw ku l = false := by
  unfold chs
  rw [eh_bf b]
  cases Nat.testBit sw l <;> rfl
end LDF
theorem st_fin : ∀ (c : Fin 8) (h : Fin 4), nI (10 * c.val + h.val) / 10 = nI c.val ∧ nI (10 * c.val + h.val) - nI (10 * c.val + h.val) / 10 * 10 = nI h.val := by decide +kernel
theorem m4_fin : ∀ a b : Fin 4, (nI a.val + nI b.val) - (nI a.val + nI b.val) / 4 * 4 = nI ((a.val + b.val) % 4) := by decide +kernel
