/-! tables of kinds, frames (eh_fr), bytes and TOKENS as functions (lx_) -/
def tC : eh_T := [(0, [3, 0, 4, 6, 19, 25, 37, 47, 57, 139, 144, 201, 205, 209, 210, 0, 0]), (1, [0]), (0, [3, 5, 0, 0, 0, 0, 0, 0, 1, 0, 0]), (1, [1]), (0, [4, 7, 0]), (0, [8, 0, 9, 10, 11, 12, 13, 14, 15, 16, 17, 18, 0]), (1, [0]), (1, [0]), (1, [0]), (1, [0]), (1, [0]), (1, [0]), (1, [0]), (1, [0]), (1, [1]), (1, [0]), (1, [0]), (0, [4, 20]), (0, [0, 0, 21, 22, 23, 24]), (1, [0]), (1, [0]), (1, [0]), (1, [0]), (0, [26, 0, 27, 28, 29, 30, 31, 32, 33, 34, 35, 36, 0]), (1, [0]), (1, [0]), (1, [0]), (1, [0]), (1, [0]), (1, [0]), (1, [0]), (1, [0]), (1, [1]), (1, [0]), (1, [0]), (0, [0, 0, 0, 0, 0, 0, 0, 38, 39, 40, 41, 42, 43, 44, 45, 46]), (1, [0]), (1, [0]), (1, [0]), (1, [0]), (1, [0]), (1, [0]), (1, [0]), (1, [0]), (1, [0]), (0, [0, 0, 0, 0, 0, 0, 0, 48, 49, 50, 51, 52, 53, 54, 55, 56]), (1, [0]), (1, [0]), (1, [0]), (1, [0]), (1, [0]), (1, [0]), (1, [0]), (1, [0]), (1, [0]), (0, [58, 0, 0]), (0, [59, 69, 79, 89, 99, 109, 119, 129]), (0, [0, 0, 0, 0, 0, 0, 0, 60, 61, 62, 63, 64, 65, 66, 67, 68]), (1, [0]), (1, [0]), (1, [0]), (1, [0]), (1, [0]), (1, [0]), (1, [0]), (1, [0]), (1, [0]), (0, [0, 0, 0, 0, 0, 0, 0, 70, 71, 72, 73, 74, 75, 76, 77, 78]), (1, [0]), (1, [0]), (1, [0]), (1, [0]), (1, [0]), (1, [0]), (1, [0]), (1, [0]), (1, [0]), (0, [0, 0, 0, 0, 0, 0, 0, 80, 81, 82, 83, 84, 85, 86, 87, 88]), (1, [0]), (1, [0]), (1, [0]), (1, [0]), (1, [0]), (1, [0]), (1, [0]), (1, [0]), (1, [0]), (0, [0, 0, 0, 0, 0, 0, 0, 90, 91, 92, 93, 94, 95, 96, 97, 98]), (1, [0]), (1, [0]), (1, [0]), (1, [0]), (1, [0]), (1, [0]), (1, [0]), (1, [0]), (1, [0]), (0, [0, 0, 0, 0, 0, 0, 0, 100, 101, 102, 103, 104, 105, 106, 107, 108]), (1, [0]), (1, [0]), (1, [0]), (1, [0]), (1, [0]), (1, [0]), (1, [0]), (1, [0]), (1, [0]), (0, [0, 0, 0, 0, 0, 0, 0, 110, 111, 112, 113, 114, 115, 116, 117, 118]), (1, [0]), (1, [0]), (1, [0]), (1, [0]), (1, [0]), (1, [0]), (1, [0]), (1, [0]), (1, [0]), (0, [0, 0, 0, 0, 0, 0, 0, 120, 121, 122, 123, 124, 125, 126, 127, 128]), (1, [0]), (1, [0]), (1, [0]), (1, [0]), (1, [0]), (1, [0]), (1, [0]), (1, [0]), (1, [0]), (0, [0, 0, 0, 0, 0, 0, 0, 130, 131, 132, 133, 134, 135, 136, 137, 138]), (1, [0]), (1, [0]), (1, [0]), (1, [0]), (1, [0]), (1, [0]), (1, [0]), (1, [0]), (1, [0]), (0, [0, 0, 140, 141, 142, 143]), (1, [0]), (1, [0]), (1, [0]), (1, [0]), (0, [145, 173]), (0, [146, 158, 168, 0]), (0, [147, 0, 148, 149, 150, 151, 152, 153, 154, 155, 156, 157, 0]), (1, [0]), (1, [0]), (1, [0]), (1, [0]), (1, [0]), (1, [0]), (1, [0]), (1, [0]), (1, [1]), (1, [0]), (1, [0]), (0, [0, 0, 0, 0, 0, 0, 0, 159, 160, 161, 162, 163, 164, 165, 166, 167]), (1, [0]), (1, [0]), (1, [0]), (1, [0]), (1, [0]), (1, [0]), (1, [0]), (1, [0]), (1, [0]), (0, [0, 0, 169, 170, 171, 172]), (1, [0]), (1, [0]), (1, [0]), (1, [0]), (0, [174, 186, 196, 0]), (0, [175, 0, 176, 177, 178, 179, 180, 181, 182, 183, 184, 185, 0]), (1, [0]), (1, [0]), (1, [0]), (1, [0]), (1, [0]), (1, [0]), (1, [0]), (1, [0]), (1, [1]), (1, [0]), (1, [0]), (0, [0, 0, 0, 0, 0, 0, 0, 187, 188, 189, 190, 191, 192, 193, 194, 195]), (1, [0]), (1, [0]), (1, [0]), (1, [0]), (1, [0]), (1, [0]), (1, [0]), (1, [0]), (1, [0]), (0, [0, 0, 197, 198, 199, 200]), (1, [0]), (1, [0]), (1, [0]), (1, [0]), (0, [202, 203, 204, 0]), (1, [0]), (1, [0]), (1, [0]), (0, [0, 0, 0, 206, 0, 207, 0, 208]), (1, [0]), (1, [0]), (1, [0]), (0, [0]), (1, [0])]
def tM : eh_T := [(0, [0, 3, 0, 0, 0, 0, 4, 5, 6, 7, 8, 0, 0, 0, 0, 0, 0, 1, 0, 0, 0, 9, 0, 10, 11, 0, 12, 13, 0, 0, 0, 0, 0, 0, 0, 0, 14, 0, 15, 0, 0, 0, 0, 0, 16, 17, 18, 19]), (1, [0]), (1, [0]), (1, [0]), (1, [0]), (1, [1]), (1, [1]), (1, [0]), (1, [0]), (1, [0]), (1, [0]), (1, [0]), (1, [0]), (1, [0]), (1, [0]), (1, [0]), (1, [1]), (1, [0])]
def eh_fr (p : Nat → Nat → Bool) (G G' : eh_W) : Prop := ∀ k i, p k i = false → G' k i = G k i
section EFR
variable {p q : Nat → Nat → Bool} {G G1 G2 : eh_W} {k j : Nat} {v : Value}
theorem eh_fr.rf : eh_fr p G G := fun _ _ _ => rfl
theorem eh_fr.tr (a : eh_fr p G G1) (b : eh_fr p G1 G2) : eh_fr p G G2 := fun k i h => (b k i h).trans (a k i h)
theorem eh_fr.up (a : eh_fr p G G1) (h : p k j = true) : eh_fr p G (eh_u G1 k j v) := fun c e hc => by
  rw [eh_u_ne G1 v (by
    by_cases h1 : k = c
    · by_cases h2 : j = e
      · subst h1 h2
        rw [h] at hc
        cases hc
      · exact Or.inr h2
    · exact Or.inl h1)]
  exact a c e hc
theorem eh_fr.i (a : eh_fr p G G1) (h : p k j = false) : eh_i G1 k j = eh_i G k j := by
  unfold eh_i
  rw [a k j h]
theorem eh_fr.l (a : eh_fr p G G1) (h : p k j = false) : eh_l G1 k j = eh_l G k j := by
  unfold eh_l
  rw [a k j h]
theorem eh_fr.mo (a : eh_fr p G G1) (h : ∀ k i, q k i = false → p k i = false) : eh_fr q G G1 := fun k i e => a k i (h k i e)
theorem eh_fr.of (e : G1 = G) : eh_fr p G G1 := by
  rw [e]
  exact eh_fr.rf
end EFR
/-- slots of the class's reader: its run, its TOKEN, its TOKEN and FAULT -/
def pCr (k i : Nat) : Bool := Nat.beq k 2 && (Nat.beq i 4 || Nat.beq i 8)
def pCt (k i : Nat) : Bool := Nat.beq k 2 && (Nat.ble 4 i && Nat.ble i 8)
def pCf (k i : Nat) : Bool := Nat.beq k 2 && (Nat.ble 4 i && Nat.ble i 10)
/-- the reference's: its place, its run, its TOKEN, its TOKEN, FAULT and number -/
def pMp (k i : Nat) : Bool := Nat.beq k 0 && Nat.beq i 4
def pMr (k i : Nat) : Bool := Nat.beq k 0 && (Nat.beq i 4 || (Nat.ble 13 i && Nat.ble i 14) || Nat.beq i 17)
def pMt (k i : Nat) : Bool := Nat.beq k 0 && (Nat.beq i 4 || (Nat.ble 11 i && Nat.ble i 14) || Nat.beq i 17)
def pMf (k i : Nat) : Bool := Nat.beq k 0 && (Nat.beq i 4 || (Nat.ble 11 i && Nat.ble i 18))
theorem pC_tf (k i : Nat) (h : pCf k i = false) : pCt k i = false := by
  unfold pCf at h
  unfold pCt
  cases e : Nat.beq k 2 with
  | false => rfl
  | true =>
    rw [e] at h
    simp only [Bool.true_and, Bool.and_eq_false_iff] at h ⊢
    rcases h with h | h
    · exact Or.inl h
    · refine Or.inr ?_
      cases e2 : Nat.ble i 8 with
      | false => rfl
      | true =>
        have := Nat.ble_eq.mp e2
        rw [Nat.ble_eq.mpr (show i ≤ 10 by omega)] at h
        cases h
theorem pC_rt (k i : Nat) (h : pCt k i = false) : pCr k i = false := by
  unfold pCt at h
  unfold pCr
  cases e : Nat.beq k 2 with
  | false => rfl
  | true =>
    rw [e] at h
    simp only [Bool.true_and, Bool.and_eq_false_iff, Bool.or_eq_false_iff] at h ⊢
    constructor
    · refine eh_bf (fun e1 => ?_)
      subst e1
      rcases h with h | h <;> cases h
    · refine eh_bf (fun e1 => ?_)
      subst e1
      rcases h with h | h <;> cases h
theorem pM_tf (k i : Nat) (h : pMf k i = false) : pMt k i = false := by
  unfold pMf at h
  unfold pMt
  cases e : Nat.beq k 0 with
  | false => rfl
  | true =>
    rw [e] at h
    simp only [Bool.true_and, Bool.or_eq_false_iff, Bool.and_eq_false_iff] at h ⊢
    obtain ⟨h1, h2⟩ := h
    refine ⟨⟨h1, ?_⟩, eh_bf (fun e1 => by subst e1; rcases h2 with h2 | h2 <;> cases h2)⟩
    rcases h2 with h2 | h2
    · exact Or.inl h2
    · refine Or.inr ?_
      cases e2 : Nat.ble i 14 with
      | false => rfl
      | true =>
        have := Nat.ble_eq.mp e2
        rw [Nat.ble_eq.mpr (show i ≤ 18 by omega)] at h2
        cases h2
theorem pM_rt (k i : Nat) (h : pMt k i = false) : pMr k i = false := by
  unfold pMt at h
  unfold pMr
  cases e : Nat.beq k 0 with
  | false => rfl
  | true =>
    rw [e] at h
    simp only [Bool.true_and, Bool.or_eq_false_iff, Bool.and_eq_false_iff] at h ⊢
    obtain ⟨⟨h1, h2⟩, h3⟩ := h
    refine ⟨⟨h1, ?_⟩, h3⟩
    rcases h2 with h2 | h2
    · refine Or.inl ?_
      cases e2 : Nat.ble 13 i with
      | false => rfl
      | true =>
        have := Nat.ble_eq.mp e2
        rw [Nat.ble_eq.mpr (show 11 ≤ i by omega)] at h2
        cases h2
    · exact Or.inr h2
theorem pM_pr (k i : Nat) (h : pMr k i = false) : pMp k i = false := by
  unfold pMr at h
  unfold pMp
  cases e : Nat.beq k 0 with
  | false => rfl
  | true =>
    rw [e] at h
    simp only [Bool.true_and, Bool.or_eq_false_iff] at h ⊢
    exact h.1.1
/-! TOKENS -/
def lx_bl (x : Int32) : Bool := decide (x = 32) || decide (x = 10)
def lx_lt (x : Int32) : Bool := decide (97 ≤ x.toInt) && decide (x.toInt ≤ 122)
def lx_dg (x : Int32) : Bool := decide (48 ≤ x.toInt) && decide (x.toInt ≤ 57)
def lx_sg (w : Int32) : Prop := w = 59 ∨ w = 60 ∨ w = 61 ∨ w = 62 ∨ w = 40 ∨ w = 41
/-- behind the blanks -/
def lx_sk (b : Nat → Int32) : Nat → Nat → Nat
  | 0, a => a
  | f + 1, a => bif lx_bl (b a) then lx_sk b f (a + 1) else a
/-- how many letters and digits -/
def lx_rl (b : Nat → Int32) : Nat → Nat → Nat
  | 0, _ => 0
  | f + 1, a => bif lx_lt (b a) || lx_dg (b a) then lx_rl b f (a + 1) + 1 else 0
/-- digits, number, code of the first k of a run -/
def lx_f (b : Nat → Int32) (s : Nat) : Nat → Int32 × Int32 × Int64
  | 0 => (0, 0, 0)
  | k + 1 => bif lx_dg (b (s + k)) then ((lx_f b s k).1 + 1, (lx_f b s k).2.1 * 10 + (b (s + k) - 48), (lx_f b s k).2.2) else ((lx_f b s k).1, (lx_f b s k).2.1, (lx_f b s k).2.2 * 32 + Int32.toInt64 (b (s + k) - 97 + 1))
/-- the reference's word and number of the first k of a run, and whether these are all of one sort -/
def lx_w (b : Nat → Int32) (s : Nat) : Nat → Int64
  | 0 => 0
  | k + 1 => bif Nat.blt k 7 then (lx_w b s k <<< (Int32.toInt64 8 &&& 63)) ||| Int32.toInt64 (b (s + k)) else lx_w b s k
def lx_q (b : Nat → Int32) (s : Nat) : Nat → Int32
  | 0 => 0
  | k + 1 => bif Nat.blt k 3 then 10 * lx_q b s k + b (s + k) - 48 else lx_q b s k
def lx_al (b : Nat → Int32) (s : Nat) : Nat → Bool
  | 0 => true
  | k + 1 => lx_al b s k && (lx_lt (b (s + k)) == lx_lt (b s))
def lx_kc : List Int64 := [3322259, 20201198, 11703827, 479437459, 9317, 3749, 408538606, 21643763890, 80948, 20201203, 19183859, 19965331, 4153, 498, 1476, 14836, 12009198, 21467193, 52, 89, 21279923, 20583955, 146885, 492210354]
def lx_kw : List Int64 := [426903366771, 495673374574, 461262647411, 121398985520243, 6906725, 6518117, 119182984441710, 32762566252455282, 1651466612, 495673374579, 491395114867, 495555538035, 6578553, 28530, 6385252, 7237492, 461414299502, 500085055865, 24948, 25209, 499984983411, 495874044019, 1685024357, 121450625394034]
def lx_K (k : Nat) : Int64 := lx_kc.getD k 0
def lx_Wd (k : Nat) : Int64 := lx_kw.getD k 0
theorem lx_i {a : Nat} (h : a ≤ 100000) : (nI a).toInt = (a : Int) := Int32.toInt_ofNat_small (by omega)
theorem lx_cl {a : Nat} (h : a ≤ 100000) : (nI a).toNatClampNeg = a := nI_clamp (by omega)
theorem lx_inj {a b : Nat} (ha : a ≤ 100000) (hb : b ≤ 100000) (h : nI a = nI b) : a = b := by
  have := congrArg Int32.toInt h
  rw [lx_i ha, lx_i hb] at this
  omega
theorem lx_a1 (a : Nat) : nI a + 1 = nI (a + 1) := by
  show Int32.ofNat a + Int32.ofNat 1 = Int32.ofNat (a + 1)
  rw [Int32.ofNat_add]
theorem lx_sub {a b : Nat} (h : b ≤ a) : nI a - nI b = nI (a - b) := by
  have e : nI a = nI (a - b) + nI b := by
    show Int32.ofNat a = Int32.ofNat (a - b) + Int32.ofNat b
    rw [← Int32.ofNat_add]
    congr 1
    omega
  rw [e, Int32.add_sub_cancel]
theorem lx_lt_iff {x : Int32} : lx_lt x = true ↔ 97 ≤ x.toInt ∧ x.toInt ≤ 122 := by
  unfold lx_lt
  rw [Bool.and_eq_true, decide_eq_true_iff, decide_eq_true_iff]
theorem lx_dg_iff {x : Int32} : lx_dg x = true ↔ 48 ≤ x.toInt ∧ x.toInt ≤ 57 := by
  unfold lx_dg
  rw [Bool.and_eq_true, decide_eq_true_iff, decide_eq_true_iff]
theorem lx_bl_iff {x : Int32} : lx_bl x = true ↔ x = 32 ∨ x = 10 := by
  unfold lx_bl
  rw [Bool.or_eq_true, decide_eq_true_iff, decide_eq_true_iff]
theorem lx_no {b : Bool} (h : ¬ b = true) : b = false := Bool.eq_false_iff.mpr h
theorem lx_nld {x : Int32} (h1 : ¬ (97 ≤ x.toInt ∧ x.toInt ≤ 122)) (h2 : ¬ (48 ≤ x.toInt ∧ x.toInt ≤ 57)) : (lx_lt x || lx_dg x) = false := by
  rw [lx_no (fun e => h1 (lx_lt_iff.mp e)), lx_no (fun e => h2 (lx_dg_iff.mp e))]
  rfl
theorem lx_rl_le (b : Nat → Int32) : ∀ f a, lx_rl b f a ≤ f
  | 0, _ => Nat.le_refl _
  | f + 1, a => by
    unfold lx_rl
    cases (lx_lt (b a) || lx_dg (b a)) with
    | false => exact Nat.zero_le _
    | true => exact Nat.succ_le_succ (lx_rl_le b f (a + 1))
theorem lx_sk_le (b : Nat → Int32) : ∀ f a, a ≤ lx_sk b f a ∧ lx_sk b f a ≤ a + f
  | 0, a => ⟨Nat.le_refl _, Nat.le_refl _⟩
  | f + 1, a => by
    unfold lx_sk
    cases lx_bl (b a) with
    | false => exact ⟨Nat.le_refl _, Nat.le_add_right _ _⟩
    | true =>
      have := lx_sk_le b f (a + 1)
      dsimp only [cond_true]
      omega
theorem lx_sk_bl (b : Nat → Int32) : ∀ f a, lx_sk b f a < a + f → lx_bl (b (lx_sk b f a)) = false
  | 0, a, h => absurd h (Nat.lt_irrefl a)
  | f + 1, a, h => by
    unfold lx_sk at h ⊢
    cases e : lx_bl (b a) with
    | false => exact e
    | true =>
      rw [e] at h
      dsimp only [cond_true] at h ⊢
      exact lx_sk_bl b f (a + 1) (by omega)
/-- more room: the same place, if that was found -/
theorem lx_sk_mo (b : Nat → Int32) : ∀ f g a, f ≤ g → lx_sk b f a < a + f → lx_sk b g a = lx_sk b f a
  | 0, _, a, _, h => absurd h (Nat.lt_irrefl a)
  | f + 1, 0, a, hg, _ => by omega
  | f + 1, g + 1, a, hg, h => by
    unfold lx_sk at h ⊢
    cases e : lx_bl (b a) with
    | false => rfl
    | true =>
      rw [e] at h
      dsimp only [cond_true] at h ⊢
      exact lx_sk_mo b f g (a + 1) (by omega) (by omega)
theorem lx_sk_ge (b : Nat → Int32) : ∀ f g a, f ≤ g → a + f ≤ lx_sk b f a → a + f ≤ lx_sk b g a
  | 0, g, a, _, _ => (lx_sk_le b g a).1
  | f + 1, 0, a, hg, _ => by omega
  | f + 1, g + 1, a, hg, h => by
    unfold lx_sk at h ⊢
    cases e : lx_bl (b a) with
    | false =>
      rw [e] at h
      dsimp only [cond_false] at h
      omega
    | true =>
      rw [e] at h
      dsimp only [cond_true] at h ⊢
      have := lx_sk_ge b f g (a + 1) (by omega) (by omega)
      omega
