/-! what answersAt wants, and leaves -/
def pMa (k i : Nat) : Bool := pMv k i || Nat.beq k 11
theorem pMv_a (k i : Nat) (h : pMa k i = false) : pMv k i = false := by
  unfold pMa at h
  rw [Bool.or_eq_false_iff] at h
  exact h.1
def xV (c P w N : Nat) (ku sz : Nat → Nat) (ce hi : Nat → Nat → Nat) (ex : Nat → Bool) (cu : Int32) (G : eh_W) : Prop := cu = nI c ∧ c < 6 ∧ LDb P ku sz ce hi ∧ LDm P ku sz ce hi G ∧ eh_i G 2 0 = nI w ∧ w ≤ 8 ∧ N = 2 ^ P ∧ ∀ s, s < N → eh_i G 10 s = if ex s = true then 1 else 0
