/-! two nested loops over the pairs l < m below P, in abstract: who counts those of T, and stops at the k-th -/
def pr_S (P : Nat) (k : Int32) (T : Nat → Nat → Prop) (O : Nat → Nat → Prop) (I : Nat → Nat → Nat → Prop) (Z : Nat → Prop) (R : Int32 → Prop) : Prop := (∀ l n, O l n → (¬ l < P ∧ Z n) ∨ (l < P ∧ I l (l + 1) n)) ∧ (∀ l m n, I l m n → l < P → (¬ m < P ∧ O (l + 1) n) ∨ (m < P ∧ ¬ T l m ∧ I l (m + 1) n) ∨ (m < P ∧ T l m ∧ ¬ nI n = k ∧ I l (m + 1) (n + 1)) ∨ (m < P ∧ T l m ∧ nI n = k ∧ R (nI (10 * l + m)))) ∧ (∀ n, Z n → (¬ k = -1 ∧ R (-1)) ∨ (k = -1 ∧ R (nI n)))
section PRS
variable {P : Nat} {k : Int32} {T : Nat → Nat → Prop} {O O' : Nat → Nat → Prop} {I I' : Nat → Nat → Nat → Prop} {Z Z' : Nat → Prop} {R R' : Int32 → Prop}
theorem pr_in (A : pr_S P k T O I Z R) (B : pr_S P k T O' I' Z' R') {l : Nat} (hl : l < P) : ∀ f m n, m + f = P → I l m n → I' l m n → (∃ x, R x ∧ R' x) ∨ ∃ n', O (l + 1) n' ∧ O' (l + 1) n' := by
  intro f
  induction f with
  | zero =>
    intro m n hf a b
    rcases A.2.1 l m n a hl with ⟨-, a⟩ | ⟨c, -⟩ | ⟨c, -⟩ | ⟨c, -⟩
    · rcases B.2.1 l m n b hl with ⟨-, b⟩ | ⟨c, -⟩ | ⟨c, -⟩ | ⟨c, -⟩
      · exact Or.inr ⟨n, a, b⟩
      all_goals omega
    all_goals omega
  | succ f ih =>
    intro m n hf a b
    rcases A.2.1 l m n a hl with ⟨c, -⟩ | ⟨-, t, a⟩ | ⟨-, t, e, a⟩ | ⟨-, t, e, a⟩
    · omega
    · rcases B.2.1 l m n b hl with ⟨c, -⟩ | ⟨-, u, b⟩ | ⟨-, u, -⟩ | ⟨-, u, -⟩
      · omega
      · exact ih (m + 1) n (by omega) a b
      · exact absurd u t
      · exact absurd u t
    · rcases B.2.1 l m n b hl with ⟨c, -⟩ | ⟨-, u, -⟩ | ⟨-, -, -, b⟩ | ⟨-, -, u, -⟩
      · omega
      · exact absurd t u
      · exact ih (m + 1) (n + 1) (by omega) a b
      · exact absurd u e
    · rcases B.2.1 l m n b hl with ⟨c, -⟩ | ⟨-, u, -⟩ | ⟨-, -, u, -⟩ | ⟨-, -, -, b⟩
      · omega
      · exact absurd t u
      · exact absurd e u
      · exact Or.inl ⟨_, a, b⟩
theorem pr_out (A : pr_S P k T O I Z R) (B : pr_S P k T O' I' Z' R') : ∀ f l n, l + f = P → O l n → O' l n → ∃ x, R x ∧ R' x := by
  intro f
  induction f with
  | zero =>
    intro l n hf a b
    rcases A.1 l n a with ⟨-, a⟩ | ⟨c, -⟩
    · rcases B.1 l n b with ⟨-, b⟩ | ⟨c, -⟩
      · rcases A.2.2 n a with ⟨c, a⟩ | ⟨c, a⟩
        · rcases B.2.2 n b with ⟨-, b⟩ | ⟨e, -⟩
          · exact ⟨_, a, b⟩
          · exact absurd e c
        · rcases B.2.2 n b with ⟨e, -⟩ | ⟨-, b⟩
          · exact absurd c e
          · exact ⟨_, a, b⟩
      · omega
    · omega
  | succ f ih =>
    intro l n hf a b
    rcases A.1 l n a with ⟨c, -⟩ | ⟨hl, a⟩
    · omega
    · rcases B.1 l n b with ⟨c, -⟩ | ⟨-, b⟩
      · omega
      · rcases pr_in A B hl (P - (l + 1)) (l + 1) n (by omega) a b with r | ⟨n', a, b⟩
        · exact r
        · exact ih (l + 1) n' (by omega) a b
/-- below NONE nothing is found -/
theorem pr_low (A : pr_S P k T O I Z R) (hk : k.toInt < -1) (hP : P ≤ 8) : ∀ f l n, l + f = P → n ≤ 8 * l → O l n → R (-1) := by
  have kn : ∀ n, n ≤ 100 → ¬ nI n = k := fun n hn e => by
    have := lx_i (a := n) (by omega)
    rw [e] at this
    omega
  have km : ¬ k = -1 := fun e => by
    subst e
    exact absurd hk (by decide)
  intro f
  induction f with
  | zero =>
    intro l n hf hn a
    rcases A.1 l n a with ⟨-, a⟩ | ⟨c, -⟩
    · rcases A.2.2 n a with ⟨-, a⟩ | ⟨c, -⟩
      · exact a
      · exact absurd c km
    · omega
  | succ f ih =>
    intro l n hf hn a
    rcases A.1 l n a with ⟨c, -⟩ | ⟨hl, a⟩
    · omega
    · have inn : ∀ g m n, m + g = P → n ≤ 8 * l + m → I l m n → ∃ n', n' ≤ 8 * (l + 1) ∧ O (l + 1) n' := by
        intro g
        induction g with
        | zero =>
          intro m n hg hn a
          rcases A.2.1 l m n a hl with ⟨-, a⟩ | ⟨c, -⟩ | ⟨c, -⟩ | ⟨c, -⟩
          · exact ⟨n, by omega, a⟩
          all_goals omega
        | succ g ih2 =>
          intro m n hg hn a
          rcases A.2.1 l m n a hl with ⟨c, -⟩ | ⟨-, -, a⟩ | ⟨-, -, -, a⟩ | ⟨-, -, e, -⟩
          · omega
          · exact ih2 (m + 1) n (by omega) (by omega) a
          · exact ih2 (m + 1) (n + 1) (by omega) (by omega) a
          · exact absurd e (kn n (by omega))
      obtain ⟨n', hn', a⟩ := inn (P - (l + 1)) (l + 1) n (by omega) (by omega) a
      exact ih (l + 1) n' (by omega) hn' a
end PRS
