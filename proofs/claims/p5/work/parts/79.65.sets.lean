/-! explains, findSets, judgeLessons (class): the sets that explain what was heard -/
/-- how many below n -/
def cn (ex : Nat → Bool) : Nat → Nat
  | 0 => 0
  | n + 1 => cn ex n + (bif ex n then 1 else 0)
theorem cn_t {ex : Nat → Bool} {n : Nat} (h : ex n = true) : cn ex (n + 1) = cn ex n + 1 := by
  show cn ex n + (bif ex n then 1 else 0) = _
  rw [h]
  rfl
theorem cn_f {ex : Nat → Bool} {n : Nat} (h : ex n = false) : cn ex (n + 1) = cn ex n := by
  show cn ex n + (bif ex n then 1 else 0) = _
  rw [h]
  rfl
theorem cn_le {ex : Nat → Bool} : ∀ n, cn ex n ≤ n
  | 0 => Nat.le_refl _
  | n + 1 => by
    have := cn_le (ex := ex) n
    show cn ex n + (bif ex n then 1 else 0) ≤ n + 1
    cases ex n <;> dsimp only [cond_true, cond_false] <;> omega
theorem cn_mo {ex : Nat → Bool} {n : Nat} : ∀ m, n ≤ m → cn ex n ≤ cn ex m
  | 0, h => by rw [show n = 0 by omega]; exact Nat.le_refl _
  | m + 1, h => by
    by_cases e : n = m + 1
    · rw [e]
      exact Nat.le_refl _
    · have := cn_mo (ex := ex) m (show n ≤ m by omega)
      show _ ≤ cn ex m + (bif ex m then 1 else 0)
      omega
theorem cn_lt {ex : Nat → Bool} {n m : Nat} (h : ex n = true) (hm : n < m) : cn ex n < cn ex m := by
  have := cn_mo (ex := ex) (n := n + 1) m hm
  rw [cn_t h] at this
  omega
theorem cn_z {ex : Nat → Bool} : ∀ n, (∀ s, s < n → ex s = false) → cn ex n = 0
  | 0, _ => rfl
  | n + 1, h => by rw [cn_f (h n (Nat.lt_succ_self n)), cn_z n (fun s hs => h s (by omega))]
/-- what is heard is what the set sw does -/
def eX (sw : Nat) (G : eh_W) (P w : Nat) (ku sz : Nat → Nat) (ce hi : Nat → Nat → Nat) : Prop := ∀ c : Nat, (c : Int) < (eh_i G 25 0).toInt → eh_i G 204 c = -1 ∨ nI (ht_M c sw P w ku sz ce hi) = eh_i G 204 c
def xS (sw P : Nat) (ku sz : Nat → Nat) (ce hi : Nat → Nat → Nat) (se : Int32) (G : eh_W) : Prop := se = nI sw ∧ sw < 256 ∧ LDb P ku sz ce hi ∧ LDc P ku sz ce hi G ∧ ∃ q0, q0 ≤ 6 ∧ eh_i G 25 0 = nI q0
section YX
variable {d c sw P w : Nat} {ku sz : Nat → Nat} {ce hi : Nat → Nat → Nat} {cu se : Int32} {h' : ri_H} {rs : List Value} {G : eh_W}
theorem yex_loop (ty : eh_ty tC G) {q0 : Nat} (hs : sw < 256) (B : LDb P ku sz ce hi) (C : LDc P ku sz ce hi G) (q6 : q0 ≤ 6) (hq : eh_i G 25 0 = nI q0) (W : LDw w P sz ce) (w8 : w ≤ 8) : ∀ (n c : Nat) (lo : List (Nat × Value)) (h : ri_H), c + n = q0 → eh_e (ri_calE ri_md (d + 2)) md_18 2 lo [] h rs h' → eh_V h = G → ri_lk lo 0 = some (.ref 203) → ri_lk lo 1 = some (.ref 23) → ri_lk lo 2 = some (.int (nI sw)) → ri_lk lo 3 = some (.int (nI c)) → (∀ j, j < c → eh_i G 204 j = -1 ∨ nI (ht_M j sw P w ku sz ce hi) = eh_i G 204 j) → ((eX sw G P w ku sz ce hi ∧ rs = [.int 1]) ∨ (¬ eX sw G P w ku sz ce hi ∧ rs = [.int 0])) ∧ eh_V h' = G ∧ eh_N h' = eh_N h := by
  have qi : (eh_i G 25 0).toInt = (q0 : Int) := by rw [hq, lx_i (by omega)]
  intro n
  induction n with
  | zero =>
    intro c lo h hn E hV l0 l1 l2 l3 hc
    have z := yex_l (d := d) (c := c) (sw := sw) (ku := ku) (hi := hi) E hV ty l0 l1 l2 l3 (fun x => by
      rw [qi, lx_i (by omega)] at x
      omega) W w8
    rw [qi, lx_i (a := c) (by omega)] at z
    rcases z with ⟨-, r1, r2, r3⟩ | ⟨x, -⟩ | ⟨u, x, -⟩ | ⟨u, x, -⟩
    · exact ⟨Or.inl ⟨fun j hj => hc j (by rw [qi] at hj; omega), r1⟩, r2, r3⟩
    all_goals omega
  | succ n ih =>
    intro c lo h hn E hV l0 l1 l2 l3 hc
    have z := yex_l (d := d) (c := c) E hV ty l0 l1 l2 l3 (fun x => ⟨rfl, rfl, hs, by omega, B, C⟩) W w8
    rw [qi, lx_i (a := c) (by omega), lx_cl (a := c) (by omega), lx_a1] at z
    have go : ∀ (h1 : ri_H) (lo1 : List (Nat × Value)), (eh_i G 204 c = -1 ∨ nI (ht_M c sw P w ku sz ce hi) = eh_i G 204 c) → eh_e (ri_calE ri_md (d + 2)) md_18 2 lo1 [] h1 rs h' → eh_V h1 = G → eh_N h1 = eh_N h → ri_lk lo1 0 = some (.ref 203) → ri_lk lo1 1 = some (.ref 23) → ri_lk lo1 2 = some (.int (nI sw)) → ri_lk lo1 3 = some (.int (nI (c + 1))) → ((eX sw G P w ku sz ce hi ∧ rs = [.int 1]) ∨ (¬ eX sw G P w ku sz ce hi ∧ rs = [.int 0])) ∧ eh_V h' = G ∧ eh_N h' = eh_N h := fun h1 lo1 x E1 v1 n1 m0 m1 m2 m3 => by
      obtain ⟨s1, s2, s3⟩ := ih (c + 1) lo1 h1 (by omega) E1 v1 m0 m1 m2 m3 (fun j hj => by
        by_cases e : j = c
        · rw [e]
          exact x
        · exact hc j (by omega))
      exact ⟨s1, s2, s3.trans n1⟩
    rcases z with ⟨x, -⟩ | ⟨-, x, h1, lo1, E1, v1, n1, -, m0, m1, m2, m3⟩ | ⟨u, -, x, y, e, h1, lo1, E1, v1, n1, -, m0, m1, m2, m3⟩ | ⟨u, -, x, y, e, r1, r2, r3⟩
    · omega
    · exact go h1 lo1 (Or.inl x) E1 v1 n1 m0 m1 m2 m3
    · exact go h1 lo1 (Or.inr (by rw [← y]; exact e)) E1 v1 n1 m0 m1 m2 m3
    · refine ⟨Or.inr ⟨fun k => ?_, r1⟩, r2, r3⟩
      rcases k c (by rw [qi]; omega) with k | k
      · exact x k
      · exact e (by rw [y]; exact k)
theorem yex_18 {h : ri_H} {v : Option Value} (E : ri_calE ri_md (d + 3) 18 [.ref 203, .ref 23, .int se] h = some (v, h')) (hV : eh_V h = G) (ty : eh_ty tC G) (D : xS sw P ku sz ce hi se G) (W : LDw w P sz ce) (w8 : w ≤ 8) : (eX sw G P w ku sz ce hi ∧ v = some (.int 1) ∧ eh_V h' = G ∧ eh_N h' = eh_N h) ∨ (¬ eX sw G P w ku sz ce hi ∧ v = some (.int 0) ∧ eh_V h' = G ∧ eh_N h' = eh_N h) := by
  obtain ⟨rfl, hs, B, C, q0, q6, hq⟩ := D
  obtain ⟨rs, hrs, E⟩ := eh_in E (q := md_18) rfl
  obtain ⟨h1, lo1, E1, v1, n1, -, m0, m1, m2, m3⟩ := yex_a E hV ty rfl rfl rfl
  obtain ⟨z, r2, r3⟩ := yex_loop (d := d) ty hs B C q6 hq W w8 q0 0 lo1 h1 (by omega) E1 v1 m0 m1 m2 m3 (fun j hj => absurd hj (Nat.not_lt_zero j))
  rcases z with ⟨a, r1⟩ | ⟨a, r1⟩
  · exact Or.inl ⟨a, by rw [← hrs, r1]; rfl, r2, r3.trans n1⟩
  · exact Or.inr ⟨a, by rw [← hrs, r1]; rfl, r2, r3.trans n1⟩
end YX
