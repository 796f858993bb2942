/-! a ONE of a SENTENCE, on both sides: what stands there -/
def pSc (k i : Nat) : Bool := Nat.ble k 22 && !(Nat.beq k 2 && Nat.beq i 9)
def pSm (k i : Nat) : Bool := !(Nat.beq k 2 || (Nat.beq k 5 || (Nat.beq k 0 && Nat.beq i 15)))
def SJ (b : Nat → Int32) (n m : Nat) (Gc0 Gm0 : eh_W) (w T dp : Nat) (wh : Int32) (Gc Gm : eh_W) : Prop := iS b n m Gc ∧ iT b n m Gm ∧ JT n 0 Gc Gm ∧ eh_fr pSc Gc0 Gc ∧ eh_fr pSm Gm0 Gm ∧ (eh_i Gc 18 0 = nI w ∧ eh_i Gm 0 40 = nI w ∧ w ≤ 20) ∧ eh_i Gm 0 43 = wh ∧ eh_i Gm 0 41 = nI T ∧ eh_i Gm 0 42 = nI dp
theorem pS_29 {k i : Nat} (h : pSc k i = false) : 22 < k ∨ (k = 2 ∧ i = 9) := by
  unfold pSc at h
  rcases Bool.and_eq_false_iff.mp h with h | h
  · refine Or.inl (Nat.lt_of_not_le (fun x => ?_))
    rw [Nat.ble_eq.mpr x] at h
    cases h
  · rw [Bool.not_eq_false', Bool.and_eq_true] at h
    exact Or.inr ⟨Nat.eq_of_beq_eq_true h.1, Nat.eq_of_beq_eq_true h.2⟩
theorem pS_c {k i : Nat} {p : Nat → Nat → Bool} (hp : ∀ k i, 22 < k → p k i = false) (h9 : p 2 9 = false) (h : pSc k i = false) : p k i = false := by
  rcases pS_29 h with x | ⟨rfl, rfl⟩
  · exact hp k i x
  · exact h9
theorem pS_ct (k i : Nat) (h : pSc k i = false) : pCt k i = false := pS_c (fun k i h => by
  unfold pCt
  rw [eh_bf (show k ≠ 2 by omega)]
  rfl) rfl h
theorem pS_ad (k i : Nat) (h : pSc k i = false) : pAd k i = false := pS_c (fun k i h => by
  unfold pAd
  rw [eh_bf (show k ≠ 18 by omega), show Nat.ble k 21 = false from lx_no (fun x => by have := Nat.ble_eq.mp x; omega), Bool.and_false]
  rfl) rfl h
theorem pS_25 {k i : Nat} (h : pSm k i = false) : k = 2 ∨ k = 5 ∨ (k = 0 ∧ i = 15) := by
  unfold pSm at h
  rw [Bool.not_eq_false', Bool.or_eq_true, Bool.or_eq_true, Bool.and_eq_true] at h
  exact h.imp Nat.eq_of_beq_eq_true (fun x => x.imp Nat.eq_of_beq_eq_true (fun y => ⟨Nat.eq_of_beq_eq_true y.1, Nat.eq_of_beq_eq_true y.2⟩))
theorem pS_mt (k i : Nat) (h : pSm k i = false) : pMt k i = false := by
  rcases pS_25 h with rfl | rfl | ⟨rfl, rfl⟩ <;> rfl
theorem pS_no (k i : Nat) (h : pSm k i = false) : pNo k i = false := by
  rcases pS_25 h with rfl | rfl | ⟨rfl, rfl⟩ <;> rfl
theorem pS_co (k i : Nat) (h : pSm k i = false) : (Nat.beq k 4 || (Nat.beq k 0 && Nat.beq i 39)) = false := by
  rcases pS_25 h with rfl | rfl | ⟨rfl, rfl⟩ <;> rfl
section TOK
variable {d e n m c : Nat} {b : Nat → Int32} {hc hc' hm hm' : ri_H} {Gc Gm : eh_W} {no op le : Int32}
theorem tk_of (J : JT n c Gc Gm) (K : opk Gm no op le) : (no = 1 ∧ op = 0 ∧ eh_i Gc 2 5 = 2 ∧ eh_i Gc 2 7 = nI 15) ∨ (no = 0 ∧ op = 1 ∧ eh_i Gc 2 5 = 5 ∧ eh_i Gc 2 7 = 40) ∨ (no = 0 ∧ op = 0 ∧ ∃ k, k < 8 ∧ le = nI k ∧ eh_i Gc 2 5 = 2 ∧ eh_i Gc 2 7 = nI (16 + k)) ∨ (no = 0 ∧ op = 0 ∧ le = -1 ∧ ¬ (eh_i Gc 2 5 = 5 ∧ eh_i Gc 2 7 = 40) ∧ ¬ (eh_i Gc 2 5 = 2 ∧ 15 ≤ (eh_i Gc 2 7).toInt ∧ (eh_i Gc 2 7).toInt ≤ 23)) := by
  have word : ∀ {j : Nat}, j < 24 → eh_i Gm 0 11 = 1 → eh_l Gm 0 17 = lx_Wd j → eh_i Gc 2 5 = 2 ∧ eh_i Gc 2 7 = nI j := fun {j} hj t1 w => by
    rcases J.ks with ⟨a, z⟩ | ⟨a, z⟩ | ⟨a, z, k, k1, k2, k3⟩ | ⟨a, z, -, k1⟩ | ⟨a, z, -⟩ | ⟨a, z, -⟩
    · rw [z] at t1; exact absurd t1 (by decide)
    · rw [z] at t1; exact absurd t1 (by decide)
    · have := Wd_inj ⟨j, hj⟩ ⟨k, k1⟩ (w.symm.trans k3)
      dsimp only at this
      subst this
      exact ⟨a, k2⟩
    · exact absurd w (k1 j hj)
    · rw [z] at t1; exact absurd t1 (by decide)
    · rw [z] at t1; exact absurd t1 (by decide)
  rcases K with ⟨k1, k2, k3, k4⟩ | ⟨k1, k2, k3, k4⟩ | ⟨k1, k2, k3, k4, k5⟩
  · obtain ⟨a, b⟩ := word (j := 15) (by decide) k3 k4
    exact Or.inl ⟨k1, k2, a, b⟩
  · rcases J.k5 with ⟨a, z, y⟩ | ⟨a, z⟩
    · exact Or.inr (Or.inl ⟨k1, k2, a, y.symm.trans k4⟩)
    · exact absurd k3 z
  · rcases k5 with ⟨k, h8, l1, l2, l3⟩ | ⟨l1, l2⟩
    · obtain ⟨a, b⟩ := word (j := 16 + k) (by omega) l2 l3
      exact Or.inr (Or.inr (Or.inl ⟨k1, k2, k, h8, l1, a, b⟩))
    · refine Or.inr (Or.inr (Or.inr ⟨k1, k2, l1, fun x => ?_, fun x => ?_⟩))
      · rcases J.k5 with ⟨a, z, y⟩ | ⟨a, z⟩
        · exact k4 ⟨z, y.trans x.2⟩
        · exact a x.1
      · rcases J.ks with ⟨a, z⟩ | ⟨a, z⟩ | ⟨a, z, k, h1, h2, h3⟩ | ⟨a, z, -, h1⟩ | ⟨a, z, -⟩ | ⟨a, z, -⟩
        · rw [a] at x; exact absurd x.1 (by decide)
        · rw [a] at x; exact absurd x.1 (by decide)
        · rw [h2, lx_i (by omega)] at x
          by_cases e : k = 15
          · subst e
            exact k3 ⟨z, h3⟩
          · refine l2 z (k - 16) (by omega) ?_
            rw [show 16 + (k - 16) = k by omega]
            exact h3
        · rw [a] at x; exact absurd x.1 (by decide)
        · rw [a] at x; exact absurd x.1 (by decide)
        · rw [a] at x; exact absurd x.1 (by decide)
theorem JS_next {v1 v2 : Option Value} (J : JT n c Gc Gm) (hk : 2 ≤ (eh_i Gc 2 5).toInt) (E1 : ri_calE ri_md (d + 2) 74 [.ref 2] hc = some (v1, hc')) (E2 : ri_calE ri_md (e + 2) 158 [.ref 0] hm = some (v2, hm')) (is : iS b n m (eh_V hc)) (it : iT b n m (eh_V hm)) (h4 : eh_i (eh_V hc) 2 4 = eh_i Gc 2 4) (h4' : eh_i (eh_V hm) 0 4 = eh_i Gm 0 4) : JT n 0 (eh_V hc') (eh_V hm') ∧ eh_fr pCt (eh_V hc) (eh_V hc') ∧ eh_fr pMt (eh_V hm) (eh_V hm') := by
  obtain ⟨a, b, c⟩ := J_next J hk E1 E2 (is.C (eh_V hm)) (it.M (eh_V hc)) h4 h4'
  exact ⟨a.mo (Nat.zero_le _), b, c⟩
/-- the TOKEN is another cell's business -/
theorem JT_c {k i : Nat} {v : Value} (J : JT n c Gc Gm) (h : k ≠ 2) : JT n c (eh_u Gc k i v) Gm := by
  have e : ∀ a j, a = 2 → eh_u Gc k i v a j = Gc a j := fun a j ha => eh_u_ne _ _ (Or.inl (by omega))
  have ei : ∀ j, eh_i (eh_u Gc k i v) 2 j = eh_i Gc 2 j := fun j => ei_eq (e 2 j rfl)
  have el : ∀ j, eh_l (eh_u Gc k i v) 2 j = eh_l Gc 2 j := fun j => el_eq (e 2 j rfl)
  unfold JT JX at J ⊢
  simp only [ei, el]
  exact J
theorem JT_m {i : Nat} {v : Value} (J : JT n c Gc Gm) (h : 18 ≤ i) : JT n c Gc (eh_u Gm 0 i v) := by
  have ei : ∀ j, j < 18 → eh_i (eh_u Gm 0 i v) 0 j = eh_i Gm 0 j := fun j hj => eh_i_ne _ _ (Or.inr (by omega))
  have el : ∀ j, j < 18 → eh_l (eh_u Gm 0 i v) 0 j = eh_l Gm 0 j := fun j hj => eh_l_ne _ _ (Or.inr (by omega))
  unfold JT JX at J ⊢
  rw [ei 11 (by decide), ei 12 (by decide), ei 14 (by decide), ei 4 (by decide), el 17 (by decide)]
  exact J
theorem JT_fm {Hm : eh_W} (J : JT n c Gc Gm) (f : ∀ i, i < 18 → Hm 0 i = Gm 0 i) : JT n c Gc Hm := by
  have ei : ∀ j, j < 18 → eh_i Hm 0 j = eh_i Gm 0 j := fun j hj => ei_eq (f j hj)
  have el : ∀ j, j < 18 → eh_l Hm 0 j = eh_l Gm 0 j := fun j hj => el_eq (f j hj)
  unfold JT JX at J ⊢
  rw [ei 11 (by decide), ei 12 (by decide), ei 14 (by decide), ei 4 (by decide), el 17 (by decide)]
  exact J
theorem JT_fc {Hc : eh_W} (J : JT n c Gc Gm) (f : ∀ i, Hc 2 i = Gc 2 i) : JT n c Hc Gm := by
  have ei : ∀ j, eh_i Hc 2 j = eh_i Gc 2 j := fun j => ei_eq (f j)
  have el : ∀ j, eh_l Hc 2 j = eh_l Gc 2 j := fun j => el_eq (f j)
  unfold JT JX at J ⊢
  simp only [ei, el]
  exact J
end TOK
