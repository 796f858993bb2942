/-! a lake on both sides, wherever it lies (class: cells B .. B + 11; reference: ints of cell a from o on): the draft's relation without the names -/
def DI (q : Nat → Nat) (Gc Gm : eh_W) : Prop := DRs Gc Gm ∧ DRq q q Gc Gm ∧ DRl (q 1) (q 1) Gc Gm ∧ DRb (q 3) Gc Gm
theorem DI_of {q : Nat → Nat} {o e : Nat} {Gc Gm : eh_W} (h : DR q q o e Gc Gm) : DI q Gc Gm := ⟨h.1, h.2.1, h.2.2.2.1, h.2.2.2.2.1⟩
/-- the class's slots alike, as far as they count -/
def EC (Gc Hc : eh_W) : Prop := (eh_i Hc 5 1 = eh_i Gc 5 1) ∧ (eh_i Hc 5 12 = eh_i Gc 5 12) ∧ (∀ i, i < 5 → eh_i Hc 6 i = eh_i Gc 6 i) ∧ (∀ i, i < 4 → eh_i Hc 7 i = eh_i Gc 7 i) ∧ (∀ i, i < 8 → eh_i Hc 8 i = eh_i Gc 8 i) ∧ (∀ i, i < 6 → eh_i Hc 9 i = eh_i Gc 9 i) ∧ (∀ i, i < 8 → eh_i Hc 10 i = eh_i Gc 10 i) ∧ (∀ i, i < 64 → eh_i Hc 11 i = eh_i Gc 11 i) ∧ (∀ i, i < 8 → eh_i Hc 12 i = eh_i Gc 12 i) ∧ (∀ i, i < 6 → eh_i Hc 13 i = eh_i Gc 13 i)
theorem EC.n1 {Gc Hc : eh_W} (c : EC Gc Hc) : eh_i Hc 5 1 = eh_i Gc 5 1 := c.1
theorem EC.n12 {Gc Hc : eh_W} (c : EC Gc Hc) : eh_i Hc 5 12 = eh_i Gc 5 12 := c.2.1
theorem EC.c6 {Gc Hc : eh_W} (c : EC Gc Hc) : ∀ i, i < 5 → eh_i Hc 6 i = eh_i Gc 6 i := c.2.2.1
theorem EC.c7 {Gc Hc : eh_W} (c : EC Gc Hc) : ∀ i, i < 4 → eh_i Hc 7 i = eh_i Gc 7 i := c.2.2.2.1
theorem EC.c8 {Gc Hc : eh_W} (c : EC Gc Hc) : ∀ i, i < 8 → eh_i Hc 8 i = eh_i Gc 8 i := c.2.2.2.2.1
theorem EC.c9 {Gc Hc : eh_W} (c : EC Gc Hc) : ∀ i, i < 6 → eh_i Hc 9 i = eh_i Gc 9 i := c.2.2.2.2.2.1
theorem EC.c10 {Gc Hc : eh_W} (c : EC Gc Hc) : ∀ i, i < 8 → eh_i Hc 10 i = eh_i Gc 10 i := c.2.2.2.2.2.2.1
theorem EC.c11 {Gc Hc : eh_W} (c : EC Gc Hc) : ∀ i, i < 64 → eh_i Hc 11 i = eh_i Gc 11 i := c.2.2.2.2.2.2.2.1
theorem EC.c12 {Gc Hc : eh_W} (c : EC Gc Hc) : ∀ i, i < 8 → eh_i Hc 12 i = eh_i Gc 12 i := c.2.2.2.2.2.2.2.2.1
theorem EC.c13 {Gc Hc : eh_W} (c : EC Gc Hc) : ∀ i, i < 6 → eh_i Hc 13 i = eh_i Gc 13 i := c.2.2.2.2.2.2.2.2.2
theorem DI_fb {q : Nat → Nat} {Gc Gm Hc Hm : eh_W} (h : DI q Gc Gm) (c : EC Gc Hc) (m3 : ∀ j, j < 96 → eh_i Hm 3 j = eh_i Gm 3 j) : DI q Hc Hm := by
  obtain ⟨h1, h2, h4, h5⟩ := h
  have q1 := (h2.1 1 (by decide)).2.2
  have q3 := (h2.1 3 (by decide)).2.2
  have e1 : mx 1 = 8 := rfl
  have e3 : mx 3 = 6 := rfl
  refine ⟨DRs_fr h1 c.c6 c.n1 (fun j hj => m3 j (by omega)), DRq_fr h2 c.c7 c.n12 (fun t ht => m3 _ (by omega)), ?_, fun k hk => ?_⟩
  · obtain ⟨b1, b2, b3⟩ := h4
    refine ⟨fun l hl => ?_, fun l h6 h7 => ?_, fun k hk => ?_⟩
    · obtain ⟨a1, a2, s, a3, a4, a5, a6, a7⟩ := b1 l hl
      refine ⟨by rw [c.c8 l (by omega), m3 _ (by omega)]; exact a1, by rw [c.c8 l (by omega)]; exact a2, s, a3, by rw [c.c10 l (by omega)]; exact a4, fun x => by rw [m3 _ (by omega)]; exact a5 x, fun i hi => ?_, ?_⟩
      · rw [c.c11 _ (by omega), m3 (26 + 8 * l + i) (by omega), m3 0 (by decide)]
        exact a6 i hi
      · rw [c.c12 l (by omega), a7]
        exact lv_cg s (fun i hi => (c.c11 _ (by omega)).symm)
    · rw [c.c10 l h7, c.c12 l h7]
      exact b2 l h6 h7
    · obtain ⟨w, w1, w2, w3⟩ := b3 k hk
      exact ⟨w, w1, by rw [c.c9 k hk]; exact w2, fun l hl => by rw [c.c8 l hl]; exact w3 l hl⟩
  · rw [c.c13 k (by omega), m3 _ (by omega)]
    exact h5 k hk
def shC (B : Nat) (G : eh_W) : eh_W := fun k i => some (.int (eh_i G (B + k - 5) i))
def shM (a o : Nat) (G : eh_W) : eh_W := fun _ i => some (.int (eh_i G a (o + i)))
/-- the lake at B is alike the reference's at a from o on -/
def LI (q : Nat → Nat) (B a o : Nat) (Gc Gm : eh_W) : Prop := DI q (shC B Gc) (shM a o Gm)
/-- it lies elsewhere, or nothing of it has changed -/
theorem LI_mv {q : Nat → Nat} {B a o B' a' o' : Nat} {Gc Gm Hc Hm : eh_W} (h : LI q B a o Gc Gm) (c : EC (shC B Gc) (shC B' Hc)) (m : ∀ j, j < 96 → eh_i Hm a' (o' + j) = eh_i Gm a (o + j)) : LI q B' a' o' Hc Hm := DI_fb h c (fun j hj => m j hj)
theorem EC_of {Gc Hc : eh_W} (h : ∀ k i, 5 ≤ k → k ≤ 13 → i < 64 → eh_i Hc k i = eh_i Gc k i) : EC Gc Hc := ⟨h _ _ (by decide) (by decide) (by decide), h _ _ (by decide) (by decide) (by decide), fun i hi => h _ _ (by decide) (by decide) (by omega), fun i hi => h _ _ (by decide) (by decide) (by omega), fun i hi => h _ _ (by decide) (by decide) (by omega), fun i hi => h _ _ (by decide) (by decide) (by omega), fun i hi => h _ _ (by decide) (by decide) (by omega), fun i hi => h _ _ (by decide) (by decide) (by omega), fun i hi => h _ _ (by decide) (by decide) (by omega), fun i hi => h _ _ (by decide) (by decide) (by omega)⟩
theorem ei_eq {G G' : eh_W} {k i k' i' : Nat} (h : G k i = G' k' i') : eh_i G k i = eh_i G' k' i' := by
  unfold eh_i
  rw [h]
theorem cp_b {x y : Option Value} {i n : Nat} (h : i < n) : (bif Nat.blt i n then x else y) = x := by
  rw [Nat.blt_eq.mpr h]
  rfl
section FRC
variable {p : Nat → Nat → Bool} {G G1 : eh_W} {a b n : Nat}
theorem eh_fr.cx (f : eh_fr p G G1) (h : ∀ i, p b i = true) : eh_fr p G (eh_cx G1 a b n) := fun k i e => by
  unfold eh_cx
  have e1 : Nat.beq b k = false := by
    cases e2 : Nat.beq b k with
    | false => rfl
    | true =>
      have := Nat.eq_of_beq_eq_true e2
      subst this
      rw [h] at e
      cases e
  rw [e1]
  exact f k i e
theorem eh_fr.cp (f : eh_fr p G G1) (h : ∀ i, p b i = true) : eh_fr p G (eh_cp G1 a b n) := fun k i e => by
  unfold eh_cp
  have e1 : Nat.beq b k = false := by
    cases e2 : Nat.beq b k with
    | false => rfl
    | true =>
      have := Nat.eq_of_beq_eq_true e2
      subst this
      rw [h] at e
      cases e
  rw [e1]
  exact f k i e
end FRC
