/-! names alike at a lake (class: cells B + 9 .. B + 11; reference: nm, 24 of them) -/
def b0 (t : Nat) : Nat := [0, 6, 14, 18].getD t 0
theorem b0_bs {t : Nat} (ht : t < 4) : bs t = 24 + b0 t := by
  match t, ht with
  | 0, _ => rfl
  | 1, _ => rfl
  | 2, _ => rfl
  | 3, _ => rfl
def NL (q : Nat → Nat) (B : Nat) (Gc : eh_W) (nm : Nat → Int64) : Prop := (∀ i, i < q 0 + q 1 + q 2 + q 3 → ∃ t r, t < 4 ∧ r < q t ∧ eh_i Gc (B + 10) i = nI t ∧ eh_i Gc (B + 11) i = nI r ∧ VW (eh_l Gc (B + 9) i) (nm (b0 t + r))) ∧ (∀ t r, t < 4 → r < q t → ∃ i, i < q 0 + q 1 + q 2 + q 3 ∧ eh_i Gc (B + 10) i = nI t ∧ eh_i Gc (B + 11) i = nI r) ∧ (∀ i j, i < q 0 + q 1 + q 2 + q 3 → j < q 0 + q 1 + q 2 + q 3 → eh_l Gc (B + 9) i = eh_l Gc (B + 9) j → i = j)
/-- as many as there may be -/
def NB (q : Nat → Nat) : Prop := ∀ t, t < 4 → q t ≤ mx t
theorem NB.sum {q : Nat → Nat} (h : NB q) : q 0 + q 1 + q 2 + q 3 ≤ 24 := by
  have h0 : q 0 ≤ 6 := h 0 (by decide)
  have h1 : q 1 ≤ 8 := h 1 (by decide)
  have h2 : q 2 ≤ 4 := h 2 (by decide)
  have h3 : q 3 ≤ 6 := h 3 (by decide)
  omega
theorem NB.at {q : Nat → Nat} (h : NB q) {t r : Nat} (ht : t < 4) (hr : r < q t) : b0 t + r < 24 := by
  have hq := h t ht
  match t, ht with
  | 0, _ => have : q 0 ≤ 6 := hq; show 0 + r < 24; omega
  | 1, _ => have : q 1 ≤ 8 := hq; show 6 + r < 24; omega
  | 2, _ => have : q 2 ≤ 4 := hq; show 14 + r < 24; omega
  | 3, _ => have : q 3 ≤ 6 := hq; show 18 + r < 24; omega
theorem DI_NB {q : Nat → Nat} {Gc Gm : eh_W} (h : DI q Gc Gm) : NB q := fun t ht => (h.2.1.1 t ht).2.2
/-- they lie elsewhere, or nothing of them has changed -/
theorem NL_mv {q : Nat → Nat} {B B' : Nat} {Gc Hc : eh_W} {nm nm' : Nat → Int64} (hq : NB q) (h : NL q B Gc nm) (c9 : ∀ i, i < 24 → eh_l Hc (B' + 9) i = eh_l Gc (B + 9) i) (c10 : ∀ i, i < 24 → eh_i Hc (B' + 10) i = eh_i Gc (B + 10) i) (c11 : ∀ i, i < 24 → eh_i Hc (B' + 11) i = eh_i Gc (B + 11) i) (m : ∀ j, j < 24 → nm' j = nm j) : NL q B' Hc nm' := by
  have s := hq.sum
  obtain ⟨a, b, c⟩ := h
  refine ⟨fun i hi => ?_, fun t r ht hr => ?_, fun i j hi hj e => ?_⟩
  · obtain ⟨t, r, t4, hr, e1, e2, vw⟩ := a i hi
    exact ⟨t, r, t4, hr, (c10 i (by omega)).trans e1, (c11 i (by omega)).trans e2, by rw [c9 i (by omega), m _ (hq.at t4 hr)]; exact vw⟩
  · obtain ⟨i, hi, e1, e2⟩ := b t r ht hr
    exact ⟨i, hi, (c10 i (by omega)).trans e1, (c11 i (by omega)).trans e2⟩
  · rw [c9 i (by omega), c9 j (by omega)] at e
    exact c i j hi hj e
/-- out of the reading's names -/
theorem NL_of {q : Nat → Nat} {Gc Gm Hc : eh_W} {nm : Nat → Int64} (hq : NB q) (h : NR q Gc Gm) (c9 : ∀ i, i < 24 → eh_l Hc 32 i = eh_l Gc 14 i) (c10 : ∀ i, i < 24 → eh_i Hc 33 i = eh_i Gc 15 i) (c11 : ∀ i, i < 24 → eh_i Hc 34 i = eh_i Gc 16 i) (m : ∀ j, j < 24 → nm j = eh_l Gm 5 (24 + j)) : NL q 23 Hc nm := by
  have s := hq.sum
  obtain ⟨a, b, c⟩ := h
  refine ⟨fun i hi => ?_, fun t r ht hr => ?_, fun i j hi hj e => ?_⟩
  · obtain ⟨t, r, t4, hr, e1, e2, vw⟩ := a i hi
    exact ⟨t, r, t4, hr, (c10 i (by omega)).trans e1, (c11 i (by omega)).trans e2, by
      rw [show eh_l Hc (23 + 9) i = _ from c9 i (by omega), m _ (hq.at t4 hr), ← Nat.add_assoc, ← b0_bs t4]
      exact vw⟩
  · obtain ⟨i, hi, e1, e2⟩ := b t r ht hr
    exact ⟨i, hi, (c10 i (by omega)).trans e1, (c11 i (by omega)).trans e2⟩
  · rw [show eh_l Hc (23 + 9) i = _ from c9 i (by omega), show eh_l Hc (23 + 9) j = _ from c9 j (by omega)] at e
    exact c i j hi hj e
/-- looking a name up: the class (find over the lake's names) -/
theorem N_C {q : Nat → Nat} {B : Nat} {Gc : eh_W} {nm : Nat → Int64} {co wd : Int64} {u : Int32} {s : Int32} (hq : NB q) (hn : NL q B Gc nm) (vw : VW co wd) (hs : s = nI (q 0 + q 1 + q 2 + q 3)) (h : (∃ i : Nat, (i : Int) < s.toInt ∧ eh_l Gc (B + 9) i = co ∧ u = nI i) ∨ ((∀ i : Nat, (i : Int) < s.toInt → eh_l Gc (B + 9) i ≠ co) ∧ u = -1)) : (∃ t r i, t < 4 ∧ r < q t ∧ u = nI i ∧ i < 24 ∧ eh_i Gc (B + 10) i = nI t ∧ eh_i Gc (B + 11) i = nI r ∧ nm (b0 t + r) = wd ∧ ∀ t' r', t' < 4 → r' < q t' → nm (b0 t' + r') = wd → t' = t ∧ r' = r) ∨ ((∀ t r, t < 4 → r < q t → nm (b0 t + r) ≠ wd) ∧ u = -1) := by
  have sm := hq.sum
  have qm : ∀ t, t < 4 → q t ≤ 8 := fun t ht => Nat.le_trans (hq t ht) (mx_le ht)
  have eN : s.toInt = ((q 0 + q 1 + q 2 + q 3 : Nat) : Int) := by rw [hs, lx_i (by omega)]
  obtain ⟨na, nb, nc⟩ := hn
  have key : ∀ t r, t < 4 → r < q t → ∃ i, i < q 0 + q 1 + q 2 + q 3 ∧ eh_i Gc (B + 10) i = nI t ∧ eh_i Gc (B + 11) i = nI r ∧ VW (eh_l Gc (B + 9) i) (nm (b0 t + r)) := fun t r ht hr => by
    obtain ⟨i, i1, i2, i3⟩ := nb t r ht hr
    obtain ⟨t', r', t1, t2, t3, t4, t5⟩ := na i i1
    have := qm t' t1
    have := qm t ht
    have e1 : t' = t := lx_inj (by omega) (by omega) (t3.symm.trans i2)
    have e2 : r' = r := lx_inj (by omega) (by omega) (t4.symm.trans i3)
    subst e1 e2
    exact ⟨i, i1, i2, i3, t5⟩
  rcases h with ⟨i, h1, h2, h3⟩ | ⟨h1, h2⟩
  · rw [eN] at h1
    obtain ⟨t, r, t1, t2, t3, t4, t5⟩ := na i (by omega)
    rw [h2] at t5
    refine Or.inl ⟨t, r, i, t1, t2, h3, by omega, t3, t4, ((VW_iff vw t5).mp rfl).symm, fun t' r' ht hr e => ?_⟩
    obtain ⟨j, j1, j2, j3, j4⟩ := key t' r' ht hr
    rw [e] at j4
    have e1 : eh_l Gc (B + 9) j = eh_l Gc (B + 9) i := by rw [h2]; exact (VW_iff j4 vw).mpr rfl
    have e2 := nc j i j1 (by omega) e1
    subst e2
    have := qm t' ht
    have := qm t t1
    exact ⟨lx_inj (by omega) (by omega) (j2.symm.trans t3), lx_inj (by omega) (by omega) (j3.symm.trans t4)⟩
  · refine Or.inr ⟨fun t r ht hr e => ?_, h2⟩
    obtain ⟨j, j1, j2, j3, j4⟩ := key t r ht hr
    rw [e] at j4
    exact h1 j (by rw [eN]; omega) ((VW_iff j4 vw).mpr rfl)
