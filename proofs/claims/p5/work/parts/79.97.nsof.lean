/-! the names of the LAKE, from what is alike between two calls -/
theorem NK_LI {q : Nat → Nat} {Gc Gm : eh_W} (h : LI q 23 2 0 Gc Gm) (n : NL q 23 Gc (eh_l Gm 5)) : NK q 23 2 0 (fun j => eh_l Gm 5 j) Gc Gm := ⟨DI_NB h, fun t ht => (h.2.1.1 t ht).2.1, n⟩
theorem NS_of {Gc Gm : eh_W} (L : LQ Gc Gm) (Q : NQ Gc Gm) : ∃ q, NS q Gc Gm := by
  obtain ⟨⟨q, h1⟩, -⟩ := L
  obtain ⟨⟨q', k1, k2, k3⟩, -⟩ := Q
  have e : ∀ t, t < 4 → q t = q' t := fun t ht => by
    have a : eh_i Gm 2 (0 + (3 + t)) = nI (q t) := (h1.2.1.1 t ht).2.1
    have b := k2 t ht
    have a1 := DI_NB h1 t ht
    have b1 := k1 t ht
    have m := mx_le ht
    have c := congrArg Int32.toInt (a.symm.trans b)
    rw [lx_i (by omega), lx_i (by omega)] at c
    omega
  refine ⟨q', k1, fun t ht => ?_, k3, ?_⟩
  · have b := k2 t ht
    rw [Nat.zero_add] at b
    exact b
  · have s : eh_i Gc 23 12 = nI (q 0 + q 1 + q 2 + q 3) := h1.2.1.2
    rw [e 0 (by decide), e 1 (by decide), e 2 (by decide), e 3 (by decide)] at s
    exact s
