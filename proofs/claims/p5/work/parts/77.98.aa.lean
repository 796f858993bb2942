/-! a reference out of an array -/
theorem eh_e.aa {cal : eh_K} {q : ri_M × ri_T} {pc p r n m y : Nat} {gg : Nat → Bool} {T : eh_T} {e : ri_En} {lo : List (Nat × Value)} {st rs : List Value} {h h' : ri_H} {G : eh_W} {x : Int32} (E : eh_e cal q pc lo (.int x :: .ref r :: st) h rs h') (hp : Nat.beq pc 70000 = false) (hl : ri_look2 q.2 pc = some e) (hr : ri_isR e.1 = false) (hs : ∀ k z, ri_step [] cal (ri_bud ri_md) q.1 e pc lo (.int x :: .ref r :: st) h k z = (match ri_ald gg y (.ref r) x h with
      | some v => some (pc + 1, lo, v :: st, h, k, z)
      | none => none)) (hn : pc + 1 = p) (hV : eh_V h = G) (ty : eh_ty T G) (hx : x.toNatClampNeg = n) (ht : eh_tg T r n = some (m + 2)) : eh_e cal q p lo (.ref m :: st) h rs h' := by
  obtain ⟨v, h1, -, E⟩ := E.ax hp hl hr hs hx hn
  rw [hV] at h1
  have : v = .ref m := ty r n (m + 2) v ht h1
  subst this
  exact E
