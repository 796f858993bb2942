/-! find (class) over the LAKE's names -/
section ZFCL
variable {cal : eh_K} {rs : List Value} {h' : ri_H} {G : eh_W} {co : Int64}
theorem zfc_lp : ∀ (f k : Nat) (lo : List (Nat × Value)) (h : ri_H), k + f = (eh_i G 23 12).toInt.toNat → (∀ i, i < k → eh_l G 32 i ≠ co) → eh_e cal md_29 2 lo [] h rs h' → eh_V h = G → eh_ty tC G → ri_lk lo 0 = some (.ref 23) → ri_lk lo 1 = some (.long co) → ri_lk lo 3 = some (.int (nI k)) → ∃ u, fd_C G 23 32 co u ∧ rs = [.int u] ∧ eh_V h' = G ∧ eh_N h' = eh_N h := by
  intro f
  have q := lx_i31 (eh_i G 23 12)
  induction f with
  | zero =>
    intro k lo h hf hx E hV ty l0 l1 l3
    have z := zfc_i E hV ty l0 l1 l3
    rw [lx_ib (a := k) (by omega), lx_cb (a := k) (by omega)] at z
    rcases z with ⟨c, r1, r2, r3⟩ | ⟨c, -⟩ | ⟨c, -⟩
    · exact ⟨-1, Or.inr ⟨fun i hi => hx i (by omega), rfl⟩, r1, r2, r3⟩
    · omega
    · omega
  | succ f ih =>
    intro k lo h hf hx E hV ty l0 l1 l3
    have z := zfc_i E hV ty l0 l1 l3
    rw [lx_ib (a := k) (by omega), lx_cb (a := k) (by omega)] at z
    rcases z with ⟨c, r1, r2, r3⟩ | ⟨c, c2, h1, lo1, E1, a1, a2, a3, a4, a5, a6⟩ | ⟨c, c2, r1, r2, r3⟩
    · omega
    · rw [lx_a1] at a6
      have := ih (k + 1) lo1 h1 (by omega) (fun i hi => by
        by_cases e : i = k
        · subst e
          exact c2
        · exact hx i (by omega)) E1 a1 a3 a4 a5 a6
      rw [a2] at this
      exact this
    · exact ⟨nI k, Or.inl ⟨k, c, c2, rfl⟩, r1, r2, r3⟩
end ZFCL
theorem sp_29_23 {d : Nat} {h h' : ri_H} {v : Option Value} {G : eh_W} {co : Int64} (E : ri_calE ri_md (d + 1) 29 [.ref 23, .long co] h = some (v, h')) (hV : eh_V h = G) (ty : eh_ty tC G) : ∃ u : Int32, fd_C G 23 32 co u ∧ v = some (.int u) ∧ eh_V h' = G ∧ eh_N h' = eh_N h := by
  obtain ⟨rs, hrs, E⟩ := eh_in E (q := md_29) rfl
  obtain ⟨h1, lo1, E, hV, n1, t1, l0, l1, l3⟩ := zfc_a E hV ty rfl rfl
  obtain ⟨u, u1, u2, u3, u4⟩ := zfc_lp (co := co) (eh_i G 23 12).toInt.toNat 0 lo1 h1 (by omega) (fun i hi => absurd hi (Nat.not_lt_zero i)) E hV t1 l0 l1 l3
  exact ⟨u, u1, by rw [← hrs, u2]; rfl, u3, by rw [u4, n1]⟩
