/-! isName, find (the reference's) -/
def nm_M (G : eh_W) : Prop := eh_i G 0 11 = 1 ∧ ∀ k, k < 24 → eh_l G 0 17 ≠ eh_l G 6 k
def fd_M (G : eh_W) (fr ma u : Int32) : Prop := (∃ i : Nat, (i : Int) < ma.toInt ∧ eh_l G 5 (fr + nI i).toNatClampNeg = eh_l G 0 17 ∧ u = nI i) ∨ ((∀ i : Nat, (i : Int) < ma.toInt → eh_l G 5 (fr + nI i).toNatClampNeg ≠ eh_l G 0 17) ∧ u = -1)
section FML
variable {cal : eh_K} {rs : List Value} {h' : ri_H} {G : eh_W} {fr ma : Int32}
theorem nm_lp : ∀ (f k : Nat) (x : Int32) (lo : List (Nat × Value)) (h : ri_H), k + f = 24 → ((x = 1 ∧ eh_i G 0 11 = 1 ∧ ∀ i, i < k → eh_l G 0 17 ≠ eh_l G 6 i) ∨ (x = 0 ∧ ¬ nm_M G)) → eh_e cal md_163 16 lo [] h rs h' → eh_V h = G → eh_ty tM G → ri_lk lo 0 = some (.ref 0) → ri_lk lo 1 = some (.int x) → ri_lk lo 2 = some (.int (nI k)) → ((nm_M G ∧ rs = [.int 1]) ∨ (¬ nm_M G ∧ rs = [.int 0])) ∧ eh_V h' = G ∧ eh_N h' = eh_N h := by
  intro f
  induction f with
  | zero =>
    intro k x lo h hf hx E hV ty l0 l1 l2
    have z := nm_i E hV ty l0 l1 l2
    rw [lx_i (a := k) (by omega), lx_cl (a := k) (by omega)] at z
    rcases z with ⟨c, r1, r2, r3⟩ | ⟨c, -⟩ | ⟨c, -⟩ | ⟨c, -⟩
    · refine ⟨?_, r2, r3⟩
      rcases hx with ⟨rfl, x1, x2⟩ | ⟨rfl, x1⟩
      · exact Or.inl ⟨⟨x1, fun i hi => x2 i (by omega)⟩, r1⟩
      · exact Or.inr ⟨x1, r1⟩
    all_goals omega
  | succ f ih =>
    intro k x lo h hf hx E hV ty l0 l1 l2
    have z := nm_i E hV ty l0 l1 l2
    rw [lx_i (a := k) (by omega), lx_cl (a := k) (by omega)] at z
    rcases z with ⟨c, -⟩ | ⟨c, c2, h1, lo1, E1, a1, a2, a3, a4, a5, a6⟩ | ⟨c, c2, c3, h1, lo1, E1, a1, a2, a3, a4, a5, a6⟩ | ⟨c, c2, c3, h1, lo1, E1, a1, a2, a3, a4, a5, a6⟩
    · omega
    · rw [lx_a1] at a6
      have := ih (k + 1) 0 lo1 h1 (by omega) (by
        rcases hx with ⟨x0, -⟩ | ⟨-, x1⟩
        · rw [x0] at c2
          exact absurd c2 (by decide)
        · exact Or.inr ⟨rfl, x1⟩) E1 a1 a3 a4 a5 a6
      rw [a2] at this
      exact this
    · rw [lx_a1] at a6
      have := ih (k + 1) 0 lo1 h1 (by omega) (Or.inr ⟨rfl, fun e => e.2 k (by omega) c3⟩) E1 a1 a3 a4 a5 a6
      rw [a2] at this
      exact this
    · rw [lx_a1] at a6
      have := ih (k + 1) 1 lo1 h1 (by omega) (by
        rcases hx with ⟨-, x1, x2⟩ | ⟨x0, -⟩
        · refine Or.inl ⟨rfl, x1, fun i hi => ?_⟩
          by_cases e : i = k
          · subst e
            exact c3
          · exact x2 i (by omega)
        · exact absurd x0 c2) E1 a1 a3 a4 a5 a6
      rw [a2] at this
      exact this
theorem fm_lp : ∀ (f k : Nat) (lo : List (Nat × Value)) (h : ri_H), k + f = ma.toInt.toNat → (∀ i, i < k → eh_l G 5 (fr + nI i).toNatClampNeg ≠ eh_l G 0 17) → eh_e cal md_166 2 lo [] h rs h' → eh_V h = G → eh_ty tM G → ri_lk lo 0 = some (.ref 0) → ri_lk lo 1 = some (.int fr) → ri_lk lo 2 = some (.int ma) → ri_lk lo 3 = some (.int (nI k)) → ∃ u, fd_M G fr ma u ∧ rs = [.int u] ∧ eh_V h' = G ∧ eh_N h' = eh_N h := by
  intro f
  have q := lx_i31 ma
  induction f with
  | zero =>
    intro k lo h hf hx E hV ty l0 l1 l2 l3
    have z := fm_i E hV ty l0 l1 l2 l3
    rw [lx_ib (a := k) (by omega)] at z
    rcases z with ⟨c, r1, r2, r3⟩ | ⟨c, -⟩ | ⟨c, -⟩
    · exact ⟨-1, Or.inr ⟨fun i hi => hx i (by omega), rfl⟩, r1, r2, r3⟩
    · omega
    · omega
  | succ f ih =>
    intro k lo h hf hx E hV ty l0 l1 l2 l3
    have z := fm_i E hV ty l0 l1 l2 l3
    rw [lx_ib (a := k) (by omega)] at z
    rcases z with ⟨c, r1, r2, r3⟩ | ⟨c, c2, h1, lo1, E1, a1, a2, a3, a4, a5, a6, a7⟩ | ⟨c, c2, r1, r2, r3⟩
    · omega
    · rw [lx_a1] at a7
      have := ih (k + 1) lo1 h1 (by omega) (fun i hi => by
        by_cases e : i = k
        · subst e
          exact c2
        · exact hx i (by omega)) E1 a1 a3 a4 a5 a6 a7
      rw [a2] at this
      exact this
    · exact ⟨nI k, Or.inl ⟨k, c, c2, rfl⟩, r1, r2, r3⟩
end FML
theorem sp_163 {d : Nat} {h h' : ri_H} {v : Option Value} {G : eh_W} (E : ri_calE ri_md (d + 1) 163 [.ref 0] h = some (v, h')) (hV : eh_V h = G) (ty : eh_ty tM G) : (nm_M G ∧ v = some (.int 1) ∧ eh_V h' = G ∧ eh_N h' = eh_N h) ∨ (¬ (nm_M G) ∧ v = some (.int 0) ∧ eh_V h' = G ∧ eh_N h' = eh_N h) := by
  obtain ⟨rs, hrs, E⟩ := eh_in E (q := md_163) rfl
  rcases nm_a E hV ty rfl with ⟨c, h1, lo1, E, hV, n1, t1, l0, l1, l2⟩ | ⟨c, h1, lo1, E, hV, n1, t1, l0, l1, l2⟩
  · obtain ⟨u1, u2, u3⟩ := nm_lp 24 0 0 lo1 h1 rfl (Or.inr ⟨rfl, fun e => c e.1⟩) E hV t1 l0 l1 l2
    rcases u1 with ⟨a, b⟩ | ⟨a, b⟩
    · exact Or.inl ⟨a, by rw [← hrs, b]; rfl, u2, by rw [u3, n1]⟩
    · exact Or.inr ⟨a, by rw [← hrs, b]; rfl, u2, by rw [u3, n1]⟩
  · obtain ⟨u1, u2, u3⟩ := nm_lp 24 0 1 lo1 h1 rfl (Or.inl ⟨rfl, c, fun i hi => absurd hi (Nat.not_lt_zero i)⟩) E hV t1 l0 l1 l2
    rcases u1 with ⟨a, b⟩ | ⟨a, b⟩
    · exact Or.inl ⟨a, by rw [← hrs, b]; rfl, u2, by rw [u3, n1]⟩
    · exact Or.inr ⟨a, by rw [← hrs, b]; rfl, u2, by rw [u3, n1]⟩
theorem sp_166 {d : Nat} {h h' : ri_H} {v : Option Value} {G : eh_W} {fr ma : Int32} (E : ri_calE ri_md (d + 1) 166 [.ref 0, .int fr, .int ma] h = some (v, h')) (hV : eh_V h = G) (ty : eh_ty tM G) : ∃ u : Int32, fd_M G fr ma u ∧ v = some (.int u) ∧ eh_V h' = G ∧ eh_N h' = eh_N h := by
  obtain ⟨rs, hrs, E⟩ := eh_in E (q := md_166) rfl
  obtain ⟨h1, lo1, E, hV, n1, t1, l0, l1, l2, l3⟩ := fm_a E hV ty rfl rfl rfl
  obtain ⟨u, u1, u2, u3, u4⟩ := fm_lp (fr := fr) (ma := ma) ma.toInt.toNat 0 lo1 h1 (by omega) (fun i hi => absurd hi (Nat.not_lt_zero i)) E hV t1 l0 l1 l2 l3
  exact ⟨u, u1, by rw [← hrs, u2]; rfl, u3, by rw [u4, n1]⟩
