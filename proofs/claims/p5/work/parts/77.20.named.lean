/-! a LINE that tells a name, on both sides -/
def flt (G : eh_W) (f : Int32) : eh_W := eh_u (eh_u G 2 9 (.int f)) 2 10 (.int (eh_i G 2 6))
def fltM (G : eh_W) (f : Int32) : eh_W := eh_u (eh_u G 0 15 (.int f)) 0 16 (.int (eh_i G 0 12))
/-- the class's draft with a name of sort t more -/
def nmd (G : eh_W) (q : Nat → Nat) (t : Nat) : eh_W := eh_u (eh_u (eh_u (eh_u (eh_u G 14 (q 0 + q 1 + q 2 + q 3) (.long (eh_l G 2 8))) 15 (q 0 + q 1 + q 2 + q 3) (.int (nI t))) 16 (q 0 + q 1 + q 2 + q 3) (.int (nI (q t)))) 5 12 (.int (nI (q 0 + q 1 + q 2 + q 3) + 1))) 7 t (.int (nI (q t) + 1))
section NAMED
variable {d e n m c : Nat} {b : Nat → Int32} {hc hc' hm hm' : ri_H} {x1 x2 : Int32} {q : Nat → Nat} {o e' t : Nat}
theorem adv_fr {h h1 : ri_H} {v : Option Value} (E : ri_calE ri_md (d + 2) 74 [.ref 2] h = some (v, h1)) (ic : iC b n m (eh_V h)) : eh_fr pCt (eh_V h) (eh_V h1) := by
  obtain ⟨x, y1, y2⟩ := ic.2.2
  exact (sp_74 E rfl ic y2 y1).2.1
theorem nxt_fr {h h1 : ri_H} {v : Option Value} (E : ri_calE ri_md (d + 2) 158 [.ref 0] h = some (v, h1)) (im : iM b n m (eh_V h)) : eh_fr pMt (eh_V h) (eh_V h1) := by
  obtain ⟨x, y1, y2⟩ := im.2.2
  exact (sp_158 E rfl im y2 y1).2.1
/-- what the class has done behind a new name -/
def CS (d n m : Nat) (b : Nat → Int32) (q : Nat → Nat) (t : Nat) (h7 hc' : ri_H) (x1 : Int32) : Prop := ∃ h16 h34 : ri_H, eh_V h16 = nmd (eh_V h7) q t ∧ ri_calE ri_md (d + 5) 74 [.ref 2] h16 = some (none, h34) ∧ iC b n m (eh_V h34) ∧ ((t ≠ 1 ∧ t ≠ 3 ∧ x1 = 1 ∧ eh_V hc' = eh_V h34) ∨ (t = 1 ∧ ∃ g : ri_H, ri_calE ri_md (d + 5) 47 [.ref 4, .int (nI (q t))] h34 = some (some (.int x1), g) ∧ eh_V hc' = eh_V g) ∨ (t = 3 ∧ ∃ (y : Int32) (g : ri_H), ri_calE ri_md (d + 5) 49 [.ref 4, .int (nI (q t))] h34 = some (some (.int y), g) ∧ ((y = 0 ∧ x1 = 0) ∨ (¬ y = 0 ∧ x1 = 1)) ∧ eh_V hc' = eh_V g))
def CP (d n m : Nat) (b : Nat → Int32) (q : Nat → Nat) (t : Nat) (h7 hc' : ri_H) (x1 : Int32) : Prop := (¬ eh_i (eh_V h7) 2 5 = 3 ∧ x1 = 0 ∧ eh_V hc' = flt (eh_V h7) 1) ∨ (eh_i (eh_V h7) 2 5 = 3 ∧ ∃ u : Int32, fd_C (eh_V h7) 5 14 (eh_l (eh_V h7) 2 8) u ∧ ((¬ u = -1 ∧ x1 = 0 ∧ eh_V hc' = flt (eh_V h7) 3) ∨ (u = -1 ∧ CS d n m b q t h7 hc' x1)))
theorem C_named {Gm : eh_W} (ht : t < 4) (D : DR q q o e' (eh_V hc) Gm) (ic : iC b n m (eh_V hc)) (E1 : ri_calE ri_md (d + 6) 46 [.ref 4, .int (nI t)] hc = some (some (.int x1), hc')) : (q t = mx t ∧ x1 = 0 ∧ eh_V hc' = flt (eh_V hc) 4) ∨ (q t < mx t ∧ ∃ h7 : ri_H, ri_calE ri_md (d + 5) 74 [.ref 2] hc = some (none, h7) ∧ iC b n m (eh_V h7) ∧ CP d n m b q t h7 hc' x1) := by
  have m0 : mx 0 = 6 := rfl
  have m1 : mx 1 = 8 := rfl
  have m2 : mx 2 = 4 := rfl
  have m3 : mx 3 = 6 := rfl
  have qm : ∀ s, s < 4 → q s ≤ mx s := fun s hs => (D.2.1.1 s hs).2.2
  have q0 := qm 0 (by decide)
  have q1 := qm 1 (by decide)
  have q2 := qm 2 (by decide)
  have q3 := qm 3 (by decide)
  have qt := qm t ht
  have mt := mx_le ht
  have c7 := (D.2.1.1 t ht).1
  have cN := D.2.1.2
  have exm : eh_x 2 t = nI (mx t) := by
    match t, ht with
    | 0, _ => rfl
    | 1, _ => rfl
    | 2, _ => rfl
    | 3, _ => rfl
  have lN : q t < mx t → q 0 + q 1 + q 2 + q 3 < 24 := fun h => by
    match t, ht with
    | 0, _ => omega
    | 1, _ => omega
    | 2, _ => omega
    | 3, _ => omega
  have ti : (nI t).toInt = (t : Int) := lx_i (by omega)
  have t1 : nI t = 1 → t = 1 := fun x => lx_inj (b := 1) (by omega) (by omega) x
  have t3 : nI t = 3 → t = 3 := fun x => lx_inj (b := 3) (by omega) (by omega) x
  have n1 : ¬ nI t = 1 → t ≠ 1 := fun x y => x (by rw [y]; rfl)
  have n3 : ¬ nI t = 3 → t ≠ 3 := fun x y => x (by rw [y]; rfl)
  have num : (nI (q t) + 1) - 1 = nI (q t) := by rw [Int32.add_sub_cancel]
  have z := sp_46 E1 rfl ic
  rw [ti, lx_cl (a := t) (by omega), c7, exm, lx_i (a := q t) (by omega), lx_i (a := mx t) (by omega)] at z
  have pre : ∀ {h7 : ri_H}, ri_calE ri_md (d + 5) 74 [.ref 2] hc = some (none, h7) → eh_i (eh_V h7) 7 t = nI (q t) ∧ eh_i (eh_V h7) 5 12 = nI (q 0 + q 1 + q 2 + q 3) := fun X => ⟨((adv_fr X ic).i rfl).trans c7, ((adv_fr X ic).i rfl).trans cN⟩
  have chain : ∀ {h7 h16 : ri_H}, ri_calE ri_md (d + 5) 74 [.ref 2] hc = some (none, h7) → q t < mx t → eh_V h16 = eh_u (eh_u (eh_u (eh_u (eh_u (eh_V h7) 14 (eh_i (eh_V h7) 5 12).toNatClampNeg (.long (eh_l (eh_V h7) 2 8))) 15 (eh_i (eh_V h7) 5 12).toNatClampNeg (.int (nI t))) 16 (eh_i (eh_V h7) 5 12).toNatClampNeg (.int (eh_i (eh_V h7) 7 t))) 5 12 (.int ((eh_i (eh_V h7) 5 12) + 1))) 7 t (.int ((eh_i (eh_V h7) 7 t) + 1)) → eh_V h16 = nmd (eh_V h7) q t := fun X hl w => by
    obtain ⟨p1, p2⟩ := pre X
    have := lN hl
    rw [w, p1, p2, lx_cl (a := q 0 + q 1 + q 2 + q 3) (by omega)]
    rfl
  rcases z with ⟨a, -⟩ | ⟨h7, u, -, -, a3, X, i7, k3, fd, u1, a4, -⟩ | ⟨h7, u, h16, h34, -, -, a3, X, i7, k3, fd, u1, a4, a5, a6, v16, X2, i34, s1, s3, r1, r2, -, -⟩ | ⟨h7, u, h16, h34, y, g, -, -, a3, X, i7, k3, fd, u1, a4, a5, a6, v16, X2, i34, s1, s3, X3, ig, y0, r1, r2, -, -⟩ | ⟨h7, u, h16, h34, y, g, -, -, a3, X, i7, k3, fd, u1, a4, a5, a6, v16, X2, i34, s1, s3, X3, ig, y0, r1, r2, -, -⟩ | ⟨h7, u, h16, h34, y, g, -, -, a3, X, i7, k3, fd, u1, a4, a5, a6, v16, X2, i34, s1, X3, ig, r1, r2, -, -⟩ | ⟨h7, u, -, -, a3, X, i7, k3, fd, u1, a4, a5, a6, -⟩ | ⟨h7, u, -, -, a3, X, i7, k3, fd, u1, a4, a5, -⟩ | ⟨h7, u, -, -, a3, X, i7, k3, fd, u1, r1, r2, -, -⟩ | ⟨h7, -, -, a3, X, i7, k3, r1, r2, -, -⟩ | ⟨-, -, a3, r1, r2, -, -⟩ | ⟨-, a, -⟩
  · omega
  · have := lN (by omega)
    rw [(pre X).2, lx_i (by omega)] at a4
    omega
  · cases r1
    exact Or.inr ⟨by omega, h7, X, i7, Or.inr ⟨k3, u, fd, Or.inr ⟨u1, h16, h34, chain X (by omega) v16, X2, i34, Or.inl ⟨n1 s1, n3 s3, rfl, r2⟩⟩⟩⟩
  · cases r1
    rw [(pre X).1, num] at X3
    exact Or.inr ⟨by omega, h7, X, i7, Or.inr ⟨k3, u, fd, Or.inr ⟨u1, h16, h34, chain X (by omega) v16, X2, i34, Or.inr (Or.inr ⟨t3 s3, y, g, X3, Or.inl ⟨y0, rfl⟩, r2⟩)⟩⟩⟩
  · cases r1
    rw [(pre X).1, num] at X3
    exact Or.inr ⟨by omega, h7, X, i7, Or.inr ⟨k3, u, fd, Or.inr ⟨u1, h16, h34, chain X (by omega) v16, X2, i34, Or.inr (Or.inr ⟨t3 s3, y, g, X3, Or.inr ⟨y0, rfl⟩, r2⟩)⟩⟩⟩
  · cases r1
    rw [(pre X).1, num] at X3
    exact Or.inr ⟨by omega, h7, X, i7, Or.inr ⟨k3, u, fd, Or.inr ⟨u1, h16, h34, chain X (by omega) v16, X2, i34, Or.inr (Or.inl ⟨t1 s1, g, X3, r2⟩)⟩⟩⟩
  · exfalso
    rw [(pre X).1, num] at a6
    have := congrArg Int32.toInt a6
    rw [lx_i (by omega), show (-1 : Int32).toInt = -1 by decide] at this
    omega
  · rw [(pre X).1, lx_i (by omega)] at a5
    omega
  · cases r1
    exact Or.inr ⟨by omega, h7, X, i7, Or.inr ⟨k3, u, fd, Or.inl ⟨u1, rfl, r2⟩⟩⟩
  · cases r1
    exact Or.inr ⟨by omega, h7, X, i7, Or.inl ⟨k3, rfl, r2⟩⟩
  · cases r1
    exact Or.inl ⟨by omega, rfl, r2⟩
  · omega
/-- the reference's fresh -/
theorem M_fresh {to : Int32} {Gc : eh_W} (D : DR q q o e' Gc (eh_V hm)) (im : iM b n m (eh_V hm)) (E : ri_calE ri_md (e + 3) 167 [.ref 0, .int to] hm = some (some (.int x2), hm')) : (¬ nm_M (eh_V hm) ∧ x2 = 0 ∧ eh_V hm' = fltM (eh_V hm) 1) ∨ (nm_M (eh_V hm) ∧ (∃ t r, t < 4 ∧ r < q t ∧ eh_l (eh_V hm) 5 (bs t + r) = eh_l (eh_V hm) 0 17) ∧ x2 = 0 ∧ eh_V hm' = fltM (eh_V hm) 3) ∨ (nm_M (eh_V hm) ∧ (∀ t r, t < 4 → r < q t → eh_l (eh_V hm) 5 (bs t + r) ≠ eh_l (eh_V hm) 0 17) ∧ x2 = 1 ∧ ∃ h41 h44 : ri_H, eh_V h41 = eh_u (eh_V hm) 5 to.toNatClampNeg (.long (eh_l (eh_V hm) 0 17)) ∧ ri_calE ri_md (e + 2) 158 [.ref 0] h41 = some (none, h44) ∧ iM b n m (eh_V h44) ∧ eh_V hm' = eh_V h44) := by
  have fm : ∀ t, t < 4 → ∀ {fr ma u : Int32}, fr = nI (bs t) → ma = eh_i (eh_V hm) 3 (3 + t) → fd_M (eh_V hm) fr ma u → (∃ r, r < q t ∧ eh_l (eh_V hm) 5 (bs t + r) = eh_l (eh_V hm) 0 17 ∧ u = nI r) ∨ ((∀ r, r < q t → eh_l (eh_V hm) 5 (bs t + r) ≠ eh_l (eh_V hm) 0 17) ∧ u = -1) := fun t ht {_ _ _} e1 e2 h => F_M ht (D.2.1.1 t ht).2.2 e1 (e2.trans (D.2.1.1 t ht).2.1) h
  have pos : ∀ t, t < 4 → ∀ {u : Int32}, ((∃ r, r < q t ∧ eh_l (eh_V hm) 5 (bs t + r) = eh_l (eh_V hm) 0 17 ∧ u = nI r) ∨ ((∀ r, r < q t → eh_l (eh_V hm) 5 (bs t + r) ≠ eh_l (eh_V hm) 0 17) ∧ u = -1)) → ¬ u.toInt < 0 → ∃ t r, t < 4 ∧ r < q t ∧ eh_l (eh_V hm) 5 (bs t + r) = eh_l (eh_V hm) 0 17 := fun t ht {u} h hu => by
    rcases h with ⟨r, r1, r2, -⟩ | ⟨-, h⟩
    · exact ⟨t, r, ht, r1, r2⟩
    · rw [h] at hu
      exact absurd (by decide) hu
  have neg : ∀ t, t < 4 → ∀ {u : Int32}, ((∃ r, r < q t ∧ eh_l (eh_V hm) 5 (bs t + r) = eh_l (eh_V hm) 0 17 ∧ u = nI r) ∨ ((∀ r, r < q t → eh_l (eh_V hm) 5 (bs t + r) ≠ eh_l (eh_V hm) 0 17) ∧ u = -1)) → u.toInt < 0 → ∀ r, r < q t → eh_l (eh_V hm) 5 (bs t + r) ≠ eh_l (eh_V hm) 0 17 := fun t ht {u} h hu => by
    rcases h with ⟨r, r1, -, r3⟩ | ⟨h, -⟩
    · have := (D.2.1.1 t ht).2.2
      have := mx_le ht
      rw [r3, lx_i (by omega)] at hu
      omega
    · exact h
  rcases sp_167 E rfl im with ⟨x9, nm, f0, c0, r1, r2, -, -⟩ | ⟨x9, x18, nm, f0, c0, f1, c1, r1, r2, -, -⟩ | ⟨x9, x18, x27, nm, f0, c0, f1, c1, f2, c2, r1, r2, -, -⟩ | ⟨x9, x18, x27, x36, h41, h44, nm, f0, c0, f1, c1, f2, c2, f3, c3, v41, X, i44, r1, r2, -, -⟩ | ⟨x9, x18, x27, x36, nm, f0, c0, f1, c1, f2, c2, f3, c3, r1, r2, -, -⟩ | ⟨nm, r1, r2, -, -⟩
  · cases r1
    exact Or.inr (Or.inl ⟨nm, pos 0 (by decide) (fm 0 (by decide) rfl rfl f0) c0, rfl, r2⟩)
  · cases r1
    exact Or.inr (Or.inl ⟨nm, pos 1 (by decide) (fm 1 (by decide) rfl rfl f1) c1, rfl, r2⟩)
  · cases r1
    exact Or.inr (Or.inl ⟨nm, pos 2 (by decide) (fm 2 (by decide) rfl rfl f2) c2, rfl, r2⟩)
  · cases r1
    refine Or.inr (Or.inr ⟨nm, fun t r ht hr => ?_, rfl, h41, h44, v41, X, i44, r2⟩)
    match t, ht with
    | 0, _ => exact neg 0 (by decide) (fm 0 (by decide) rfl rfl f0) c0 r hr
    | 1, _ => exact neg 1 (by decide) (fm 1 (by decide) rfl rfl f1) c1 r hr
    | 2, _ => exact neg 2 (by decide) (fm 2 (by decide) rfl rfl f2) c2 r hr
    | 3, _ => exact neg 3 (by decide) (fm 3 (by decide) rfl rfl f3) c3 r hr
  · cases r1
    exact Or.inr (Or.inl ⟨nm, pos 3 (by decide) (fm 3 (by decide) rfl rfl f3) c3, rfl, r2⟩)
  · cases r1
    exact Or.inl ⟨nm, rfl, r2⟩
theorem nm_iff {Gc : eh_W} (J : JT n c Gc (eh_V hm)) (im : iM b n m (eh_V hm)) : (eh_i Gc 2 5 = 3 ∧ nm_M (eh_V hm) ∧ VW (eh_l Gc 2 8) (eh_l (eh_V hm) 0 17)) ∨ (¬ eh_i Gc 2 5 = 3 ∧ ¬ nm_M (eh_V hm)) := by
  have hk := im.2.1.2.2.2.2.2.1
  rcases J.k3 with ⟨a1, a2, a3, a4⟩ | ⟨a1, a2⟩
  · exact Or.inl ⟨a1, ⟨a2, fun k kk => by rw [hk k kk]; exact a4 k kk⟩, a3⟩
  · exact Or.inr ⟨a1, fun x => a2 ⟨x.1, fun k kk => by rw [← hk k kk]; exact x.2 k kk⟩⟩
/-- a new name on both sides -/
theorem J_fresh {h7 h2 h4 : ri_H} {x6 to : Int32} (ht : t < 4) (J : JT n c (eh_V h7) (eh_V h2)) (D : DR q q o e' (eh_V h7) (eh_V h2)) (hlt : q t < mx t) (i7 : iC b n m (eh_V h7)) (i2 : iM b n m (eh_V h2)) (C : CP d n m b q t h7 hc' x1) (E : ri_calE ri_md (e + 3) 167 [.ref 0, .int to] h2 = some (some (.int x6), h4)) (hto : to.toNatClampNeg = bs t + q t) :
    (x6 = 0 ∧ x1 = 0 ∧ FL (eh_V hc') (eh_V h4)) ∨ (x6 = 1 ∧ ∃ h16 h34 : ri_H, eh_V h16 = nmd (eh_V h7) q t ∧ iC b n m (eh_V h34) ∧ JT n (c + 1) (eh_V h34) (eh_V h4) ∧ iM b n m (eh_V h4) ∧ DR (up q t) q o e' (eh_V h34) (eh_V h4) ∧ ((t ≠ 1 ∧ t ≠ 3 ∧ x1 = 1 ∧ eh_V hc' = eh_V h34) ∨ (t = 1 ∧ ∃ g : ri_H, ri_calE ri_md (d + 5) 47 [.ref 4, .int (nI (q t))] h34 = some (some (.int x1), g) ∧ eh_V hc' = eh_V g) ∨ (t = 3 ∧ ∃ (y : Int32) (g : ri_H), ri_calE ri_md (d + 5) 49 [.ref 4, .int (nI (q t))] h34 = some (some (.int y), g) ∧ ((y = 0 ∧ x1 = 0) ∨ (¬ y = 0 ∧ x1 = 1)) ∧ eh_V hc' = eh_V g))) := by
  rcases M_fresh D i2 E with ⟨m1, m2, m3⟩ | ⟨m1, ⟨s, r, s1, s2, s3⟩, m2, m3⟩ | ⟨m1, m4, m2, h41, h44, v41, X, i44, v4⟩
  · rcases nm_iff J i2 with ⟨-, a2, -⟩ | ⟨a1, -⟩
    · exact absurd a2 m1
    · rcases C with ⟨-, c2, c3⟩ | ⟨c1, -⟩
      · obtain ⟨f1, -, -⟩ := J.fl c3 m3 (by decide)
        exact Or.inl ⟨m2, c2, f1⟩
      · exact absurd c1 a1
  · rcases nm_iff J i2 with ⟨a1, -, a3⟩ | ⟨-, a2⟩
    · rcases C with ⟨c1, -⟩ | ⟨-, u, fd, c2⟩
      · exact absurd a1 c1
      · rcases F_C D.2.1 D.2.2.1 a3 fd with ⟨t', r', i, t1, t2, t3, i24, -⟩ | ⟨z1, -⟩
        · rcases c2 with ⟨-, c3, c4⟩ | ⟨c3, -⟩
          · obtain ⟨f1, -, -⟩ := J.fl c4 m3 (by decide)
            exact Or.inl ⟨m2, c3, f1⟩
          · exfalso
            rw [t3] at c3
            have := congrArg Int32.toInt c3
            rw [lx_i (by omega), show (-1 : Int32).toInt = -1 by decide] at this
            omega
        · exact absurd s3 (z1 s r s1 s2)
    · exact absurd m1 a2
  · rcases nm_iff J i2 with ⟨a1, -, a3⟩ | ⟨-, a2⟩
    · rcases C with ⟨c1, -⟩ | ⟨-, u, fd, c2⟩
      · exact absurd a1 c1
      · rcases F_C D.2.1 D.2.2.1 a3 fd with ⟨t', r', i, t1, t2, -, -, -, -, t5, -⟩ | ⟨-, z2⟩
        · exact absurd t5 (m4 t' r' t1 t2)
        · rcases c2 with ⟨c3, -⟩ | ⟨-, h16, h34, v16, X2, i34, tl⟩
          · exact absurd z2 c3
          · rw [hto] at v41
            have D1 : DR (up q t) q o e' (eh_V h16) (eh_V h41) := by
              rw [v16, v41]
              exact D_name ht D hlt rfl a3 m4
            have i16 : iC b n m (eh_V h16) := by
              rw [v16]
              unfold nmd
              exact iC_u (iC_u (iC_u (iC_u (iC_u i7 (i7.1.ul rfl) rfl) ((i7.1.ul rfl).ui rfl) rfl) (((i7.1.ul rfl).ui rfl).ui rfl) rfl) ((((i7.1.ul rfl).ui rfl).ui rfl).ui rfl) rfl) (((((i7.1.ul rfl).ui rfl).ui rfl).ui rfl).ui rfl) rfl
            have i41 : iM b n m (eh_V h41) := by
              rw [v41]
              exact iM_u i2 (i2.1.ul rfl) rfl
            obtain ⟨J2, f1, f2⟩ := J_next J (by rw [a1]; decide) X2 X i16 i41 (by rw [v16]; rfl) (by rw [v41]; rfl)
            exact Or.inr ⟨m2, h16, h34, v16, i34, by rw [v4]; exact J2, by rw [v4]; exact i44, by rw [v4]; exact DR_fr D1 (f1.mo pC_td) (f2.mo pM_td), tl⟩
    · exact absurd m1 a2
/-- a cue, a teacher -/
theorem J_cue (ht : t = 0 ∨ t = 2) (J : JT n c (eh_V hc) (eh_V hm)) (hkd : eh_i (eh_V hc) 2 5 = 2) (D : DR q q o (eo q) (eh_V hc) (eh_V hm)) (ic : iC b n m (eh_V hc)) (im : iM b n m (eh_V hm)) (E1 : ri_calE ri_md (d + 6) 46 [.ref 4, .int (nI t)] hc = some (some (.int x1), hc'))
    (E2 : (eh_i (eh_V hm) 3 (3 + t) = nI (mx t) ∧ x2 = 0 ∧ eh_V hm' = fltM (eh_V hm) 4) ∨ (¬ eh_i (eh_V hm) 3 (3 + t) = nI (mx t) ∧ ∃ (h2 : ri_H) (x6 : Int32) (h4 : ri_H), ri_calE ri_md (e + 3) 158 [.ref 0] hm = some (none, h2) ∧ iM b n m (eh_V h2) ∧ ri_calE ri_md (e + 3) 167 [.ref 0, .int (nI (bs t) + eh_i (eh_V h2) 3 (3 + t))] h2 = some (some (.int x6), h4) ∧ ((x6 = 0 ∧ x2 = 0 ∧ eh_V hm' = eh_V h4) ∨ (¬ x6 = 0 ∧ x2 = 1 ∧ eh_V hm' = eh_u (eh_V h4) 3 (3 + t) (.int (eh_i (eh_V h4) 3 (3 + t) + 1)))))) : LO n (c + 1) x1 x2 (eh_V hc') (eh_V hm') := by
  have t4 : t < 4 := by omega
  have qt := D.2.1.1 t t4
  have mt := mx_le t4
  have bt := bs_le t4
  rcases C_named t4 D ic E1 with ⟨c1, c2, c3⟩ | ⟨c1, h7, X, i7, C⟩
  · rcases E2 with ⟨-, y2, y3⟩ | ⟨y1, -⟩
    · obtain ⟨f1, -, -⟩ := J.fl c3 y3 (by decide)
      exact Or.inl ⟨c2, y2, f1⟩
    · exact absurd (by rw [qt.2.1, c1]) y1
  · rcases E2 with ⟨y1, -⟩ | ⟨-, h2, x6, h4, Y1, i2, Y2, y3⟩
    · rw [qt.2.1] at y1
      have := lx_inj (by omega) (by omega) y1
      omega
    · obtain ⟨J1, f1, f2⟩ := J_next J (by rw [hkd]; decide) X Y1 ic im rfl rfl
      have D1 := DR_fr D (f1.mo pC_td) (f2.mo pM_td)
      have e2 : eh_i (eh_V h2) 3 (3 + t) = nI (q t) := (f2.i rfl).trans qt.2.1
      have hto : (nI (bs t) + eh_i (eh_V h2) 3 (3 + t)).toNatClampNeg = bs t + q t := by
        rw [e2, show nI (bs t) + nI (q t) = nI (bs t + q t) from (Int32.ofNat_add _ _).symm, lx_cl (by omega)]
      rcases J_fresh t4 J1 D1 c1 i7 i2 C Y2 hto with ⟨z1, z2, z3⟩ | ⟨z1, h16, h34, -, i34, J2, i4, D2, tl⟩
      · rcases y3 with ⟨-, y4, y5⟩ | ⟨y4, -⟩
        · exact Or.inl ⟨z2, y4, by rw [y5]; exact z3⟩
        · exact absurd z1 y4
      · rcases y3 with ⟨y4, -⟩ | ⟨-, y4, y5⟩
        · rw [y4] at z1
          exact absurd z1 (by decide)
        · rcases tl with ⟨-, -, u1, u2⟩ | ⟨u1, -⟩ | ⟨u1, -⟩
          · have D3 := D_cnt (x := eh_i (eh_V h4) 3 (3 + t) + 1) t4 (by omega) (by omega) D2 (by rw [(D2.2.1.1 t t4).2.1, lx_a1])
            refine Or.inr (Or.inl ⟨u1, y4, ?_, up q t, o, ?_⟩)
            · rw [u2, y5]
              exact J2.mo (by omega)
            · rw [u2, y5, show eo (up q t) = eo q by
                unfold eo
                rw [up_ne q (by omega), up_ne q (by omega)]]
              exact D3
          · omega
          · omega
end NAMED
