/-! a lesson, on both sides -/
section LESSON
variable {d e n m : Nat} {b : Nat → Int32} {hc hc' hm hm' : ri_H} {x1 x2 : Int32} {q : Nat → Nat} {o : Nat}
theorem lx_back {x : Int32} {k : Nat} (h0 : 0 ≤ x.toInt) (hk : x.toInt ≤ k) (k9 : k ≤ 999) : ∃ a, a ≤ k ∧ x = nI a := by
  refine ⟨x.toInt.toNat, by omega, ?_⟩
  apply Int32.toInt_inj.mp
  rw [lx_i (by omega)]
  omega
theorem cells1 {x : Int32} (h1 : 1 ≤ x.toInt) (h8 : x.toInt ≤ 8) : (x - 1).toInt = x.toInt - 1 := by
  rw [Int32.toInt_sub]
  have : (1 : Int32).toInt = 1 := by decide
  rw [this]
  exact Int.bmod_eq_of_le (by omega) (by omega)
/-- the cue's name -/
theorem J_cueN {c : Nat} {u v : Int32} {Q : Nat → Nat} {e' : Nat} {ma : Int32} (hQ : Q 0 = q 0) (J : JT n c (eh_V hc) (eh_V hm)) (D : DR Q q o e' (eh_V hc) (eh_V hm)) (ic : iC b n m (eh_V hc)) (im : iM b n m (eh_V hm)) (E1 : ri_calE ri_md (d + 3) 84 [.ref 2, .ref 5, .int 0] hc = some (some (.int u), hc')) (hma : ma = nI (q 0)) (E2 : ri_calE ri_md (e + 2) 168 [.ref 0, .int 24, .int ma] hm = some (some (.int v), hm')) :
    (u = -1 ∧ v = 0 ∧ FL (eh_V hc') (eh_V hm')) ∨ (v = 1 ∧ ∃ r, r < q 0 ∧ u = nI r ∧ eh_V hm' = eh_u (eh_V hm) 0 18 (.int (nI r)) ∧ eh_i (eh_V hc) 2 5 = 3 ∧ ∃ g h13 : ri_H, eh_V g = eh_V hc ∧ ri_calE ri_md (d + 2) 74 [.ref 2] g = some (none, h13) ∧ iC b n m (eh_V h13) ∧ eh_V hc' = eh_V h13) := by
  have q0 := D.2.1.1 0 (by decide)
  have m0 : mx 0 = 6 := rfl
  have nz : ∀ i : Nat, i < 100 → ¬ nI i = -1 := fun i hi x => by
    have := congrArg Int32.toInt x
    rw [lx_i (by omega), show (-1 : Int32).toInt = -1 by decide] at this
    omega
  have z1 := sp_84 E1 rfl ic
  have z2 := sp_168 E2 rfl im
  rcases nm_iff J im with ⟨a1, a2, a3⟩ | ⟨a1, a2⟩
  · have mk : ∀ {w : Int32}, fd_M (eh_V hm) 24 ma w → (∃ r, r < q 0 ∧ eh_l (eh_V hm) 5 (bs 0 + r) = eh_l (eh_V hm) 0 17 ∧ w = nI r) ∨ ((∀ r, r < q 0 → eh_l (eh_V hm) 5 (bs 0 + r) ≠ eh_l (eh_V hm) 0 17) ∧ w = -1) := fun h => F_M (t := 0) (by decide) (by rw [← hQ]; exact q0.2.2) rfl hma h
    have fm3 : (∀ r, r < q 0 → eh_l (eh_V hm) 5 (bs 0 + r) ≠ eh_l (eh_V hm) 0 17) → v = 0 ∧ eh_i (eh_V hm') 0 15 = 3 ∧ eh_i (eh_V hm') 0 16 = eh_i (eh_V hm) 0 12 := fun no => by
      rcases z2 with ⟨w, -, fd, w0, r1, r2, -, -⟩ | ⟨w, -, fd, w0, r1, r2, -, -⟩ | ⟨nm, -⟩
      · rcases mk fd with ⟨r, y1, y2, -⟩ | ⟨-, y2⟩
        · exact absurd y2 (no r y1)
        · rw [y2] at w0
          exact absurd (by decide) w0
      · cases r1
        rw [r2]
        exact ⟨rfl, rfl, rfl⟩
      · exact absurd a2 nm
    have flC : ∀ {w : Int32}, u = w → w = -1 → eh_V hc' = eh_u (eh_u (eh_V hc) 2 9 (.int 3)) 2 10 (.int (eh_i (eh_V hc) 2 6)) → (∀ r, r < q 0 → eh_l (eh_V hm) 5 (bs 0 + r) ≠ eh_l (eh_V hm) 0 17) → (u = -1 ∧ v = 0 ∧ FL (eh_V hc') (eh_V hm')) := fun e1 e2 e3 no => by
      obtain ⟨y1, y2, y3⟩ := fm3 no
      refine ⟨e1.trans e2, y1, ?_⟩
      rw [e3]
      exact ⟨y2.symm, J.1.trans y3.symm, (show ¬ (3 : Int32) = 0 by decide)⟩
    rcases z1 with ⟨w, -, fd, w0, r1, r2, -, -⟩ | ⟨w, g, h13, -, fd, w0, so, vg, X, i13, r1, r2, -, -⟩ | ⟨w, -, fd, w0, so, r1, r2, -, -⟩ | ⟨k0, -⟩
    · cases r1
      rcases F_C D.2.1 D.2.2.1 a3 fd with ⟨t, r, i, -, -, t3, i24, -⟩ | ⟨no, -⟩
      · exact absurd (t3.symm.trans w0) (nz i (by omega))
      · exact Or.inl (flC rfl rfl r2 (fun r hr => no 0 r (by decide) (by rw [hQ]; exact hr)))
    · rcases F_C D.2.1 D.2.2.1 a3 fd with ⟨t, r, i, t1, t2, t3, i24, t4, t5, t6, t7⟩ | ⟨-, no⟩
      · subst t3
        rw [lx_cl (a := i) (by omega)] at so r1
        rw [t4] at so
        have tz : t = 0 := lx_inj (b := 0) (by omega) (by omega) so
        subst tz
        have fr := adv_fr X (by rw [vg]; exact ic)
        rw [vg] at fr
        have e16 : eh_i (eh_V h13) 16 i = nI r := (fr.i rfl).trans t5
        rw [e16] at r1
        cases r1
        rcases z2 with ⟨w, -, fd2, w1, r1, r3, -, -⟩ | ⟨w, -, fd2, w1, r1, r3, -, -⟩ | ⟨nm, -⟩
        · rcases mk fd2 with ⟨r', y1, y2, y3⟩ | ⟨-, y2⟩
          · have := (t7 0 r' (by decide) (by rw [hQ]; exact y1) y2).2
            subst this
            cases r1
            rw [y3] at r3
            exact Or.inr ⟨rfl, r', y1, rfl, r3, a1, g, h13, vg, X, i13, r2⟩
          · rw [y2] at w1
            exact absurd (by decide) w1
        · rcases mk fd2 with ⟨r', y1, -, y3⟩ | ⟨no, -⟩
          · rw [y3, lx_i (by have := q0.2.2; rw [hQ] at this; omega)] at w1
            omega
          · exact absurd t6 (no r (by rw [← hQ]; exact t2))
        · exact absurd a2 nm
      · exact absurd no w0
    · cases r1
      rcases F_C D.2.1 D.2.2.1 a3 fd with ⟨t, r, i, t1, t2, t3, i24, t4, t5, t6, t7⟩ | ⟨-, no⟩
      · subst t3
        rw [lx_cl (a := i) (by omega), t4] at so
        refine Or.inl (flC rfl rfl r2 (fun r' hr' e => ?_))
        have := (t7 0 r' (by decide) (by rw [hQ]; exact hr') e).1
        exact so (by rw [← this]; rfl)
      · exact absurd no w0
    · exact absurd a1 k0
  · rcases z1 with ⟨w, k0, -⟩ | ⟨w, g, h13, k0, -⟩ | ⟨w, k0, -⟩ | ⟨-, r1, r2, -, -⟩
    · exact absurd k0 a1
    · exact absurd k0 a1
    · exact absurd k0 a1
    · rcases z2 with ⟨w, nm, -⟩ | ⟨w, nm, -⟩ | ⟨-, s1, s2, -, -⟩
      · exact absurd nm a2
      · exact absurd nm a2
      · cases r1
        cases s1
        obtain ⟨f1, -, -⟩ := J.fl r2 s2 (by decide)
        exact Or.inl ⟨rfl, rfl, f1⟩
/-- its steps -/
theorem J_steps {l : Nat} {cu : Int32} {rs1 rs2 : List Value} (hq1 : q 1 = l) (hl : l < 8) (q3 : q 3 ≤ 6) : ∀ (f k c : Nat) (lo1 lo2 : List (Nat × Value)) (h1 h2 : ri_H) (Gc Gm : eh_W), k + f = 8 → eh_e (ri_calE ri_md (d + 4)) md_47 47 lo1 [] h1 rs1 hc' → eh_V h1 = Gc → iC b n m Gc → ri_lk lo1 0 = some (.ref 4) → ri_lk lo1 1 = some (.int (nI l)) → ri_lk lo1 2 = some (.int cu) → ri_lk lo1 3 = some (.int (nI k)) → eh_e (ri_calE ri_md (e + 3)) md_171 80 lo2 [] h2 rs2 hm' → eh_V h2 = Gm → iM b n m Gm → ri_lk lo2 0 = some (.ref 0) → ri_lk lo2 1 = some (.int (nI l)) → ri_lk lo2 2 = some (.int (nI k)) → JT n c Gc Gm → DRx (up q 1) q o 1 (l + 1) l Gc Gm → eh_i Gc 10 l = nI k → ∃ x1 x2 : Int32, rs1 = [.int x1] ∧ rs2 = [.int x2] ∧ ((x1 = 0 ∧ x2 = 0 ∧ FL (eh_V hc') (eh_V hm')) ∨ (x1 = 1 ∧ x2 = 1 ∧ JT n c (eh_V hc') (eh_V hm') ∧ DR (up q 1) (up q 1) o 1 (eh_V hc') (eh_V hm')) ∨ (x1 = 1 ∧ x2 = 0 ∧ eh_i (eh_V hm') 0 15 = 1 ∧ eh_i (eh_V hc') 2 6 = eh_i (eh_V hm') 0 16 ∧ ¬ (eh_i (eh_V hc') 2 5 = 5 ∧ eh_i (eh_V hc') 2 7 = 59))) := by
  intro f
  induction f with
  | zero =>
    intro k c lo1 lo2 h1 h2 Gc Gm hf E1 V1 ic a0 a1 a2 a3 E2 V2 im b0 b1 b2 J D hs
    have k8 : nI k = 8 := by rw [show k = 8 by omega]; rfl
    have z1 := le_i E1 V1 ic a0 a1 a2 a3
    have z2 := ml_i E2 V2 im b0 b1 b2
    rw [lx_i (a := k) (by omega)] at z1
    rcases J.k4 with ⟨k1, k2, -⟩ | ⟨k1, k2⟩
    · have n3 : ¬ eh_i Gm 0 11 = 3 := by rw [k2]; decide
      rcases z1 with ⟨-, w, -⟩ | ⟨-, -, r1, r2, -, -⟩ | ⟨w, -⟩ | ⟨_, _, w, -⟩ | ⟨_, _, w, -⟩
      · exact absurd k1 w
      · rcases z2 with ⟨_, _, _, _, _, -, -, w, -⟩ | ⟨_, _, _, _, _, -, -, w, -⟩ | ⟨_, _, _, -, -, w, -⟩ | ⟨-, -, -, s1, s2, -, -⟩ | ⟨-, w, -⟩ | ⟨w, -⟩ | ⟨w, -⟩
        · exact absurd k8 w
        · exact absurd k8 w
        · exact absurd k8 w
        · obtain ⟨f1, -, -⟩ := J.fl r2 s2 (by decide)
          exact ⟨0, 0, r1, s1, Or.inl ⟨rfl, rfl, f1⟩⟩
        · exact absurd k2 w
        · exact absurd w n3
        · exact absurd w n3
      all_goals omega
    · have out1 : rs1 = [.int 1] ∧ eh_V hc' = Gc := by
        rcases z1 with ⟨-, -, r1, r2, -, -⟩ | ⟨-, w, -⟩ | ⟨-, -, r1, r2, -, -⟩ | ⟨_, _, -, w, -⟩ | ⟨_, _, -, w, -⟩
        · exact ⟨r1, r2⟩
        · exact absurd w k1
        · exact ⟨r1, r2⟩
        · exact absurd w k1
        · exact absurd w k1
      obtain ⟨r1, r2⟩ := out1
      rcases z2 with ⟨_, _, _, _, _, -, w, -⟩ | ⟨_, _, _, _, _, -, w, -⟩ | ⟨_, _, _, -, w, -⟩ | ⟨-, w, -⟩ | ⟨t3, -, s1, s2, -, -⟩ | ⟨t3, w59, s1, s2, -, -⟩ | ⟨t3, w59, s1, s2, -, -⟩
      · exact absurd w k2
      · exact absurd w k2
      · exact absurd w k2
      · exact absurd w k2
      · refine ⟨1, 0, r1, s1, Or.inr (Or.inr ⟨rfl, rfl, by rw [s2]; rfl, by rw [r2, s2]; exact J.1, fun w => ?_⟩)⟩
        rw [r2] at w
        rcases J.k5 with ⟨-, y2, -⟩ | ⟨y1, -⟩
        · exact t3 y2
        · exact y1 w.1
      · refine ⟨1, 0, r1, s1, Or.inr (Or.inr ⟨rfl, rfl, by rw [s2]; rfl, by rw [r2, s2]; exact J.1, fun w => ?_⟩)⟩
        rw [r2] at w
        rcases J.k5 with ⟨-, -, y3⟩ | ⟨y1, -⟩
        · exact w59 (y3.trans w.2)
        · exact y1 w.1
      · have ti : (18 + nI l).toNatClampNeg = 18 + l := by
          rw [show (18 : Int32) + nI l = nI (18 + l) from lx_add 18 l, lx_cl (by omega)]
        rw [ti, eh_i_ne _ _ (Or.inr (by omega)), (D.2.1.1 1 (by decide)).2.1, hq1] at s2
        have D2 := D_les1 D hq1 hl hs q3
        exact ⟨1, 1, r1, s1, Or.inr (Or.inl ⟨rfl, rfl, by rw [r2, s2]; exact J, by rw [r2, s2]; exact D2⟩)⟩
  | succ f ih =>
    intro k c lo1 lo2 h1 h2 Gc Gm hf E1 V1 ic a0 a1 a2 a3 E2 V2 im b0 b1 b2 J D hs
    have k8 : ¬ nI k = 8 := fun x => by
      have := lx_inj (b := 8) (by omega) (by omega) x
      omega
    have z1 := le_i E1 V1 ic a0 a1 a2 a3
    have z2 := ml_i E2 V2 im b0 b1 b2
    rw [lx_i (a := k) (by omega)] at z1
    rcases J.k4 with ⟨k1, k2, -⟩ | ⟨k1, k2⟩
    · have n3 : ¬ eh_i Gm 0 11 = 3 := by rw [k2]; decide
      -- the class's step
      have out1 : ∃ (x9 : Int32) (h7 : ri_H), ri_calE ri_md (d + 4) 48 [.ref 4, .int (nI l)] h1 = some (some (.int x9), h7) ∧ iC b n m (eh_V h7) ∧ ((x9 = 0 ∧ rs1 = [.int 0] ∧ eh_V hc' = eh_V h7) ∨ (¬ x9 = 0 ∧ ∃ hz loz, eh_e (ri_calE ri_md (d + 4)) md_47 47 loz [] hz rs1 hc' ∧ eh_V hz = eh_V h7 ∧ ri_lk loz 0 = some (.ref 4) ∧ ri_lk loz 1 = some (.int (nI l)) ∧ ri_lk loz 2 = some (.int cu) ∧ ri_lk loz 3 = some (.int (nI k + 1)))) := by
        rcases z1 with ⟨w, -⟩ | ⟨w, -⟩ | ⟨-, w, -⟩ | ⟨x9, h7, -, -, X, i7, y0, hz, loz, w1, w2, -, -, w5, w6, w7, w8⟩ | ⟨x9, h7, -, -, X, i7, y0, r1, r2, -, -⟩
        · omega
        · omega
        · exact absurd k1 w
        · exact ⟨x9, h7, X, i7, Or.inr ⟨y0, hz, loz, w1, w2, w5, w6, w7, w8⟩⟩
        · exact ⟨x9, h7, X, i7, Or.inl ⟨y0, r1, r2⟩⟩
      obtain ⟨x9, h7, X, i7, fin⟩ := out1
      have cz := D.1.2.1
      have cz2 := D.1.2.2.1
      have c1 := cells1 cz cz2
      have z3 := sp_48 X V1 ic
      have hs1 : ∀ {h6 : ri_H}, eh_fr pCf Gc (eh_V h6) → eh_i (eh_V h6) 10 (nI l).toNatClampNeg = nI k := fun fr => by
        rw [lx_cl (a := l) (by omega)]
        exact (fr.i rfl).trans hs
      -- the reference's step
      have first : ∀ {x17 : Int32} {g1 h15 : ri_H}, eh_V g1 = Gm → ri_calE ri_md (e + 3) 164 [.ref 0, .int 0, .int (eh_i Gm 3 0 - 1)] g1 = some (some (.int x17), h15) → ∃ (x3 : Int32) (g : ri_H), ri_calE ri_md (d + 3) 83 [.ref 2, .int 0, .int (eh_i Gc 6 0 - 1)] h1 = some (some (.int x3), g) ∧ iC b n m (eh_V g) ∧ iM b n m (eh_V h15) ∧ eh_fr pCf Gc (eh_V g) ∧ eh_fr pMf Gm (eh_V h15) ∧ ((x3 = -1 ∧ x17 = 0 ∧ FL (eh_V g) (eh_V h15) ∧ x9 = 0 ∧ eh_V h7 = eh_V g) ∨ (x17 = 1 ∧ ¬ x3 = -1 ∧ eh_i (eh_V h15) 0 18 = x3 ∧ (∃ ce : Nat, ce < 8 ∧ (ce : Int) < (eh_i Gc 6 0).toInt ∧ x3 = nI ce) ∧ JT n (c + 1) (eh_V g) (eh_V h15) ∧ ∃ (x8 : Int32) (g6 : ri_H), ri_calE ri_md (d + 3) 83 [.ref 2, .int 1, .int 3] g = some (some (.int x8), g6) ∧ ((x8 = -1 ∧ x9 = 0 ∧ eh_V h7 = eh_V g6) ∨ (¬ x8 = -1 ∧ x9 = 1 ∧ (¬ (eh_i (eh_V g6) 10 (nI l).toNatClampNeg).toInt < 8 ∨ eh_V h7 = eh_u (eh_u (eh_u (eh_V g6) 11 ((nI l * 8) + (eh_i (eh_V g6) 10 (nI l).toNatClampNeg)).toNatClampNeg (.int ((10 * x3) + x8))) 10 (nI l).toNatClampNeg (.int ((eh_i (eh_V g6) 10 (nI l).toNatClampNeg) + 1))) 12 (nI l).toNatClampNeg (.int (add2 (eh_i (eh_V g6) 12 (nI l).toNatClampNeg) (x8 <<< ((2 * x3) &&& 31)))))))) ) := fun {x17 g1 h15} vg Y => by
        have J1 : JT n c (eh_V h1) (eh_V g1) := by
          rw [V1, vg]
          exact J
        have e0 : eh_i Gm 3 0 = eh_i Gc 6 0 := D.1.1.symm
        rw [e0] at Y
        have go : ∀ {x3 : Int32} {g : ri_H}, ri_calE ri_md (d + 3) 83 [.ref 2, .int 0, .int (eh_i Gc 6 0 - 1)] h1 = some (some (.int x3), g) → iC b n m (eh_V g) ∧ iM b n m (eh_V h15) ∧ eh_fr pCf Gc (eh_V g) ∧ eh_fr pMf Gm (eh_V h15) ∧ ((x3 = -1 ∧ x17 = 0 ∧ FL (eh_V g) (eh_V h15)) ∨ (x17 = 1 ∧ ¬ x3 = -1 ∧ eh_i (eh_V h15) 0 18 = x3 ∧ (∃ ce : Nat, ce < 8 ∧ (ce : Int) < (eh_i Gc 6 0).toInt ∧ x3 = nI ce) ∧ JT n (c + 1) (eh_V g) (eh_V h15))) := fun {x3 g} X2 => by
          obtain ⟨f1, f2, i1, i2, y⟩ := J_num J1 X2 Y (by rw [V1]; exact ic) (by rw [vg]; exact im)
          rw [V1] at f1
          rw [vg] at f2
          refine ⟨i1, i2, f1, f2, ?_⟩
          rcases y with y | ⟨-, y2, y3, y4, y5, y6, y7⟩
          · exact Or.inl y
          · obtain ⟨a, a1, a2⟩ := lx_back (k := 7) y6 (by omega) (by omega)
            exact Or.inr ⟨y2, fun x => by rw [x] at y6; exact absurd y6 (by decide), y3, ⟨a, by omega, by
              have : x3.toInt = (a : Int) := by rw [a2, lx_i (by omega)]
              omega, a2⟩, y7⟩
        rcases z3 with ⟨x3, g, x8, g6, X2, -, y0, X3, -, y1, y2, r1, r2, -, -⟩ | ⟨x3, g, x8, g6, X2, -, y0, X3, -, y1, y2, r1, r2, -, -⟩ | ⟨x3, g, x8, g6, X2, -, y0, X3, -, y1, r1, r2, -, -⟩ | ⟨x3, g, X2, -, y0, r1, r2, -, -⟩
        · cases r1
          obtain ⟨i1, i2, f1, f2, y⟩ := go X2
          refine ⟨x3, g, X2, i1, i2, f1, f2, ?_⟩
          rcases y with ⟨w, -⟩ | ⟨w1, w2, w3, w4, w5⟩
          · exact absurd w y0
          · exact Or.inr ⟨w1, w2, w3, w4, w5, x8, g6, X3, Or.inr ⟨y1, rfl, Or.inl y2⟩⟩
        · cases r1
          obtain ⟨i1, i2, f1, f2, y⟩ := go X2
          refine ⟨x3, g, X2, i1, i2, f1, f2, ?_⟩
          rcases y with ⟨w, -⟩ | ⟨w1, w2, w3, w4, w5⟩
          · exact absurd w y0
          · exact Or.inr ⟨w1, w2, w3, w4, w5, x8, g6, X3, Or.inr ⟨y1, rfl, Or.inr r2⟩⟩
        · cases r1
          obtain ⟨i1, i2, f1, f2, y⟩ := go X2
          refine ⟨x3, g, X2, i1, i2, f1, f2, ?_⟩
          rcases y with ⟨w, -⟩ | ⟨w1, w2, w3, w4, w5⟩
          · exact absurd w y0
          · exact Or.inr ⟨w1, w2, w3, w4, w5, x8, g6, X3, Or.inl ⟨y1, rfl, r2⟩⟩
        · cases r1
          obtain ⟨i1, i2, f1, f2, y⟩ := go X2
          refine ⟨x3, g, X2, i1, i2, f1, f2, ?_⟩
          rcases y with ⟨w1, w2, w3⟩ | ⟨-, w2, -⟩
          · exact Or.inl ⟨w1, w2, w3, rfl, r2⟩
          · exact absurd y0 w2
      have second : ∀ {x22 x3 x8 : Int32} {g h15 g6 h20 : ri_H}, JT n (c + 1) (eh_V g) (eh_V h15) → iC b n m (eh_V g) → iM b n m (eh_V h15) → ri_calE ri_md (d + 3) 83 [.ref 2, .int 1, .int 3] g = some (some (.int x8), g6) → ri_calE ri_md (e + 3) 164 [.ref 0, .int 1, .int 3] h15 = some (some (.int x22), h20) → eh_fr pCf (eh_V g) (eh_V g6) ∧ eh_fr pMf (eh_V h15) (eh_V h20) ∧ iC b n m (eh_V g6) ∧ iM b n m (eh_V h20) ∧ ((x8 = -1 ∧ x22 = 0 ∧ FL (eh_V g6) (eh_V h20)) ∨ (x22 = 1 ∧ ¬ x8 = -1 ∧ eh_i (eh_V h20) 0 18 = x8 ∧ (∃ hi, 1 ≤ hi ∧ hi ≤ 3 ∧ x8 = nI hi) ∧ JT n (c + 2) (eh_V g6) (eh_V h20))) := fun {x22 x3 x8 g h15 g6 h20} J1 i1 i2 X2 Y2 => by
        obtain ⟨f1, f2, i3, i4, y⟩ := J_num J1 X2 Y2 i1 i2
        refine ⟨f1, f2, i3, i4, ?_⟩
        rcases y with y | ⟨-, y2, y3, y4, y5, y6, y7⟩
        · exact Or.inl y
        · have e1 : (1 : Int32).toInt = 1 := by decide
          have e3 : (3 : Int32).toInt = 3 := by decide
          obtain ⟨a, a1, a2⟩ := lx_back (k := 3) y6 (by omega) (by omega)
          have : x8.toInt = (a : Int) := by rw [a2, lx_i (by omega)]
          exact Or.inr ⟨y2, fun x => by rw [x] at y6; exact absurd y6 (by decide), y3, ⟨a, by omega, a1, a2⟩, y7⟩
      have wrap : x9 = 0 → FL (eh_V h7) (eh_V hm') → rs2 = [.int 0] → ∃ x1 x2 : Int32, rs1 = [.int x1] ∧ rs2 = [.int x2] ∧ ((x1 = 0 ∧ x2 = 0 ∧ FL (eh_V hc') (eh_V hm')) ∨ (x1 = 1 ∧ x2 = 1 ∧ JT n c (eh_V hc') (eh_V hm') ∧ DR (up q 1) (up q 1) o 1 (eh_V hc') (eh_V hm')) ∨ (x1 = 1 ∧ x2 = 0 ∧ eh_i (eh_V hm') 0 15 = 1 ∧ eh_i (eh_V hc') 2 6 = eh_i (eh_V hm') 0 16 ∧ ¬ (eh_i (eh_V hc') 2 5 = 5 ∧ eh_i (eh_V hc') 2 7 = 59))) := fun u1 u2 u3 => by
        rcases fin with ⟨-, r1, r2⟩ | ⟨w, -⟩
        · exact ⟨0, 0, r1, u3, Or.inl ⟨rfl, rfl, by rw [r2]; exact u2⟩⟩
        · exact absurd u1 w
      rcases z2 with ⟨g1, x17, h15, x22, h20, -, -, -, vg, Y1, -, y0, Y2, -, y1, hz2, loz2, e1, e2, -, e4, e5, e6, e7, -⟩ | ⟨g1, x17, h15, x22, h20, -, -, -, vg, Y1, -, y0, Y2, -, y1, s1, s2, -, -⟩ | ⟨g1, x17, h15, -, -, -, vg, Y1, -, y0, s1, s2, -, -⟩ | ⟨-, -, w, -⟩ | ⟨-, w, -⟩ | ⟨w, -⟩ | ⟨w, -⟩
      · obtain ⟨x3, g, -, ig, i15, f1, f2, y⟩ := first vg Y1
        rcases y with ⟨-, w, -⟩ | ⟨-, -, w3, ⟨ce, ce8, cew, w4⟩, J2, x8, g6, X3, y⟩
        · exact absurd w y0
        · obtain ⟨f3, f4, i6, i20, y5⟩ := second (x3 := x3) J2 ig i15 X3 Y2
          rcases y5 with ⟨-, w, -⟩ | ⟨-, w5, w6, ⟨hi, hi1, hi3, w7⟩, J3⟩
          · exact absurd w y1
          · rcases y with ⟨w, -⟩ | ⟨-, x91, y⟩
            · exact absurd w w5
            · have fr6 := f1.tr f3
              have hs6 := hs1 fr6
              rcases y with y | y
              · exfalso
                rw [hs6, lx_i (by omega)] at y
                omega
              · rcases fin with ⟨w, -⟩ | ⟨-, hz, loz, w1, w2, w8, w9, w10, w11⟩
                · rw [w] at x91
                  exact absurd x91 (by decide)
                · rw [lx_a1] at w11 e7
                  have il : (nI l * 8 + nI k).toNatClampNeg = 8 * l + k := by
                    rw [show nI l * 8 = nI (l * 8) from (Int32.ofNat_mul _ _).symm, lx_add, lx_cl (by omega)]
                    omega
                  have im2 : (26 + 8 * nI l + nI k).toNatClampNeg = 26 + 8 * l + k := by
                    rw [show (8 : Int32) * nI l = nI (8 * l) from (Int32.ofNat_mul _ _).symm, show (26 : Int32) + nI (8 * l) = nI (26 + 8 * l) from lx_add _ _, lx_add, lx_cl (by omega)]
                  rw [hs6, il, lx_cl (a := l) (by omega), w4, w7] at y
                  rw [im2, w6, w3, w4, w7] at e2 e4
                  have Dx := DRx_fr D (fr6.mo pC_fd) ((f2.tr f4).mo pM_fd)
                  have hs7 : eh_i (eh_V g6) 10 l = nI k := (fr6.i rfl).trans hs
                  have e66 : eh_i (eh_V g6) 6 0 = eh_i Gc 6 0 := fr6.i rfl
                  have D2 := D_step Dx hl hs7 (by omega) ce8 hi1 hi3 q3 (by rw [← Dx.1.1, e66]; exact cew)
                  rw [← y] at D2
                  have hsn : eh_i (eh_V h7) 10 l = nI (k + 1) := by
                    rw [y, ← lx_a1]
                    exact eh_i_self (eh_u (eh_V g6) 11 (8 * l + k) (.int (10 * nI ce + nI hi))) 10 l _
                  have J4 : JT n (c + 2) (eh_V h7) (eh_u (eh_V h20) 3 (26 + 8 * l + k) (.int (10 * nI ce + nI hi))) := by
                    rw [y]
                    exact J3
                  obtain ⟨x1, x2, u1, u2, u3⟩ := ih (k + 1) (c + 2) loz loz2 hz hz2 (eh_V h7) _ (by omega) w1 w2 i7 w8 w9 w10 w11 e1 e2 e4 e5 e6 e7 J4 D2 hsn
                  refine ⟨x1, x2, u1, u2, ?_⟩
                  rcases u3 with u3 | ⟨u3, u4, u5, u6⟩ | u3
                  · exact Or.inl u3
                  · exact Or.inr (Or.inl ⟨u3, u4, u5.mo (by omega), u6⟩)
                  · exact Or.inr (Or.inr u3)
      · obtain ⟨x3, g, -, ig, i15, f1, f2, y⟩ := first vg Y1
        rcases y with ⟨-, w, -⟩ | ⟨-, -, w3, ⟨ce, ce8, cew, w4⟩, J2, x8, g6, X3, y⟩
        · exact absurd w y0
        · obtain ⟨f3, f4, i6, i20, y5⟩ := second (x3 := x3) J2 ig i15 X3 Y2
          rcases y5 with ⟨w5, -, w6⟩ | ⟨w, -⟩
          · rcases y with ⟨-, x90, y⟩ | ⟨w, -⟩
            · exact wrap x90 (by rw [y, s2]; exact w6) s1
            · exact absurd w5 w
          · rw [y1] at w
            exact absurd w (by decide)
      · obtain ⟨x3, g, -, ig, i15, f1, f2, y⟩ := first vg Y1
        rcases y with ⟨-, -, w6, x90, y⟩ | ⟨w, -⟩
        · exact wrap x90 (by rw [y, s2]; exact w6) s1
        · rw [y0] at w
          exact absurd w (by decide)
      · exact absurd w k8
      · exact absurd k2 w
      · exact absurd w n3
      · exact absurd w n3
    · have out1 : rs1 = [.int 1] ∧ eh_V hc' = Gc := by
        rcases z1 with ⟨-, -, r1, r2, -, -⟩ | ⟨-, w, -⟩ | ⟨-, -, r1, r2, -, -⟩ | ⟨_, _, -, w, -⟩ | ⟨_, _, -, w, -⟩
        · exact ⟨r1, r2⟩
        · exact absurd w k1
        · exact ⟨r1, r2⟩
        · exact absurd w k1
        · exact absurd w k1
      obtain ⟨r1, r2⟩ := out1
      rcases z2 with ⟨_, _, _, _, _, -, w, -⟩ | ⟨_, _, _, _, _, -, w, -⟩ | ⟨_, _, _, -, w, -⟩ | ⟨-, w, -⟩ | ⟨t3, -, s1, s2, -, -⟩ | ⟨t3, w59, s1, s2, -, -⟩ | ⟨t3, w59, s1, s2, -, -⟩
      · exact absurd w k2
      · exact absurd w k2
      · exact absurd w k2
      · exact absurd w k2
      · refine ⟨1, 0, r1, s1, Or.inr (Or.inr ⟨rfl, rfl, by rw [s2]; rfl, by rw [r2, s2]; exact J.1, fun w => ?_⟩)⟩
        rw [r2] at w
        rcases J.k5 with ⟨-, y2, -⟩ | ⟨y1, -⟩
        · exact t3 y2
        · exact y1 w.1
      · refine ⟨1, 0, r1, s1, Or.inr (Or.inr ⟨rfl, rfl, by rw [s2]; rfl, by rw [r2, s2]; exact J.1, fun w => ?_⟩)⟩
        rw [r2] at w
        rcases J.k5 with ⟨-, -, y3⟩ | ⟨y1, -⟩
        · exact w59 (y3.trans w.2)
        · exact y1 w.1
      · have ti : (18 + nI l).toNatClampNeg = 18 + l := by
          rw [show (18 : Int32) + nI l = nI (18 + l) from lx_add 18 l, lx_cl (by omega)]
        rw [ti, eh_i_ne _ _ (Or.inr (by omega)), (D.2.1.1 1 (by decide)).2.1, hq1] at s2
        have D2 := D_les1 D hq1 hl hs q3
        exact ⟨1, 1, r1, s1, Or.inr (Or.inl ⟨rfl, rfl, by rw [r2, s2]; exact J, by rw [r2, s2]; exact D2⟩)⟩
end LESSON
