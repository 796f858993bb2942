/-! a LINE that tells a lesson, on both sides -/
section LESS
variable {d e n m c : Nat} {b : Nat → Int32} {hc hc' hm hm' : ri_H} {x1 x2 : Int32} {q : Nat → Nat} {o : Nat}
theorem J_lesson (J : JT n c (eh_V hc) (eh_V hm)) (hkd : eh_i (eh_V hc) 2 5 = 2) (D : DR q q o (eo q) (eh_V hc) (eh_V hm)) (ic : iC b n m (eh_V hc)) (im : iM b n m (eh_V hm)) (E1 : ri_calE ri_md (d + 6) 46 [.ref 4, .int (nI 1)] hc = some (some (.int x1), hc')) (E2 : ri_calE ri_md (e + 5) 171 [.ref 0] hm = some (some (.int x2), hm')) : LO n (c + 1) x1 x2 (eh_V hc') (eh_V hm') := by
  have q1 := D.2.1.1 1 (by decide)
  have q3 := D.2.1.1 3 (by decide)
  have q0 := D.2.1.1 0 (by decide)
  have m1 : mx 1 = 8 := rfl
  have m3 : mx 3 = 6 := rfl
  have m0 : mx 0 = 6 := rfl
  have h4n : eh_i (eh_V hm) 3 4 = nI (q 1) := q1.2.1
  obtain ⟨rs2, hrs2, E2⟩ := eh_in E2 (q := md_171) rfl
  have hx2 : ∀ {y : Int32}, rs2 = [.int y] → x2 = y := fun {y} h => by
    rw [h] at hrs2
    cases hrs2
    rfl
  have z2 := ml_a E2 rfl im rfl
  rcases C_named (by decide) D ic E1 with ⟨c1, c2, c3⟩ | ⟨c1, h7, X, i7, C⟩
  · have e8 : eh_i (eh_V hm) 3 4 = 8 := by rw [h4n, c1]; rfl
    rcases z2 with ⟨_, _, _, _, w, -⟩ | ⟨_, _, _, _, _, _, _, _, w, -⟩ | ⟨_, _, _, _, _, _, w, -⟩ | ⟨-, s1, s2, -, -⟩
    · exact absurd e8 w
    · exact absurd e8 w
    · exact absurd e8 w
    · obtain ⟨f1, -, -⟩ := J.fl c3 s2 (by decide)
      exact Or.inl ⟨c2, hx2 s1, f1⟩
  · have ti : (30 + eh_i (eh_V hm) 3 4).toNatClampNeg = bs 1 + q 1 := by
      rw [h4n, show (30 : Int32) + nI (q 1) = nI (30 + q 1) from lx_add 30 (q 1), lx_cl (by omega)]
      rfl
    have pre : ∀ {h3 h6 h8 : ri_H} {x10 : Int32}, eh_V h3 = eh_u (eh_V hm) 0 20 (.int (eh_i (eh_V hm) 0 20 ||| 1)) → ri_calE ri_md (e + 4) 158 [.ref 0] h3 = some (none, h6) → iM b n m (eh_V h6) → ri_calE ri_md (e + 4) 167 [.ref 0, .int (30 + eh_i (eh_V hm) 3 4)] h6 = some (some (.int x10), h8) → (x10 = 0 ∧ x1 = 0 ∧ FL (eh_V hc') (eh_V h8)) ∨ (x10 = 1 ∧ ∃ h34 : ri_H, iC b n m (eh_V h34) ∧ JT n (c + 2) (eh_V h34) (eh_V h8) ∧ iM b n m (eh_V h8) ∧ DR (up q 1) q o 1 (eh_V h34) (eh_V h8) ∧ ∃ g : ri_H, ri_calE ri_md (d + 5) 47 [.ref 4, .int (nI (q 1))] h34 = some (some (.int x1), g) ∧ eh_V hc' = eh_V g) := fun {h3 h6 h8 x10} v3 Y1 i6 Y2 => by
      have im3 : iM b n m (eh_V h3) := by
        rw [v3]
        exact iM_u im (im.1.ui rfl) rfl
      obtain ⟨J1, f1, f2⟩ := J_next J (by rw [hkd]; decide) X Y1 ic im3 rfl (by rw [v3]; rfl)
      have D0 : DR q q o 1 (eh_V hc) (eh_V h3) := by
        rw [v3]
        exact D_one D
      have D1 := DR_fr D0 (f1.mo pC_td) (f2.mo pM_td)
      rcases J_fresh (by decide) J1 D1 c1 i7 i6 C Y2 ti with z | ⟨z1, h16, h34, -, i34, J2, i8, D2, tl⟩
      · exact Or.inl z
      · rcases tl with ⟨u1, -⟩ | ⟨-, g, u1, u2⟩ | ⟨u1, -⟩
        · exact absurd rfl u1
        · exact Or.inr ⟨z1, h34, i34, J2, i8, D2, g, u1, u2⟩
        · exact absurd u1 (by decide)
    have prc : ∀ {h34 h8 g : ri_H} {x14 : Int32} {h12 : ri_H}, iC b n m (eh_V h34) → JT n (c + 2) (eh_V h34) (eh_V h8) → iM b n m (eh_V h8) → DR (up q 1) q o 1 (eh_V h34) (eh_V h8) → ri_calE ri_md (d + 5) 47 [.ref 4, .int (nI (q 1))] h34 = some (some (.int x1), g) → ri_calE ri_md (e + 4) 168 [.ref 0, .int 24, .int (eh_i (eh_V h8) 3 3)] h8 = some (some (.int x14), h12) → (x14 = 0 ∧ x1 = 0 ∧ FL (eh_V g) (eh_V h12)) ∨ (x14 = 1 ∧ ∃ r, r < q 0 ∧ eh_V h12 = eh_u (eh_V h8) 0 18 (.int (nI r)) ∧ eh_i (eh_V h34) 2 5 = 3 ∧ ∃ (g3 h13 : ri_H) (rs1 : List Value), eh_V g3 = eh_V h34 ∧ ri_calE ri_md (d + 3) 74 [.ref 2] g3 = some (none, h13) ∧ iC b n m (eh_V h13) ∧ rs1.head? = some (.int x1) ∧ ∃ hz loz, eh_e (ri_calE ri_md (d + 4)) md_47 47 loz [] hz rs1 g ∧ eh_V hz = eh_u (eh_u (eh_V h13) 8 (q 1) (.int (nI r))) 9 r (.int (eh_i (eh_V h13) 9 r ||| (1 <<< (nI (q 1) &&& 31)))) ∧ iC b n m (eh_V hz) ∧ ri_lk loz 0 = some (.ref 4) ∧ ri_lk loz 1 = some (.int (nI (q 1))) ∧ ri_lk loz 2 = some (.int (nI r)) ∧ ri_lk loz 3 = some (.int (nI 0))) := fun {h34 h8 g x14 h12} i34 J2 i8 D2 X3 Y3 => by
      obtain ⟨rs1, hrs1, X3⟩ := eh_in X3 (q := md_47) rfl
      have ma : eh_i (eh_V h8) 3 3 = nI (q 0) := (D2.2.1.1 0 (by decide)).2.1
      have hQ : up q 1 0 = q 0 := up_ne q (by decide)
      rcases le_a X3 rfl i34 rfl rfl with ⟨x3, h1, X84, -, y0, hz, loz, w1, w2, -, w4, w5, w6, w7, w8⟩ | ⟨x3, h1, X84, -, y0, r1, r2, -, -⟩
      · rcases J_cueN hQ J2 D2 i34 i8 X84 ma Y3 with ⟨u1, -⟩ | ⟨u1, r, u2, u3, u4, u5, g3, h13, u6, u7, u8, u9⟩
        · exact absurd u1 y0
        · subst u3
          rw [lx_cl (a := q 1) (by omega), lx_cl (a := r) (by omega), u9] at w2
          refine Or.inr ⟨u1, r, u2, u4, u5, g3, h13, rs1, u6, u7, u8, hrs1, hz, loz, w1, w2, by rw [w2]; rw [lx_cl (a := q 1) (by omega), lx_cl (a := r) (by omega), u9] at w4; exact w4, w5, w6, w7, w8⟩
      · rcases J_cueN hQ J2 D2 i34 i8 X84 ma Y3 with ⟨-, u1, u2⟩ | ⟨-, r, u2, u3, -⟩
        · rw [r1] at hrs1
          cases hrs1
          exact Or.inl ⟨u1, rfl, by rw [r2]; exact u2⟩
        · exfalso
          rw [u3] at y0
          have := congrArg Int32.toInt y0
          rw [lx_i (by omega), show (-1 : Int32).toInt = -1 by decide] at this
          omega
    rcases z2 with ⟨h3, h6, x10, h8, -, v3, Y1, i6, Y2, i8, y10, s1, s2, -, -⟩ | ⟨h3, h6, x10, h8, x14, h12, h16, h19, -, v3, Y1, i6, Y2, i8, y10, Y3, i12, y14, v16, Y4, i19, hz2, loz2, e1, e2, -, e4, e5, e6, e7⟩ | ⟨h3, h6, x10, h8, x14, h12, -, v3, Y1, i6, Y2, i8, y10, Y3, i12, y14, s1, s2, -, -⟩ | ⟨w, -⟩
    · rcases pre v3 Y1 i6 Y2 with ⟨-, u2, u3⟩ | ⟨u1, -⟩
      · exact Or.inl ⟨u2, hx2 s1, by rw [s2]; exact u3⟩
      · rw [y10] at u1
        exact absurd u1 (by decide)
    · rcases pre v3 Y1 i6 Y2 with ⟨u1, -⟩ | ⟨-, h34, i34, J2, i8', D2, g, X3, vg⟩
      · exact absurd u1 y10
      · rcases prc i34 J2 i8' D2 X3 Y3 with ⟨u1, -⟩ | ⟨-, r, u2, u4, u5, g3, h13, rs1, u6, u7, u8, hrs1, hz, loz, w1, w2, w4, w5, w6, w7, w8⟩
        · exact absurd u1 y14
        · have t10 : (10 + eh_i (eh_V hm) 3 4).toNatClampNeg = 10 + q 1 := by
            rw [h4n, show (10 : Int32) + nI (q 1) = nI (10 + q 1) from lx_add 10 (q 1), lx_cl (by omega)]
          have e18 : eh_i (eh_V h12) 0 18 = nI r := by
            rw [u4]
            exact eh_i_self _ _ _ _
          rw [t10, e18] at v16
          have i16 : iM b n m (eh_V h16) := by
            rw [v16]
            exact iM_u i12 (i12.1.ui rfl) rfl
          have v16b : eh_V h16 = eh_u (eh_u (eh_V h8) 0 18 (.int (nI r))) 3 (10 + q 1) (.int (nI r)) := by rw [v16, u4]
          obtain ⟨J3, f1, f2⟩ := J_next J2 (by rw [u5]; decide) u7 Y4 (by rw [u6]; exact i34) i16 (by rw [u6]) (by rw [v16b]; rfl)
          rw [u6] at f1
          have D3 : DR (up q 1) q o 1 (eh_V h13) (eh_V h12) := DR_fr D2 (f1.mo pC_td) (by rw [u4]; exact eh_fr.rf.up rfl)
          have D4 := D_les0 (l := q 1) (c := r) D3 rfl (by omega) (by omega) (by omega)
          rw [← w2, ← v16] at D4
          have D5 := DRx_fr D4 (Hc := eh_V hz) eh_fr.rf (f2.mo pM_td)
          have s0 : eh_i (eh_V hz) 10 (q 1) = nI 0 := by
            rw [w2]
            exact (D3.2.2.2.1.2.1 (q 1) (Nat.le_refl _) (by omega)).1
          have J4 : JT n (c + 3) (eh_V hz) (eh_V h19) := by
            rw [w2]
            exact J3
          rw [h4n] at e6
          obtain ⟨y1, y2, u10, u11, u12⟩ := J_steps (q := q) (o := o) (l := q 1) (cu := nI r) rfl (by omega) (by omega) 8 0 (c + 3) loz loz2 hz hz2 (eh_V hz) (eh_V h19) rfl w1 rfl w4 w5 w6 w7 w8 e1 e2 e4 e5 e6 e7 J4 D5 s0
          have ex1 : x1 = y1 := by
            rw [u10] at hrs1
            cases hrs1
            rfl
          have ex2 := hx2 u11
          subst ex1 ex2
          rcases u12 with ⟨a1, a2, a3⟩ | ⟨a1, a2, a3, a4⟩ | ⟨a1, a2, a3, a4, a5⟩
          · exact Or.inl ⟨a1, a2, by rw [vg]; exact a3⟩
          · exact Or.inr (Or.inl ⟨a1, a2, by rw [vg]; exact a3.mo (by omega), up q 1, o, by rw [vg, eo_up1]; exact a4⟩)
          · exact Or.inr (Or.inr ⟨a1, a2, a3, by rw [vg]; exact a4, by rw [vg]; exact a5⟩)
    · rcases pre v3 Y1 i6 Y2 with ⟨u1, -⟩ | ⟨-, h34, i34, J2, i8', D2, g, X3, vg⟩
      · exact absurd u1 y10
      · rcases prc i34 J2 i8' D2 X3 Y3 with ⟨-, u2, u3⟩ | ⟨u1, -⟩
        · exact Or.inl ⟨u2, hx2 s1, by rw [vg, s2]; exact u3⟩
        · rw [y14] at u1
          exact absurd u1 (by decide)
    · rw [h4n] at w
      have := lx_inj (b := 8) (by omega) (by omega) w
      omega
end LESS
