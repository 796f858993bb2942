/-! a boat, on both sides -/
section BOAT
variable {d e n m c : Nat} {b : Nat → Int32} {hc hc' hm hm' : ri_H} {x1 x2 : Int32} {q : Nat → Nat} {o : Nat}
theorem lx_add (a b : Nat) : nI a + nI b = nI (a + b) := (Int32.ofNat_add _ _).symm
theorem eo_up1 (q : Nat → Nat) : eo (up q 1) = 1 := by
  unfold eo
  rw [up_self, if_neg (by omega)]
theorem eo_up3 (q : Nat → Nat) : eo (up q 3) = 1 := by
  unfold eo
  rw [up_self, if_neg (by omega)]
theorem J_boat (J : JT n c (eh_V hc) (eh_V hm)) (hkd : eh_i (eh_V hc) 2 5 = 2) (D : DR q q o (eo q) (eh_V hc) (eh_V hm)) (ic : iC b n m (eh_V hc)) (im : iM b n m (eh_V hm)) (E1 : ri_calE ri_md (d + 6) 46 [.ref 4, .int (nI 3)] hc = some (some (.int x1), hc'))
    (E2 : (eh_i (eh_V hm) 3 6 = 6 ∧ x2 = 0 ∧ eh_V hm' = fltM (eh_V hm) 4) ∨ (¬ eh_i (eh_V hm) 3 6 = 6 ∧ ∃ (h3 h6 : ri_H) (x10 : Int32) (h8 : ri_H), eh_V h3 = eh_u (eh_V hm) 0 20 (.int (eh_i (eh_V hm) 0 20 ||| 1)) ∧ ri_calE ri_md (e + 4) 158 [.ref 0] h3 = some (none, h6) ∧ iM b n m (eh_V h6) ∧ ri_calE ri_md (e + 4) 167 [.ref 0, .int (42 + eh_i (eh_V hm) 3 6)] h6 = some (some (.int x10), h8) ∧ ((x10 = 0 ∧ x2 = 0 ∧ eh_V hm' = eh_V h8) ∨ (¬ x10 = 0 ∧ ∃ (x14 : Int32) (h12 : ri_H), ri_calE ri_md (e + 4) 165 [.ref 0, .int (90 + eh_i (eh_V hm) 3 6), .int 0, .int (eh_i (eh_V h8) 3 0 - 1)] h8 = some (some (.int x14), h12) ∧ ((x14 = 0 ∧ x2 = 0 ∧ eh_V hm' = eh_V h12) ∨ (¬ x14 = 0 ∧ x2 = 1 ∧ eh_V hm' = eh_u (eh_V h12) 3 6 (.int (eh_i (eh_V h12) 3 6 + 1)))))))) : LO n (c + 1) x1 x2 (eh_V hc') (eh_V hm') := by
  have q3 := D.2.1.1 3 (by decide)
  have q1 := D.2.1.1 1 (by decide)
  have m3 : mx 3 = 6 := rfl
  have m1 : mx 1 = 8 := rfl
  have h6n : eh_i (eh_V hm) 3 6 = nI (q 3) := q3.2.1
  rcases C_named (by decide) D ic E1 with ⟨c1, c2, c3⟩ | ⟨c1, h7, X, i7, C⟩
  · rcases E2 with ⟨-, y2, y3⟩ | ⟨y1, -⟩
    · obtain ⟨f1, -, -⟩ := J.fl c3 y3 (by decide)
      exact Or.inl ⟨c2, y2, f1⟩
    · exact absurd (by rw [h6n, c1]; rfl) y1
  · rcases E2 with ⟨y1, -⟩ | ⟨-, h3, h6, x10, h8, v3, Y1, i6, Y2, y3⟩
    · rw [h6n] at y1
      have := lx_inj (b := 6) (by omega) (by omega) y1
      omega
    · have im3 : iM b n m (eh_V h3) := by
        rw [v3]
        exact iM_u im (im.1.ui rfl) rfl
      obtain ⟨J1, f1, f2⟩ := J_next J (by rw [hkd]; decide) X Y1 ic im3 rfl (by rw [v3]; rfl)
      have D0 : DR q q o 1 (eh_V hc) (eh_V h3) := by
        rw [v3]
        exact D_one D
      have D1 := DR_fr D0 (f1.mo pC_td) (f2.mo pM_td)
      have hto : (42 + eh_i (eh_V hm) 3 6).toNatClampNeg = bs 3 + q 3 := by
        rw [h6n, show (42 : Int32) + nI (q 3) = nI (42 + q 3) from lx_add 42 (q 3), lx_cl (by omega)]
        rfl
      rcases J_fresh (by decide) J1 D1 c1 i7 i6 C Y2 hto with ⟨z1, z2, z3⟩ | ⟨z1, h16, h34, -, i34, J2, i8, D2, tl⟩
      · rcases y3 with ⟨-, y4, y5⟩ | ⟨y4, -⟩
        · exact Or.inl ⟨z2, y4, by rw [y5]; exact z3⟩
        · exact absurd z1 y4
      · rcases y3 with ⟨y4, -⟩ | ⟨-, x14, h12, Y3, y4⟩
        · rw [y4] at z1
          exact absurd z1 (by decide)
        · rcases tl with ⟨-, u1, -⟩ | ⟨u1, -⟩ | ⟨-, y, g, X3, u1, u2⟩
          · exact absurd rfl u1
          · exact absurd u1 (by decide)
          · rw [← D2.1.1] at Y3
            have ti : (90 + eh_i (eh_V hm) 3 6).toNatClampNeg = 90 + q 3 := by
              rw [h6n, show (90 : Int32) + nI (q 3) = nI (90 + q 3) from lx_add 90 (q 3), lx_cl (by omega)]
            have cl : (nI (q 3)).toNatClampNeg = q 3 := lx_cl (by omega)
            rcases sp_49 X3 rfl i34 with ⟨w, g1, X4, ig, w0, r1, r2, -, -⟩ | ⟨w, g1, X4, ig, w0, r1, r2, -, -⟩
            · obtain ⟨-, f3, z⟩ := J_puts J2 X4 Y3 i34 i8
              rcases z with ⟨a1, -⟩ | ⟨-, a2, a3, a4, a5, hn, in1, f4, J3, v5⟩
              · exact absurd a1 w0
              · cases r1
                rcases u1 with ⟨u3, -⟩ | ⟨-, u3⟩
                · exact absurd u3 (by decide)
                · rcases y4 with ⟨y5, -⟩ | ⟨-, y5, y6⟩
                  · rw [y5] at a2
                    exact absurd a2 (by decide)
                  · rw [cl] at r2
                    rw [ti] at v5
                    have D3 := DR_fr D2 (f3.mo pC_fd) (f4.mo pM_fd)
                    have D4 := D_boat (x := w) D3 rfl (by omega) (by omega)
                    have e6 : eh_i (eh_V h12) 3 6 = nI (q 3) := by
                      rw [v5, eh_i_ne _ _ (Or.inr (by omega))]
                      exact (D3.2.1.1 3 (by decide)).2.1
                    have D5 : DR (up q 3) (up q 3) o (eo (up q 3)) (eh_V hc') (eh_V hm') := by
                      rw [eo_up3, u2, r2, y6, e6, v5]
                      exact D4
                    have J4 : JT n (c + 1) (eh_V hc') (eh_V hm') := by
                      rw [u2, r2, y6, v5]
                      exact J3.mo (by omega)
                    exact Or.inr (Or.inl ⟨u3, y5, J4, _, _, D5⟩)
            · obtain ⟨-, f3, z⟩ := J_puts J2 X4 Y3 i34 i8
              rcases z with ⟨-, a2, a3⟩ | ⟨a1, -⟩
              · cases r1
                rcases u1 with ⟨-, u3⟩ | ⟨u3, -⟩
                · rcases y4 with ⟨-, y5, y6⟩ | ⟨y5, -⟩
                  · exact Or.inl ⟨u3, y5, by rw [u2, r2, y6]; exact a3⟩
                  · exact absurd a2 y5
                · exact absurd rfl u3
              · exact absurd w0 a1
end BOAT
