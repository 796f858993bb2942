set_option maxRecDepth 100000 in
theorem rd_met (l : Launch) (E : ri_V) (D : va_G) (cA : Nat → ClassId) : ri_Met l E D cA 7 md_72.1 [.ref 2, .ref 1] h_r0 (fun a b => a = none ∧ b = h_r1) := by
  have hdc : ∀ q ∈ ([] : ri_O), ri_hd q.1 (ri_ic E q.2.1) (ri_ic E q.2.2.1) = q.2.2.2 := fun _ h => absurd h List.not_mem_nil
  obtain ⟨n, hMk⟩ := mk_72
  refine ri_met_of hMk (by decide) (fun p e s m args below meth c X hrt hlk => ?_)
  have C : ri_Ca l E D cA ri_md (ri_call [] ri_md 6) 6 md_72.1 (ri_rm 7 md_72.1) := ⟨ri_mk_all, fun j q as h v h' hq hs => ri_run l E D cA hdc hq hs, Nat.le_refl _, Nat.le_refl _, by decide, by decide⟩
  have hf : ∀ k : ri_F, k = rc_9 → ri_Gd p l e (ri_rm 7 md_72.1) s m args below meth c (MQ below (ri_Qc E D cA (fun a b => a = none ∧ b = h_r1)) args s md_72.1.2.2.2.2.2.1 md_72.1.2.2.2.2.2.2 (ri_A E)) E D cA md_72.1.2.2.1 (fun a b => a = none ∧ b = h_r1) md_72.1.2.2.2.2.2.1 md_72.1.2.2.2.2.2.2 k := by
    rintro _ rfl
    exact Or.inl ⟨rfl, ⟨rfl, rfl⟩, by decide, by decide⟩
  have g9 := hf _ rfl
  have g8 := ri_gd_sn X C hdc ot_72 hrt hlk (ri_is_ok rc_c8) (by decide : rc_8.1 ≠ 70000) g9
  have g7 := ri_gd_sn X C hdc ot_72 hrt hlk (ri_is_ok rc_c7) (by decide : rc_7.1 ≠ 70000) g8
  have g6 := ri_gd_sn X C hdc ot_72 hrt hlk (ri_is_ok rc_c6) (by decide : rc_6.1 ≠ 70000) g7
  have g5 := ri_gd_sn X C hdc ot_72 hrt hlk (ri_is_ok rc_c5) (by decide : rc_5.1 ≠ 70000) g6
  have g4 := ri_gd_sn X C hdc ot_72 hrt hlk (ri_is_ok rc_c4) (by decide : rc_4.1 ≠ 70000) g5
  have g3 := ri_gd_sn X C hdc ot_72 hrt hlk (ri_is_ok rc_c3) (by decide : rc_3.1 ≠ 70000) g4
  have g2 := ri_gd_sn X C hdc ot_72 hrt hlk (ri_is_ok rc_c2) (by decide : rc_2.1 ≠ 70000) g3
  have g1 := ri_gd_sn X C hdc ot_72 hrt hlk (ri_is_ok rc_c1) (by decide : rc_1.1 ≠ 70000) g2
  have g0 := ri_gd_sn X C hdc ot_72 hrt hlk (ri_is_ok rc_c0) (by decide : rc_0.1 ≠ 70000) g1
  rcases g0 with ⟨h0, -⟩ | ⟨-, h0⟩
  · exact absurd h0 (by decide)
  · exact h0
