/-- the law with its room -/
def ri_lw : ri_M × ri_T := ((x, code, 7, some .boolean, "LakeLearnsLaw", 601024, 7293034), ri_law.2)
set_option maxRecDepth 100000 in
theorem ot_law : ri_okT ri_md ri_lw = true := by decide +kernel
set_option maxRecDepth 100000 in
theorem lw_pre0 : ri_is (ri_sn (ri_st [] (ri_kn1 (ri_kn1 (ri_call [] ri_md 8) 100 [.ref 0] h_l0 h_l1) 153 [.ref 209] h_m0 h_m1) (ri_bud ri_md) ri_lw) 13 (0, [(0, .retAddr 8)], [], [], 0, 0)) (23, lo_law, [], h_fr, 228, 7820) = true := by decide +kernel
theorem lw_Cp (l : Launch) (E : ri_V) (D : va_G) (cA : Nat → ClassId) : ri_Ca l E D cA ri_md (ri_kn1 (ri_kn1 (ri_call [] ri_md 8) 100 [.ref 0] h_l0 h_l1) 153 [.ref 209] h_m0 h_m1) 8 ri_lw.1 room_1 := by
  have hdc : ∀ q ∈ ([] : ri_O), ri_hd q.1 (ri_ic E q.2.1) (ri_ic E q.2.2.1) = q.2.2.2 := fun _ h => absurd h List.not_mem_nil
  exact ⟨ri_mk_all, ri_kn1_ok (ri_kn1_ok (fun j q as h v h' hq hs => ri_run l E D cA hdc hq hs) (q0 := md_100) rfl (ll_met l E D cA)) (q0 := md_153) rfl (ml_met l E D cA), Nat.le_refl _, Nat.le_refl _, by decide, by decide⟩
