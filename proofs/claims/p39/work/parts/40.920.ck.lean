set_option maxRecDepth 100000 in
theorem hib_1 : sx_c_h ri_md kb_CT ib_1 = true := by decide +kernel
theorem ck_ib_1 : sx_ck km_G (mj_dp km_gd) ri_md kb_CT 5000 ib_1 = true := sx_c_ok (m := 0) (fuel := 5000) hib_1 (fun i => by
    exact ⟨0, 0, by omega, Or.inl rfl, eib_1_0⟩
  ) (fun i => by
    by_cases h0 : i < 80
    · exact ⟨0, 80, by omega, Or.inr (by omega), uib_1_0⟩
    by_cases h1 : i < 160
    · exact ⟨80, 80, by omega, Or.inr (by omega), uib_1_1⟩
    exact ⟨160, 0, by omega, Or.inl rfl, uib_1_2⟩
  )
