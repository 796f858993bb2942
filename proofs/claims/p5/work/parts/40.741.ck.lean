set_option maxRecDepth 100000 in
theorem km_h330 : sx_c_h ri_md km_CT km_330 = true := by decide +kernel
theorem km_x330 : sx_ck km_G (mj_dp km_gd) ri_md km_CT 5000 km_330 = true := sx_c_ok (m := 20) (fuel := 4980) km_h330 (fun i => by
    by_cases h0 : i < 4
    · exact ⟨0, 4, by omega, Or.inr (by omega), km_e330_0⟩
    by_cases h1 : i < 8
    · exact ⟨4, 4, by omega, Or.inr (by omega), km_e330_1⟩
    by_cases h2 : i < 12
    · exact ⟨8, 4, by omega, Or.inr (by omega), km_e330_2⟩
    by_cases h3 : i < 16
    · exact ⟨12, 4, by omega, Or.inr (by omega), km_e330_3⟩
    exact ⟨16, 0, by omega, Or.inl rfl, km_e330_4⟩
  ) (fun i => by
    exact ⟨0, 0, by omega, Or.inl rfl, km_u330_0⟩
  )
set_option maxRecDepth 100000 in
theorem km_ck33 : km_ix [330] = true := by
  unfold km_ix
  rw [List.all_cons, List.all_nil, Bool.and_true, show km_CT[330]? = some km_330 from rfl]
  exact km_x330
