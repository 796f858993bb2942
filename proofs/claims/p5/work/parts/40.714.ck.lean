set_option maxRecDepth 100000 in
theorem km_h346 : sx_c_h ri_md km_CT km_346 = true := by decide +kernel
theorem km_x346 : sx_ck km_G (mj_dp km_gd) ri_md km_CT 5000 km_346 = true := sx_c_ok (m := 0) (fuel := 5000) km_h346 (fun i => by
    exact ⟨0, 0, by omega, Or.inl rfl, km_e346_0⟩
  ) (fun i => by
    by_cases h0 : i < 12
    · exact ⟨0, 12, by omega, Or.inr (by omega), km_u346_0⟩
    by_cases h1 : i < 24
    · exact ⟨12, 12, by omega, Or.inr (by omega), km_u346_1⟩
    exact ⟨24, 0, by omega, Or.inl rfl, km_u346_2⟩
  )
set_option maxRecDepth 100000 in
theorem km_ck35 : km_ix [346] = true := by
  unfold km_ix
  rw [List.all_cons, List.all_nil, Bool.and_true, show km_CT[346]? = some km_346 from rfl]
  exact km_x346
