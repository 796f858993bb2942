set_option maxRecDepth 100000 in
theorem km_h328 : sx_c_h ri_md km_CT km_328 = true := by decide +kernel
theorem km_x328 : sx_ck km_G (mj_dp km_gd) ri_md km_CT 5000 km_328 = true := sx_c_ok (m := 0) (fuel := 5000) km_h328 (fun i => by
    exact ⟨0, 0, by omega, Or.inl rfl, km_e328_0⟩
  ) (fun i => by
    by_cases h0 : i < 33
    · exact ⟨0, 33, by omega, Or.inr (by omega), km_u328_0⟩
    by_cases h1 : i < 66
    · exact ⟨33, 33, by omega, Or.inr (by omega), km_u328_1⟩
    by_cases h2 : i < 99
    · exact ⟨66, 33, by omega, Or.inr (by omega), km_u328_2⟩
    exact ⟨99, 0, by omega, Or.inl rfl, km_u328_3⟩
  )
set_option maxRecDepth 100000 in
theorem km_ck39 : km_ix [328] = true := by
  unfold km_ix
  rw [List.all_cons, List.all_nil, Bool.and_true, show km_CT[328]? = some km_328 from rfl]
  exact km_x328
