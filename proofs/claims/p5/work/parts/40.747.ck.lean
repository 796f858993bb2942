set_option maxRecDepth 100000 in
theorem km_h325 : sx_c_h ri_md km_CT km_325 = true := by decide +kernel
theorem km_x325 : sx_ck km_G (mj_dp km_gd) ri_md km_CT 5000 km_325 = true := sx_c_ok (m := 30) (fuel := 4970) km_h325 (fun i => by
    by_cases h0 : i < 3
    · exact ⟨0, 3, by omega, Or.inr (by omega), km_e325_0⟩
    by_cases h1 : i < 6
    · exact ⟨3, 3, by omega, Or.inr (by omega), km_e325_1⟩
    by_cases h2 : i < 9
    · exact ⟨6, 3, by omega, Or.inr (by omega), km_e325_2⟩
    exact ⟨9, 0, by omega, Or.inl rfl, km_e325_3⟩
  ) (fun i => by
    exact ⟨0, 0, by omega, Or.inl rfl, km_u325_0⟩
  )
set_option maxRecDepth 100000 in
theorem km_ck32 : km_ix [325] = true := by
  unfold km_ix
  rw [List.all_cons, List.all_nil, Bool.and_true, show km_CT[325]? = some km_325 from rfl]
  exact km_x325
