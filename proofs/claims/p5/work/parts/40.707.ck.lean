set_option maxRecDepth 100000 in
theorem km_h292 : sx_c_h ri_md km_CT km_292 = true := by decide +kernel
theorem km_x292 : sx_ck km_G (mj_dp km_gd) ri_md km_CT 5000 km_292 = true := sx_c_ok (m := 10) (fuel := 4990) km_h292 (fun i => by
    by_cases h0 : i < 3
    · exact ⟨0, 3, by omega, Or.inr (by omega), km_e292_0⟩
    by_cases h1 : i < 6
    · exact ⟨3, 3, by omega, Or.inr (by omega), km_e292_1⟩
    by_cases h2 : i < 9
    · exact ⟨6, 3, by omega, Or.inr (by omega), km_e292_2⟩
    by_cases h3 : i < 12
    · exact ⟨9, 3, by omega, Or.inr (by omega), km_e292_3⟩
    by_cases h4 : i < 15
    · exact ⟨12, 3, by omega, Or.inr (by omega), km_e292_4⟩
    exact ⟨15, 0, by omega, Or.inl rfl, km_e292_5⟩
  ) (fun i => by
    exact ⟨0, 0, by omega, Or.inl rfl, km_u292_0⟩
  )
set_option maxRecDepth 100000 in
theorem km_ck27 : km_ix [292] = true := by
  unfold km_ix
  rw [List.all_cons, List.all_nil, Bool.and_true, show km_CT[292]? = some km_292 from rfl]
  exact km_x292
