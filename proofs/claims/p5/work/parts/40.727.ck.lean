set_option maxRecDepth 100000 in
theorem km_h223 : sx_c_h ri_md km_CT km_223 = true := by decide +kernel
theorem km_x223 : sx_ck km_G (mj_dp km_gd) ri_md km_CT 5000 km_223 = true := sx_c_ok (m := 0) (fuel := 5000) km_h223 (fun i => by
    exact ⟨0, 0, by omega, Or.inl rfl, km_e223_0⟩
  ) (fun i => by
    by_cases h0 : i < 80
    · exact ⟨0, 80, by omega, Or.inr (by omega), km_u223_0⟩
    by_cases h1 : i < 160
    · exact ⟨80, 80, by omega, Or.inr (by omega), km_u223_1⟩
    by_cases h2 : i < 240
    · exact ⟨160, 80, by omega, Or.inr (by omega), km_u223_2⟩
    by_cases h3 : i < 320
    · exact ⟨240, 80, by omega, Or.inr (by omega), km_u223_3⟩
    exact ⟨320, 0, by omega, Or.inl rfl, km_u223_4⟩
  )
set_option maxRecDepth 100000 in
theorem km_ck37 : km_ix [223] = true := by
  unfold km_ix
  rw [List.all_cons, List.all_nil, Bool.and_true, show km_CT[223]? = some km_223 from rfl]
  exact km_x223
