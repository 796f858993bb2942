set_option maxRecDepth 100000 in
theorem km_h224 : sx_c_h ri_md km_CT km_224 = true := by decide +kernel
theorem km_x224 : sx_ck km_G (mj_dp km_gd) ri_md km_CT 5000 km_224 = true := sx_c_ok (m := 0) (fuel := 5000) km_h224 (fun i => by
    exact ⟨0, 0, by omega, Or.inl rfl, km_e224_0⟩
  ) (fun i => by
    by_cases h0 : i < 80
    · exact ⟨0, 80, by omega, Or.inr (by omega), km_u224_0⟩
    by_cases h1 : i < 160
    · exact ⟨80, 80, by omega, Or.inr (by omega), km_u224_1⟩
    by_cases h2 : i < 240
    · exact ⟨160, 80, by omega, Or.inr (by omega), km_u224_2⟩
    by_cases h3 : i < 320
    · exact ⟨240, 80, by omega, Or.inr (by omega), km_u224_3⟩
    exact ⟨320, 0, by omega, Or.inl rfl, km_u224_4⟩
  )
set_option maxRecDepth 100000 in
theorem km_ck38 : km_ix [224] = true := by
  unfold km_ix
  rw [List.all_cons, List.all_nil, Bool.and_true, show km_CT[224]? = some km_224 from rfl]
  exact km_x224
