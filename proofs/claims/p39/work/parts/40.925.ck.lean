set_option maxRecDepth 100000 in
theorem hrb_0 : sx_c_h ri_md kb_CT rb_0 = true := by decide +kernel
theorem ck_rb_0 : sx_ck km_G (mj_dp km_gd) ri_md kb_CT 5000 rb_0 = true := sx_c_ok (m := 0) (fuel := 5000) hrb_0 (fun i => by
    exact ⟨0, 0, by omega, Or.inl rfl, erb_0_0⟩
  ) (fun i => by
    by_cases h0 : i < 80
    · exact ⟨0, 80, by omega, Or.inr (by omega), urb_0_0⟩
    by_cases h1 : i < 160
    · exact ⟨80, 80, by omega, Or.inr (by omega), urb_0_1⟩
    exact ⟨160, 0, by omega, Or.inl rfl, urb_0_2⟩
  )
