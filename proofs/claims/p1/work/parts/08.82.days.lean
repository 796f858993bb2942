set_option maxRecDepth 100000 in
theorem gd_i_0 : ((List.range' 0 10).all fun i => ri_is (ri_sn (ri_st (dk i) (ri_call (dk i) ri_md 7) (ri_bud ri_md) md_205) 13 (gd i)) (gd (i + 1))) = true := by decide +kernel
set_option maxRecDepth 100000 in
theorem gd_i_10 : ((List.range' 10 10).all fun i => ri_is (ri_sn (ri_st (dk i) (ri_call (dk i) ri_md 7) (ri_bud ri_md) md_205) 13 (gd i)) (gd (i + 1))) = true := by decide +kernel
set_option maxRecDepth 100000 in
theorem gd_i_20 : ((List.range' 20 10).all fun i => ri_is (ri_sn (ri_st (dk i) (ri_call (dk i) ri_md 7) (ri_bud ri_md) md_205) 13 (gd i)) (gd (i + 1))) = true := by decide +kernel
set_option maxRecDepth 100000 in
theorem gd_i_30 : ((List.range' 30 10).all fun i => ri_is (ri_sn (ri_st (dk i) (ri_call (dk i) ri_md 7) (ri_bud ri_md) md_205) 13 (gd i)) (gd (i + 1))) = true := by decide +kernel
set_option maxRecDepth 100000 in
theorem gd_i_40 : ((List.range' 40 10).all fun i => ri_is (ri_sn (ri_st (dk i) (ri_call (dk i) ri_md 7) (ri_bud ri_md) md_205) 13 (gd i)) (gd (i + 1))) = true := by decide +kernel
set_option maxRecDepth 100000 in
theorem gd_i_50 : ((List.range' 50 10).all fun i => ri_is (ri_sn (ri_st (dk i) (ri_call (dk i) ri_md 7) (ri_bud ri_md) md_205) 13 (gd i)) (gd (i + 1))) = true := by decide +kernel
theorem gd_i {i : Nat} (hi : i < 60) : ri_is (ri_sn (ri_st (dk i) (ri_call (dk i) ri_md 7) (ri_bud ri_md) md_205) 13 (gd i)) (gd (i + 1)) = true := by
  by_cases h10 : i < 10
  · exact ri_all gd_i_0 (by omega) (by omega)
  by_cases h20 : i < 20
  · exact ri_all gd_i_10 (by omega) (by omega)
  by_cases h30 : i < 30
  · exact ri_all gd_i_20 (by omega) (by omega)
  by_cases h40 : i < 40
  · exact ri_all gd_i_30 (by omega) (by omega)
  by_cases h50 : i < 50
  · exact ri_all gd_i_40 (by omega) (by omega)
  exact ri_all gd_i_50 (by omega) (by omega)
set_option maxRecDepth 100000 in
theorem gd_x_0 : ((List.range' 0 10).all fun i => ri_is (ri_sn (ri_st (dx i) (ri_call (dx i) ri_md 7) (ri_bud ri_md) md_205) 5 (gd i)) (gx i)) = true := by decide +kernel
set_option maxRecDepth 100000 in
theorem gd_x_10 : ((List.range' 10 10).all fun i => ri_is (ri_sn (ri_st (dx i) (ri_call (dx i) ri_md 7) (ri_bud ri_md) md_205) 5 (gd i)) (gx i)) = true := by decide +kernel
set_option maxRecDepth 100000 in
theorem gd_x_20 : ((List.range' 20 10).all fun i => ri_is (ri_sn (ri_st (dx i) (ri_call (dx i) ri_md 7) (ri_bud ri_md) md_205) 5 (gd i)) (gx i)) = true := by decide +kernel
set_option maxRecDepth 100000 in
theorem gd_x_30 : ((List.range' 30 10).all fun i => ri_is (ri_sn (ri_st (dx i) (ri_call (dx i) ri_md 7) (ri_bud ri_md) md_205) 5 (gd i)) (gx i)) = true := by decide +kernel
set_option maxRecDepth 100000 in
theorem gd_x_40 : ((List.range' 40 10).all fun i => ri_is (ri_sn (ri_st (dx i) (ri_call (dx i) ri_md 7) (ri_bud ri_md) md_205) 5 (gd i)) (gx i)) = true := by decide +kernel
set_option maxRecDepth 100000 in
theorem gd_x_50 : ((List.range' 50 10).all fun i => ri_is (ri_sn (ri_st (dx i) (ri_call (dx i) ri_md 7) (ri_bud ri_md) md_205) 5 (gd i)) (gx i)) = true := by decide +kernel
set_option maxRecDepth 100000 in
theorem gd_x_60 : ((List.range' 60 1).all fun i => ri_is (ri_sn (ri_st (dx i) (ri_call (dx i) ri_md 7) (ri_bud ri_md) md_205) 5 (gd i)) (gx i)) = true := by decide +kernel
theorem gd_x {i : Nat} (hi : i < 61) : ri_is (ri_sn (ri_st (dx i) (ri_call (dx i) ri_md 7) (ri_bud ri_md) md_205) 5 (gd i)) (gx i) = true := by
  by_cases h10 : i < 10
  · exact ri_all gd_x_0 (by omega) (by omega)
  by_cases h20 : i < 20
  · exact ri_all gd_x_10 (by omega) (by omega)
  by_cases h30 : i < 30
  · exact ri_all gd_x_20 (by omega) (by omega)
  by_cases h40 : i < 40
  · exact ri_all gd_x_30 (by omega) (by omega)
  by_cases h50 : i < 50
  · exact ri_all gd_x_40 (by omega) (by omega)
  by_cases h60 : i < 60
  · exact ri_all gd_x_50 (by omega) (by omega)
  exact ri_all gd_x_60 (by omega) (by omega)
set_option maxRecDepth 100000 in
theorem gd_s : ri_is (ri_sn (ri_st [] (ri_call [] ri_md 7) (ri_bud ri_md) md_205) 2 (0, ri_as 0 [.ref 0, .float 1], [], hm_d 0, 0, 0)) (gd 0) = true := by decide +kernel
