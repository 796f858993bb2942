def ri_mkb2 (M : ri_M) (n ii : Nat) : Bool := ri_wi ii (.initialized M.1.cls) && (decide (M.1.cls ≠ "java/lang/invoke/MethodHandle") && (decide (M.1.cls ≠ "java/lang/invoke/VarHandle") && (decide ((parseMethodDescriptor M.1.desc).map (fun d => d.parameters.length) = some n) && (Nat.ble M.2.2.1 45 && (plainName M.1.cls && decide (M.2.2.2.2.1 = M.1.cls))))))
theorem ri_mkb2_ok {M : ri_M} {n ic ii : Nat} (h0 : lw_tbl[ic]? = some (.code M.1 M.2.1 M.2.2.1 M.2.2.2.1)) (h : ri_mkb2 M n ii = true) : ∃ n, ri_Mk M n := by
  unfold ri_mkb2 at h
  simp only [Bool.and_eq_true, decide_eq_true_eq, Nat.ble_eq] at h
  exact ⟨n, List.mem_of_getElem? h0, List.mem_of_getElem? (ri_wi_ok h.1), h.2.1, h.2.2.1, h.2.2.2.1, h.2.2.2.2.1, h.2.2.2.2.2.1, h.2.2.2.2.2.2⟩
set_option maxRecDepth 100000 in
theorem mk_0 : ∃ n, ri_Mk md_0.1 n := ri_mkb2_ok (n := 0) (ic := 508) (ii := 112) rfl (by decide +kernel)
set_option maxRecDepth 100000 in
theorem ot_0 : ri_okT ri_md md_0 = true := by decide +kernel
set_option maxRecDepth 100000 in
theorem mk_1 : ∃ n, ri_Mk md_1.1 n := ri_mkb2_ok (n := 2) (ic := 1069) (ii := 112) rfl (by decide +kernel)
set_option maxRecDepth 100000 in
theorem ot_1 : ri_okT ri_md md_1 = true := by decide +kernel
set_option maxRecDepth 100000 in
theorem mk_2 : ∃ n, ri_Mk md_2.1 n := ri_mkb2_ok (n := 2) (ic := 1073) (ii := 112) rfl (by decide +kernel)
set_option maxRecDepth 100000 in
theorem ot_2 : ri_okT ri_md md_2 = true := by decide +kernel
set_option maxRecDepth 100000 in
theorem mk_3 : ∃ n, ri_Mk md_3.1 n := ri_mkb2_ok (n := 3) (ic := 1088) (ii := 112) rfl (by decide +kernel)
set_option maxRecDepth 100000 in
theorem ot_3 : ri_okT ri_md md_3 = true := by decide +kernel
set_option maxRecDepth 100000 in
theorem mk_4 : ∃ n, ri_Mk md_4.1 n := ri_mkb2_ok (n := 3) (ic := 1095) (ii := 112) rfl (by decide +kernel)
set_option maxRecDepth 100000 in
theorem ot_4 : ri_okT ri_md md_4 = true := by decide +kernel
set_option maxRecDepth 100000 in
theorem mk_5 : ∃ n, ri_Mk md_5.1 n := ri_mkb2_ok (n := 3) (ic := 1099) (ii := 112) rfl (by decide +kernel)
set_option maxRecDepth 100000 in
theorem ot_5 : ri_okT ri_md md_5 = true := by decide +kernel
set_option maxRecDepth 100000 in
theorem mk_6 : ∃ n, ri_Mk md_6.1 n := ri_mkb2_ok (n := 4) (ic := 1102) (ii := 112) rfl (by decide +kernel)
set_option maxRecDepth 100000 in
theorem ot_6 : ri_okT ri_md md_6 = true := by decide +kernel
set_option maxRecDepth 100000 in
theorem mk_7 : ∃ n, ri_Mk md_7.1 n := ri_mkb2_ok (n := 3) (ic := 1107) (ii := 112) rfl (by decide +kernel)
set_option maxRecDepth 100000 in
theorem ot_7 : ri_okT ri_md md_7 = true := by decide +kernel
set_option maxRecDepth 100000 in
theorem mk_8 : ∃ n, ri_Mk md_8.1 n := ri_mkb2_ok (n := 4) (ic := 1112) (ii := 112) rfl (by decide +kernel)
set_option maxRecDepth 100000 in
theorem ot_8 : ri_okT ri_md md_8 = true := by decide +kernel
set_option maxRecDepth 100000 in
theorem mk_9 : ∃ n, ri_Mk md_9.1 n := ri_mkb2_ok (n := 3) (ic := 1118) (ii := 112) rfl (by decide +kernel)
set_option maxRecDepth 100000 in
theorem ot_9 : ri_okT ri_md md_9 = true := by decide +kernel
set_option maxRecDepth 100000 in
theorem mk_10 : ∃ n, ri_Mk md_10.1 n := ri_mkb2_ok (n := 0) (ic := 561) (ii := 114) rfl (by decide +kernel)
set_option maxRecDepth 100000 in
theorem ot_10 : ri_okT ri_md md_10 = true := by decide +kernel
set_option maxRecDepth 100000 in
theorem mk_11 : ∃ n, ri_Mk md_11.1 n := ri_mkb2_ok (n := 1) (ic := 1050) (ii := 114) rfl (by decide +kernel)
set_option maxRecDepth 100000 in
theorem ot_11 : ri_okT ri_md md_11 = true := by decide +kernel
set_option maxRecDepth 100000 in
theorem mk_12 : ∃ n, ri_Mk md_12.1 n := ri_mkb2_ok (n := 4) (ic := 1042) (ii := 114) rfl (by decide +kernel)
set_option maxRecDepth 100000 in
theorem ot_12 : ri_okT ri_md md_12 = true := by decide +kernel
set_option maxRecDepth 100000 in
theorem mk_13 : ∃ n, ri_Mk md_13.1 n := ri_mkb2_ok (n := 2) (ic := 1046) (ii := 114) rfl (by decide +kernel)
set_option maxRecDepth 100000 in
theorem ot_13 : ri_okT ri_md md_13 = true := by decide +kernel
set_option maxRecDepth 100000 in
theorem mk_14 : ∃ n, ri_Mk md_14.1 n := ri_mkb2_ok (n := 0) (ic := 527) (ii := 113) rfl (by decide +kernel)
set_option maxRecDepth 100000 in
theorem ot_14 : ri_okT ri_md md_14 = true := by decide +kernel
set_option maxRecDepth 100000 in
theorem mk_15 : ∃ n, ri_Mk md_15.1 n := ri_mkb2_ok (n := 3) (ic := 929) (ii := 113) rfl (by decide +kernel)
set_option maxRecDepth 100000 in
theorem ot_15 : ri_okT ri_md md_15 = true := by decide +kernel
set_option maxRecDepth 100000 in
theorem mk_16 : ∃ n, ri_Mk md_16.1 n := ri_mkb2_ok (n := 3) (ic := 933) (ii := 113) rfl (by decide +kernel)
set_option maxRecDepth 100000 in
theorem ot_16 : ri_okT ri_md md_16 = true := by decide +kernel
set_option maxRecDepth 100000 in
theorem mk_17 : ∃ n, ri_Mk md_17.1 n := ri_mkb2_ok (n := 1) (ic := 946) (ii := 113) rfl (by decide +kernel)
set_option maxRecDepth 100000 in
theorem ot_17 : ri_okT ri_md md_17 = true := by decide +kernel
set_option maxRecDepth 100000 in
theorem mk_18 : ∃ n, ri_Mk md_18.1 n := ri_mkb2_ok (n := 2) (ic := 950) (ii := 113) rfl (by decide +kernel)
set_option maxRecDepth 100000 in
theorem ot_18 : ri_okT ri_md md_18 = true := by decide +kernel
set_option maxRecDepth 100000 in
theorem mk_19 : ∃ n, ri_Mk md_19.1 n := ri_mkb2_ok (n := 1) (ic := 955) (ii := 113) rfl (by decide +kernel)
set_option maxRecDepth 100000 in
theorem ot_19 : ri_okT ri_md md_19 = true := by decide +kernel
set_option maxRecDepth 100000 in
theorem mk_20 : ∃ n, ri_Mk md_20.1 n := ri_mkb2_ok (n := 1) (ic := 959) (ii := 113) rfl (by decide +kernel)
set_option maxRecDepth 100000 in
theorem ot_20 : ri_okT ri_md md_20 = true := by decide +kernel
set_option maxRecDepth 100000 in
theorem mk_21 : ∃ n, ri_Mk md_21.1 n := ri_mkb2_ok (n := 2) (ic := 963) (ii := 113) rfl (by decide +kernel)
set_option maxRecDepth 100000 in
theorem ot_21 : ri_okT ri_md md_21 = true := by decide +kernel
set_option maxRecDepth 100000 in
theorem mk_22 : ∃ n, ri_Mk md_22.1 n := ri_mkb2_ok (n := 0) (ic := 479) (ii := 111) rfl (by decide +kernel)
set_option maxRecDepth 100000 in
theorem ot_22 : ri_okT ri_md md_22 = true := by decide +kernel
set_option maxRecDepth 100000 in
theorem mk_23 : ∃ n, ri_Mk md_23.1 n := ri_mkb2_ok (n := 0) (ic := 243) (ii := 106) rfl (by decide +kernel)
set_option maxRecDepth 100000 in
theorem ot_23 : ri_okT ri_md md_23 = true := by decide +kernel
set_option maxRecDepth 100000 in
theorem mk_24 : ∃ n, ri_Mk md_24.1 n := ri_mkb2_ok (n := 0) (ic := 668) (ii := 106) rfl (by decide +kernel)
set_option maxRecDepth 100000 in
theorem ot_24 : ri_okT ri_md md_24 = true := by decide +kernel
set_option maxRecDepth 100000 in
theorem mk_25 : ∃ n, ri_Mk md_25.1 n := ri_mkb2_ok (n := 1) (ic := 746) (ii := 106) rfl (by decide +kernel)
set_option maxRecDepth 100000 in
theorem ot_25 : ri_okT ri_md md_25 = true := by decide +kernel
set_option maxRecDepth 100000 in
theorem mk_26 : ∃ n, ri_Mk md_26.1 n := ri_mkb2_ok (n := 2) (ic := 770) (ii := 106) rfl (by decide +kernel)
set_option maxRecDepth 100000 in
theorem ot_26 : ri_okT ri_md md_26 = true := by decide +kernel
set_option maxRecDepth 100000 in
theorem mk_27 : ∃ n, ri_Mk md_27.1 n := ri_mkb2_ok (n := 1) (ic := 782) (ii := 106) rfl (by decide +kernel)
set_option maxRecDepth 100000 in
theorem ot_27 : ri_okT ri_md md_27 = true := by decide +kernel
set_option maxRecDepth 100000 in
theorem mk_28 : ∃ n, ri_Mk md_28.1 n := ri_mkb2_ok (n := 1) (ic := 907) (ii := 106) rfl (by decide +kernel)
set_option maxRecDepth 100000 in
theorem ot_28 : ri_okT ri_md md_28 = true := by decide +kernel
set_option maxRecDepth 100000 in
theorem mk_29 : ∃ n, ri_Mk md_29.1 n := ri_mkb2_ok (n := 1) (ic := 686) (ii := 106) rfl (by decide +kernel)
set_option maxRecDepth 100000 in
theorem ot_29 : ri_okT ri_md md_29 = true := by decide +kernel
set_option maxRecDepth 100000 in
theorem mk_30 : ∃ n, ri_Mk md_30.1 n := ri_mkb2_ok (n := 2) (ic := 690) (ii := 106) rfl (by decide +kernel)
set_option maxRecDepth 100000 in
theorem ot_30 : ri_okT ri_md md_30 = true := by decide +kernel
set_option maxRecDepth 100000 in
theorem mk_31 : ∃ n, ri_Mk md_31.1 n := ri_mkb2_ok (n := 3) (ic := 713) (ii := 106) rfl (by decide +kernel)
set_option maxRecDepth 100000 in
theorem ot_31 : ri_okT ri_md md_31 = true := by decide +kernel
set_option maxRecDepth 100000 in
theorem mk_32 : ∃ n, ri_Mk md_32.1 n := ri_mkb2_ok (n := 2) (ic := 716) (ii := 106) rfl (by decide +kernel)
set_option maxRecDepth 100000 in
theorem ot_32 : ri_okT ri_md md_32 = true := by decide +kernel
set_option maxRecDepth 100000 in
theorem mk_33 : ∃ n, ri_Mk md_33.1 n := ri_mkb2_ok (n := 2) (ic := 837) (ii := 106) rfl (by decide +kernel)
set_option maxRecDepth 100000 in
theorem ot_33 : ri_okT ri_md md_33 = true := by decide +kernel
set_option maxRecDepth 100000 in
theorem mk_34 : ∃ n, ri_Mk md_34.1 n := ri_mkb2_ok (n := 2) (ic := 841) (ii := 106) rfl (by decide +kernel)
set_option maxRecDepth 100000 in
theorem ot_34 : ri_okT ri_md md_34 = true := by decide +kernel
set_option maxRecDepth 100000 in
theorem mk_35 : ∃ n, ri_Mk md_35.1 n := ri_mkb2_ok (n := 1) (ic := 844) (ii := 106) rfl (by decide +kernel)
set_option maxRecDepth 100000 in
theorem ot_35 : ri_okT ri_md md_35 = true := by decide +kernel
set_option maxRecDepth 100000 in
theorem mk_36 : ∃ n, ri_Mk md_36.1 n := ri_mkb2_ok (n := 2) (ic := 938) (ii := 106) rfl (by decide +kernel)
set_option maxRecDepth 100000 in
theorem ot_36 : ri_okT ri_md md_36 = true := by decide +kernel
set_option maxRecDepth 100000 in
theorem mk_37 : ∃ n, ri_Mk md_37.1 n := ri_mkb2_ok (n := 2) (ic := 942) (ii := 106) rfl (by decide +kernel)
set_option maxRecDepth 100000 in
theorem ot_37 : ri_okT ri_md md_37 = true := by decide +kernel
set_option maxRecDepth 100000 in
theorem mk_38 : ∃ n, ri_Mk md_38.1 n := ri_mkb2_ok (n := 2) (ic := 1005) (ii := 106) rfl (by decide +kernel)
set_option maxRecDepth 100000 in
theorem ot_38 : ri_okT ri_md md_38 = true := by decide +kernel
set_option maxRecDepth 100000 in
theorem mk_39 : ∃ n, ri_Mk md_39.1 n := ri_mkb2_ok (n := 1) (ic := 794) (ii := 106) rfl (by decide +kernel)
set_option maxRecDepth 100000 in
theorem ot_39 : ri_okT ri_md md_39 = true := by decide +kernel
set_option maxRecDepth 100000 in
theorem mk_40 : ∃ n, ri_Mk md_40.1 n := ri_mkb2_ok (n := 1) (ic := 1033) (ii := 106) rfl (by decide +kernel)
set_option maxRecDepth 100000 in
theorem ot_40 : ri_okT ri_md md_40 = true := by decide +kernel
set_option maxRecDepth 100000 in
theorem mk_41 : ∃ n, ri_Mk md_41.1 n := ri_mkb2_ok (n := 1) (ic := 887) (ii := 106) rfl (by decide +kernel)
set_option maxRecDepth 100000 in
theorem ot_41 : ri_okT ri_md md_41 = true := by decide +kernel
set_option maxRecDepth 100000 in
theorem mk_42 : ∃ n, ri_Mk md_42.1 n := ri_mkb2_ok (n := 1) (ic := 237) (ii := 105) rfl (by decide +kernel)
set_option maxRecDepth 100000 in
theorem ot_42 : ri_okT ri_md md_42 = true := by decide +kernel
set_option maxRecDepth 100000 in
theorem mk_43 : ∃ n, ri_Mk md_43.1 n := ri_mkb2_ok (n := 0) (ic := 664) (ii := 105) rfl (by decide +kernel)
set_option maxRecDepth 100000 in
theorem ot_43 : ri_okT ri_md md_43 = true := by decide +kernel
