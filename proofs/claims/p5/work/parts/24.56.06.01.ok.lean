set_option maxRecDepth 100000 in
theorem mk_44 : ∃ n, ri_Mk md_44.1 n := ri_mkb2_ok (n := 1) (ic := 725) (ii := 105) rfl (by decide +kernel)
set_option maxRecDepth 100000 in
theorem ot_44 : ri_okT ri_md md_44 = true := by decide +kernel
set_option maxRecDepth 100000 in
theorem mk_45 : ∃ n, ri_Mk md_45.1 n := ri_mkb2_ok (n := 1) (ic := 733) (ii := 105) rfl (by decide +kernel)
set_option maxRecDepth 100000 in
theorem ot_45 : ri_okT ri_md md_45 = true := by decide +kernel
set_option maxRecDepth 100000 in
theorem mk_46 : ∃ n, ri_Mk md_46.1 n := ri_mkb2_ok (n := 1) (ic := 675) (ii := 105) rfl (by decide +kernel)
set_option maxRecDepth 100000 in
theorem ot_46 : ri_okT ri_md md_46 = true := by decide +kernel
set_option maxRecDepth 100000 in
theorem mk_47 : ∃ n, ri_Mk md_47.1 n := ri_mkb2_ok (n := 1) (ic := 695) (ii := 105) rfl (by decide +kernel)
set_option maxRecDepth 100000 in
theorem ot_47 : ri_okT ri_md md_47 = true := by decide +kernel
set_option maxRecDepth 100000 in
theorem mk_48 : ∃ n, ri_Mk md_48.1 n := ri_mkb2_ok (n := 1) (ic := 705) (ii := 105) rfl (by decide +kernel)
set_option maxRecDepth 100000 in
theorem ot_48 : ri_okT ri_md md_48 = true := by decide +kernel
set_option maxRecDepth 100000 in
theorem mk_49 : ∃ n, ri_Mk md_49.1 n := ri_mkb2_ok (n := 1) (ic := 721) (ii := 105) rfl (by decide +kernel)
set_option maxRecDepth 100000 in
theorem ot_49 : ri_okT ri_md md_49 = true := by decide +kernel
set_option maxRecDepth 100000 in
theorem mk_50 : ∃ n, ri_Mk md_50.1 n := ri_mkb2_ok (n := 0) (ic := 380) (ii := 109) rfl (by decide +kernel)
set_option maxRecDepth 100000 in
theorem ot_50 : ri_okT ri_md md_50 = true := by decide +kernel
set_option maxRecDepth 100000 in
theorem mk_51 : ∃ n, ri_Mk md_51.1 n := ri_mkb2_ok (n := 1) (ic := 750) (ii := 109) rfl (by decide +kernel)
set_option maxRecDepth 100000 in
theorem ot_51 : ri_okT ri_md md_51 = true := by decide +kernel
set_option maxRecDepth 100000 in
theorem mk_52 : ∃ n, ri_Mk md_52.1 n := ri_mkb2_ok (n := 1) (ic := 815) (ii := 109) rfl (by decide +kernel)
set_option maxRecDepth 100000 in
theorem ot_52 : ri_okT ri_md md_52 = true := by decide +kernel
set_option maxRecDepth 100000 in
theorem mk_53 : ∃ n, ri_Mk md_53.1 n := ri_mkb2_ok (n := 1) (ic := 786) (ii := 109) rfl (by decide +kernel)
set_option maxRecDepth 100000 in
theorem ot_53 : ri_okT ri_md md_53 = true := by decide +kernel
set_option maxRecDepth 100000 in
theorem mk_54 : ∃ n, ri_Mk md_54.1 n := ri_mkb2_ok (n := 0) (ic := 865) (ii := 109) rfl (by decide +kernel)
set_option maxRecDepth 100000 in
theorem ot_54 : ri_okT ri_md md_54 = true := by decide +kernel
set_option maxRecDepth 100000 in
theorem mk_55 : ∃ n, ri_Mk md_55.1 n := ri_mkb2_ok (n := 1) (ic := 798) (ii := 109) rfl (by decide +kernel)
set_option maxRecDepth 100000 in
theorem ot_55 : ri_okT ri_md md_55 = true := by decide +kernel
set_option maxRecDepth 100000 in
theorem mk_56 : ∃ n, ri_Mk md_56.1 n := ri_mkb2_ok (n := 2) (ic := 989) (ii := 109) rfl (by decide +kernel)
set_option maxRecDepth 100000 in
theorem ot_56 : ri_okT ri_md md_56 = true := by decide +kernel
set_option maxRecDepth 100000 in
theorem mk_57 : ∃ n, ri_Mk md_57.1 n := ri_mkb2_ok (n := 2) (ic := 806) (ii := 109) rfl (by decide +kernel)
set_option maxRecDepth 100000 in
theorem ot_57 : ri_okT ri_md md_57 = true := by decide +kernel
set_option maxRecDepth 100000 in
theorem mk_58 : ∃ n, ri_Mk md_58.1 n := ri_mkb2_ok (n := 2) (ic := 821) (ii := 109) rfl (by decide +kernel)
set_option maxRecDepth 100000 in
theorem ot_58 : ri_okT ri_md md_58 = true := by decide +kernel
set_option maxRecDepth 100000 in
theorem mk_59 : ∃ n, ri_Mk md_59.1 n := ri_mkb2_ok (n := 1) (ic := 829) (ii := 109) rfl (by decide +kernel)
set_option maxRecDepth 100000 in
theorem ot_59 : ri_okT ri_md md_59 = true := by decide +kernel
set_option maxRecDepth 100000 in
theorem mk_60 : ∃ n, ri_Mk md_60.1 n := ri_mkb2_ok (n := 2) (ic := 833) (ii := 109) rfl (by decide +kernel)
set_option maxRecDepth 100000 in
theorem ot_60 : ri_okT ri_md md_60 = true := by decide +kernel
set_option maxRecDepth 100000 in
theorem mk_61 : ∃ n, ri_Mk md_61.1 n := ri_mkb2_ok (n := 3) (ic := 852) (ii := 109) rfl (by decide +kernel)
set_option maxRecDepth 100000 in
theorem ot_61 : ri_okT ri_md md_61 = true := by decide +kernel
set_option maxRecDepth 100000 in
theorem mk_62 : ∃ n, ri_Mk md_62.1 n := ri_mkb2_ok (n := 2) (ic := 857) (ii := 109) rfl (by decide +kernel)
set_option maxRecDepth 100000 in
theorem ot_62 : ri_okT ri_md md_62 = true := by decide +kernel
set_option maxRecDepth 100000 in
theorem mk_63 : ∃ n, ri_Mk md_63.1 n := ri_mkb2_ok (n := 2) (ic := 870) (ii := 109) rfl (by decide +kernel)
set_option maxRecDepth 100000 in
theorem ot_63 : ri_okT ri_md md_63 = true := by decide +kernel
set_option maxRecDepth 100000 in
theorem mk_64 : ∃ n, ri_Mk md_64.1 n := ri_mkb2_ok (n := 1) (ic := 874) (ii := 109) rfl (by decide +kernel)
set_option maxRecDepth 100000 in
theorem ot_64 : ri_okT ri_md md_64 = true := by decide +kernel
set_option maxRecDepth 100000 in
theorem mk_65 : ∃ n, ri_Mk md_65.1 n := ri_mkb2_ok (n := 1) (ic := 878) (ii := 109) rfl (by decide +kernel)
set_option maxRecDepth 100000 in
theorem ot_65 : ri_okT ri_md md_65 = true := by decide +kernel
set_option maxRecDepth 100000 in
theorem mk_66 : ∃ n, ri_Mk md_66.1 n := ri_mkb2_ok (n := 2) (ic := 883) (ii := 109) rfl (by decide +kernel)
set_option maxRecDepth 100000 in
theorem ot_66 : ri_okT ri_md md_66 = true := by decide +kernel
set_option maxRecDepth 100000 in
theorem mk_67 : ∃ n, ri_Mk md_67.1 n := ri_mkb2_ok (n := 1) (ic := 891) (ii := 109) rfl (by decide +kernel)
set_option maxRecDepth 100000 in
theorem ot_67 : ri_okT ri_md md_67 = true := by decide +kernel
set_option maxRecDepth 100000 in
theorem mk_68 : ∃ n, ri_Mk md_68.1 n := ri_mkb2_ok (n := 0) (ic := 457) (ii := 110) rfl (by decide +kernel)
set_option maxRecDepth 100000 in
theorem ot_68 : ri_okT ri_md md_68 = true := by decide +kernel
set_option maxRecDepth 100000 in
theorem mk_69 : ∃ n, ri_Mk md_69.1 n := ri_mkb2_ok (n := 0) (ic := 758) (ii := 110) rfl (by decide +kernel)
set_option maxRecDepth 100000 in
theorem ot_69 : ri_okT ri_md md_69 = true := by decide +kernel
set_option maxRecDepth 100000 in
theorem mk_70 : ∃ n, ri_Mk md_70.1 n := ri_mkb2_ok (n := 1) (ic := 811) (ii := 110) rfl (by decide +kernel)
set_option maxRecDepth 100000 in
theorem ot_70 : ri_okT ri_md md_70 = true := by decide +kernel
set_option maxRecDepth 100000 in
theorem mk_71 : ∃ n, ri_Mk md_71.1 n := ri_mkb2_ok (n := 1) (ic := 899) (ii := 110) rfl (by decide +kernel)
set_option maxRecDepth 100000 in
theorem ot_71 : ri_okT ri_md md_71 = true := by decide +kernel
set_option maxRecDepth 100000 in
theorem mk_72 : ∃ n, ri_Mk md_72.1 n := ri_mkb2_ok (n := 1) (ic := 135) (ii := 100) rfl (by decide +kernel)
set_option maxRecDepth 100000 in
theorem ot_72 : ri_okT ri_md md_72 = true := by decide +kernel
set_option maxRecDepth 100000 in
theorem mk_73 : ∃ n, ri_Mk md_73.1 n := ri_mkb2_ok (n := 2) (ic := 642) (ii := 100) rfl (by decide +kernel)
set_option maxRecDepth 100000 in
theorem ot_73 : ri_okT ri_md md_73 = true := by decide +kernel
set_option maxRecDepth 100000 in
theorem mk_74 : ∃ n, ri_Mk md_74.1 n := ri_mkb2_ok (n := 0) (ic := 649) (ii := 100) rfl (by decide +kernel)
set_option maxRecDepth 100000 in
theorem ot_74 : ri_okT ri_md md_74 = true := by decide +kernel
set_option maxRecDepth 100000 in
theorem mk_75 : ∃ n, ri_Mk md_75.1 n := ri_mkb2_ok (n := 0) (ic := 653) (ii := 100) rfl (by decide +kernel)
set_option maxRecDepth 100000 in
theorem ot_75 : ri_okT ri_md md_75 = true := by decide +kernel
set_option maxRecDepth 100000 in
theorem mk_76 : ∃ n, ri_Mk md_76.1 n := ri_mkb2_ok (n := 1) (ic := 660) (ii := 100) rfl (by decide +kernel)
set_option maxRecDepth 100000 in
theorem ot_76 : ri_okT ri_md md_76 = true := by decide +kernel
set_option maxRecDepth 100000 in
theorem mk_77 : ∃ n, ri_Mk md_77.1 n := ri_mkb2_ok (n := 1) (ic := 656) (ii := 100) rfl (by decide +kernel)
set_option maxRecDepth 100000 in
theorem ot_77 : ri_okT ri_md md_77 = true := by decide +kernel
