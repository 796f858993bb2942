set_option maxRecDepth 100000 in
theorem mk_78 : ∃ n, ri_Mk md_78.1 n := ri_mkb2_ok (n := 1) (ic := 679) (ii := 100) rfl (by decide +kernel)
set_option maxRecDepth 100000 in
theorem ot_78 : ri_okT ri_md md_78 = true := by decide +kernel
set_option maxRecDepth 100000 in
theorem mk_79 : ∃ n, ri_Mk md_79.1 n := ri_mkb2_ok (n := 1) (ic := 1077) (ii := 100) rfl (by decide +kernel)
set_option maxRecDepth 100000 in
theorem ot_79 : ri_okT ri_md md_79 = true := by decide +kernel
set_option maxRecDepth 100000 in
theorem mk_80 : ∃ n, ri_Mk md_80.1 n := ri_mkb2_ok (n := 1) (ic := 742) (ii := 100) rfl (by decide +kernel)
set_option maxRecDepth 100000 in
theorem ot_80 : ri_okT ri_md md_80 = true := by decide +kernel
set_option maxRecDepth 100000 in
theorem mk_81 : ∃ n, ri_Mk md_81.1 n := ri_mkb2_ok (n := 1) (ic := 1084) (ii := 100) rfl (by decide +kernel)
set_option maxRecDepth 100000 in
theorem ot_81 : ri_okT ri_md md_81 = true := by decide +kernel
set_option maxRecDepth 100000 in
theorem mk_82 : ∃ n, ri_Mk md_82.1 n := ri_mkb2_ok (n := 1) (ic := 738) (ii := 100) rfl (by decide +kernel)
set_option maxRecDepth 100000 in
theorem ot_82 : ri_okT ri_md md_82 = true := by decide +kernel
set_option maxRecDepth 100000 in
theorem mk_83 : ∃ n, ri_Mk md_83.1 n := ri_mkb2_ok (n := 2) (ic := 709) (ii := 100) rfl (by decide +kernel)
set_option maxRecDepth 100000 in
theorem ot_83 : ri_okT ri_md md_83 = true := by decide +kernel
set_option maxRecDepth 100000 in
theorem mk_84 : ∃ n, ri_Mk md_84.1 n := ri_mkb2_ok (n := 2) (ic := 699) (ii := 100) rfl (by decide +kernel)
set_option maxRecDepth 100000 in
theorem ot_84 : ri_okT ri_md md_84 = true := by decide +kernel
set_option maxRecDepth 100000 in
theorem mk_85 : ∃ n, ri_Mk md_85.1 n := ri_mkb2_ok (n := 0) (ic := 343) (ii := 108) rfl (by decide +kernel)
set_option maxRecDepth 100000 in
theorem ot_85 : ri_okT ri_md md_85 = true := by decide +kernel
set_option maxRecDepth 100000 in
theorem mk_86 : ∃ n, ri_Mk md_86.1 n := ri_mkb2_ok (n := 0) (ic := 754) (ii := 108) rfl (by decide +kernel)
set_option maxRecDepth 100000 in
theorem ot_86 : ri_okT ri_md md_86 = true := by decide +kernel
set_option maxRecDepth 100000 in
theorem mk_87 : ∃ n, ri_Mk md_87.1 n := ri_mkb2_ok (n := 1) (ic := 1164) (ii := 108) rfl (by decide +kernel)
set_option maxRecDepth 100000 in
theorem ot_87 : ri_okT ri_md md_87 = true := by decide +kernel
set_option maxRecDepth 100000 in
theorem mk_88 : ∃ n, ri_Mk md_88.1 n := ri_mkb2_ok (n := 3) (ic := 1149) (ii := 108) rfl (by decide +kernel)
set_option maxRecDepth 100000 in
theorem ot_88 : ri_okT ri_md md_88 = true := by decide +kernel
set_option maxRecDepth 100000 in
theorem mk_89 : ∃ n, ri_Mk md_89.1 n := ri_mkb2_ok (n := 2) (ic := 1173) (ii := 108) rfl (by decide +kernel)
set_option maxRecDepth 100000 in
theorem ot_89 : ri_okT ri_md md_89 = true := by decide +kernel
set_option maxRecDepth 100000 in
theorem mk_90 : ∃ n, ri_Mk md_90.1 n := ri_mkb2_ok (n := 3) (ic := 1177) (ii := 108) rfl (by decide +kernel)
set_option maxRecDepth 100000 in
theorem ot_90 : ri_okT ri_md md_90 = true := by decide +kernel
set_option maxRecDepth 100000 in
theorem mk_91 : ∃ n, ri_Mk md_91.1 n := ri_mkb2_ok (n := 3) (ic := 1182) (ii := 108) rfl (by decide +kernel)
set_option maxRecDepth 100000 in
theorem ot_91 : ri_okT ri_md md_91 = true := by decide +kernel
set_option maxRecDepth 100000 in
theorem mk_92 : ∃ n, ri_Mk md_92.1 n := ri_mkb2_ok (n := 3) (ic := 1186) (ii := 108) rfl (by decide +kernel)
set_option maxRecDepth 100000 in
theorem ot_92 : ri_okT ri_md md_92 = true := by decide +kernel
set_option maxRecDepth 100000 in
theorem mk_93 : ∃ n, ri_Mk md_93.1 n := ri_mkb2_ok (n := 4) (ic := 1189) (ii := 108) rfl (by decide +kernel)
set_option maxRecDepth 100000 in
theorem ot_93 : ri_okT ri_md md_93 = true := by decide +kernel
set_option maxRecDepth 100000 in
theorem mk_94 : ∃ n, ri_Mk md_94.1 n := ri_mkb2_ok (n := 1) (ic := 337) (ii := 107) rfl (by decide +kernel)
set_option maxRecDepth 100000 in
theorem ot_94 : ri_okT ri_md md_94 = true := by decide +kernel
set_option maxRecDepth 100000 in
theorem mk_95 : ∃ n, ri_Mk md_95.1 n := ri_mkb2_ok (n := 1) (ic := 1132) (ii := 107) rfl (by decide +kernel)
set_option maxRecDepth 100000 in
theorem ot_95 : ri_okT ri_md md_95 = true := by decide +kernel
set_option maxRecDepth 100000 in
theorem mk_96 : ∃ n, ri_Mk md_96.1 n := ri_mkb2_ok (n := 2) (ic := 1137) (ii := 107) rfl (by decide +kernel)
set_option maxRecDepth 100000 in
theorem ot_96 : ri_okT ri_md md_96 = true := by decide +kernel
set_option maxRecDepth 100000 in
theorem mk_97 : ∃ n, ri_Mk md_97.1 n := ri_mkb2_ok (n := 2) (ic := 1141) (ii := 107) rfl (by decide +kernel)
set_option maxRecDepth 100000 in
theorem ot_97 : ri_okT ri_md md_97 = true := by decide +kernel
set_option maxRecDepth 100000 in
theorem mk_98 : ∃ n, ri_Mk md_98.1 n := ri_mkb2_ok (n := 2) (ic := 1158) (ii := 107) rfl (by decide +kernel)
set_option maxRecDepth 100000 in
theorem ot_98 : ri_okT ri_md md_98 = true := by decide +kernel
set_option maxRecDepth 100000 in
theorem mk_99 : ∃ n, ri_Mk md_99.1 n := ri_mkb2_ok (n := 1) (ic := 1153) (ii := 107) rfl (by decide +kernel)
set_option maxRecDepth 100000 in
theorem ot_99 : ri_okT ri_md md_99 = true := by decide +kernel
set_option maxRecDepth 100000 in
theorem mk_100 : ∃ n, ri_Mk md_100.1 n := ri_mkb2_ok (n := 0) (ic := 127) (ii := 99) rfl (by decide +kernel)
set_option maxRecDepth 100000 in
theorem ot_100 : ri_okT ri_md md_100 = true := by decide +kernel
set_option maxRecDepth 100000 in
theorem mk_101 : ∃ n, ri_Mk md_101.1 n := ri_mkb2_ok (n := 5) (ic := 622) (ii := 99) rfl (by decide +kernel)
set_option maxRecDepth 100000 in
theorem ot_101 : ri_okT ri_md md_101 = true := by decide +kernel
set_option maxRecDepth 100000 in
theorem mk_102 : ∃ n, ri_Mk md_102.1 n := ri_mkb2_ok (n := 1) (ic := 626) (ii := 99) rfl (by decide +kernel)
set_option maxRecDepth 100000 in
theorem ot_102 : ri_okT ri_md md_102 = true := by decide +kernel
set_option maxRecDepth 100000 in
theorem mk_103 : ∃ n, ri_Mk md_103.1 n := ri_mkb2_ok (n := 1) (ic := 630) (ii := 99) rfl (by decide +kernel)
set_option maxRecDepth 100000 in
theorem ot_103 : ri_okT ri_md md_103 = true := by decide +kernel
set_option maxRecDepth 100000 in
theorem mk_104 : ∃ n, ri_Mk md_104.1 n := ri_mkb2_ok (n := 0) (ic := 634) (ii := 99) rfl (by decide +kernel)
set_option maxRecDepth 100000 in
theorem ot_104 : ri_okT ri_md md_104 = true := by decide +kernel
set_option maxRecDepth 100000 in
theorem mk_105 : ∃ n, ri_Mk md_105.1 n := ri_mkb2_ok (n := 1) (ic := 638) (ii := 99) rfl (by decide +kernel)
set_option maxRecDepth 100000 in
theorem ot_105 : ri_okT ri_md md_105 = true := by decide +kernel
set_option maxRecDepth 100000 in
theorem mk_106 : ∃ n, ri_Mk md_106.1 n := ri_mkb2_ok (n := 0) (ic := 762) (ii := 99) rfl (by decide +kernel)
set_option maxRecDepth 100000 in
theorem ot_106 : ri_okT ri_md md_106 = true := by decide +kernel
set_option maxRecDepth 100000 in
theorem mk_107 : ∃ n, ri_Mk md_107.1 n := ri_mkb2_ok (n := 2) (ic := 1212) (ii := 99) rfl (by decide +kernel)
set_option maxRecDepth 100000 in
theorem ot_107 : ri_okT ri_md md_107 = true := by decide +kernel
set_option maxRecDepth 100000 in
theorem mk_108 : ∃ n, ri_Mk md_108.1 n := ri_mkb2_ok (n := 2) (ic := 766) (ii := 99) rfl (by decide +kernel)
set_option maxRecDepth 100000 in
theorem ot_108 : ri_okT ri_md md_108 = true := by decide +kernel
set_option maxRecDepth 100000 in
theorem mk_109 : ∃ n, ri_Mk md_109.1 n := ri_mkb2_ok (n := 2) (ic := 774) (ii := 99) rfl (by decide +kernel)
set_option maxRecDepth 100000 in
theorem ot_109 : ri_okT ri_md md_109 = true := by decide +kernel
set_option maxRecDepth 100000 in
theorem mk_110 : ∃ n, ri_Mk md_110.1 n := ri_mkb2_ok (n := 1) (ic := 778) (ii := 99) rfl (by decide +kernel)
set_option maxRecDepth 100000 in
theorem ot_110 : ri_okT ri_md md_110 = true := by decide +kernel
set_option maxRecDepth 100000 in
theorem mk_111 : ∃ n, ri_Mk md_111.1 n := ri_mkb2_ok (n := 1) (ic := 790) (ii := 99) rfl (by decide +kernel)
set_option maxRecDepth 100000 in
theorem ot_111 : ri_okT ri_md md_111 = true := by decide +kernel
set_option maxRecDepth 100000 in
theorem mk_112 : ∃ n, ri_Mk md_112.1 n := ri_mkb2_ok (n := 2) (ic := 802) (ii := 99) rfl (by decide +kernel)
set_option maxRecDepth 100000 in
theorem ot_112 : ri_okT ri_md md_112 = true := by decide +kernel
set_option maxRecDepth 100000 in
theorem mk_113 : ∃ n, ri_Mk md_113.1 n := ri_mkb2_ok (n := 1) (ic := 825) (ii := 99) rfl (by decide +kernel)
set_option maxRecDepth 100000 in
theorem ot_113 : ri_okT ri_md md_113 = true := by decide +kernel
set_option maxRecDepth 100000 in
theorem mk_114 : ∃ n, ri_Mk md_114.1 n := ri_mkb2_ok (n := 2) (ic := 848) (ii := 99) rfl (by decide +kernel)
set_option maxRecDepth 100000 in
theorem ot_114 : ri_okT ri_md md_114 = true := by decide +kernel
set_option maxRecDepth 100000 in
theorem mk_115 : ∃ n, ri_Mk md_115.1 n := ri_mkb2_ok (n := 1) (ic := 861) (ii := 99) rfl (by decide +kernel)
set_option maxRecDepth 100000 in
theorem ot_115 : ri_okT ri_md md_115 = true := by decide +kernel
set_option maxRecDepth 100000 in
theorem mk_116 : ∃ n, ri_Mk md_116.1 n := ri_mkb2_ok (n := 0) (ic := 895) (ii := 99) rfl (by decide +kernel)
set_option maxRecDepth 100000 in
theorem ot_116 : ri_okT ri_md md_116 = true := by decide +kernel
set_option maxRecDepth 100000 in
theorem mk_117 : ∃ n, ri_Mk md_117.1 n := ri_mkb2_ok (n := 2) (ic := 903) (ii := 99) rfl (by decide +kernel)
set_option maxRecDepth 100000 in
theorem ot_117 : ri_okT ri_md md_117 = true := by decide +kernel
set_option maxRecDepth 100000 in
theorem mk_118 : ∃ n, ri_Mk md_118.1 n := ri_mkb2_ok (n := 2) (ic := 912) (ii := 99) rfl (by decide +kernel)
set_option maxRecDepth 100000 in
theorem ot_118 : ri_okT ri_md md_118 = true := by decide +kernel
set_option maxRecDepth 100000 in
theorem mk_119 : ∃ n, ri_Mk md_119.1 n := ri_mkb2_ok (n := 1) (ic := 917) (ii := 99) rfl (by decide +kernel)
set_option maxRecDepth 100000 in
theorem ot_119 : ri_okT ri_md md_119 = true := by decide +kernel
set_option maxRecDepth 100000 in
theorem mk_120 : ∃ n, ri_Mk md_120.1 n := ri_mkb2_ok (n := 1) (ic := 921) (ii := 99) rfl (by decide +kernel)
set_option maxRecDepth 100000 in
theorem ot_120 : ri_okT ri_md md_120 = true := by decide +kernel
set_option maxRecDepth 100000 in
theorem mk_121 : ∃ n, ri_Mk md_121.1 n := ri_mkb2_ok (n := 0) (ic := 925) (ii := 99) rfl (by decide +kernel)
set_option maxRecDepth 100000 in
theorem ot_121 : ri_okT ri_md md_121 = true := by decide +kernel
set_option maxRecDepth 100000 in
theorem mk_122 : ∃ n, ri_Mk md_122.1 n := ri_mkb2_ok (n := 0) (ic := 967) (ii := 99) rfl (by decide +kernel)
set_option maxRecDepth 100000 in
theorem ot_122 : ri_okT ri_md md_122 = true := by decide +kernel
set_option maxRecDepth 100000 in
theorem mk_123 : ∃ n, ri_Mk md_123.1 n := ri_mkb2_ok (n := 0) (ic := 971) (ii := 99) rfl (by decide +kernel)
set_option maxRecDepth 100000 in
theorem ot_123 : ri_okT ri_md md_123 = true := by decide +kernel
set_option maxRecDepth 100000 in
theorem mk_124 : ∃ n, ri_Mk md_124.1 n := ri_mkb2_ok (n := 0) (ic := 975) (ii := 99) rfl (by decide +kernel)
set_option maxRecDepth 100000 in
theorem ot_124 : ri_okT ri_md md_124 = true := by decide +kernel
set_option maxRecDepth 100000 in
theorem mk_125 : ∃ n, ri_Mk md_125.1 n := ri_mkb2_ok (n := 1) (ic := 979) (ii := 99) rfl (by decide +kernel)
set_option maxRecDepth 100000 in
theorem ot_125 : ri_okT ri_md md_125 = true := by decide +kernel
