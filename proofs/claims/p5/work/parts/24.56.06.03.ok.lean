set_option maxRecDepth 100000 in
theorem mk_126 : ∃ n, ri_Mk md_126.1 n := ri_mkb2_ok (n := 2) (ic := 985) (ii := 99) rfl (by decide +kernel)
set_option maxRecDepth 100000 in
theorem ot_126 : ri_okT ri_md md_126 = true := by decide +kernel
set_option maxRecDepth 100000 in
theorem mk_127 : ∃ n, ri_Mk md_127.1 n := ri_mkb2_ok (n := 0) (ic := 993) (ii := 99) rfl (by decide +kernel)
set_option maxRecDepth 100000 in
theorem ot_127 : ri_okT ri_md md_127 = true := by decide +kernel
set_option maxRecDepth 100000 in
theorem mk_128 : ∃ n, ri_Mk md_128.1 n := ri_mkb2_ok (n := 1) (ic := 997) (ii := 99) rfl (by decide +kernel)
set_option maxRecDepth 100000 in
theorem ot_128 : ri_okT ri_md md_128 = true := by decide +kernel
set_option maxRecDepth 100000 in
theorem mk_129 : ∃ n, ri_Mk md_129.1 n := ri_mkb2_ok (n := 1) (ic := 1009) (ii := 99) rfl (by decide +kernel)
set_option maxRecDepth 100000 in
theorem ot_129 : ri_okT ri_md md_129 = true := by decide +kernel
set_option maxRecDepth 100000 in
theorem mk_130 : ∃ n, ri_Mk md_130.1 n := ri_mkb2_ok (n := 2) (ic := 1001) (ii := 99) rfl (by decide +kernel)
set_option maxRecDepth 100000 in
theorem ot_130 : ri_okT ri_md md_130 = true := by decide +kernel
set_option maxRecDepth 100000 in
theorem mk_131 : ∃ n, ri_Mk md_131.1 n := ri_mkb2_ok (n := 1) (ic := 1013) (ii := 99) rfl (by decide +kernel)
set_option maxRecDepth 100000 in
theorem ot_131 : ri_okT ri_md md_131 = true := by decide +kernel
set_option maxRecDepth 100000 in
theorem mk_132 : ∃ n, ri_Mk md_132.1 n := ri_mkb2_ok (n := 1) (ic := 1020) (ii := 99) rfl (by decide +kernel)
set_option maxRecDepth 100000 in
theorem ot_132 : ri_okT ri_md md_132 = true := by decide +kernel
set_option maxRecDepth 100000 in
theorem mk_133 : ∃ n, ri_Mk md_133.1 n := ri_mkb2_ok (n := 1) (ic := 1025) (ii := 99) rfl (by decide +kernel)
set_option maxRecDepth 100000 in
theorem ot_133 : ri_okT ri_md md_133 = true := by decide +kernel
set_option maxRecDepth 100000 in
theorem mk_134 : ∃ n, ri_Mk md_134.1 n := ri_mkb2_ok (n := 0) (ic := 1029) (ii := 99) rfl (by decide +kernel)
set_option maxRecDepth 100000 in
theorem ot_134 : ri_okT ri_md md_134 = true := by decide +kernel
set_option maxRecDepth 100000 in
theorem mk_135 : ∃ n, ri_Mk md_135.1 n := ri_mkb2_ok (n := 2) (ic := 1038) (ii := 99) rfl (by decide +kernel)
set_option maxRecDepth 100000 in
theorem ot_135 : ri_okT ri_md md_135 = true := by decide +kernel
set_option maxRecDepth 100000 in
theorem mk_136 : ∃ n, ri_Mk md_136.1 n := ri_mkb2_ok (n := 3) (ic := 1060) (ii := 99) rfl (by decide +kernel)
set_option maxRecDepth 100000 in
theorem ot_136 : ri_okT ri_md md_136 = true := by decide +kernel
set_option maxRecDepth 100000 in
theorem mk_137 : ∃ n, ri_Mk md_137.1 n := ri_mkb2_ok (n := 1) (ic := 1065) (ii := 99) rfl (by decide +kernel)
set_option maxRecDepth 100000 in
theorem ot_137 : ri_okT ri_md md_137 = true := by decide +kernel
set_option maxRecDepth 100000 in
theorem mk_138 : ∃ n, ri_Mk md_138.1 n := ri_mkb2_ok (n := 1) (ic := 1124) (ii := 99) rfl (by decide +kernel)
set_option maxRecDepth 100000 in
theorem ot_138 : ri_okT ri_md md_138 = true := by decide +kernel
set_option maxRecDepth 100000 in
theorem mk_139 : ∃ n, ri_Mk md_139.1 n := ri_mkb2_ok (n := 0) (ic := 1128) (ii := 99) rfl (by decide +kernel)
set_option maxRecDepth 100000 in
theorem ot_139 : ri_okT ri_md md_139 = true := by decide +kernel
set_option maxRecDepth 100000 in
theorem mk_140 : ∃ n, ri_Mk md_140.1 n := ri_mkb2_ok (n := 1) (ic := 1169) (ii := 99) rfl (by decide +kernel)
set_option maxRecDepth 100000 in
theorem ot_140 : ri_okT ri_md md_140 = true := by decide +kernel
set_option maxRecDepth 100000 in
theorem mk_141 : ∃ n, ri_Mk md_141.1 n := ri_mkb2_ok (n := 1) (ic := 1196) (ii := 99) rfl (by decide +kernel)
set_option maxRecDepth 100000 in
theorem ot_141 : ri_okT ri_md md_141 = true := by decide +kernel
set_option maxRecDepth 100000 in
theorem mk_142 : ∃ n, ri_Mk md_142.1 n := ri_mkb2_ok (n := 1) (ic := 1200) (ii := 99) rfl (by decide +kernel)
set_option maxRecDepth 100000 in
theorem ot_142 : ri_okT ri_md md_142 = true := by decide +kernel
set_option maxRecDepth 100000 in
theorem mk_143 : ∃ n, ri_Mk md_143.1 n := ri_mkb2_ok (n := 1) (ic := 1204) (ii := 99) rfl (by decide +kernel)
set_option maxRecDepth 100000 in
theorem ot_143 : ri_okT ri_md md_143 = true := by decide +kernel
set_option maxRecDepth 100000 in
theorem mk_144 : ∃ n, ri_Mk md_144.1 n := ri_mkb2_ok (n := 1) (ic := 1565) (ii := 115) rfl (by decide +kernel)
set_option maxRecDepth 100000 in
theorem ot_144 : ri_okT ri_md md_144 = true := by decide +kernel
set_option maxRecDepth 100000 in
theorem mk_145 : ∃ n, ri_Mk md_145.1 n := ri_mkb2_ok (n := 5) (ic := 1281) (ii := 115) rfl (by decide +kernel)
set_option maxRecDepth 100000 in
theorem ot_145 : ri_okT ri_md md_145 = true := by decide +kernel
set_option maxRecDepth 100000 in
theorem mk_146 : ∃ n, ri_Mk md_146.1 n := ri_mkb2_ok (n := 1) (ic := 1286) (ii := 115) rfl (by decide +kernel)
set_option maxRecDepth 100000 in
theorem ot_146 : ri_okT ri_md md_146 = true := by decide +kernel
set_option maxRecDepth 100000 in
theorem mk_147 : ∃ n, ri_Mk md_147.1 n := ri_mkb2_ok (n := 1) (ic := 1290) (ii := 115) rfl (by decide +kernel)
set_option maxRecDepth 100000 in
theorem ot_147 : ri_okT ri_md md_147 = true := by decide +kernel
set_option maxRecDepth 100000 in
theorem mk_148 : ∃ n, ri_Mk md_148.1 n := ri_mkb2_ok (n := 1) (ic := 1477) (ii := 115) rfl (by decide +kernel)
set_option maxRecDepth 100000 in
theorem ot_148 : ri_okT ri_md md_148 = true := by decide +kernel
set_option maxRecDepth 100000 in
theorem mk_149 : ∃ n, ri_Mk md_149.1 n := ri_mkb2_ok (n := 3) (ic := 1521) (ii := 115) rfl (by decide +kernel)
set_option maxRecDepth 100000 in
theorem ot_149 : ri_okT ri_md md_149 = true := by decide +kernel
set_option maxRecDepth 100000 in
theorem mk_150 : ∃ n, ri_Mk md_150.1 n := ri_mkb2_ok (n := 2) (ic := 1506) (ii := 115) rfl (by decide +kernel)
set_option maxRecDepth 100000 in
theorem ot_150 : ri_okT ri_md md_150 = true := by decide +kernel
set_option maxRecDepth 100000 in
theorem mk_151 : ∃ n, ri_Mk md_151.1 n := ri_mkb2_ok (n := 2) (ic := 1656) (ii := 115) rfl (by decide +kernel)
set_option maxRecDepth 100000 in
theorem ot_151 : ri_okT ri_md md_151 = true := by decide +kernel
set_option maxRecDepth 100000 in
theorem mk_152 : ∃ n, ri_Mk md_152.1 n := ri_mkb2_ok (n := 1) (ic := 1732) (ii := 115) rfl (by decide +kernel)
set_option maxRecDepth 100000 in
theorem ot_152 : ri_okT ri_md md_152 = true := by decide +kernel
set_option maxRecDepth 100000 in
theorem mk_153 : ∃ n, ri_Mk md_153.1 n := ri_mkb2_ok (n := 0) (ic := 1294) (ii := 115) rfl (by decide +kernel)
set_option maxRecDepth 100000 in
theorem ot_153 : ri_okT ri_md md_153 = true := by decide +kernel
set_option maxRecDepth 100000 in
theorem mk_154 : ∃ n, ri_Mk md_154.1 n := ri_mkb2_ok (n := 0) (ic := 1323) (ii := 115) rfl (by decide +kernel)
set_option maxRecDepth 100000 in
theorem ot_154 : ri_okT ri_md md_154 = true := by decide +kernel
set_option maxRecDepth 100000 in
theorem mk_155 : ∃ n, ri_Mk md_155.1 n := ri_mkb2_ok (n := 0) (ic := 1485) (ii := 115) rfl (by decide +kernel)
set_option maxRecDepth 100000 in
theorem ot_155 : ri_okT ri_md md_155 = true := by decide +kernel
set_option maxRecDepth 100000 in
theorem mk_156 : ∃ n, ri_Mk md_156.1 n := ri_mkb2_ok (n := 1) (ic := 1488) (ii := 115) rfl (by decide +kernel)
set_option maxRecDepth 100000 in
theorem ot_156 : ri_okT ri_md md_156 = true := by decide +kernel
set_option maxRecDepth 100000 in
theorem mk_157 : ∃ n, ri_Mk md_157.1 n := ri_mkb2_ok (n := 1) (ic := 1491) (ii := 115) rfl (by decide +kernel)
set_option maxRecDepth 100000 in
theorem ot_157 : ri_okT ri_md md_157 = true := by decide +kernel
set_option maxRecDepth 100000 in
theorem mk_158 : ∃ n, ri_Mk md_158.1 n := ri_mkb2_ok (n := 0) (ic := 1481) (ii := 115) rfl (by decide +kernel)
set_option maxRecDepth 100000 in
theorem ot_158 : ri_okT ri_md md_158 = true := by decide +kernel
set_option maxRecDepth 100000 in
theorem mk_159 : ∃ n, ri_Mk md_159.1 n := ri_mkb2_ok (n := 1) (ic := 1510) (ii := 115) rfl (by decide +kernel)
set_option maxRecDepth 100000 in
theorem ot_159 : ri_okT ri_md md_159 = true := by decide +kernel
set_option maxRecDepth 100000 in
theorem mk_160 : ∃ n, ri_Mk md_160.1 n := ri_mkb2_ok (n := 1) (ic := 1499) (ii := 115) rfl (by decide +kernel)
set_option maxRecDepth 100000 in
theorem ot_160 : ri_okT ri_md md_160 = true := by decide +kernel
set_option maxRecDepth 100000 in
theorem mk_161 : ∃ n, ri_Mk md_161.1 n := ri_mkb2_ok (n := 1) (ic := 1545) (ii := 115) rfl (by decide +kernel)
set_option maxRecDepth 100000 in
theorem ot_161 : ri_okT ri_md md_161 = true := by decide +kernel
set_option maxRecDepth 100000 in
theorem mk_162 : ∃ n, ri_Mk md_162.1 n := ri_mkb2_ok (n := 1) (ic := 1549) (ii := 115) rfl (by decide +kernel)
set_option maxRecDepth 100000 in
theorem ot_162 : ri_okT ri_md md_162 = true := by decide +kernel
set_option maxRecDepth 100000 in
theorem mk_163 : ∃ n, ri_Mk md_163.1 n := ri_mkb2_ok (n := 0) (ic := 1529) (ii := 115) rfl (by decide +kernel)
set_option maxRecDepth 100000 in
theorem ot_163 : ri_okT ri_md md_163 = true := by decide +kernel
set_option maxRecDepth 100000 in
theorem mk_164 : ∃ n, ri_Mk md_164.1 n := ri_mkb2_ok (n := 2) (ic := 1518) (ii := 115) rfl (by decide +kernel)
set_option maxRecDepth 100000 in
theorem ot_164 : ri_okT ri_md md_164 = true := by decide +kernel
set_option maxRecDepth 100000 in
theorem mk_165 : ∃ n, ri_Mk md_165.1 n := ri_mkb2_ok (n := 3) (ic := 1514) (ii := 115) rfl (by decide +kernel)
set_option maxRecDepth 100000 in
theorem ot_165 : ri_okT ri_md md_165 = true := by decide +kernel
set_option maxRecDepth 100000 in
theorem mk_166 : ∃ n, ri_Mk md_166.1 n := ri_mkb2_ok (n := 2) (ic := 1533) (ii := 115) rfl (by decide +kernel)
set_option maxRecDepth 100000 in
theorem ot_166 : ri_okT ri_md md_166 = true := by decide +kernel
set_option maxRecDepth 100000 in
theorem mk_167 : ∃ n, ri_Mk md_167.1 n := ri_mkb2_ok (n := 1) (ic := 1525) (ii := 115) rfl (by decide +kernel)
set_option maxRecDepth 100000 in
theorem ot_167 : ri_okT ri_md md_167 = true := by decide +kernel
set_option maxRecDepth 100000 in
theorem mk_168 : ∃ n, ri_Mk md_168.1 n := ri_mkb2_ok (n := 2) (ic := 1541) (ii := 115) rfl (by decide +kernel)
set_option maxRecDepth 100000 in
theorem ot_168 : ri_okT ri_md md_168 = true := by decide +kernel
set_option maxRecDepth 100000 in
theorem mk_169 : ∃ n, ri_Mk md_169.1 n := ri_mkb2_ok (n := 1) (ic := 1503) (ii := 115) rfl (by decide +kernel)
set_option maxRecDepth 100000 in
theorem ot_169 : ri_okT ri_md md_169 = true := by decide +kernel
set_option maxRecDepth 100000 in
theorem mk_170 : ∃ n, ri_Mk md_170.1 n := ri_mkb2_ok (n := 0) (ic := 1495) (ii := 115) rfl (by decide +kernel)
set_option maxRecDepth 100000 in
theorem ot_170 : ri_okT ri_md md_170 = true := by decide +kernel
