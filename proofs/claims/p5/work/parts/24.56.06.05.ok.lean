set_option maxRecDepth 100000 in
theorem mk_211 : ∃ n, ri_Mk md_211.1 n := ri_mkb2_ok (n := 0) (ic := 1817) (ii := 115) rfl (by decide +kernel)
set_option maxRecDepth 100000 in
theorem ot_211 : ri_okT ri_md md_211 = true := by decide +kernel
set_option maxRecDepth 100000 in
theorem mk_212 : ∃ n, ri_Mk md_212.1 n := ri_mkb2_ok (n := 0) (ic := 1821) (ii := 115) rfl (by decide +kernel)
set_option maxRecDepth 100000 in
theorem ot_212 : ri_okT ri_md md_212 = true := by decide +kernel
set_option maxRecDepth 100000 in
theorem mk_213 : ∃ n, ri_Mk md_213.1 n := ri_mkb2_ok (n := 2) (ic := 1700) (ii := 115) rfl (by decide +kernel)
set_option maxRecDepth 100000 in
theorem ot_213 : ri_okT ri_md md_213 = true := by decide +kernel
set_option maxRecDepth 100000 in
theorem mk_214 : ∃ n, ri_Mk md_214.1 n := ri_mkb2_ok (n := 2) (ic := 1712) (ii := 115) rfl (by decide +kernel)
set_option maxRecDepth 100000 in
theorem ot_214 : ri_okT ri_md md_214 = true := by decide +kernel
set_option maxRecDepth 100000 in
theorem mk_215 : ∃ n, ri_Mk md_215.1 n := ri_mkb2_ok (n := 1) (ic := 1720) (ii := 115) rfl (by decide +kernel)
set_option maxRecDepth 100000 in
theorem ot_215 : ri_okT ri_md md_215 = true := by decide +kernel
set_option maxRecDepth 100000 in
theorem mk_216 : ∃ n, ri_Mk md_216.1 n := ri_mkb2_ok (n := 1) (ic := 1724) (ii := 115) rfl (by decide +kernel)
set_option maxRecDepth 100000 in
theorem ot_216 : ri_okT ri_md md_216 = true := by decide +kernel
set_option maxRecDepth 100000 in
theorem mk_217 : ∃ n, ri_Mk md_217.1 n := ri_mkb2_ok (n := 1) (ic := 1736) (ii := 115) rfl (by decide +kernel)
set_option maxRecDepth 100000 in
theorem ot_217 : ri_okT ri_md md_217 = true := by decide +kernel
set_option maxRecDepth 100000 in
theorem mk_218 : ∃ n, ri_Mk md_218.1 n := ri_mkb2_ok (n := 1) (ic := 1740) (ii := 115) rfl (by decide +kernel)
set_option maxRecDepth 100000 in
theorem ot_218 : ri_okT ri_md md_218 = true := by decide +kernel
set_option maxRecDepth 100000 in
theorem mk_219 : ∃ n, ri_Mk md_219.1 n := ri_mkb2_ok (n := 0) (ic := 1728) (ii := 115) rfl (by decide +kernel)
set_option maxRecDepth 100000 in
theorem ot_219 : ri_okT ri_md md_219 = true := by decide +kernel
set_option maxRecDepth 100000 in
theorem mk_220 : ∃ n, ri_Mk md_220.1 n := ri_mkb2_ok (n := 0) (ic := 1744) (ii := 115) rfl (by decide +kernel)
set_option maxRecDepth 100000 in
theorem ot_220 : ri_okT ri_md md_220 = true := by decide +kernel
set_option maxRecDepth 100000 in
theorem mk_221 : ∃ n, ri_Mk md_221.1 n := ri_mkb2_ok (n := 0) (ic := 1748) (ii := 115) rfl (by decide +kernel)
set_option maxRecDepth 100000 in
theorem ot_221 : ri_okT ri_md md_221 = true := by decide +kernel
set_option maxRecDepth 100000 in
theorem mk_222 : ∃ n, ri_Mk md_222.1 n := ri_mkb2_ok (n := 0) (ic := 1752) (ii := 115) rfl (by decide +kernel)
set_option maxRecDepth 100000 in
theorem ot_222 : ri_okT ri_md md_222 = true := by decide +kernel
set_option maxRecDepth 100000 in
theorem mk_223 : ∃ n, ri_Mk md_223.1 n := ri_mkb2_ok (n := 1) (ic := 1760) (ii := 115) rfl (by decide +kernel)
set_option maxRecDepth 100000 in
theorem ot_223 : ri_okT ri_md md_223 = true := by decide +kernel
set_option maxRecDepth 100000 in
theorem mk_224 : ∃ n, ri_Mk md_224.1 n := ri_mkb2_ok (n := 1) (ic := 1756) (ii := 115) rfl (by decide +kernel)
set_option maxRecDepth 100000 in
theorem ot_224 : ri_okT ri_md md_224 = true := by decide +kernel
set_option maxRecDepth 100000 in
theorem mk_225 : ∃ n, ri_Mk md_225.1 n := ri_mkb2_ok (n := 0) (ic := 1764) (ii := 115) rfl (by decide +kernel)
set_option maxRecDepth 100000 in
theorem ot_225 : ri_okT ri_md md_225 = true := by decide +kernel
set_option maxRecDepth 100000 in
theorem mk_226 : ∃ n, ri_Mk md_226.1 n := ri_mkb2_ok (n := 3) (ic := 1776) (ii := 115) rfl (by decide +kernel)
set_option maxRecDepth 100000 in
theorem ot_226 : ri_okT ri_md md_226 = true := by decide +kernel
set_option maxRecDepth 100000 in
theorem mk_227 : ∃ n, ri_Mk md_227.1 n := ri_mkb2_ok (n := 2) (ic := 1772) (ii := 115) rfl (by decide +kernel)
set_option maxRecDepth 100000 in
theorem ot_227 : ri_okT ri_md md_227 = true := by decide +kernel
set_option maxRecDepth 100000 in
theorem mk_228 : ∃ n, ri_Mk md_228.1 n := ri_mkb2_ok (n := 1) (ic := 1768) (ii := 115) rfl (by decide +kernel)
set_option maxRecDepth 100000 in
theorem ot_228 : ri_okT ri_md md_228 = true := by decide +kernel
set_option maxRecDepth 100000 in
theorem mk_229 : ∃ n, ri_Mk md_229.1 n := ri_mkb2_ok (n := 1) (ic := 1780) (ii := 115) rfl (by decide +kernel)
set_option maxRecDepth 100000 in
theorem ot_229 : ri_okT ri_md md_229 = true := by decide +kernel
set_option maxRecDepth 100000 in
theorem mk_230 : ∃ n, ri_Mk md_230.1 n := ri_mkb2_ok (n := 1) (ic := 1784) (ii := 115) rfl (by decide +kernel)
set_option maxRecDepth 100000 in
theorem ot_230 : ri_okT ri_md md_230 = true := by decide +kernel
set_option maxRecDepth 100000 in
theorem mk_231 : ∃ n, ri_Mk md_231.1 n := ri_mkb2_ok (n := 1) (ic := 1788) (ii := 115) rfl (by decide +kernel)
set_option maxRecDepth 100000 in
theorem ot_231 : ri_okT ri_md md_231 = true := by decide +kernel
set_option maxRecDepth 100000 in
theorem mk_232 : ∃ n, ri_Mk md_232.1 n := ri_mkb2_ok (n := 1) (ic := 1792) (ii := 115) rfl (by decide +kernel)
set_option maxRecDepth 100000 in
theorem ot_232 : ri_okT ri_md md_232 = true := by decide +kernel
set_option maxRecDepth 100000 in
theorem mk_233 : ∃ n, ri_Mk md_233.1 n := ri_mkb2_ok (n := 0) (ic := 1796) (ii := 115) rfl (by decide +kernel)
set_option maxRecDepth 100000 in
theorem ot_233 : ri_okT ri_md md_233 = true := by decide +kernel
set_option maxRecDepth 100000 in
theorem mk_234 : ∃ n, ri_Mk md_234.1 n := ri_mkb2_ok (n := 1) (ic := 1808) (ii := 115) rfl (by decide +kernel)
set_option maxRecDepth 100000 in
theorem ot_234 : ri_okT ri_md md_234 = true := by decide +kernel
set_option maxRecDepth 100000 in
theorem mk_235 : ∃ n, ri_Mk md_235.1 n := ri_mkb2_ok (n := 2) (ic := 1804) (ii := 115) rfl (by decide +kernel)
set_option maxRecDepth 100000 in
theorem ot_235 : ri_okT ri_md md_235 = true := by decide +kernel
set_option maxRecDepth 100000 in
theorem mk_236 : ∃ n, ri_Mk md_236.1 n := ri_mkb2_ok (n := 2) (ic := 1800) (ii := 115) rfl (by decide +kernel)
set_option maxRecDepth 100000 in
theorem ot_236 : ri_okT ri_md md_236 = true := by decide +kernel
set_option maxRecDepth 100000 in
theorem mk_237 : ∃ n, ri_Mk md_237.1 n := ri_mkb2_ok (n := 3) (ic := 1813) (ii := 115) rfl (by decide +kernel)
set_option maxRecDepth 100000 in
theorem ot_237 : ri_okT ri_md md_237 = true := by decide +kernel
set_option maxRecDepth 100000 in
theorem mk_238 : ∃ n, ri_Mk md_238.1 n := ri_mkb2_ok (n := 0) (ic := 1829) (ii := 115) rfl (by decide +kernel)
set_option maxRecDepth 100000 in
theorem ot_238 : ri_okT ri_md md_238 = true := by decide +kernel
set_option maxRecDepth 100000 in
theorem mk_239 : ∃ n, ri_Mk md_239.1 n := ri_mkb2_ok (n := 3) (ic := 1833) (ii := 115) rfl (by decide +kernel)
set_option maxRecDepth 100000 in
theorem ot_239 : ri_okT ri_md md_239 = true := by decide +kernel
set_option maxRecDepth 100000 in
theorem mk_240 : ∃ n, ri_Mk md_240.1 n := ri_mkb2_ok (n := 1) (ic := 1825) (ii := 115) rfl (by decide +kernel)
set_option maxRecDepth 100000 in
theorem ot_240 : ri_okT ri_md md_240 = true := by decide +kernel
set_option maxRecDepth 100000 in
theorem mk_241 : ∃ n, ri_Mk md_241.1 n := ri_mkb2_ok (n := 1) (ic := 1837) (ii := 115) rfl (by decide +kernel)
set_option maxRecDepth 100000 in
theorem ot_241 : ri_okT ri_md md_241 = true := by decide +kernel
