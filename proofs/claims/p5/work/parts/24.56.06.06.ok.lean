set_option maxRecDepth 100000 in
theorem mk_242 : ∃ n, ri_Mk md_242.1 n := ri_mkb2_ok (n := 3) (ic := 1849) (ii := 115) rfl (by decide +kernel)
set_option maxRecDepth 100000 in
theorem ot_242 : ri_okT ri_md md_242 = true := by decide +kernel
set_option maxRecDepth 100000 in
theorem mk_243 : ∃ n, ri_Mk md_243.1 n := ri_mkb2_ok (n := 1) (ic := 1853) (ii := 115) rfl (by decide +kernel)
set_option maxRecDepth 100000 in
theorem ot_243 : ri_okT ri_md md_243 = true := by decide +kernel
set_option maxRecDepth 100000 in
theorem mk_244 : ∃ n, ri_Mk md_244.1 n := ri_mkb2_ok (n := 0) (ic := 1845) (ii := 115) rfl (by decide +kernel)
set_option maxRecDepth 100000 in
theorem ot_244 : ri_okT ri_md md_244 = true := by decide +kernel
set_option maxRecDepth 100000 in
theorem mk_245 : ∃ n, ri_Mk md_245.1 n := ri_mkb2_ok (n := 0) (ic := 1865) (ii := 115) rfl (by decide +kernel)
set_option maxRecDepth 100000 in
theorem ot_245 : ri_okT ri_md md_245 = true := by decide +kernel
set_option maxRecDepth 100000 in
theorem mk_246 : ∃ n, ri_Mk md_246.1 n := ri_mkb2_ok (n := 0) (ic := 1861) (ii := 115) rfl (by decide +kernel)
set_option maxRecDepth 100000 in
theorem ot_246 : ri_okT ri_md md_246 = true := by decide +kernel
set_option maxRecDepth 100000 in
theorem mk_247 : ∃ n, ri_Mk md_247.1 n := ri_mkb2_ok (n := 0) (ic := 1857) (ii := 115) rfl (by decide +kernel)
set_option maxRecDepth 100000 in
theorem ot_247 : ri_okT ri_md md_247 = true := by decide +kernel
set_option maxRecDepth 100000 in
theorem mk_248 : ∃ n, ri_Mk md_248.1 n := ri_mkb2_ok (n := 0) (ic := 1841) (ii := 115) rfl (by decide +kernel)
set_option maxRecDepth 100000 in
theorem ot_248 : ri_okT ri_md md_248 = true := by decide +kernel
set_option maxRecDepth 100000 in
theorem mk_249 : ∃ n, ri_Mk md_249.1 n := ri_mkb2_ok (n := 4) (ic := 1877) (ii := 115) rfl (by decide +kernel)
set_option maxRecDepth 100000 in
theorem ot_249 : ri_okT ri_md md_249 = true := by decide +kernel
set_option maxRecDepth 100000 in
theorem mk_250 : ∃ n, ri_Mk md_250.1 n := ri_mkb2_ok (n := 1) (ic := 1873) (ii := 115) rfl (by decide +kernel)
set_option maxRecDepth 100000 in
theorem ot_250 : ri_okT ri_md md_250 = true := by decide +kernel
set_option maxRecDepth 100000 in
theorem mk_251 : ∃ n, ri_Mk md_251.1 n := ri_mkb2_ok (n := 1) (ic := 1869) (ii := 115) rfl (by decide +kernel)
set_option maxRecDepth 100000 in
theorem ot_251 : ri_okT ri_md md_251 = true := by decide +kernel
set_option maxRecDepth 100000 in
theorem mk_252 : ∃ n, ri_Mk md_252.1 n := ri_mkb2_ok (n := 1) (ic := 1881) (ii := 115) rfl (by decide +kernel)
set_option maxRecDepth 100000 in
theorem ot_252 : ri_okT ri_md md_252 = true := by decide +kernel
set_option maxRecDepth 100000 in
theorem mk_253 : ∃ n, ri_Mk md_253.1 n := ri_mkb2_ok (n := 1) (ic := 1885) (ii := 115) rfl (by decide +kernel)
set_option maxRecDepth 100000 in
theorem ot_253 : ri_okT ri_md md_253 = true := by decide +kernel
set_option maxRecDepth 100000 in
theorem mk_254 : ∃ n, ri_Mk md_254.1 n := ri_mkb2_ok (n := 1) (ic := 1889) (ii := 115) rfl (by decide +kernel)
set_option maxRecDepth 100000 in
theorem ot_254 : ri_okT ri_md md_254 = true := by decide +kernel
set_option maxRecDepth 100000 in
theorem mk_255 : ∃ n, ri_Mk md_255.1 n := ri_mkb2_ok (n := 2) (ic := 1192) (ii := 122) rfl (by decide +kernel)
set_option maxRecDepth 100000 in
theorem ot_255 : ri_okT ri_md md_255 = true := by decide +kernel
set_option maxRecDepth 100000 in
theorem mk_256 : ∃ n, ri_Mk md_256.1 n := ri_mkb2_ok (n := 0) (ic := 141) (ii := 101) rfl (by decide +kernel)
set_option maxRecDepth 100000 in
theorem ot_256 : ri_okT ri_md md_256 = true := by decide +kernel
set_option maxRecDepth 100000 in
theorem mk_257 : ∃ n, ri_Mk md_257.1 n := ri_mkb2_ok (n := 1) (ic := 151) (ii := 101) rfl (by decide +kernel)
set_option maxRecDepth 100000 in
theorem ot_257 : ri_okT ri_md md_257 = true := by decide +kernel
set_option maxRecDepth 100000 in
theorem mk_258 : ∃ n, ri_Mk md_258.1 n := ri_mkb2_ok (n := 0) (ic := 145) (ii := 101) rfl (by decide +kernel)
set_option maxRecDepth 100000 in
theorem ot_258 : ri_okT ri_md md_258 = true := by decide +kernel
set_option maxRecDepth 100000 in
theorem mk_259 : ∃ n, ri_Mk md_259.1 n := ri_mkb2_ok (n := 0) (ic := 155) (ii := 101) rfl (by decide +kernel)
set_option maxRecDepth 100000 in
theorem ot_259 : ri_okT ri_md md_259 = true := by decide +kernel
set_option maxRecDepth 100000 in
theorem mk_260 : ∃ n, ri_Mk md_260.1 n := ri_mkb2_ok (n := 2) (ic := 161) (ii := 101) rfl (by decide +kernel)
set_option maxRecDepth 100000 in
theorem ot_260 : ri_okT ri_md md_260 = true := by decide +kernel
set_option maxRecDepth 100000 in
theorem mk_261 : ∃ n, ri_Mk md_261.1 n := ri_mkb2_ok (n := 2) (ic := 158) (ii := 102) rfl (by decide +kernel)
set_option maxRecDepth 100000 in
theorem ot_261 : ri_okT ri_md md_261 = true := by decide +kernel
set_option maxRecDepth 100000 in
theorem mk_262 : ∃ n, ri_Mk md_262.1 n := ri_mkb2_ok (n := 2) (ic := 179) (ii := 104) rfl (by decide +kernel)
set_option maxRecDepth 100000 in
theorem ot_262 : ri_okT ri_md md_262 = true := by decide +kernel
set_option maxRecDepth 100000 in
theorem mk_263 : ∃ n, ri_Mk md_263.1 n := ri_mkb2_ok (n := 1) (ic := 175) (ii := 104) rfl (by decide +kernel)
set_option maxRecDepth 100000 in
theorem ot_263 : ri_okT ri_md md_263 = true := by decide +kernel
set_option maxRecDepth 100000 in
theorem mk_264 : ∃ n, ri_Mk md_264.1 n := ri_mkb2_ok (n := 2) (ic := 169) (ii := 104) rfl (by decide +kernel)
set_option maxRecDepth 100000 in
theorem ot_264 : ri_okT ri_md md_264 = true := by decide +kernel
set_option maxRecDepth 100000 in
theorem mk_265 : ∃ n, ri_Mk md_265.1 n := ri_mkb2_ok (n := 2) (ic := 172) (ii := 104) rfl (by decide +kernel)
set_option maxRecDepth 100000 in
theorem ot_265 : ri_okT ri_md md_265 = true := by decide +kernel
set_option maxRecDepth 100000 in
theorem mk_266 : ∃ n, ri_Mk md_266.1 n := ri_mkb2_ok (n := 3) (ic := 166) (ii := 103) rfl (by decide +kernel)
set_option maxRecDepth 100000 in
theorem ot_266 : ri_okT ri_md md_266 = true := by decide +kernel
