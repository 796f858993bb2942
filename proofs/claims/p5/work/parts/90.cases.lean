/-! the cases of the law -/
def cw : cs_W := [cs_l]
theorem cv_c {i : Nat} {X : sx_X} (h : kc_C2[i]? = some X) (hd : X.2.2.2.1 < 30) : sx_Vd kc_G (sx_Jg kc_gd) ri_md X := kc_all 30 i X h hd
theorem cv_m {i : Nat} {X : sx_X} (h : km_CT[i]? = some X) (hd : X.2.2.2.1 < 30) : sx_Vd km_G (mj_J km_gd) ri_md X := km_all 30 i X h hd
theorem cv_1 {G : sx_G} {J : Nat → ri_H → Prop} : ∀ (k : Nat) (Y : sx_X), ([] : List sx_X)[k]? = some Y → ∀ n, Y.2.2.2.1 < n → sx_Vd G J ri_md Y := fun k Y h => by simp at h
theorem cv_a0 : sx_Vd kc_G (sx_Jg kc_gd) ri_md ka_0 := sx_ck_ok (sx_HJg kc_G kc_gd) (fun k Y h hl => cv_1 k Y h _ hl) ck_ka_0
theorem cv_a1 : sx_Vd kc_G (sx_Jg kc_gd) ri_md ka_1 := sx_ck_ok (sx_HJg kc_G kc_gd) (fun k Y h hl => by
  match k, h with
  | 0, h => cases h; exact cv_a0
  | k + 1, h => simp at h) ck_ka_1
theorem cv_a2 : sx_Vd kc_G (sx_Jg kc_gd) ri_md ka_2 := sx_ck_ok (sx_HJg kc_G kc_gd) (fun k Y h hl => cv_1 k Y h _ hl) ck_ka_2
theorem cv_a3 : sx_Vd kc_G (sx_Jg kc_gd) ri_md ka_3 := sx_ck_ok (sx_HJg kc_G kc_gd) (fun k Y h hl => cv_1 k Y h _ hl) ck_ka_3
theorem cv_a4 : sx_Vd kc_G (sx_Jg kc_gd) ri_md ka_4 := sx_ck_ok (sx_HJg kc_G kc_gd) (fun k Y h hl => cv_1 k Y h _ hl) ck_ka_4
theorem cv_a5 : sx_Vd kc_G (sx_Jg kc_gd) ri_md ka_5 := sx_ck_ok (sx_HJg kc_G kc_gd) (fun k Y h hl => cv_c h (Nat.lt_trans hl (by decide))) ck_ka_5
theorem cv_b1 : sx_Vd km_G (mj_J km_gd) ri_md kb_1 := sx_ck_ok (mj_HJ km_G km_gd) (fun k Y h hl => cv_m h (Nat.lt_trans hl (by decide))) ck_kb_1
theorem cv_b2 : sx_Vd km_G (mj_J km_gd) ri_md kb_2 := sx_ck_ok (mj_HJ km_G km_gd) (fun k Y h hl => cv_1 k Y h _ hl) ck_kb_2
theorem cv_b5 : sx_Vd km_G (mj_J km_gd) ri_md kb_5 := sx_ck_ok (mj_HJ km_G km_gd) (fun k Y h hl => cv_1 k Y h _ hl) ck_kb_5
theorem cv_b6 : sx_Vd km_G (mj_J km_gd) ri_md kb_6 := sx_ck_ok (mj_HJ km_G km_gd) (fun k Y h hl => cv_1 k Y h _ hl) ck_kb_6
theorem cv_b7 : sx_Vd km_G (mj_J km_gd) ri_md kb_7 := sx_ck_ok (mj_HJ km_G km_gd) (fun k Y h hl => cv_1 k Y h _ hl) ck_kb_7
theorem cv_56 : ∀ (k : Nat) (Y : sx_X), [kb_5, kb_6][k]? = some Y → sx_Vd km_G (mj_J km_gd) ri_md Y := fun k Y h => by
  match k, h with
  | 0, h => cases h; exact cv_b5
  | 1, h => cases h; exact cv_b6
  | k + 2, h => simp at h
theorem cv_b3 : sx_Vd km_G (mj_J km_gd) ri_md kb_3 := sx_ck_ok (mj_HJ km_G km_gd) (fun k Y h hl => cv_56 k Y h) ck_kb_3
theorem cv_b4 : sx_Vd km_G (mj_J km_gd) ri_md kb_4 := sx_ck_ok (mj_HJ km_G km_gd) (fun k Y h hl => cv_56 k Y h) ck_kb_4
set_option maxRecDepth 100000 in
theorem cv_set : kb_CT = km_CT.set 8 kb_7 := rfl
theorem cv_b8 : sx_Vd km_G (mj_J km_gd) ri_md kb_8 := sx_ck_ok (mj_HJ km_G km_gd) (fun k Y h hl => by
  rw [cv_set] at h
  by_cases e : 8 = k
  · subst e
    rw [List.getElem?_set_self (show 8 < km_CT.length from by rw [km_cov.2]; decide)] at h
    cases h
    exact cv_b7
  · rw [List.getElem?_set_ne e] at h
    exact cv_m h (Nat.lt_trans hl (by decide))) ck_kb_8
section CCS
variable {hc hm t : ri_H} {ys : List Int32}
theorem cc_f {n : Nat} (hn : ys.length = n) : sx_P (List.replicate n ((-2147483648 : Int), (2147483647 : Int))) (ys.map Int32.toInt) := by
  have := cs_full ys
  rw [hn] at this
  exact this
set_option maxRecDepth 100000 in
theorem cko_2 : cs_ok0 cw 104 172 0 kc_247 km_345 = true := by decide +kernel
set_option maxRecDepth 100000 in
theorem cq_2 : cs_lkc kc_247 = true ∧ cs_lkm km_345 = true := by decide +kernel
set_option maxRecDepth 100000 in
theorem cc_2 (HL : cs_L cw hc hm) (hn : ys.length = 0) : cs_R (fun a b => a = b) cw 104 172 ys hc hm t := by
  obtain rfl := List.length_eq_zero_iff.mp hn
  exact cs_pairQ HL (cv_c (i := 247) rfl (by decide)) (cv_m (i := 345) rfl (by decide)) cko_2 hn (cc_f hn) _ (fun _ _ _ _ l c1 c2 K1 K2 => cs_lakeQ HL (by decide) cq_2.1 cq_2.2 l c1 c2 K1 K2)
set_option maxRecDepth 100000 in
theorem cko_3 : cs_ok cw 106 173 0 kc_103 km_77 = true := by decide +kernel
set_option maxRecDepth 100000 in
theorem cc_3 (HL : cs_L cw hc hm) (hn : ys.length = 0) : cs_R (fun a b => a = b) cw 106 173 ys hc hm t := cs_fault HL hn (cs_pair HL (cv_c (i := 103) rfl (by decide)) (cv_m (i := 77) rfl (by decide)) cko_3 hn (cc_f hn))
set_option maxRecDepth 100000 in
theorem cko_5 : cs_ok cw 108 186 2 kc_140 km_277 = true := by decide +kernel
set_option maxRecDepth 100000 in
theorem cc_5 (HL : cs_L cw hc hm) (hn : ys.length = 2) : cs_R (fun a b => a = b) cw 108 186 ys hc hm t := cs_step HL hn (cs_pair HL (cv_c (i := 140) rfl (by decide)) (cv_m (i := 277) rfl (by decide)) cko_5 hn (cc_f hn))
set_option maxRecDepth 100000 in
theorem cko_6 : cs_ok cw 109 187 2 kc_141 km_278 = true := by decide +kernel
set_option maxRecDepth 100000 in
theorem cc_6 (HL : cs_L cw hc hm) (hn : ys.length = 2) : cs_R (fun _ _ => True) cw 109 187 ys hc hm t := cs_pair HL (cv_c (i := 141) rfl (by decide)) (cv_m (i := 278) rfl (by decide)) cko_6 hn (cc_f hn)
set_option maxRecDepth 100000 in
theorem cko_7 : cs_ok cw 110 188 1 kc_142 km_279 = true := by decide +kernel
set_option maxRecDepth 100000 in
theorem cc_7 (HL : cs_L cw hc hm) (hn : ys.length = 1) : cs_R (fun _ _ => True) cw 110 188 ys hc hm t := cs_pair HL (cv_c (i := 142) rfl (by decide)) (cv_m (i := 279) rfl (by decide)) cko_7 hn (cc_f hn)
set_option maxRecDepth 100000 in
theorem cko_8 : cs_ok cw 111 189 1 kc_143 km_280 = true := by decide +kernel
set_option maxRecDepth 100000 in
theorem cc_8 (HL : cs_L cw hc hm) (hn : ys.length = 1) : cs_R (fun _ _ => True) cw 111 189 ys hc hm t := cs_pair HL (cv_c (i := 143) rfl (by decide)) (cv_m (i := 280) rfl (by decide)) cko_8 hn (cc_f hn)
set_option maxRecDepth 100000 in
theorem cko_9 : cs_ok cw 112 205 2 kc_187 km_323 = true := by decide +kernel
set_option maxRecDepth 100000 in
theorem cc_9 (HL : cs_L cw hc hm) (hn : ys.length = 2) : cs_R (fun _ _ => True) cw 112 205 ys hc hm t := cs_pair HL (cv_c (i := 187) rfl (by decide)) (cv_m (i := 323) rfl (by decide)) cko_9 hn (cc_f hn)
set_option maxRecDepth 100000 in
theorem cko_10 : cs_ok cw 113 206 1 kc_218 km_331 = true := by decide +kernel
set_option maxRecDepth 100000 in
theorem cc_10 (HL : cs_L cw hc hm) (hn : ys.length = 1) : cs_R (fun _ _ => True) cw 113 206 ys hc hm t := cs_pair HL (cv_c (i := 218) rfl (by decide)) (cv_m (i := 331) rfl (by decide)) cko_10 hn (cc_f hn)
set_option maxRecDepth 100000 in
theorem cko_11 : cs_ok cw 114 207 2 kc_188 km_324 = true := by decide +kernel
set_option maxRecDepth 100000 in
theorem cc_11 (HL : cs_L cw hc hm) (hn : ys.length = 2) : cs_R (fun _ _ => True) cw 114 207 ys hc hm t := cs_pair HL (cv_c (i := 188) rfl (by decide)) (cv_m (i := 324) rfl (by decide)) cko_11 hn (cc_f hn)
set_option maxRecDepth 100000 in
theorem cko_12 : cs_ok cw 115 208 1 kc_230 km_332 = true := by decide +kernel
set_option maxRecDepth 100000 in
theorem cc_12 (HL : cs_L cw hc hm) (hn : ys.length = 1) : cs_R (fun _ _ => True) cw 115 208 ys hc hm t := cs_pair HL (cv_c (i := 230) rfl (by decide)) (cv_m (i := 332) rfl (by decide)) cko_12 hn (cc_f hn)
set_option maxRecDepth 100000 in
theorem cko_13 : cs_ok cw 116 210 0 kc_189 km_87 = true := by decide +kernel
set_option maxRecDepth 100000 in
theorem cc_13 (HL : cs_L cw hc hm) (hn : ys.length = 0) : cs_R (fun _ _ => True) cw 116 210 ys hc hm t := cs_pair HL (cv_c (i := 189) rfl (by decide)) (cv_m (i := 87) rfl (by decide)) cko_13 hn (cc_f hn)
set_option maxRecDepth 100000 in
theorem cko_14 : cs_ok cw 117 213 2 kc_190 km_333 = true := by decide +kernel
set_option maxRecDepth 100000 in
theorem cc_14 (HL : cs_L cw hc hm) (hn : ys.length = 2) : cs_R (fun a b => a = b) cw 117 213 ys hc hm t := cs_does HL hn (cs_pair HL (cv_c (i := 190) rfl (by decide)) (cv_m (i := 333) rfl (by decide)) cko_14 hn (cc_f hn))
set_option maxRecDepth 100000 in
theorem cko_15 : cs_ok cw 118 214 2 kc_191 km_334 = true := by decide +kernel
set_option maxRecDepth 100000 in
theorem cc_15 (HL : cs_L cw hc hm) (hn : ys.length = 2) : cs_R (fun a b => a = b) cw 118 214 ys hc hm t := cs_waves HL hn (cs_pair HL (cv_c (i := 191) rfl (by decide)) (cv_m (i := 334) rfl (by decide)) cko_15 hn (cc_f hn))
set_option maxRecDepth 100000 in
theorem cko_16 : cs_ok cw 119 215 1 kc_192 km_335 = true := by decide +kernel
set_option maxRecDepth 100000 in
theorem cc_16 (HL : cs_L cw hc hm) (hn : ys.length = 1) : cs_R (fun _ _ => True) cw 119 215 ys hc hm t := cs_pair HL (cv_c (i := 192) rfl (by decide)) (cv_m (i := 335) rfl (by decide)) cko_16 hn (cc_f hn)
set_option maxRecDepth 100000 in
theorem cko_17 : cs_ok cw 120 216 1 kc_193 km_336 = true := by decide +kernel
set_option maxRecDepth 100000 in
theorem cc_17 (HL : cs_L cw hc hm) (hn : ys.length = 1) : cs_R (fun _ _ => True) cw 120 216 ys hc hm t := cs_pair HL (cv_c (i := 193) rfl (by decide)) (cv_m (i := 336) rfl (by decide)) cko_17 hn (cc_f hn)
set_option maxRecDepth 100000 in
theorem cko_18 : cs_ok0 cw 121 219 0 kc_239 km_346 = true := by decide +kernel
set_option maxRecDepth 100000 in
theorem cq_18 : cs_lnk kc_239 km_346 = true := by decide +kernel
set_option maxRecDepth 100000 in
theorem cc_18 (HL : cs_L cw hc hm) (hn : ys.length = 0) : cs_R (fun a b => a = b) cw 121 219 ys hc hm t := by
  obtain rfl := List.length_eq_zero_iff.mp hn
  exact cs_pairQ HL (cv_c (i := 239) rfl (by decide)) (cv_m (i := 346) rfl (by decide)) cko_18 hn (cc_f hn) _ (fun _ _ _ _ l c1 c2 K1 K2 => cs_lrnQ HL (by decide) cq_18 l c1 c2 K1 K2)
set_option maxRecDepth 100000 in
theorem cko_19 : cs_ok cw 122 220 0 kc_104 km_92 = true := by decide +kernel
set_option maxRecDepth 100000 in
theorem cc_19 (HL : cs_L cw hc hm) (hn : ys.length = 0) : cs_R (fun a b => a = b) cw 122 220 ys hc hm t := cs_surely HL hn (cs_pair HL (cv_c (i := 104) rfl (by decide)) (cv_m (i := 92) rfl (by decide)) cko_19 hn (cc_f hn))
set_option maxRecDepth 100000 in
theorem cko_20 : cs_ok cw 123 221 0 kc_105 km_93 = true := by decide +kernel
set_option maxRecDepth 100000 in
theorem cc_20 (HL : cs_L cw hc hm) (hn : ys.length = 0) : cs_R (fun a b => a = b) cw 123 221 ys hc hm t := cs_never HL hn (cs_pair HL (cv_c (i := 105) rfl (by decide)) (cv_m (i := 93) rfl (by decide)) cko_20 hn (cc_f hn))
set_option maxRecDepth 100000 in
theorem cko_21 : cs_ok cw 124 222 0 kc_106 km_94 = true := by decide +kernel
set_option maxRecDepth 100000 in
theorem cc_21 (HL : cs_L cw hc hm) (hn : ys.length = 0) : cs_R (fun a b => a = b) cw 124 222 ys hc hm t := cs_ask HL hn (cs_pair HL (cv_c (i := 106) rfl (by decide)) (cv_m (i := 94) rfl (by decide)) cko_21 hn (cc_f hn))
set_option maxRecDepth 100000 in
theorem cko_22 : cs_ok cw 125 224 1 kc_219 km_338 = true := by decide +kernel
set_option maxRecDepth 100000 in
theorem cc_22 (HL : cs_L cw hc hm) (hn : ys.length = 1) : cs_R (fun _ _ => True) cw 125 224 ys hc hm t := cs_pair HL (cv_c (i := 219) rfl (by decide)) (cv_m (i := 338) rfl (by decide)) cko_22 hn (cc_f hn)
set_option maxRecDepth 100000 in
theorem cko_23 : cs_ok cw 127 225 0 kc_107 km_95 = true := by decide +kernel
set_option maxRecDepth 100000 in
theorem cc_23 (HL : cs_L cw hc hm) (hn : ys.length = 0) : cs_R (fun _ _ => True) cw 127 225 ys hc hm t := cs_pair HL (cv_c (i := 107) rfl (by decide)) (cv_m (i := 95) rfl (by decide)) cko_23 hn (cc_f hn)
set_option maxRecDepth 100000 in
theorem cko_24 : cs_ok cw 128 228 1 kc_144 km_286 = true := by decide +kernel
set_option maxRecDepth 100000 in
theorem cc_24 (HL : cs_L cw hc hm) (hn : ys.length = 1) : cs_R (fun a b => a = b) cw 128 228 ys hc hm t := cs_apart HL hn (cs_pair HL (cv_c (i := 144) rfl (by decide)) (cv_m (i := 286) rfl (by decide)) cko_24 hn (cc_f hn))
set_option maxRecDepth 100000 in
theorem cko_25 : cs_ok cw 131 230 1 kc_145 km_287 = true := by decide +kernel
set_option maxRecDepth 100000 in
theorem cc_25 (HL : cs_L cw hc hm) (hn : ys.length = 1) : cs_R (fun _ _ => True) cw 131 230 ys hc hm t := cs_pair HL (cv_c (i := 145) rfl (by decide)) (cv_m (i := 287) rfl (by decide)) cko_25 hn (cc_f hn)
set_option maxRecDepth 100000 in
theorem cko_26 : cs_ok cw 132 231 1 kc_146 km_288 = true := by decide +kernel
set_option maxRecDepth 100000 in
theorem cc_26 (HL : cs_L cw hc hm) (hn : ys.length = 1) : cs_R (fun _ _ => True) cw 132 231 ys hc hm t := cs_pair HL (cv_c (i := 146) rfl (by decide)) (cv_m (i := 288) rfl (by decide)) cko_26 hn (cc_f hn)
set_option maxRecDepth 100000 in
theorem cko_27 : cs_ok cw 133 232 1 kc_147 km_289 = true := by decide +kernel
set_option maxRecDepth 100000 in
theorem cc_27 (HL : cs_L cw hc hm) (hn : ys.length = 1) : cs_R (fun _ _ => True) cw 133 232 ys hc hm t := cs_pair HL (cv_c (i := 147) rfl (by decide)) (cv_m (i := 289) rfl (by decide)) cko_27 hn (cc_f hn)
set_option maxRecDepth 100000 in
theorem cko_28 : cs_ok cw 134 233 0 kc_196 km_290 = true := by decide +kernel
set_option maxRecDepth 100000 in
theorem cc_28 (HL : cs_L cw hc hm) (hn : ys.length = 0) : cs_R (fun _ _ => True) cw 134 233 ys hc hm t := cs_pair HL (cv_c (i := 196) rfl (by decide)) (cv_m (i := 290) rfl (by decide)) cko_28 hn (cc_f hn)
set_option maxRecDepth 100000 in
theorem cko_29 : cs_ok cw 129 229 1 kc_220 km_351 = true := by decide +kernel
set_option maxRecDepth 100000 in
theorem cc_29 (HL : cs_L cw hc hm) (hn : ys.length = 1) : cs_R (fun a b => a = b) cw 129 229 ys hc hm t := cs_still HL hn (cs_pair HL (cv_c (i := 220) rfl (by decide)) (cv_m (i := 351) rfl (by decide)) cko_29 hn (cc_f hn))
set_option maxRecDepth 100000 in
theorem cko_30 : cs_ok cw 135 236 2 kc_244 km_348 = true := by decide +kernel
set_option maxRecDepth 100000 in
theorem cc_30 (HL : cs_L cw hc hm) (hn : ys.length = 2) : cs_R (fun _ _ => True) cw 135 236 ys hc hm t := cs_pair HL (cv_c (i := 244) rfl (by decide)) (cv_m (i := 348) rfl (by decide)) cko_30 hn (cc_f hn)
set_option maxRecDepth 100000 in
theorem cko_31 : cs_ok cw 136 237 3 kc_245 km_349 = true := by decide +kernel
set_option maxRecDepth 100000 in
theorem cc_31 (HL : cs_L cw hc hm) (hn : ys.length = 3) : cs_R (fun _ _ => True) cw 136 237 ys hc hm t := cs_pair HL (cv_c (i := 245) rfl (by decide)) (cv_m (i := 349) rfl (by decide)) cko_31 hn (cc_f hn)
set_option maxRecDepth 100000 in
theorem cko_33 : cs_ok cw 138 241 1 kc_109 km_213 = true := by decide +kernel
set_option maxRecDepth 100000 in
theorem cc_33 (HL : cs_L cw hc hm) (hn : ys.length = 1) : cs_R (fun _ _ => True) cw 138 241 ys hc hm t := cs_pair HL (cv_c (i := 109) rfl (by decide)) (cv_m (i := 213) rfl (by decide)) cko_33 hn (cc_f hn)
set_option maxRecDepth 100000 in
theorem cko_34 : cs_ok0 cw 139 248 0 kc_262 km_328 = true := by decide +kernel
set_option maxRecDepth 100000 in
theorem cq_34 : cs_q2k kc_262 km_328 = true := by decide +kernel
set_option maxRecDepth 100000 in
theorem cc_34 (HL : cs_L cw hc hm) (hn : ys.length = 0) : cs_R (fun a b => a = b) cw 139 248 ys hc hm t := by
  obtain rfl := List.length_eq_zero_iff.mp hn
  exact cs_pairQ HL (cv_c (i := 262) rfl (by decide)) (cv_m (i := 328) rfl (by decide)) cko_34 hn (cc_f hn) _ (fun _ _ _ _ l c1 c2 K1 K2 => cs_sentQ HL (by decide) cq_34 l c1 c2 K1 K2)
set_option maxRecDepth 100000 in
theorem cko_35 : cs_ok cw 140 251 1 kc_231 km_329 = true := by decide +kernel
set_option maxRecDepth 100000 in
theorem cc_35 (HL : cs_L cw hc hm) (hn : ys.length = 1) : cs_R (fun _ _ => True) cw 140 251 ys hc hm t := cs_pair HL (cv_c (i := 231) rfl (by decide)) (cv_m (i := 329) rfl (by decide)) cko_35 hn (cc_f hn)
set_option maxRecDepth 100000 in
theorem cko_36 : cs_ok0 cw 141 252 1 kc_148 km_223 = true := by decide +kernel
set_option maxRecDepth 100000 in
theorem cq_36 : cs_q0k kc_148 km_223 = true ∧ cs_fk kc_148 = true ∧ cs_fk km_223 = true := by decide +kernel
set_option maxRecDepth 100000 in
theorem cc_36 (HL : cs_L cw hc hm) (hn : ys.length = 1) : cs_R (fun _ _ => True) cw 141 252 ys hc hm t := by
  match ys, hn with
  | [y], hn => exact cs_pairQ HL (cv_c (i := 148) rfl (by decide)) (cv_m (i := 223) rfl (by decide)) cko_36 hn (cc_f hn) _ (fun _ _ _ _ l c1 c2 K1 K2 => ⟨trivial, cs_imgQ HL cq_36.1 cq_36.2.1 cq_36.2.2 l c1 c2 K1 K2⟩)
set_option maxRecDepth 100000 in
theorem cko_37 : cs_ok0 cw 142 253 1 kc_149 km_224 = true := by decide +kernel
set_option maxRecDepth 100000 in
theorem cq_37 : cs_q0k kc_149 km_224 = true ∧ cs_fk kc_149 = true ∧ cs_fk km_224 = true := by decide +kernel
set_option maxRecDepth 100000 in
theorem cc_37 (HL : cs_L cw hc hm) (hn : ys.length = 1) : cs_R (fun _ _ => True) cw 142 253 ys hc hm t := by
  match ys, hn with
  | [y], hn => exact cs_pairQ HL (cv_c (i := 149) rfl (by decide)) (cv_m (i := 224) rfl (by decide)) cko_37 hn (cc_f hn) _ (fun _ _ _ _ l c1 c2 K1 K2 => ⟨trivial, cs_rstQ HL cq_37.1 cq_37.2.1 cq_37.2.2 l c1 c2 K1 K2⟩)
set_option maxRecDepth 100000 in
theorem cko_38 : cs_ok cw 143 254 1 kc_110 km_225 = true := by decide +kernel
set_option maxRecDepth 100000 in
theorem cc_38 (HL : cs_L cw hc hm) (hn : ys.length = 1) : cs_R (fun a b => a = b) cw 143 254 ys hc hm t := cs_cnt HL (by decide) hn (cs_pair HL (cv_c (i := 110) rfl (by decide)) (cv_m (i := 225) rfl (by decide)) cko_38 hn (cc_f hn))
set_option maxRecDepth 100000 in
theorem cc_0 (HL : cs_L cw hc hm) (hn : ys.length = 5) : cs_R (fun a b => a = b) cw 101 145 ys hc hm t := cs_feed (by decide) (by decide +kernel) HL cv_a1 cv_b1 (by decide +kernel) (by decide +kernel) rfl rfl (by decide +kernel) (by decide +kernel) (by decide +kernel) (by decide +kernel) (by decide +kernel) (by decide +kernel) (by decide +kernel) (by decide +kernel) (by decide +kernel) (by decide +kernel) hn
set_option maxRecDepth 100000 in
theorem cc_1 (HL : cs_L cw hc hm) (hn : ys.length = 1) : cs_R (fun a b => a = b) cw 103 147 ys hc hm t := cs_end (by decide) (by decide +kernel) HL cv_a2 cv_b2 (by decide +kernel) (by decide +kernel) rfl rfl (by decide +kernel) hn
set_option maxRecDepth 100000 in
theorem cko_32_3 : cs_ok0 cw 137 240 1 ka_3 kb_3 = true := by decide +kernel
set_option maxRecDepth 100000 in
theorem cq_32_3 : cs_q2k ka_3 kb_3 = true := by decide +kernel
set_option maxRecDepth 100000 in
theorem cko_32_4 : cs_ok0 cw 137 240 1 ka_4 kb_4 = true := by decide +kernel
set_option maxRecDepth 100000 in
theorem cq_32_4 : cs_q2k ka_4 kb_4 = true := by decide +kernel
set_option maxRecDepth 100000 in
theorem cko_32_5 : cs_ok0 cw 137 240 1 ka_5 kb_8 = true := by decide +kernel
set_option maxRecDepth 100000 in
theorem cq_32_5 : cs_q2k ka_5 kb_8 = true := by decide +kernel
theorem cc_32 (HL : cs_L cw hc hm) (hn : ys.length = 1) : cs_R (fun _ _ => True) cw 137 240 ys hc hm t := by
  match ys, hn with
  | [y], hn =>
    have h1 := Int32.le_toInt y
    have h2 := Int32.toInt_lt y
    by_cases c1 : y.toInt < 0
    · exact cs_pairQ HL cv_a3 cv_b3 cko_32_3 hn (show sx_P [(-2147483648, -1)] [y.toInt] from ⟨⟨by omega, by omega⟩, trivial⟩) _ (fun _ _ _ _ l c1 c2 K1 K2 => ⟨trivial, cs_diaQ HL (by decide) cq_32_3 l c1 c2 K1 K2⟩)
    · by_cases c2 : y.toInt < 2
      · exact cs_pairQ HL cv_a5 cv_b8 cko_32_5 hn (show sx_P [(0, 1)] [y.toInt] from ⟨⟨by omega, by omega⟩, trivial⟩) _ (fun _ _ _ _ l c1 c2 K1 K2 => ⟨trivial, cs_diaQ HL (by decide) cq_32_5 l c1 c2 K1 K2⟩)
      · exact cs_pairQ HL cv_a4 cv_b4 cko_32_4 hn (show sx_P [(2, 2147483647)] [y.toInt] from ⟨⟨by omega, by omega⟩, trivial⟩) _ (fun _ _ _ _ l c1 c2 K1 K2 => ⟨trivial, cs_diaQ HL (by decide) cq_32_4 l c1 c2 K1 K2⟩)
set_option maxRecDepth 100000 in
theorem cko_4 : cs_ok1 cw 185 2 km_276 = true := by decide +kernel
set_option maxRecDepth 100000 in
theorem cc_4 (HL : cs_L cw hc hm) (hn : ys.length = 2) : cs_M cw 185 ys hc hm := cs_one HL (cv_m (i := 276) rfl (by decide)) cko_4 hn (cc_f hn)
end CCS
