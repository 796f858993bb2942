theorem cl_0a {d : Nat} {h h' : ri_H} {v : Option Value} {G : eh_W} (E : ri_calE ri_md (d + 1) 25 [.ref 144, .ref 23] h = some (v, h')) (hV : eh_V h = G) (ty : eh_ty tC G) (hl : (eh_N h).take 209 = NCl) : v = none ∧ eh_V h' = eh_u (eh_cp (eh_cp (eh_cp (eh_cp (eh_cp (eh_cp (eh_cp (eh_cp (eh_cp (eh_cp (eh_u (eh_cp G 24 145 5) 144 1 (.int (eh_i G 23 1))) 25 146 4) 26 147 8) 27 148 6) 28 149 8) 29 150 64) 30 151 8) 31 152 6) 32 153 24) 33 154 24) 34 155 24) 144 12 (.int (eh_i G 23 12)) ∧ eh_N h' = eh_N h := by
  obtain ⟨rs, hrs, E⟩ := eh_in E (q := md_25) rfl
  have E := E.ld (p := 1) (t := ri_isA) (i := 1) (n := 1) (v := .ref 23) rfl (e := (.aload_n 1, 1, [], .null)) rfl rfl (fun _ _ => rfl) rfl rfl
  have E := E.gr (n := 24) (p := 4) rfl (x := 18) (m := 3) (w := .null) (t := 4) (i := 0) (u := 254) rfl rfl hV ty rfl
  have E := E.pu (p := 5) (lo' := (ri_as 0 [.ref 144, .ref 23])) (st' := [.int 0, .ref 24]) rfl (e := (.iconst 0, 1, [], .null)) rfl rfl (fun _ _ => rfl)
  have E := E.ld (p := 6) (t := ri_isA) (i := 0) (n := 1) (v := .ref 144) rfl (e := (.aload_n 0, 1, [], .null)) rfl rfl (fun _ _ => rfl) rfl rfl
  have E := E.gr (n := 145) (p := 9) rfl (x := 18) (m := 3) (w := .null) (t := 4) (i := 0) (u := 254) rfl rfl hV ty rfl
  have E := E.pu (p := 10) (lo' := (ri_as 0 [.ref 144, .ref 23])) (st' := [.int 0, .ref 145, .int 0, .ref 24]) rfl (e := (.iconst 0, 1, [], .null)) rfl rfl (fun _ _ => rfl)
  have E := E.ld (p := 11) (t := ri_isA) (i := 0) (n := 1) (v := .ref 144) rfl (e := (.aload_n 0, 1, [], .null)) rfl rfl (fun _ _ => rfl) rfl rfl
  have E := E.gr (n := 145) (p := 14) rfl (x := 18) (m := 3) (w := .null) (t := 4) (i := 0) (u := 254) rfl rfl hV ty rfl
  have E := E.an (p := 15) (n := 5) rfl (m := 1) (ax := []) (w := .null) rfl (by rw [(rfl : eh_N h = eh_N h)]; exact (nc_at hl (k := 145) rfl)) rfl
  have E : eh_e _ _ 15 (ri_as 0 [.ref 144, .ref 23]) [.int 5, .int 0, .ref 145, .int 0, .ref 24] _ rs h' := E
  obtain ⟨h1, hV2, hN3, E⟩ := E.cr (p := 18) (n := 5) (a := 24) (b := 145) (st := []) rfl (x := 61) (m := 3) (w := .null) (u := [669]) rfl rfl (by decide) hV
  have E := E.ld (p := 19) (t := ri_isA) (i := 0) (n := 1) (v := .ref 144) rfl (e := (.aload_n 0, 1, [], .null)) rfl rfl (fun _ _ => rfl) rfl rfl
  have E := E.ld (p := 20) (t := ri_isA) (i := 1) (n := 1) (v := .ref 23) rfl (e := (.aload_n 1, 1, [], .null)) rfl rfl (fun _ _ => rfl) rfl rfl
  have E := E.gi (y := eh_i G 23 1) (p := 23) rfl (x := 23) (m := 3) (w := .null) (t := 4) (i := 1) (u := 259) rfl rfl hV2 (ty.cr rfl rfl) rfl rfl
  obtain ⟨h4, hV5, hN6, E⟩ := E.gp (p := 26) rfl (x := 23) (m := 3) (w := .null) (t := 4) (i := 1) (u := 259) (y := 0) rfl rfl hV2
  have E := E.ld (p := 27) (t := ri_isA) (i := 1) (n := 1) (v := .ref 23) rfl (e := (.aload_n 1, 1, [], .null)) rfl rfl (fun _ _ => rfl) rfl rfl
  have E := E.gr (n := 25) (p := 30) rfl (x := 27) (m := 3) (w := .null) (t := 4) (i := 2) (u := 262) rfl rfl hV5 ((ty.cr rfl rfl).ui rfl) rfl
  have E := E.pu (p := 31) (lo' := (ri_as 0 [.ref 144, .ref 23])) (st' := [.int 0, .ref 25]) rfl (e := (.iconst 0, 1, [], .null)) rfl rfl (fun _ _ => rfl)
  have E := E.ld (p := 32) (t := ri_isA) (i := 0) (n := 1) (v := .ref 144) rfl (e := (.aload_n 0, 1, [], .null)) rfl rfl (fun _ _ => rfl) rfl rfl
  have E := E.gr (n := 146) (p := 35) rfl (x := 27) (m := 3) (w := .null) (t := 4) (i := 2) (u := 262) rfl rfl hV5 ((ty.cr rfl rfl).ui rfl) rfl
  have E := E.pu (p := 36) (lo' := (ri_as 0 [.ref 144, .ref 23])) (st' := [.int 0, .ref 146, .int 0, .ref 25]) rfl (e := (.iconst 0, 1, [], .null)) rfl rfl (fun _ _ => rfl)
  have E := E.ld (p := 37) (t := ri_isA) (i := 0) (n := 1) (v := .ref 144) rfl (e := (.aload_n 0, 1, [], .null)) rfl rfl (fun _ _ => rfl) rfl rfl
  have E := E.gr (n := 146) (p := 40) rfl (x := 27) (m := 3) (w := .null) (t := 4) (i := 2) (u := 262) rfl rfl hV5 ((ty.cr rfl rfl).ui rfl) rfl
  have E := E.an (p := 41) (n := 4) rfl (m := 1) (ax := []) (w := .null) rfl (by rw [(hN6.trans hN3)]; exact (nc_at hl (k := 146) rfl)) rfl
  have E : eh_e _ _ 41 (ri_as 0 [.ref 144, .ref 23]) [.int 4, .int 0, .ref 146, .int 0, .ref 25] _ rs h' := E
  obtain ⟨h7, hV8, hN9, E⟩ := E.cr (p := 44) (n := 4) (a := 25) (b := 146) (st := []) rfl (x := 61) (m := 3) (w := .null) (u := [669]) rfl rfl (by decide) hV5
  have E := E.ld (p := 45) (t := ri_isA) (i := 1) (n := 1) (v := .ref 23) rfl (e := (.aload_n 1, 1, [], .null)) rfl rfl (fun _ _ => rfl) rfl rfl
  have E := E.gr (n := 26) (p := 48) rfl (x := 30) (m := 3) (w := .null) (t := 4) (i := 3) (u := 269) rfl rfl hV8 (((ty.cr rfl rfl).ui rfl).cr rfl rfl) rfl
  have E := E.pu (p := 49) (lo' := (ri_as 0 [.ref 144, .ref 23])) (st' := [.int 0, .ref 26]) rfl (e := (.iconst 0, 1, [], .null)) rfl rfl (fun _ _ => rfl)
  have E := E.ld (p := 50) (t := ri_isA) (i := 0) (n := 1) (v := .ref 144) rfl (e := (.aload_n 0, 1, [], .null)) rfl rfl (fun _ _ => rfl) rfl rfl
  have E := E.gr (n := 147) (p := 53) rfl (x := 30) (m := 3) (w := .null) (t := 4) (i := 3) (u := 269) rfl rfl hV8 (((ty.cr rfl rfl).ui rfl).cr rfl rfl) rfl
  have E := E.pu (p := 54) (lo' := (ri_as 0 [.ref 144, .ref 23])) (st' := [.int 0, .ref 147, .int 0, .ref 26]) rfl (e := (.iconst 0, 1, [], .null)) rfl rfl (fun _ _ => rfl)
  have E := E.pu (p := 56) (lo' := (ri_as 0 [.ref 144, .ref 23])) (st' := [.int 8, .int 0, .ref 147, .int 0, .ref 26]) rfl (e := (.bipush 8, 2, [], .null)) rfl rfl (fun _ _ => rfl)
  obtain ⟨h10, hV11, hN12, E⟩ := E.cr (p := 59) (n := 8) (a := 26) (b := 147) (st := []) rfl (x := 61) (m := 3) (w := .null) (u := [669]) rfl rfl (by decide) hV8
  have E := E.ld (p := 60) (t := ri_isA) (i := 1) (n := 1) (v := .ref 23) rfl (e := (.aload_n 1, 1, [], .null)) rfl rfl (fun _ _ => rfl) rfl rfl
  have E := E.gr (n := 27) (p := 63) rfl (x := 33) (m := 3) (w := .null) (t := 4) (i := 4) (u := 272) rfl rfl hV11 ((((ty.cr rfl rfl).ui rfl).cr rfl rfl).cr rfl rfl) rfl
  have E := E.pu (p := 64) (lo' := (ri_as 0 [.ref 144, .ref 23])) (st' := [.int 0, .ref 27]) rfl (e := (.iconst 0, 1, [], .null)) rfl rfl (fun _ _ => rfl)
  have E := E.ld (p := 65) (t := ri_isA) (i := 0) (n := 1) (v := .ref 144) rfl (e := (.aload_n 0, 1, [], .null)) rfl rfl (fun _ _ => rfl) rfl rfl
  have E := E.gr (n := 148) (p := 68) rfl (x := 33) (m := 3) (w := .null) (t := 4) (i := 4) (u := 272) rfl rfl hV11 ((((ty.cr rfl rfl).ui rfl).cr rfl rfl).cr rfl rfl) rfl
  have E := E.pu (p := 69) (lo' := (ri_as 0 [.ref 144, .ref 23])) (st' := [.int 0, .ref 148, .int 0, .ref 27]) rfl (e := (.iconst 0, 1, [], .null)) rfl rfl (fun _ _ => rfl)
  have E := E.pu (p := 71) (lo' := (ri_as 0 [.ref 144, .ref 23])) (st' := [.int 6, .int 0, .ref 148, .int 0, .ref 27]) rfl (e := (.bipush 6, 2, [], .null)) rfl rfl (fun _ _ => rfl)
  obtain ⟨h13, hV14, hN15, E⟩ := E.cr (p := 74) (n := 6) (a := 27) (b := 148) (st := []) rfl (x := 61) (m := 3) (w := .null) (u := [669]) rfl rfl (by decide) hV11
  have E := E.ld (p := 75) (t := ri_isA) (i := 1) (n := 1) (v := .ref 23) rfl (e := (.aload_n 1, 1, [], .null)) rfl rfl (fun _ _ => rfl) rfl rfl
  have E := E.gr (n := 28) (p := 78) rfl (x := 36) (m := 3) (w := .null) (t := 4) (i := 5) (u := 277) rfl rfl hV14 (((((ty.cr rfl rfl).ui rfl).cr rfl rfl).cr rfl rfl).cr rfl rfl) rfl
  have E := E.pu (p := 79) (lo' := (ri_as 0 [.ref 144, .ref 23])) (st' := [.int 0, .ref 28]) rfl (e := (.iconst 0, 1, [], .null)) rfl rfl (fun _ _ => rfl)
  have E := E.ld (p := 80) (t := ri_isA) (i := 0) (n := 1) (v := .ref 144) rfl (e := (.aload_n 0, 1, [], .null)) rfl rfl (fun _ _ => rfl) rfl rfl
  have E := E.gr (n := 149) (p := 83) rfl (x := 36) (m := 3) (w := .null) (t := 4) (i := 5) (u := 277) rfl rfl hV14 (((((ty.cr rfl rfl).ui rfl).cr rfl rfl).cr rfl rfl).cr rfl rfl) rfl
  have E := E.pu (p := 84) (lo' := (ri_as 0 [.ref 144, .ref 23])) (st' := [.int 0, .ref 149, .int 0, .ref 28]) rfl (e := (.iconst 0, 1, [], .null)) rfl rfl (fun _ _ => rfl)
  have E := E.pu (p := 86) (lo' := (ri_as 0 [.ref 144, .ref 23])) (st' := [.int 8, .int 0, .ref 149, .int 0, .ref 28]) rfl (e := (.bipush 8, 2, [], .null)) rfl rfl (fun _ _ => rfl)
  obtain ⟨h16, hV17, hN18, E⟩ := E.cr (p := 89) (n := 8) (a := 28) (b := 149) (st := []) rfl (x := 61) (m := 3) (w := .null) (u := [669]) rfl rfl (by decide) hV14
  have E := E.ld (p := 90) (t := ri_isA) (i := 1) (n := 1) (v := .ref 23) rfl (e := (.aload_n 1, 1, [], .null)) rfl rfl (fun _ _ => rfl) rfl rfl
  have E := E.gr (n := 29) (p := 93) rfl (x := 39) (m := 3) (w := .null) (t := 4) (i := 6) (u := 280) rfl rfl hV17 ((((((ty.cr rfl rfl).ui rfl).cr rfl rfl).cr rfl rfl).cr rfl rfl).cr rfl rfl) rfl
  have E := E.pu (p := 94) (lo' := (ri_as 0 [.ref 144, .ref 23])) (st' := [.int 0, .ref 29]) rfl (e := (.iconst 0, 1, [], .null)) rfl rfl (fun _ _ => rfl)
  have E := E.ld (p := 95) (t := ri_isA) (i := 0) (n := 1) (v := .ref 144) rfl (e := (.aload_n 0, 1, [], .null)) rfl rfl (fun _ _ => rfl) rfl rfl
  have E := E.gr (n := 150) (p := 98) rfl (x := 39) (m := 3) (w := .null) (t := 4) (i := 6) (u := 280) rfl rfl hV17 ((((((ty.cr rfl rfl).ui rfl).cr rfl rfl).cr rfl rfl).cr rfl rfl).cr rfl rfl) rfl
  have E := E.pu (p := 99) (lo' := (ri_as 0 [.ref 144, .ref 23])) (st' := [.int 0, .ref 150, .int 0, .ref 29]) rfl (e := (.iconst 0, 1, [], .null)) rfl rfl (fun _ _ => rfl)
  have E := E.ld (p := 100) (t := ri_isA) (i := 0) (n := 1) (v := .ref 144) rfl (e := (.aload_n 0, 1, [], .null)) rfl rfl (fun _ _ => rfl) rfl rfl
  have E := E.gr (n := 150) (p := 103) rfl (x := 39) (m := 3) (w := .null) (t := 4) (i := 6) (u := 280) rfl rfl hV17 ((((((ty.cr rfl rfl).ui rfl).cr rfl rfl).cr rfl rfl).cr rfl rfl).cr rfl rfl) rfl
  have E := E.an (p := 104) (n := 64) rfl (m := 1) (ax := []) (w := .null) rfl (by rw [(hN18.trans (hN15.trans (hN12.trans (hN9.trans (hN6.trans hN3)))))]; exact (nc_at hl (k := 150) rfl)) rfl
  have E : eh_e _ _ 104 (ri_as 0 [.ref 144, .ref 23]) [.int 64, .int 0, .ref 150, .int 0, .ref 29] _ rs h' := E
  obtain ⟨h19, hV20, hN21, E⟩ := E.cr (p := 107) (n := 64) (a := 29) (b := 150) (st := []) rfl (x := 61) (m := 3) (w := .null) (u := [669]) rfl rfl (by decide) hV17
  have E := E.ld (p := 108) (t := ri_isA) (i := 1) (n := 1) (v := .ref 23) rfl (e := (.aload_n 1, 1, [], .null)) rfl rfl (fun _ _ => rfl) rfl rfl
  have E := E.gr (n := 30) (p := 111) rfl (x := 42) (m := 3) (w := .null) (t := 4) (i := 7) (u := 282) rfl rfl hV20 (((((((ty.cr rfl rfl).ui rfl).cr rfl rfl).cr rfl rfl).cr rfl rfl).cr rfl rfl).cr rfl rfl) rfl
  have E := E.pu (p := 112) (lo' := (ri_as 0 [.ref 144, .ref 23])) (st' := [.int 0, .ref 30]) rfl (e := (.iconst 0, 1, [], .null)) rfl rfl (fun _ _ => rfl)
  have E := E.ld (p := 113) (t := ri_isA) (i := 0) (n := 1) (v := .ref 144) rfl (e := (.aload_n 0, 1, [], .null)) rfl rfl (fun _ _ => rfl) rfl rfl
  have E := E.gr (n := 151) (p := 116) rfl (x := 42) (m := 3) (w := .null) (t := 4) (i := 7) (u := 282) rfl rfl hV20 (((((((ty.cr rfl rfl).ui rfl).cr rfl rfl).cr rfl rfl).cr rfl rfl).cr rfl rfl).cr rfl rfl) rfl
  have E := E.pu (p := 117) (lo' := (ri_as 0 [.ref 144, .ref 23])) (st' := [.int 0, .ref 151, .int 0, .ref 30]) rfl (e := (.iconst 0, 1, [], .null)) rfl rfl (fun _ _ => rfl)
  have E := E.pu (p := 119) (lo' := (ri_as 0 [.ref 144, .ref 23])) (st' := [.int 8, .int 0, .ref 151, .int 0, .ref 30]) rfl (e := (.bipush 8, 2, [], .null)) rfl rfl (fun _ _ => rfl)
  obtain ⟨h22, hV23, hN24, E⟩ := E.cr (p := 122) (n := 8) (a := 30) (b := 151) (st := []) rfl (x := 61) (m := 3) (w := .null) (u := [669]) rfl rfl (by decide) hV20
  have E := E.ld (p := 123) (t := ri_isA) (i := 1) (n := 1) (v := .ref 23) rfl (e := (.aload_n 1, 1, [], .null)) rfl rfl (fun _ _ => rfl) rfl rfl
  have E := E.gr (n := 31) (p := 126) rfl (x := 45) (m := 3) (w := .null) (t := 4) (i := 8) (u := 283) rfl rfl hV23 ((((((((ty.cr rfl rfl).ui rfl).cr rfl rfl).cr rfl rfl).cr rfl rfl).cr rfl rfl).cr rfl rfl).cr rfl rfl) rfl
  have E := E.pu (p := 127) (lo' := (ri_as 0 [.ref 144, .ref 23])) (st' := [.int 0, .ref 31]) rfl (e := (.iconst 0, 1, [], .null)) rfl rfl (fun _ _ => rfl)
  have E := E.ld (p := 128) (t := ri_isA) (i := 0) (n := 1) (v := .ref 144) rfl (e := (.aload_n 0, 1, [], .null)) rfl rfl (fun _ _ => rfl) rfl rfl
  have E := E.gr (n := 152) (p := 131) rfl (x := 45) (m := 3) (w := .null) (t := 4) (i := 8) (u := 283) rfl rfl hV23 ((((((((ty.cr rfl rfl).ui rfl).cr rfl rfl).cr rfl rfl).cr rfl rfl).cr rfl rfl).cr rfl rfl).cr rfl rfl) rfl
  have E := E.pu (p := 132) (lo' := (ri_as 0 [.ref 144, .ref 23])) (st' := [.int 0, .ref 152, .int 0, .ref 31]) rfl (e := (.iconst 0, 1, [], .null)) rfl rfl (fun _ _ => rfl)
  have E := E.pu (p := 134) (lo' := (ri_as 0 [.ref 144, .ref 23])) (st' := [.int 6, .int 0, .ref 152, .int 0, .ref 31]) rfl (e := (.bipush 6, 2, [], .null)) rfl rfl (fun _ _ => rfl)
  obtain ⟨h25, hV26, hN27, E⟩ := E.cr (p := 137) (n := 6) (a := 31) (b := 152) (st := []) rfl (x := 61) (m := 3) (w := .null) (u := [669]) rfl rfl (by decide) hV23
  have E := E.ld (p := 138) (t := ri_isA) (i := 1) (n := 1) (v := .ref 23) rfl (e := (.aload_n 1, 1, [], .null)) rfl rfl (fun _ _ => rfl) rfl rfl
  have E := E.gr (n := 32) (p := 141) rfl (x := 48) (m := 3) (w := .null) (t := 4) (i := 9) (u := 286) rfl rfl hV26 (((((((((ty.cr rfl rfl).ui rfl).cr rfl rfl).cr rfl rfl).cr rfl rfl).cr rfl rfl).cr rfl rfl).cr rfl rfl).cr rfl rfl) rfl
  have E := E.pu (p := 142) (lo' := (ri_as 0 [.ref 144, .ref 23])) (st' := [.int 0, .ref 32]) rfl (e := (.iconst 0, 1, [], .null)) rfl rfl (fun _ _ => rfl)
  have E := E.ld (p := 143) (t := ri_isA) (i := 0) (n := 1) (v := .ref 144) rfl (e := (.aload_n 0, 1, [], .null)) rfl rfl (fun _ _ => rfl) rfl rfl
  have E := E.gr (n := 153) (p := 146) rfl (x := 48) (m := 3) (w := .null) (t := 4) (i := 9) (u := 286) rfl rfl hV26 (((((((((ty.cr rfl rfl).ui rfl).cr rfl rfl).cr rfl rfl).cr rfl rfl).cr rfl rfl).cr rfl rfl).cr rfl rfl).cr rfl rfl) rfl
  have E := E.pu (p := 147) (lo' := (ri_as 0 [.ref 144, .ref 23])) (st' := [.int 0, .ref 153, .int 0, .ref 32]) rfl (e := (.iconst 0, 1, [], .null)) rfl rfl (fun _ _ => rfl)
  have E := E.pu (p := 149) (lo' := (ri_as 0 [.ref 144, .ref 23])) (st' := [.int 24, .int 0, .ref 153, .int 0, .ref 32]) rfl (e := (.bipush 24, 2, [], .null)) rfl rfl (fun _ _ => rfl)
  obtain ⟨h28, hV29, hN30, E⟩ := E.cr (p := 152) (n := 24) (a := 32) (b := 153) (st := []) rfl (x := 61) (m := 3) (w := .null) (u := [669]) rfl rfl (by decide) hV26
  have E := E.ld (p := 153) (t := ri_isA) (i := 1) (n := 1) (v := .ref 23) rfl (e := (.aload_n 1, 1, [], .null)) rfl rfl (fun _ _ => rfl) rfl rfl
  have E := E.gr (n := 33) (p := 156) rfl (x := 52) (m := 3) (w := .null) (t := 4) (i := 10) (u := 287) rfl rfl hV29 ((((((((((ty.cr rfl rfl).ui rfl).cr rfl rfl).cr rfl rfl).cr rfl rfl).cr rfl rfl).cr rfl rfl).cr rfl rfl).cr rfl rfl).cr rfl rfl) rfl
  have E := E.pu (p := 157) (lo' := (ri_as 0 [.ref 144, .ref 23])) (st' := [.int 0, .ref 33]) rfl (e := (.iconst 0, 1, [], .null)) rfl rfl (fun _ _ => rfl)
  have E := E.ld (p := 158) (t := ri_isA) (i := 0) (n := 1) (v := .ref 144) rfl (e := (.aload_n 0, 1, [], .null)) rfl rfl (fun _ _ => rfl) rfl rfl
  have E := E.gr (n := 154) (p := 161) rfl (x := 52) (m := 3) (w := .null) (t := 4) (i := 10) (u := 287) rfl rfl hV29 ((((((((((ty.cr rfl rfl).ui rfl).cr rfl rfl).cr rfl rfl).cr rfl rfl).cr rfl rfl).cr rfl rfl).cr rfl rfl).cr rfl rfl).cr rfl rfl) rfl
  have E := E.pu (p := 162) (lo' := (ri_as 0 [.ref 144, .ref 23])) (st' := [.int 0, .ref 154, .int 0, .ref 33]) rfl (e := (.iconst 0, 1, [], .null)) rfl rfl (fun _ _ => rfl)
  have E := E.pu (p := 164) (lo' := (ri_as 0 [.ref 144, .ref 23])) (st' := [.int 24, .int 0, .ref 154, .int 0, .ref 33]) rfl (e := (.bipush 24, 2, [], .null)) rfl rfl (fun _ _ => rfl)
  obtain ⟨h31, hV32, hN33, E⟩ := E.cr (p := 167) (n := 24) (a := 33) (b := 154) (st := []) rfl (x := 61) (m := 3) (w := .null) (u := [669]) rfl rfl (by decide) hV29
  have E := E.ld (p := 168) (t := ri_isA) (i := 1) (n := 1) (v := .ref 23) rfl (e := (.aload_n 1, 1, [], .null)) rfl rfl (fun _ _ => rfl) rfl rfl
  have E := E.gr (n := 34) (p := 171) rfl (x := 55) (m := 3) (w := .null) (t := 4) (i := 11) (u := 290) rfl rfl hV32 (((((((((((ty.cr rfl rfl).ui rfl).cr rfl rfl).cr rfl rfl).cr rfl rfl).cr rfl rfl).cr rfl rfl).cr rfl rfl).cr rfl rfl).cr rfl rfl).cr rfl rfl) rfl
  have E := E.pu (p := 172) (lo' := (ri_as 0 [.ref 144, .ref 23])) (st' := [.int 0, .ref 34]) rfl (e := (.iconst 0, 1, [], .null)) rfl rfl (fun _ _ => rfl)
  have E := E.ld (p := 173) (t := ri_isA) (i := 0) (n := 1) (v := .ref 144) rfl (e := (.aload_n 0, 1, [], .null)) rfl rfl (fun _ _ => rfl) rfl rfl
  have E := E.gr (n := 155) (p := 176) rfl (x := 55) (m := 3) (w := .null) (t := 4) (i := 11) (u := 290) rfl rfl hV32 (((((((((((ty.cr rfl rfl).ui rfl).cr rfl rfl).cr rfl rfl).cr rfl rfl).cr rfl rfl).cr rfl rfl).cr rfl rfl).cr rfl rfl).cr rfl rfl).cr rfl rfl) rfl
  have E := E.pu (p := 177) (lo' := (ri_as 0 [.ref 144, .ref 23])) (st' := [.int 0, .ref 155, .int 0, .ref 34]) rfl (e := (.iconst 0, 1, [], .null)) rfl rfl (fun _ _ => rfl)
  have E := E.pu (p := 179) (lo' := (ri_as 0 [.ref 144, .ref 23])) (st' := [.int 24, .int 0, .ref 155, .int 0, .ref 34]) rfl (e := (.bipush 24, 2, [], .null)) rfl rfl (fun _ _ => rfl)
  obtain ⟨h34, hV35, hN36, E⟩ := E.cr (p := 182) (n := 24) (a := 34) (b := 155) (st := []) rfl (x := 61) (m := 3) (w := .null) (u := [669]) rfl rfl (by decide) hV32
  have E := E.ld (p := 183) (t := ri_isA) (i := 0) (n := 1) (v := .ref 144) rfl (e := (.aload_n 0, 1, [], .null)) rfl rfl (fun _ _ => rfl) rfl rfl
  have E := E.ld (p := 184) (t := ri_isA) (i := 1) (n := 1) (v := .ref 23) rfl (e := (.aload_n 1, 1, [], .null)) rfl rfl (fun _ _ => rfl) rfl rfl
  have E := E.gi (y := eh_i G 23 12) (p := 187) rfl (x := 58) (m := 3) (w := .null) (t := 4) (i := 12) (u := 293) rfl rfl hV35 ((((((((((((ty.cr rfl rfl).ui rfl).cr rfl rfl).cr rfl rfl).cr rfl rfl).cr rfl rfl).cr rfl rfl).cr rfl rfl).cr rfl rfl).cr rfl rfl).cr rfl rfl).cr rfl rfl) rfl rfl
  obtain ⟨h37, hV38, hN39, E⟩ := E.gp (p := 190) rfl (x := 58) (m := 3) (w := .null) (t := 4) (i := 12) (u := 293) (y := 0) rfl rfl hV35
  obtain ⟨r1, r2⟩ := E.retv rfl (m := 1) (ax := []) (w := .null) rfl
  exact ⟨(by rw [← hrs, r1]; rfl), ((congrArg eh_V r2).trans hV38), ((congrArg eh_N r2).trans (hN39.trans (hN36.trans (hN33.trans (hN30.trans (hN27.trans (hN24.trans (hN21.trans (hN18.trans (hN15.trans (hN12.trans (hN9.trans (hN6.trans hN3)))))))))))))⟩
theorem cl_0b {d : Nat} {h h' : ri_H} {v : Option Value} {G : eh_W} (E : ri_calE ri_md (d + 1) 25 [.ref 23, .ref 144] h = some (v, h')) (hV : eh_V h = G) (ty : eh_ty tC G) (hl : (eh_N h).take 209 = NCl) : v = none ∧ eh_V h' = eh_u (eh_cp (eh_cp (eh_cp (eh_cp (eh_cp (eh_cp (eh_cp (eh_cp (eh_cp (eh_cp (eh_u (eh_cp G 145 24 5) 23 1 (.int (eh_i G 144 1))) 146 25 4) 147 26 8) 148 27 6) 149 28 8) 150 29 64) 151 30 8) 152 31 6) 153 32 24) 154 33 24) 155 34 24) 23 12 (.int (eh_i G 144 12)) ∧ eh_N h' = eh_N h := by
  obtain ⟨rs, hrs, E⟩ := eh_in E (q := md_25) rfl
  have E := E.ld (p := 1) (t := ri_isA) (i := 1) (n := 1) (v := .ref 144) rfl (e := (.aload_n 1, 1, [], .null)) rfl rfl (fun _ _ => rfl) rfl rfl
  have E := E.gr (n := 145) (p := 4) rfl (x := 18) (m := 3) (w := .null) (t := 4) (i := 0) (u := 254) rfl rfl hV ty rfl
  have E := E.pu (p := 5) (lo' := (ri_as 0 [.ref 23, .ref 144])) (st' := [.int 0, .ref 145]) rfl (e := (.iconst 0, 1, [], .null)) rfl rfl (fun _ _ => rfl)
  have E := E.ld (p := 6) (t := ri_isA) (i := 0) (n := 1) (v := .ref 23) rfl (e := (.aload_n 0, 1, [], .null)) rfl rfl (fun _ _ => rfl) rfl rfl
  have E := E.gr (n := 24) (p := 9) rfl (x := 18) (m := 3) (w := .null) (t := 4) (i := 0) (u := 254) rfl rfl hV ty rfl
  have E := E.pu (p := 10) (lo' := (ri_as 0 [.ref 23, .ref 144])) (st' := [.int 0, .ref 24, .int 0, .ref 145]) rfl (e := (.iconst 0, 1, [], .null)) rfl rfl (fun _ _ => rfl)
  have E := E.ld (p := 11) (t := ri_isA) (i := 0) (n := 1) (v := .ref 23) rfl (e := (.aload_n 0, 1, [], .null)) rfl rfl (fun _ _ => rfl) rfl rfl
  have E := E.gr (n := 24) (p := 14) rfl (x := 18) (m := 3) (w := .null) (t := 4) (i := 0) (u := 254) rfl rfl hV ty rfl
  have E := E.an (p := 15) (n := 5) rfl (m := 1) (ax := []) (w := .null) rfl (by rw [(rfl : eh_N h = eh_N h)]; exact (nc_at hl (k := 24) rfl)) rfl
  have E : eh_e _ _ 15 (ri_as 0 [.ref 23, .ref 144]) [.int 5, .int 0, .ref 24, .int 0, .ref 145] _ rs h' := E
  obtain ⟨h1, hV2, hN3, E⟩ := E.cr (p := 18) (n := 5) (a := 145) (b := 24) (st := []) rfl (x := 61) (m := 3) (w := .null) (u := [669]) rfl rfl (by decide) hV
  have E := E.ld (p := 19) (t := ri_isA) (i := 0) (n := 1) (v := .ref 23) rfl (e := (.aload_n 0, 1, [], .null)) rfl rfl (fun _ _ => rfl) rfl rfl
  have E := E.ld (p := 20) (t := ri_isA) (i := 1) (n := 1) (v := .ref 144) rfl (e := (.aload_n 1, 1, [], .null)) rfl rfl (fun _ _ => rfl) rfl rfl
  have E := E.gi (y := eh_i G 144 1) (p := 23) rfl (x := 23) (m := 3) (w := .null) (t := 4) (i := 1) (u := 259) rfl rfl hV2 (ty.cr rfl rfl) rfl rfl
  obtain ⟨h4, hV5, hN6, E⟩ := E.gp (p := 26) rfl (x := 23) (m := 3) (w := .null) (t := 4) (i := 1) (u := 259) (y := 0) rfl rfl hV2
  have E := E.ld (p := 27) (t := ri_isA) (i := 1) (n := 1) (v := .ref 144) rfl (e := (.aload_n 1, 1, [], .null)) rfl rfl (fun _ _ => rfl) rfl rfl
  have E := E.gr (n := 146) (p := 30) rfl (x := 27) (m := 3) (w := .null) (t := 4) (i := 2) (u := 262) rfl rfl hV5 ((ty.cr rfl rfl).ui rfl) rfl
  have E := E.pu (p := 31) (lo' := (ri_as 0 [.ref 23, .ref 144])) (st' := [.int 0, .ref 146]) rfl (e := (.iconst 0, 1, [], .null)) rfl rfl (fun _ _ => rfl)
  have E := E.ld (p := 32) (t := ri_isA) (i := 0) (n := 1) (v := .ref 23) rfl (e := (.aload_n 0, 1, [], .null)) rfl rfl (fun _ _ => rfl) rfl rfl
  have E := E.gr (n := 25) (p := 35) rfl (x := 27) (m := 3) (w := .null) (t := 4) (i := 2) (u := 262) rfl rfl hV5 ((ty.cr rfl rfl).ui rfl) rfl
  have E := E.pu (p := 36) (lo' := (ri_as 0 [.ref 23, .ref 144])) (st' := [.int 0, .ref 25, .int 0, .ref 146]) rfl (e := (.iconst 0, 1, [], .null)) rfl rfl (fun _ _ => rfl)
  have E := E.ld (p := 37) (t := ri_isA) (i := 0) (n := 1) (v := .ref 23) rfl (e := (.aload_n 0, 1, [], .null)) rfl rfl (fun _ _ => rfl) rfl rfl
  have E := E.gr (n := 25) (p := 40) rfl (x := 27) (m := 3) (w := .null) (t := 4) (i := 2) (u := 262) rfl rfl hV5 ((ty.cr rfl rfl).ui rfl) rfl
  have E := E.an (p := 41) (n := 4) rfl (m := 1) (ax := []) (w := .null) rfl (by rw [(hN6.trans hN3)]; exact (nc_at hl (k := 25) rfl)) rfl
  have E : eh_e _ _ 41 (ri_as 0 [.ref 23, .ref 144]) [.int 4, .int 0, .ref 25, .int 0, .ref 146] _ rs h' := E
  obtain ⟨h7, hV8, hN9, E⟩ := E.cr (p := 44) (n := 4) (a := 146) (b := 25) (st := []) rfl (x := 61) (m := 3) (w := .null) (u := [669]) rfl rfl (by decide) hV5
  have E := E.ld (p := 45) (t := ri_isA) (i := 1) (n := 1) (v := .ref 144) rfl (e := (.aload_n 1, 1, [], .null)) rfl rfl (fun _ _ => rfl) rfl rfl
  have E := E.gr (n := 147) (p := 48) rfl (x := 30) (m := 3) (w := .null) (t := 4) (i := 3) (u := 269) rfl rfl hV8 (((ty.cr rfl rfl).ui rfl).cr rfl rfl) rfl
  have E := E.pu (p := 49) (lo' := (ri_as 0 [.ref 23, .ref 144])) (st' := [.int 0, .ref 147]) rfl (e := (.iconst 0, 1, [], .null)) rfl rfl (fun _ _ => rfl)
  have E := E.ld (p := 50) (t := ri_isA) (i := 0) (n := 1) (v := .ref 23) rfl (e := (.aload_n 0, 1, [], .null)) rfl rfl (fun _ _ => rfl) rfl rfl
  have E := E.gr (n := 26) (p := 53) rfl (x := 30) (m := 3) (w := .null) (t := 4) (i := 3) (u := 269) rfl rfl hV8 (((ty.cr rfl rfl).ui rfl).cr rfl rfl) rfl
  have E := E.pu (p := 54) (lo' := (ri_as 0 [.ref 23, .ref 144])) (st' := [.int 0, .ref 26, .int 0, .ref 147]) rfl (e := (.iconst 0, 1, [], .null)) rfl rfl (fun _ _ => rfl)
  have E := E.pu (p := 56) (lo' := (ri_as 0 [.ref 23, .ref 144])) (st' := [.int 8, .int 0, .ref 26, .int 0, .ref 147]) rfl (e := (.bipush 8, 2, [], .null)) rfl rfl (fun _ _ => rfl)
  obtain ⟨h10, hV11, hN12, E⟩ := E.cr (p := 59) (n := 8) (a := 147) (b := 26) (st := []) rfl (x := 61) (m := 3) (w := .null) (u := [669]) rfl rfl (by decide) hV8
  have E := E.ld (p := 60) (t := ri_isA) (i := 1) (n := 1) (v := .ref 144) rfl (e := (.aload_n 1, 1, [], .null)) rfl rfl (fun _ _ => rfl) rfl rfl
  have E := E.gr (n := 148) (p := 63) rfl (x := 33) (m := 3) (w := .null) (t := 4) (i := 4) (u := 272) rfl rfl hV11 ((((ty.cr rfl rfl).ui rfl).cr rfl rfl).cr rfl rfl) rfl
  have E := E.pu (p := 64) (lo' := (ri_as 0 [.ref 23, .ref 144])) (st' := [.int 0, .ref 148]) rfl (e := (.iconst 0, 1, [], .null)) rfl rfl (fun _ _ => rfl)
  have E := E.ld (p := 65) (t := ri_isA) (i := 0) (n := 1) (v := .ref 23) rfl (e := (.aload_n 0, 1, [], .null)) rfl rfl (fun _ _ => rfl) rfl rfl
  have E := E.gr (n := 27) (p := 68) rfl (x := 33) (m := 3) (w := .null) (t := 4) (i := 4) (u := 272) rfl rfl hV11 ((((ty.cr rfl rfl).ui rfl).cr rfl rfl).cr rfl rfl) rfl
  have E := E.pu (p := 69) (lo' := (ri_as 0 [.ref 23, .ref 144])) (st' := [.int 0, .ref 27, .int 0, .ref 148]) rfl (e := (.iconst 0, 1, [], .null)) rfl rfl (fun _ _ => rfl)
  have E := E.pu (p := 71) (lo' := (ri_as 0 [.ref 23, .ref 144])) (st' := [.int 6, .int 0, .ref 27, .int 0, .ref 148]) rfl (e := (.bipush 6, 2, [], .null)) rfl rfl (fun _ _ => rfl)
  obtain ⟨h13, hV14, hN15, E⟩ := E.cr (p := 74) (n := 6) (a := 148) (b := 27) (st := []) rfl (x := 61) (m := 3) (w := .null) (u := [669]) rfl rfl (by decide) hV11
  have E := E.ld (p := 75) (t := ri_isA) (i := 1) (n := 1) (v := .ref 144) rfl (e := (.aload_n 1, 1, [], .null)) rfl rfl (fun _ _ => rfl) rfl rfl
  have E := E.gr (n := 149) (p := 78) rfl (x := 36) (m := 3) (w := .null) (t := 4) (i := 5) (u := 277) rfl rfl hV14 (((((ty.cr rfl rfl).ui rfl).cr rfl rfl).cr rfl rfl).cr rfl rfl) rfl
  have E := E.pu (p := 79) (lo' := (ri_as 0 [.ref 23, .ref 144])) (st' := [.int 0, .ref 149]) rfl (e := (.iconst 0, 1, [], .null)) rfl rfl (fun _ _ => rfl)
  have E := E.ld (p := 80) (t := ri_isA) (i := 0) (n := 1) (v := .ref 23) rfl (e := (.aload_n 0, 1, [], .null)) rfl rfl (fun _ _ => rfl) rfl rfl
  have E := E.gr (n := 28) (p := 83) rfl (x := 36) (m := 3) (w := .null) (t := 4) (i := 5) (u := 277) rfl rfl hV14 (((((ty.cr rfl rfl).ui rfl).cr rfl rfl).cr rfl rfl).cr rfl rfl) rfl
  have E := E.pu (p := 84) (lo' := (ri_as 0 [.ref 23, .ref 144])) (st' := [.int 0, .ref 28, .int 0, .ref 149]) rfl (e := (.iconst 0, 1, [], .null)) rfl rfl (fun _ _ => rfl)
  have E := E.pu (p := 86) (lo' := (ri_as 0 [.ref 23, .ref 144])) (st' := [.int 8, .int 0, .ref 28, .int 0, .ref 149]) rfl (e := (.bipush 8, 2, [], .null)) rfl rfl (fun _ _ => rfl)
  obtain ⟨h16, hV17, hN18, E⟩ := E.cr (p := 89) (n := 8) (a := 149) (b := 28) (st := []) rfl (x := 61) (m := 3) (w := .null) (u := [669]) rfl rfl (by decide) hV14
  have E := E.ld (p := 90) (t := ri_isA) (i := 1) (n := 1) (v := .ref 144) rfl (e := (.aload_n 1, 1, [], .null)) rfl rfl (fun _ _ => rfl) rfl rfl
  have E := E.gr (n := 150) (p := 93) rfl (x := 39) (m := 3) (w := .null) (t := 4) (i := 6) (u := 280) rfl rfl hV17 ((((((ty.cr rfl rfl).ui rfl).cr rfl rfl).cr rfl rfl).cr rfl rfl).cr rfl rfl) rfl
  have E := E.pu (p := 94) (lo' := (ri_as 0 [.ref 23, .ref 144])) (st' := [.int 0, .ref 150]) rfl (e := (.iconst 0, 1, [], .null)) rfl rfl (fun _ _ => rfl)
  have E := E.ld (p := 95) (t := ri_isA) (i := 0) (n := 1) (v := .ref 23) rfl (e := (.aload_n 0, 1, [], .null)) rfl rfl (fun _ _ => rfl) rfl rfl
  have E := E.gr (n := 29) (p := 98) rfl (x := 39) (m := 3) (w := .null) (t := 4) (i := 6) (u := 280) rfl rfl hV17 ((((((ty.cr rfl rfl).ui rfl).cr rfl rfl).cr rfl rfl).cr rfl rfl).cr rfl rfl) rfl
  have E := E.pu (p := 99) (lo' := (ri_as 0 [.ref 23, .ref 144])) (st' := [.int 0, .ref 29, .int 0, .ref 150]) rfl (e := (.iconst 0, 1, [], .null)) rfl rfl (fun _ _ => rfl)
  have E := E.ld (p := 100) (t := ri_isA) (i := 0) (n := 1) (v := .ref 23) rfl (e := (.aload_n 0, 1, [], .null)) rfl rfl (fun _ _ => rfl) rfl rfl
  have E := E.gr (n := 29) (p := 103) rfl (x := 39) (m := 3) (w := .null) (t := 4) (i := 6) (u := 280) rfl rfl hV17 ((((((ty.cr rfl rfl).ui rfl).cr rfl rfl).cr rfl rfl).cr rfl rfl).cr rfl rfl) rfl
  have E := E.an (p := 104) (n := 64) rfl (m := 1) (ax := []) (w := .null) rfl (by rw [(hN18.trans (hN15.trans (hN12.trans (hN9.trans (hN6.trans hN3)))))]; exact (nc_at hl (k := 29) rfl)) rfl
  have E : eh_e _ _ 104 (ri_as 0 [.ref 23, .ref 144]) [.int 64, .int 0, .ref 29, .int 0, .ref 150] _ rs h' := E
  obtain ⟨h19, hV20, hN21, E⟩ := E.cr (p := 107) (n := 64) (a := 150) (b := 29) (st := []) rfl (x := 61) (m := 3) (w := .null) (u := [669]) rfl rfl (by decide) hV17
  have E := E.ld (p := 108) (t := ri_isA) (i := 1) (n := 1) (v := .ref 144) rfl (e := (.aload_n 1, 1, [], .null)) rfl rfl (fun _ _ => rfl) rfl rfl
  have E := E.gr (n := 151) (p := 111) rfl (x := 42) (m := 3) (w := .null) (t := 4) (i := 7) (u := 282) rfl rfl hV20 (((((((ty.cr rfl rfl).ui rfl).cr rfl rfl).cr rfl rfl).cr rfl rfl).cr rfl rfl).cr rfl rfl) rfl
  have E := E.pu (p := 112) (lo' := (ri_as 0 [.ref 23, .ref 144])) (st' := [.int 0, .ref 151]) rfl (e := (.iconst 0, 1, [], .null)) rfl rfl (fun _ _ => rfl)
  have E := E.ld (p := 113) (t := ri_isA) (i := 0) (n := 1) (v := .ref 23) rfl (e := (.aload_n 0, 1, [], .null)) rfl rfl (fun _ _ => rfl) rfl rfl
  have E := E.gr (n := 30) (p := 116) rfl (x := 42) (m := 3) (w := .null) (t := 4) (i := 7) (u := 282) rfl rfl hV20 (((((((ty.cr rfl rfl).ui rfl).cr rfl rfl).cr rfl rfl).cr rfl rfl).cr rfl rfl).cr rfl rfl) rfl
  have E := E.pu (p := 117) (lo' := (ri_as 0 [.ref 23, .ref 144])) (st' := [.int 0, .ref 30, .int 0, .ref 151]) rfl (e := (.iconst 0, 1, [], .null)) rfl rfl (fun _ _ => rfl)
  have E := E.pu (p := 119) (lo' := (ri_as 0 [.ref 23, .ref 144])) (st' := [.int 8, .int 0, .ref 30, .int 0, .ref 151]) rfl (e := (.bipush 8, 2, [], .null)) rfl rfl (fun _ _ => rfl)
  obtain ⟨h22, hV23, hN24, E⟩ := E.cr (p := 122) (n := 8) (a := 151) (b := 30) (st := []) rfl (x := 61) (m := 3) (w := .null) (u := [669]) rfl rfl (by decide) hV20
  have E := E.ld (p := 123) (t := ri_isA) (i := 1) (n := 1) (v := .ref 144) rfl (e := (.aload_n 1, 1, [], .null)) rfl rfl (fun _ _ => rfl) rfl rfl
  have E := E.gr (n := 152) (p := 126) rfl (x := 45) (m := 3) (w := .null) (t := 4) (i := 8) (u := 283) rfl rfl hV23 ((((((((ty.cr rfl rfl).ui rfl).cr rfl rfl).cr rfl rfl).cr rfl rfl).cr rfl rfl).cr rfl rfl).cr rfl rfl) rfl
  have E := E.pu (p := 127) (lo' := (ri_as 0 [.ref 23, .ref 144])) (st' := [.int 0, .ref 152]) rfl (e := (.iconst 0, 1, [], .null)) rfl rfl (fun _ _ => rfl)
  have E := E.ld (p := 128) (t := ri_isA) (i := 0) (n := 1) (v := .ref 23) rfl (e := (.aload_n 0, 1, [], .null)) rfl rfl (fun _ _ => rfl) rfl rfl
  have E := E.gr (n := 31) (p := 131) rfl (x := 45) (m := 3) (w := .null) (t := 4) (i := 8) (u := 283) rfl rfl hV23 ((((((((ty.cr rfl rfl).ui rfl).cr rfl rfl).cr rfl rfl).cr rfl rfl).cr rfl rfl).cr rfl rfl).cr rfl rfl) rfl
  have E := E.pu (p := 132) (lo' := (ri_as 0 [.ref 23, .ref 144])) (st' := [.int 0, .ref 31, .int 0, .ref 152]) rfl (e := (.iconst 0, 1, [], .null)) rfl rfl (fun _ _ => rfl)
  have E := E.pu (p := 134) (lo' := (ri_as 0 [.ref 23, .ref 144])) (st' := [.int 6, .int 0, .ref 31, .int 0, .ref 152]) rfl (e := (.bipush 6, 2, [], .null)) rfl rfl (fun _ _ => rfl)
  obtain ⟨h25, hV26, hN27, E⟩ := E.cr (p := 137) (n := 6) (a := 152) (b := 31) (st := []) rfl (x := 61) (m := 3) (w := .null) (u := [669]) rfl rfl (by decide) hV23
  have E := E.ld (p := 138) (t := ri_isA) (i := 1) (n := 1) (v := .ref 144) rfl (e := (.aload_n 1, 1, [], .null)) rfl rfl (fun _ _ => rfl) rfl rfl
  have E := E.gr (n := 153) (p := 141) rfl (x := 48) (m := 3) (w := .null) (t := 4) (i := 9) (u := 286) rfl rfl hV26 (((((((((ty.cr rfl rfl).ui rfl).cr rfl rfl).cr rfl rfl).cr rfl rfl).cr rfl rfl).cr rfl rfl).cr rfl rfl).cr rfl rfl) rfl
  have E := E.pu (p := 142) (lo' := (ri_as 0 [.ref 23, .ref 144])) (st' := [.int 0, .ref 153]) rfl (e := (.iconst 0, 1, [], .null)) rfl rfl (fun _ _ => rfl)
  have E := E.ld (p := 143) (t := ri_isA) (i := 0) (n := 1) (v := .ref 23) rfl (e := (.aload_n 0, 1, [], .null)) rfl rfl (fun _ _ => rfl) rfl rfl
  have E := E.gr (n := 32) (p := 146) rfl (x := 48) (m := 3) (w := .null) (t := 4) (i := 9) (u := 286) rfl rfl hV26 (((((((((ty.cr rfl rfl).ui rfl).cr rfl rfl).cr rfl rfl).cr rfl rfl).cr rfl rfl).cr rfl rfl).cr rfl rfl).cr rfl rfl) rfl
  have E := E.pu (p := 147) (lo' := (ri_as 0 [.ref 23, .ref 144])) (st' := [.int 0, .ref 32, .int 0, .ref 153]) rfl (e := (.iconst 0, 1, [], .null)) rfl rfl (fun _ _ => rfl)
  have E := E.pu (p := 149) (lo' := (ri_as 0 [.ref 23, .ref 144])) (st' := [.int 24, .int 0, .ref 32, .int 0, .ref 153]) rfl (e := (.bipush 24, 2, [], .null)) rfl rfl (fun _ _ => rfl)
  obtain ⟨h28, hV29, hN30, E⟩ := E.cr (p := 152) (n := 24) (a := 153) (b := 32) (st := []) rfl (x := 61) (m := 3) (w := .null) (u := [669]) rfl rfl (by decide) hV26
  have E := E.ld (p := 153) (t := ri_isA) (i := 1) (n := 1) (v := .ref 144) rfl (e := (.aload_n 1, 1, [], .null)) rfl rfl (fun _ _ => rfl) rfl rfl
  have E := E.gr (n := 154) (p := 156) rfl (x := 52) (m := 3) (w := .null) (t := 4) (i := 10) (u := 287) rfl rfl hV29 ((((((((((ty.cr rfl rfl).ui rfl).cr rfl rfl).cr rfl rfl).cr rfl rfl).cr rfl rfl).cr rfl rfl).cr rfl rfl).cr rfl rfl).cr rfl rfl) rfl
  have E := E.pu (p := 157) (lo' := (ri_as 0 [.ref 23, .ref 144])) (st' := [.int 0, .ref 154]) rfl (e := (.iconst 0, 1, [], .null)) rfl rfl (fun _ _ => rfl)
  have E := E.ld (p := 158) (t := ri_isA) (i := 0) (n := 1) (v := .ref 23) rfl (e := (.aload_n 0, 1, [], .null)) rfl rfl (fun _ _ => rfl) rfl rfl
  have E := E.gr (n := 33) (p := 161) rfl (x := 52) (m := 3) (w := .null) (t := 4) (i := 10) (u := 287) rfl rfl hV29 ((((((((((ty.cr rfl rfl).ui rfl).cr rfl rfl).cr rfl rfl).cr rfl rfl).cr rfl rfl).cr rfl rfl).cr rfl rfl).cr rfl rfl).cr rfl rfl) rfl
  have E := E.pu (p := 162) (lo' := (ri_as 0 [.ref 23, .ref 144])) (st' := [.int 0, .ref 33, .int 0, .ref 154]) rfl (e := (.iconst 0, 1, [], .null)) rfl rfl (fun _ _ => rfl)
  have E := E.pu (p := 164) (lo' := (ri_as 0 [.ref 23, .ref 144])) (st' := [.int 24, .int 0, .ref 33, .int 0, .ref 154]) rfl (e := (.bipush 24, 2, [], .null)) rfl rfl (fun _ _ => rfl)
  obtain ⟨h31, hV32, hN33, E⟩ := E.cr (p := 167) (n := 24) (a := 154) (b := 33) (st := []) rfl (x := 61) (m := 3) (w := .null) (u := [669]) rfl rfl (by decide) hV29
  have E := E.ld (p := 168) (t := ri_isA) (i := 1) (n := 1) (v := .ref 144) rfl (e := (.aload_n 1, 1, [], .null)) rfl rfl (fun _ _ => rfl) rfl rfl
  have E := E.gr (n := 155) (p := 171) rfl (x := 55) (m := 3) (w := .null) (t := 4) (i := 11) (u := 290) rfl rfl hV32 (((((((((((ty.cr rfl rfl).ui rfl).cr rfl rfl).cr rfl rfl).cr rfl rfl).cr rfl rfl).cr rfl rfl).cr rfl rfl).cr rfl rfl).cr rfl rfl).cr rfl rfl) rfl
  have E := E.pu (p := 172) (lo' := (ri_as 0 [.ref 23, .ref 144])) (st' := [.int 0, .ref 155]) rfl (e := (.iconst 0, 1, [], .null)) rfl rfl (fun _ _ => rfl)
  have E := E.ld (p := 173) (t := ri_isA) (i := 0) (n := 1) (v := .ref 23) rfl (e := (.aload_n 0, 1, [], .null)) rfl rfl (fun _ _ => rfl) rfl rfl
  have E := E.gr (n := 34) (p := 176) rfl (x := 55) (m := 3) (w := .null) (t := 4) (i := 11) (u := 290) rfl rfl hV32 (((((((((((ty.cr rfl rfl).ui rfl).cr rfl rfl).cr rfl rfl).cr rfl rfl).cr rfl rfl).cr rfl rfl).cr rfl rfl).cr rfl rfl).cr rfl rfl).cr rfl rfl) rfl
  have E := E.pu (p := 177) (lo' := (ri_as 0 [.ref 23, .ref 144])) (st' := [.int 0, .ref 34, .int 0, .ref 155]) rfl (e := (.iconst 0, 1, [], .null)) rfl rfl (fun _ _ => rfl)
  have E := E.pu (p := 179) (lo' := (ri_as 0 [.ref 23, .ref 144])) (st' := [.int 24, .int 0, .ref 34, .int 0, .ref 155]) rfl (e := (.bipush 24, 2, [], .null)) rfl rfl (fun _ _ => rfl)
  obtain ⟨h34, hV35, hN36, E⟩ := E.cr (p := 182) (n := 24) (a := 155) (b := 34) (st := []) rfl (x := 61) (m := 3) (w := .null) (u := [669]) rfl rfl (by decide) hV32
  have E := E.ld (p := 183) (t := ri_isA) (i := 0) (n := 1) (v := .ref 23) rfl (e := (.aload_n 0, 1, [], .null)) rfl rfl (fun _ _ => rfl) rfl rfl
  have E := E.ld (p := 184) (t := ri_isA) (i := 1) (n := 1) (v := .ref 144) rfl (e := (.aload_n 1, 1, [], .null)) rfl rfl (fun _ _ => rfl) rfl rfl
  have E := E.gi (y := eh_i G 144 12) (p := 187) rfl (x := 58) (m := 3) (w := .null) (t := 4) (i := 12) (u := 293) rfl rfl hV35 ((((((((((((ty.cr rfl rfl).ui rfl).cr rfl rfl).cr rfl rfl).cr rfl rfl).cr rfl rfl).cr rfl rfl).cr rfl rfl).cr rfl rfl).cr rfl rfl).cr rfl rfl).cr rfl rfl) rfl rfl
  obtain ⟨h37, hV38, hN39, E⟩ := E.gp (p := 190) rfl (x := 58) (m := 3) (w := .null) (t := 4) (i := 12) (u := 293) (y := 0) rfl rfl hV35
  obtain ⟨r1, r2⟩ := E.retv rfl (m := 1) (ax := []) (w := .null) rfl
  exact ⟨(by rw [← hrs, r1]; rfl), ((congrArg eh_V r2).trans hV38), ((congrArg eh_N r2).trans (hN39.trans (hN36.trans (hN33.trans (hN30.trans (hN27.trans (hN24.trans (hN21.trans (hN18.trans (hN15.trans (hN12.trans (hN9.trans (hN6.trans hN3)))))))))))))⟩
theorem cf_0a {d : Nat} {h h' : ri_H} {v : Option Value} {G : eh_W} (E : ri_calE ri_md (d + 1) 52 [.ref 156, .ref 35] h = some (v, h')) (hV : eh_V h = G) (ty : eh_ty tC G) (hl : (eh_N h).take 209 = NCl) : v = none ∧ eh_V h' = eh_cp (eh_cp (eh_cp (eh_cp (eh_cp (eh_cp (eh_cp (eh_cp (eh_cp (eh_u (eh_u (eh_u (eh_u (eh_u (eh_u (eh_u G 156 0 (.int (eh_i G 35 0))) 156 1 (.int (eh_i G 35 1))) 156 2 (.int (eh_i G 35 2))) 156 3 (.int (eh_i G 35 3))) 156 4 (.int (eh_i G 35 4))) 156 5 (.int (eh_i G 35 5))) 156 6 (.int (eh_i G 35 6))) 36 157 8) 37 158 8) 38 159 8) 39 160 8) 40 161 8) 41 162 8) 42 163 6) 43 164 6) 44 165 6 ∧ eh_N h' = eh_N h := by
  obtain ⟨rs, hrs, E⟩ := eh_in E (q := md_52) rfl
  have E := E.ld (p := 1) (t := ri_isA) (i := 0) (n := 1) (v := .ref 156) rfl (e := (.aload_n 0, 1, [], .null)) rfl rfl (fun _ _ => rfl) rfl rfl
  have E := E.ld (p := 2) (t := ri_isA) (i := 1) (n := 1) (v := .ref 35) rfl (e := (.aload_n 1, 1, [], .null)) rfl rfl (fun _ _ => rfl) rfl rfl
  have E := E.gi (y := eh_i G 35 0) (p := 5) rfl (x := 9) (m := 3) (w := .null) (t := 6) (i := 0) (u := 382) rfl rfl hV ty rfl rfl
  obtain ⟨h1, hV2, hN3, E⟩ := E.gp (p := 8) rfl (x := 9) (m := 3) (w := .null) (t := 6) (i := 0) (u := 382) (y := 0) rfl rfl hV
  have E := E.ld (p := 9) (t := ri_isA) (i := 0) (n := 1) (v := .ref 156) rfl (e := (.aload_n 0, 1, [], .null)) rfl rfl (fun _ _ => rfl) rfl rfl
  have E := E.ld (p := 10) (t := ri_isA) (i := 1) (n := 1) (v := .ref 35) rfl (e := (.aload_n 1, 1, [], .null)) rfl rfl (fun _ _ => rfl) rfl rfl
  have E := E.gi (y := eh_i G 35 1) (p := 13) rfl (x := 15) (m := 3) (w := .null) (t := 6) (i := 1) (u := 385) rfl rfl hV2 (ty.ui rfl) rfl rfl
  obtain ⟨h4, hV5, hN6, E⟩ := E.gp (p := 16) rfl (x := 15) (m := 3) (w := .null) (t := 6) (i := 1) (u := 385) (y := 0) rfl rfl hV2
  have E := E.ld (p := 17) (t := ri_isA) (i := 0) (n := 1) (v := .ref 156) rfl (e := (.aload_n 0, 1, [], .null)) rfl rfl (fun _ _ => rfl) rfl rfl
  have E := E.ld (p := 18) (t := ri_isA) (i := 1) (n := 1) (v := .ref 35) rfl (e := (.aload_n 1, 1, [], .null)) rfl rfl (fun _ _ => rfl) rfl rfl
  have E := E.gi (y := eh_i G 35 2) (p := 21) rfl (x := 18) (m := 3) (w := .null) (t := 6) (i := 2) (u := 387) rfl rfl hV5 ((ty.ui rfl).ui rfl) rfl rfl
  obtain ⟨h7, hV8, hN9, E⟩ := E.gp (p := 24) rfl (x := 18) (m := 3) (w := .null) (t := 6) (i := 2) (u := 387) (y := 0) rfl rfl hV5
  have E := E.ld (p := 25) (t := ri_isA) (i := 0) (n := 1) (v := .ref 156) rfl (e := (.aload_n 0, 1, [], .null)) rfl rfl (fun _ _ => rfl) rfl rfl
  have E := E.ld (p := 26) (t := ri_isA) (i := 1) (n := 1) (v := .ref 35) rfl (e := (.aload_n 1, 1, [], .null)) rfl rfl (fun _ _ => rfl) rfl rfl
  have E := E.gi (y := eh_i G 35 3) (p := 29) rfl (x := 21) (m := 3) (w := .null) (t := 6) (i := 3) (u := 389) rfl rfl hV8 (((ty.ui rfl).ui rfl).ui rfl) rfl rfl
  obtain ⟨h10, hV11, hN12, E⟩ := E.gp (p := 32) rfl (x := 21) (m := 3) (w := .null) (t := 6) (i := 3) (u := 389) (y := 0) rfl rfl hV8
  have E := E.ld (p := 33) (t := ri_isA) (i := 0) (n := 1) (v := .ref 156) rfl (e := (.aload_n 0, 1, [], .null)) rfl rfl (fun _ _ => rfl) rfl rfl
  have E := E.ld (p := 34) (t := ri_isA) (i := 1) (n := 1) (v := .ref 35) rfl (e := (.aload_n 1, 1, [], .null)) rfl rfl (fun _ _ => rfl) rfl rfl
  have E := E.gi (y := eh_i G 35 4) (p := 37) rfl (x := 24) (m := 3) (w := .null) (t := 6) (i := 4) (u := 393) rfl rfl hV11 ((((ty.ui rfl).ui rfl).ui rfl).ui rfl) rfl rfl
  obtain ⟨h13, hV14, hN15, E⟩ := E.gp (p := 40) rfl (x := 24) (m := 3) (w := .null) (t := 6) (i := 4) (u := 393) (y := 0) rfl rfl hV11
  have E := E.ld (p := 41) (t := ri_isA) (i := 0) (n := 1) (v := .ref 156) rfl (e := (.aload_n 0, 1, [], .null)) rfl rfl (fun _ _ => rfl) rfl rfl
  have E := E.ld (p := 42) (t := ri_isA) (i := 1) (n := 1) (v := .ref 35) rfl (e := (.aload_n 1, 1, [], .null)) rfl rfl (fun _ _ => rfl) rfl rfl
  have E := E.gi (y := eh_i G 35 5) (p := 45) rfl (x := 27) (m := 3) (w := .null) (t := 6) (i := 5) (u := 396) rfl rfl hV14 (((((ty.ui rfl).ui rfl).ui rfl).ui rfl).ui rfl) rfl rfl
  obtain ⟨h16, hV17, hN18, E⟩ := E.gp (p := 48) rfl (x := 27) (m := 3) (w := .null) (t := 6) (i := 5) (u := 396) (y := 0) rfl rfl hV14
  have E := E.ld (p := 49) (t := ri_isA) (i := 0) (n := 1) (v := .ref 156) rfl (e := (.aload_n 0, 1, [], .null)) rfl rfl (fun _ _ => rfl) rfl rfl
  have E := E.ld (p := 50) (t := ri_isA) (i := 1) (n := 1) (v := .ref 35) rfl (e := (.aload_n 1, 1, [], .null)) rfl rfl (fun _ _ => rfl) rfl rfl
  have E := E.gi (y := eh_i G 35 6) (p := 53) rfl (x := 30) (m := 3) (w := .null) (t := 6) (i := 6) (u := 398) rfl rfl hV17 ((((((ty.ui rfl).ui rfl).ui rfl).ui rfl).ui rfl).ui rfl) rfl rfl
  obtain ⟨h19, hV20, hN21, E⟩ := E.gp (p := 56) rfl (x := 30) (m := 3) (w := .null) (t := 6) (i := 6) (u := 398) (y := 0) rfl rfl hV17
  have E := E.ld (p := 57) (t := ri_isA) (i := 1) (n := 1) (v := .ref 35) rfl (e := (.aload_n 1, 1, [], .null)) rfl rfl (fun _ _ => rfl) rfl rfl
  have E := E.gr (n := 36) (p := 60) rfl (x := 33) (m := 3) (w := .null) (t := 6) (i := 7) (u := 399) rfl rfl hV20 (((((((ty.ui rfl).ui rfl).ui rfl).ui rfl).ui rfl).ui rfl).ui rfl) rfl
  have E := E.pu (p := 61) (lo' := (ri_as 0 [.ref 156, .ref 35])) (st' := [.int 0, .ref 36]) rfl (e := (.iconst 0, 1, [], .null)) rfl rfl (fun _ _ => rfl)
  have E := E.ld (p := 62) (t := ri_isA) (i := 0) (n := 1) (v := .ref 156) rfl (e := (.aload_n 0, 1, [], .null)) rfl rfl (fun _ _ => rfl) rfl rfl
  have E := E.gr (n := 157) (p := 65) rfl (x := 33) (m := 3) (w := .null) (t := 6) (i := 7) (u := 399) rfl rfl hV20 (((((((ty.ui rfl).ui rfl).ui rfl).ui rfl).ui rfl).ui rfl).ui rfl) rfl
  have E := E.pu (p := 66) (lo' := (ri_as 0 [.ref 156, .ref 35])) (st' := [.int 0, .ref 157, .int 0, .ref 36]) rfl (e := (.iconst 0, 1, [], .null)) rfl rfl (fun _ _ => rfl)
  have E := E.pu (p := 68) (lo' := (ri_as 0 [.ref 156, .ref 35])) (st' := [.int 8, .int 0, .ref 157, .int 0, .ref 36]) rfl (e := (.bipush 8, 2, [], .null)) rfl rfl (fun _ _ => rfl)
  obtain ⟨h22, hV23, hN24, E⟩ := E.cr (p := 71) (n := 8) (a := 36) (b := 157) (st := []) rfl (x := 66) (m := 3) (w := .null) (u := [816]) rfl rfl (by decide) hV20
  have E := E.ld (p := 72) (t := ri_isA) (i := 1) (n := 1) (v := .ref 35) rfl (e := (.aload_n 1, 1, [], .null)) rfl rfl (fun _ _ => rfl) rfl rfl
  have E := E.gr (n := 37) (p := 75) rfl (x := 37) (m := 3) (w := .null) (t := 6) (i := 8) (u := 401) rfl rfl hV23 ((((((((ty.ui rfl).ui rfl).ui rfl).ui rfl).ui rfl).ui rfl).ui rfl).cr rfl rfl) rfl
  have E := E.pu (p := 76) (lo' := (ri_as 0 [.ref 156, .ref 35])) (st' := [.int 0, .ref 37]) rfl (e := (.iconst 0, 1, [], .null)) rfl rfl (fun _ _ => rfl)
  have E := E.ld (p := 77) (t := ri_isA) (i := 0) (n := 1) (v := .ref 156) rfl (e := (.aload_n 0, 1, [], .null)) rfl rfl (fun _ _ => rfl) rfl rfl
  have E := E.gr (n := 158) (p := 80) rfl (x := 37) (m := 3) (w := .null) (t := 6) (i := 8) (u := 401) rfl rfl hV23 ((((((((ty.ui rfl).ui rfl).ui rfl).ui rfl).ui rfl).ui rfl).ui rfl).cr rfl rfl) rfl
  have E := E.pu (p := 81) (lo' := (ri_as 0 [.ref 156, .ref 35])) (st' := [.int 0, .ref 158, .int 0, .ref 37]) rfl (e := (.iconst 0, 1, [], .null)) rfl rfl (fun _ _ => rfl)
  have E := E.pu (p := 83) (lo' := (ri_as 0 [.ref 156, .ref 35])) (st' := [.int 8, .int 0, .ref 158, .int 0, .ref 37]) rfl (e := (.bipush 8, 2, [], .null)) rfl rfl (fun _ _ => rfl)
  obtain ⟨h25, hV26, hN27, E⟩ := E.cr (p := 86) (n := 8) (a := 37) (b := 158) (st := []) rfl (x := 66) (m := 3) (w := .null) (u := [816]) rfl rfl (by decide) hV23
  have E := E.ld (p := 87) (t := ri_isA) (i := 1) (n := 1) (v := .ref 35) rfl (e := (.aload_n 1, 1, [], .null)) rfl rfl (fun _ _ => rfl) rfl rfl
  have E := E.gr (n := 38) (p := 90) rfl (x := 40) (m := 3) (w := .null) (t := 6) (i := 9) (u := 404) rfl rfl hV26 (((((((((ty.ui rfl).ui rfl).ui rfl).ui rfl).ui rfl).ui rfl).ui rfl).cr rfl rfl).cr rfl rfl) rfl
  have E := E.pu (p := 91) (lo' := (ri_as 0 [.ref 156, .ref 35])) (st' := [.int 0, .ref 38]) rfl (e := (.iconst 0, 1, [], .null)) rfl rfl (fun _ _ => rfl)
  have E := E.ld (p := 92) (t := ri_isA) (i := 0) (n := 1) (v := .ref 156) rfl (e := (.aload_n 0, 1, [], .null)) rfl rfl (fun _ _ => rfl) rfl rfl
  have E := E.gr (n := 159) (p := 95) rfl (x := 40) (m := 3) (w := .null) (t := 6) (i := 9) (u := 404) rfl rfl hV26 (((((((((ty.ui rfl).ui rfl).ui rfl).ui rfl).ui rfl).ui rfl).ui rfl).cr rfl rfl).cr rfl rfl) rfl
  have E := E.pu (p := 96) (lo' := (ri_as 0 [.ref 156, .ref 35])) (st' := [.int 0, .ref 159, .int 0, .ref 38]) rfl (e := (.iconst 0, 1, [], .null)) rfl rfl (fun _ _ => rfl)
  have E := E.pu (p := 98) (lo' := (ri_as 0 [.ref 156, .ref 35])) (st' := [.int 8, .int 0, .ref 159, .int 0, .ref 38]) rfl (e := (.bipush 8, 2, [], .null)) rfl rfl (fun _ _ => rfl)
  obtain ⟨h28, hV29, hN30, E⟩ := E.cr (p := 101) (n := 8) (a := 38) (b := 159) (st := []) rfl (x := 66) (m := 3) (w := .null) (u := [816]) rfl rfl (by decide) hV26
  have E := E.ld (p := 102) (t := ri_isA) (i := 1) (n := 1) (v := .ref 35) rfl (e := (.aload_n 1, 1, [], .null)) rfl rfl (fun _ _ => rfl) rfl rfl
  have E := E.gr (n := 39) (p := 105) rfl (x := 43) (m := 3) (w := .null) (t := 6) (i := 10) (u := 407) rfl rfl hV29 ((((((((((ty.ui rfl).ui rfl).ui rfl).ui rfl).ui rfl).ui rfl).ui rfl).cr rfl rfl).cr rfl rfl).cr rfl rfl) rfl
  have E := E.pu (p := 106) (lo' := (ri_as 0 [.ref 156, .ref 35])) (st' := [.int 0, .ref 39]) rfl (e := (.iconst 0, 1, [], .null)) rfl rfl (fun _ _ => rfl)
  have E := E.ld (p := 107) (t := ri_isA) (i := 0) (n := 1) (v := .ref 156) rfl (e := (.aload_n 0, 1, [], .null)) rfl rfl (fun _ _ => rfl) rfl rfl
  have E := E.gr (n := 160) (p := 110) rfl (x := 43) (m := 3) (w := .null) (t := 6) (i := 10) (u := 407) rfl rfl hV29 ((((((((((ty.ui rfl).ui rfl).ui rfl).ui rfl).ui rfl).ui rfl).ui rfl).cr rfl rfl).cr rfl rfl).cr rfl rfl) rfl
  have E := E.pu (p := 111) (lo' := (ri_as 0 [.ref 156, .ref 35])) (st' := [.int 0, .ref 160, .int 0, .ref 39]) rfl (e := (.iconst 0, 1, [], .null)) rfl rfl (fun _ _ => rfl)
  have E := E.pu (p := 113) (lo' := (ri_as 0 [.ref 156, .ref 35])) (st' := [.int 8, .int 0, .ref 160, .int 0, .ref 39]) rfl (e := (.bipush 8, 2, [], .null)) rfl rfl (fun _ _ => rfl)
  obtain ⟨h31, hV32, hN33, E⟩ := E.cr (p := 116) (n := 8) (a := 39) (b := 160) (st := []) rfl (x := 66) (m := 3) (w := .null) (u := [816]) rfl rfl (by decide) hV29
  have E := E.ld (p := 117) (t := ri_isA) (i := 1) (n := 1) (v := .ref 35) rfl (e := (.aload_n 1, 1, [], .null)) rfl rfl (fun _ _ => rfl) rfl rfl
  have E := E.gr (n := 40) (p := 120) rfl (x := 46) (m := 3) (w := .null) (t := 6) (i := 11) (u := 409) rfl rfl hV32 (((((((((((ty.ui rfl).ui rfl).ui rfl).ui rfl).ui rfl).ui rfl).ui rfl).cr rfl rfl).cr rfl rfl).cr rfl rfl).cr rfl rfl) rfl
  have E := E.pu (p := 121) (lo' := (ri_as 0 [.ref 156, .ref 35])) (st' := [.int 0, .ref 40]) rfl (e := (.iconst 0, 1, [], .null)) rfl rfl (fun _ _ => rfl)
  have E := E.ld (p := 122) (t := ri_isA) (i := 0) (n := 1) (v := .ref 156) rfl (e := (.aload_n 0, 1, [], .null)) rfl rfl (fun _ _ => rfl) rfl rfl
  have E := E.gr (n := 161) (p := 125) rfl (x := 46) (m := 3) (w := .null) (t := 6) (i := 11) (u := 409) rfl rfl hV32 (((((((((((ty.ui rfl).ui rfl).ui rfl).ui rfl).ui rfl).ui rfl).ui rfl).cr rfl rfl).cr rfl rfl).cr rfl rfl).cr rfl rfl) rfl
  have E := E.pu (p := 126) (lo' := (ri_as 0 [.ref 156, .ref 35])) (st' := [.int 0, .ref 161, .int 0, .ref 40]) rfl (e := (.iconst 0, 1, [], .null)) rfl rfl (fun _ _ => rfl)
  have E := E.pu (p := 128) (lo' := (ri_as 0 [.ref 156, .ref 35])) (st' := [.int 8, .int 0, .ref 161, .int 0, .ref 40]) rfl (e := (.bipush 8, 2, [], .null)) rfl rfl (fun _ _ => rfl)
  obtain ⟨h34, hV35, hN36, E⟩ := E.cr (p := 131) (n := 8) (a := 40) (b := 161) (st := []) rfl (x := 66) (m := 3) (w := .null) (u := [816]) rfl rfl (by decide) hV32
  have E := E.ld (p := 132) (t := ri_isA) (i := 1) (n := 1) (v := .ref 35) rfl (e := (.aload_n 1, 1, [], .null)) rfl rfl (fun _ _ => rfl) rfl rfl
  have E := E.gr (n := 41) (p := 135) rfl (x := 49) (m := 3) (w := .null) (t := 6) (i := 12) (u := 412) rfl rfl hV35 ((((((((((((ty.ui rfl).ui rfl).ui rfl).ui rfl).ui rfl).ui rfl).ui rfl).cr rfl rfl).cr rfl rfl).cr rfl rfl).cr rfl rfl).cr rfl rfl) rfl
  have E := E.pu (p := 136) (lo' := (ri_as 0 [.ref 156, .ref 35])) (st' := [.int 0, .ref 41]) rfl (e := (.iconst 0, 1, [], .null)) rfl rfl (fun _ _ => rfl)
  have E := E.ld (p := 137) (t := ri_isA) (i := 0) (n := 1) (v := .ref 156) rfl (e := (.aload_n 0, 1, [], .null)) rfl rfl (fun _ _ => rfl) rfl rfl
  have E := E.gr (n := 162) (p := 140) rfl (x := 49) (m := 3) (w := .null) (t := 6) (i := 12) (u := 412) rfl rfl hV35 ((((((((((((ty.ui rfl).ui rfl).ui rfl).ui rfl).ui rfl).ui rfl).ui rfl).cr rfl rfl).cr rfl rfl).cr rfl rfl).cr rfl rfl).cr rfl rfl) rfl
  have E := E.pu (p := 141) (lo' := (ri_as 0 [.ref 156, .ref 35])) (st' := [.int 0, .ref 162, .int 0, .ref 41]) rfl (e := (.iconst 0, 1, [], .null)) rfl rfl (fun _ _ => rfl)
  have E := E.pu (p := 143) (lo' := (ri_as 0 [.ref 156, .ref 35])) (st' := [.int 8, .int 0, .ref 162, .int 0, .ref 41]) rfl (e := (.bipush 8, 2, [], .null)) rfl rfl (fun _ _ => rfl)
  obtain ⟨h37, hV38, hN39, E⟩ := E.cr (p := 146) (n := 8) (a := 41) (b := 162) (st := []) rfl (x := 66) (m := 3) (w := .null) (u := [816]) rfl rfl (by decide) hV35
  have E := E.ld (p := 147) (t := ri_isA) (i := 1) (n := 1) (v := .ref 35) rfl (e := (.aload_n 1, 1, [], .null)) rfl rfl (fun _ _ => rfl) rfl rfl
  have E := E.gr (n := 42) (p := 150) rfl (x := 52) (m := 3) (w := .null) (t := 6) (i := 13) (u := 414) rfl rfl hV38 (((((((((((((ty.ui rfl).ui rfl).ui rfl).ui rfl).ui rfl).ui rfl).ui rfl).cr rfl rfl).cr rfl rfl).cr rfl rfl).cr rfl rfl).cr rfl rfl).cr rfl rfl) rfl
  have E := E.pu (p := 151) (lo' := (ri_as 0 [.ref 156, .ref 35])) (st' := [.int 0, .ref 42]) rfl (e := (.iconst 0, 1, [], .null)) rfl rfl (fun _ _ => rfl)
  have E := E.ld (p := 152) (t := ri_isA) (i := 0) (n := 1) (v := .ref 156) rfl (e := (.aload_n 0, 1, [], .null)) rfl rfl (fun _ _ => rfl) rfl rfl
  have E := E.gr (n := 163) (p := 155) rfl (x := 52) (m := 3) (w := .null) (t := 6) (i := 13) (u := 414) rfl rfl hV38 (((((((((((((ty.ui rfl).ui rfl).ui rfl).ui rfl).ui rfl).ui rfl).ui rfl).cr rfl rfl).cr rfl rfl).cr rfl rfl).cr rfl rfl).cr rfl rfl).cr rfl rfl) rfl
  have E := E.pu (p := 156) (lo' := (ri_as 0 [.ref 156, .ref 35])) (st' := [.int 0, .ref 163, .int 0, .ref 42]) rfl (e := (.iconst 0, 1, [], .null)) rfl rfl (fun _ _ => rfl)
  have E := E.pu (p := 158) (lo' := (ri_as 0 [.ref 156, .ref 35])) (st' := [.int 6, .int 0, .ref 163, .int 0, .ref 42]) rfl (e := (.bipush 6, 2, [], .null)) rfl rfl (fun _ _ => rfl)
  obtain ⟨h40, hV41, hN42, E⟩ := E.cr (p := 161) (n := 6) (a := 42) (b := 163) (st := []) rfl (x := 66) (m := 3) (w := .null) (u := [816]) rfl rfl (by decide) hV38
  have E := E.ld (p := 162) (t := ri_isA) (i := 1) (n := 1) (v := .ref 35) rfl (e := (.aload_n 1, 1, [], .null)) rfl rfl (fun _ _ => rfl) rfl rfl
  have E := E.gr (n := 43) (p := 165) rfl (x := 55) (m := 3) (w := .null) (t := 6) (i := 14) (u := 416) rfl rfl hV41 ((((((((((((((ty.ui rfl).ui rfl).ui rfl).ui rfl).ui rfl).ui rfl).ui rfl).cr rfl rfl).cr rfl rfl).cr rfl rfl).cr rfl rfl).cr rfl rfl).cr rfl rfl).cr rfl rfl) rfl
  have E := E.pu (p := 166) (lo' := (ri_as 0 [.ref 156, .ref 35])) (st' := [.int 0, .ref 43]) rfl (e := (.iconst 0, 1, [], .null)) rfl rfl (fun _ _ => rfl)
  have E := E.ld (p := 167) (t := ri_isA) (i := 0) (n := 1) (v := .ref 156) rfl (e := (.aload_n 0, 1, [], .null)) rfl rfl (fun _ _ => rfl) rfl rfl
  have E := E.gr (n := 164) (p := 170) rfl (x := 55) (m := 3) (w := .null) (t := 6) (i := 14) (u := 416) rfl rfl hV41 ((((((((((((((ty.ui rfl).ui rfl).ui rfl).ui rfl).ui rfl).ui rfl).ui rfl).cr rfl rfl).cr rfl rfl).cr rfl rfl).cr rfl rfl).cr rfl rfl).cr rfl rfl).cr rfl rfl) rfl
  have E := E.pu (p := 171) (lo' := (ri_as 0 [.ref 156, .ref 35])) (st' := [.int 0, .ref 164, .int 0, .ref 43]) rfl (e := (.iconst 0, 1, [], .null)) rfl rfl (fun _ _ => rfl)
  have E := E.pu (p := 173) (lo' := (ri_as 0 [.ref 156, .ref 35])) (st' := [.int 6, .int 0, .ref 164, .int 0, .ref 43]) rfl (e := (.bipush 6, 2, [], .null)) rfl rfl (fun _ _ => rfl)
  obtain ⟨h43, hV44, hN45, E⟩ := E.cr (p := 176) (n := 6) (a := 43) (b := 164) (st := []) rfl (x := 66) (m := 3) (w := .null) (u := [816]) rfl rfl (by decide) hV41
  have E := E.ld (p := 177) (t := ri_isA) (i := 1) (n := 1) (v := .ref 35) rfl (e := (.aload_n 1, 1, [], .null)) rfl rfl (fun _ _ => rfl) rfl rfl
  have E := E.gr (n := 44) (p := 180) rfl (x := 58) (m := 3) (w := .null) (t := 6) (i := 15) (u := 418) rfl rfl hV44 (((((((((((((((ty.ui rfl).ui rfl).ui rfl).ui rfl).ui rfl).ui rfl).ui rfl).cr rfl rfl).cr rfl rfl).cr rfl rfl).cr rfl rfl).cr rfl rfl).cr rfl rfl).cr rfl rfl).cr rfl rfl) rfl
  have E := E.pu (p := 181) (lo' := (ri_as 0 [.ref 156, .ref 35])) (st' := [.int 0, .ref 44]) rfl (e := (.iconst 0, 1, [], .null)) rfl rfl (fun _ _ => rfl)
  have E := E.ld (p := 182) (t := ri_isA) (i := 0) (n := 1) (v := .ref 156) rfl (e := (.aload_n 0, 1, [], .null)) rfl rfl (fun _ _ => rfl) rfl rfl
  have E := E.gr (n := 165) (p := 185) rfl (x := 58) (m := 3) (w := .null) (t := 6) (i := 15) (u := 418) rfl rfl hV44 (((((((((((((((ty.ui rfl).ui rfl).ui rfl).ui rfl).ui rfl).ui rfl).ui rfl).cr rfl rfl).cr rfl rfl).cr rfl rfl).cr rfl rfl).cr rfl rfl).cr rfl rfl).cr rfl rfl).cr rfl rfl) rfl
  have E := E.pu (p := 186) (lo' := (ri_as 0 [.ref 156, .ref 35])) (st' := [.int 0, .ref 165, .int 0, .ref 44]) rfl (e := (.iconst 0, 1, [], .null)) rfl rfl (fun _ _ => rfl)
  have E := E.pu (p := 188) (lo' := (ri_as 0 [.ref 156, .ref 35])) (st' := [.int 6, .int 0, .ref 165, .int 0, .ref 44]) rfl (e := (.bipush 6, 2, [], .null)) rfl rfl (fun _ _ => rfl)
  obtain ⟨h46, hV47, hN48, E⟩ := E.cr (p := 191) (n := 6) (a := 44) (b := 165) (st := []) rfl (x := 66) (m := 3) (w := .null) (u := [816]) rfl rfl (by decide) hV44
  obtain ⟨r1, r2⟩ := E.retv rfl (m := 1) (ax := []) (w := .null) rfl
  exact ⟨(by rw [← hrs, r1]; rfl), ((congrArg eh_V r2).trans hV47), ((congrArg eh_N r2).trans (hN48.trans (hN45.trans (hN42.trans (hN39.trans (hN36.trans (hN33.trans (hN30.trans (hN27.trans (hN24.trans (hN21.trans (hN18.trans (hN15.trans (hN12.trans (hN9.trans (hN6.trans hN3))))))))))))))))⟩
theorem cf_0b {d : Nat} {h h' : ri_H} {v : Option Value} {G : eh_W} (E : ri_calE ri_md (d + 1) 52 [.ref 35, .ref 156] h = some (v, h')) (hV : eh_V h = G) (ty : eh_ty tC G) (hl : (eh_N h).take 209 = NCl) : v = none ∧ eh_V h' = eh_cp (eh_cp (eh_cp (eh_cp (eh_cp (eh_cp (eh_cp (eh_cp (eh_cp (eh_u (eh_u (eh_u (eh_u (eh_u (eh_u (eh_u G 35 0 (.int (eh_i G 156 0))) 35 1 (.int (eh_i G 156 1))) 35 2 (.int (eh_i G 156 2))) 35 3 (.int (eh_i G 156 3))) 35 4 (.int (eh_i G 156 4))) 35 5 (.int (eh_i G 156 5))) 35 6 (.int (eh_i G 156 6))) 157 36 8) 158 37 8) 159 38 8) 160 39 8) 161 40 8) 162 41 8) 163 42 6) 164 43 6) 165 44 6 ∧ eh_N h' = eh_N h := by
  obtain ⟨rs, hrs, E⟩ := eh_in E (q := md_52) rfl
  have E := E.ld (p := 1) (t := ri_isA) (i := 0) (n := 1) (v := .ref 35) rfl (e := (.aload_n 0, 1, [], .null)) rfl rfl (fun _ _ => rfl) rfl rfl
  have E := E.ld (p := 2) (t := ri_isA) (i := 1) (n := 1) (v := .ref 156) rfl (e := (.aload_n 1, 1, [], .null)) rfl rfl (fun _ _ => rfl) rfl rfl
  have E := E.gi (y := eh_i G 156 0) (p := 5) rfl (x := 9) (m := 3) (w := .null) (t := 6) (i := 0) (u := 382) rfl rfl hV ty rfl rfl
  obtain ⟨h1, hV2, hN3, E⟩ := E.gp (p := 8) rfl (x := 9) (m := 3) (w := .null) (t := 6) (i := 0) (u := 382) (y := 0) rfl rfl hV
  have E := E.ld (p := 9) (t := ri_isA) (i := 0) (n := 1) (v := .ref 35) rfl (e := (.aload_n 0, 1, [], .null)) rfl rfl (fun _ _ => rfl) rfl rfl
  have E := E.ld (p := 10) (t := ri_isA) (i := 1) (n := 1) (v := .ref 156) rfl (e := (.aload_n 1, 1, [], .null)) rfl rfl (fun _ _ => rfl) rfl rfl
  have E := E.gi (y := eh_i G 156 1) (p := 13) rfl (x := 15) (m := 3) (w := .null) (t := 6) (i := 1) (u := 385) rfl rfl hV2 (ty.ui rfl) rfl rfl
  obtain ⟨h4, hV5, hN6, E⟩ := E.gp (p := 16) rfl (x := 15) (m := 3) (w := .null) (t := 6) (i := 1) (u := 385) (y := 0) rfl rfl hV2
  have E := E.ld (p := 17) (t := ri_isA) (i := 0) (n := 1) (v := .ref 35) rfl (e := (.aload_n 0, 1, [], .null)) rfl rfl (fun _ _ => rfl) rfl rfl
  have E := E.ld (p := 18) (t := ri_isA) (i := 1) (n := 1) (v := .ref 156) rfl (e := (.aload_n 1, 1, [], .null)) rfl rfl (fun _ _ => rfl) rfl rfl
  have E := E.gi (y := eh_i G 156 2) (p := 21) rfl (x := 18) (m := 3) (w := .null) (t := 6) (i := 2) (u := 387) rfl rfl hV5 ((ty.ui rfl).ui rfl) rfl rfl
  obtain ⟨h7, hV8, hN9, E⟩ := E.gp (p := 24) rfl (x := 18) (m := 3) (w := .null) (t := 6) (i := 2) (u := 387) (y := 0) rfl rfl hV5
  have E := E.ld (p := 25) (t := ri_isA) (i := 0) (n := 1) (v := .ref 35) rfl (e := (.aload_n 0, 1, [], .null)) rfl rfl (fun _ _ => rfl) rfl rfl
  have E := E.ld (p := 26) (t := ri_isA) (i := 1) (n := 1) (v := .ref 156) rfl (e := (.aload_n 1, 1, [], .null)) rfl rfl (fun _ _ => rfl) rfl rfl
  have E := E.gi (y := eh_i G 156 3) (p := 29) rfl (x := 21) (m := 3) (w := .null) (t := 6) (i := 3) (u := 389) rfl rfl hV8 (((ty.ui rfl).ui rfl).ui rfl) rfl rfl
  obtain ⟨h10, hV11, hN12, E⟩ := E.gp (p := 32) rfl (x := 21) (m := 3) (w := .null) (t := 6) (i := 3) (u := 389) (y := 0) rfl rfl hV8
  have E := E.ld (p := 33) (t := ri_isA) (i := 0) (n := 1) (v := .ref 35) rfl (e := (.aload_n 0, 1, [], .null)) rfl rfl (fun _ _ => rfl) rfl rfl
  have E := E.ld (p := 34) (t := ri_isA) (i := 1) (n := 1) (v := .ref 156) rfl (e := (.aload_n 1, 1, [], .null)) rfl rfl (fun _ _ => rfl) rfl rfl
  have E := E.gi (y := eh_i G 156 4) (p := 37) rfl (x := 24) (m := 3) (w := .null) (t := 6) (i := 4) (u := 393) rfl rfl hV11 ((((ty.ui rfl).ui rfl).ui rfl).ui rfl) rfl rfl
  obtain ⟨h13, hV14, hN15, E⟩ := E.gp (p := 40) rfl (x := 24) (m := 3) (w := .null) (t := 6) (i := 4) (u := 393) (y := 0) rfl rfl hV11
  have E := E.ld (p := 41) (t := ri_isA) (i := 0) (n := 1) (v := .ref 35) rfl (e := (.aload_n 0, 1, [], .null)) rfl rfl (fun _ _ => rfl) rfl rfl
  have E := E.ld (p := 42) (t := ri_isA) (i := 1) (n := 1) (v := .ref 156) rfl (e := (.aload_n 1, 1, [], .null)) rfl rfl (fun _ _ => rfl) rfl rfl
  have E := E.gi (y := eh_i G 156 5) (p := 45) rfl (x := 27) (m := 3) (w := .null) (t := 6) (i := 5) (u := 396) rfl rfl hV14 (((((ty.ui rfl).ui rfl).ui rfl).ui rfl).ui rfl) rfl rfl
  obtain ⟨h16, hV17, hN18, E⟩ := E.gp (p := 48) rfl (x := 27) (m := 3) (w := .null) (t := 6) (i := 5) (u := 396) (y := 0) rfl rfl hV14
  have E := E.ld (p := 49) (t := ri_isA) (i := 0) (n := 1) (v := .ref 35) rfl (e := (.aload_n 0, 1, [], .null)) rfl rfl (fun _ _ => rfl) rfl rfl
  have E := E.ld (p := 50) (t := ri_isA) (i := 1) (n := 1) (v := .ref 156) rfl (e := (.aload_n 1, 1, [], .null)) rfl rfl (fun _ _ => rfl) rfl rfl
  have E := E.gi (y := eh_i G 156 6) (p := 53) rfl (x := 30) (m := 3) (w := .null) (t := 6) (i := 6) (u := 398) rfl rfl hV17 ((((((ty.ui rfl).ui rfl).ui rfl).ui rfl).ui rfl).ui rfl) rfl rfl
  obtain ⟨h19, hV20, hN21, E⟩ := E.gp (p := 56) rfl (x := 30) (m := 3) (w := .null) (t := 6) (i := 6) (u := 398) (y := 0) rfl rfl hV17
  have E := E.ld (p := 57) (t := ri_isA) (i := 1) (n := 1) (v := .ref 156) rfl (e := (.aload_n 1, 1, [], .null)) rfl rfl (fun _ _ => rfl) rfl rfl
  have E := E.gr (n := 157) (p := 60) rfl (x := 33) (m := 3) (w := .null) (t := 6) (i := 7) (u := 399) rfl rfl hV20 (((((((ty.ui rfl).ui rfl).ui rfl).ui rfl).ui rfl).ui rfl).ui rfl) rfl
  have E := E.pu (p := 61) (lo' := (ri_as 0 [.ref 35, .ref 156])) (st' := [.int 0, .ref 157]) rfl (e := (.iconst 0, 1, [], .null)) rfl rfl (fun _ _ => rfl)
  have E := E.ld (p := 62) (t := ri_isA) (i := 0) (n := 1) (v := .ref 35) rfl (e := (.aload_n 0, 1, [], .null)) rfl rfl (fun _ _ => rfl) rfl rfl
  have E := E.gr (n := 36) (p := 65) rfl (x := 33) (m := 3) (w := .null) (t := 6) (i := 7) (u := 399) rfl rfl hV20 (((((((ty.ui rfl).ui rfl).ui rfl).ui rfl).ui rfl).ui rfl).ui rfl) rfl
  have E := E.pu (p := 66) (lo' := (ri_as 0 [.ref 35, .ref 156])) (st' := [.int 0, .ref 36, .int 0, .ref 157]) rfl (e := (.iconst 0, 1, [], .null)) rfl rfl (fun _ _ => rfl)
  have E := E.pu (p := 68) (lo' := (ri_as 0 [.ref 35, .ref 156])) (st' := [.int 8, .int 0, .ref 36, .int 0, .ref 157]) rfl (e := (.bipush 8, 2, [], .null)) rfl rfl (fun _ _ => rfl)
  obtain ⟨h22, hV23, hN24, E⟩ := E.cr (p := 71) (n := 8) (a := 157) (b := 36) (st := []) rfl (x := 66) (m := 3) (w := .null) (u := [816]) rfl rfl (by decide) hV20
  have E := E.ld (p := 72) (t := ri_isA) (i := 1) (n := 1) (v := .ref 156) rfl (e := (.aload_n 1, 1, [], .null)) rfl rfl (fun _ _ => rfl) rfl rfl
  have E := E.gr (n := 158) (p := 75) rfl (x := 37) (m := 3) (w := .null) (t := 6) (i := 8) (u := 401) rfl rfl hV23 ((((((((ty.ui rfl).ui rfl).ui rfl).ui rfl).ui rfl).ui rfl).ui rfl).cr rfl rfl) rfl
  have E := E.pu (p := 76) (lo' := (ri_as 0 [.ref 35, .ref 156])) (st' := [.int 0, .ref 158]) rfl (e := (.iconst 0, 1, [], .null)) rfl rfl (fun _ _ => rfl)
  have E := E.ld (p := 77) (t := ri_isA) (i := 0) (n := 1) (v := .ref 35) rfl (e := (.aload_n 0, 1, [], .null)) rfl rfl (fun _ _ => rfl) rfl rfl
  have E := E.gr (n := 37) (p := 80) rfl (x := 37) (m := 3) (w := .null) (t := 6) (i := 8) (u := 401) rfl rfl hV23 ((((((((ty.ui rfl).ui rfl).ui rfl).ui rfl).ui rfl).ui rfl).ui rfl).cr rfl rfl) rfl
  have E := E.pu (p := 81) (lo' := (ri_as 0 [.ref 35, .ref 156])) (st' := [.int 0, .ref 37, .int 0, .ref 158]) rfl (e := (.iconst 0, 1, [], .null)) rfl rfl (fun _ _ => rfl)
  have E := E.pu (p := 83) (lo' := (ri_as 0 [.ref 35, .ref 156])) (st' := [.int 8, .int 0, .ref 37, .int 0, .ref 158]) rfl (e := (.bipush 8, 2, [], .null)) rfl rfl (fun _ _ => rfl)
  obtain ⟨h25, hV26, hN27, E⟩ := E.cr (p := 86) (n := 8) (a := 158) (b := 37) (st := []) rfl (x := 66) (m := 3) (w := .null) (u := [816]) rfl rfl (by decide) hV23
  have E := E.ld (p := 87) (t := ri_isA) (i := 1) (n := 1) (v := .ref 156) rfl (e := (.aload_n 1, 1, [], .null)) rfl rfl (fun _ _ => rfl) rfl rfl
  have E := E.gr (n := 159) (p := 90) rfl (x := 40) (m := 3) (w := .null) (t := 6) (i := 9) (u := 404) rfl rfl hV26 (((((((((ty.ui rfl).ui rfl).ui rfl).ui rfl).ui rfl).ui rfl).ui rfl).cr rfl rfl).cr rfl rfl) rfl
  have E := E.pu (p := 91) (lo' := (ri_as 0 [.ref 35, .ref 156])) (st' := [.int 0, .ref 159]) rfl (e := (.iconst 0, 1, [], .null)) rfl rfl (fun _ _ => rfl)
  have E := E.ld (p := 92) (t := ri_isA) (i := 0) (n := 1) (v := .ref 35) rfl (e := (.aload_n 0, 1, [], .null)) rfl rfl (fun _ _ => rfl) rfl rfl
  have E := E.gr (n := 38) (p := 95) rfl (x := 40) (m := 3) (w := .null) (t := 6) (i := 9) (u := 404) rfl rfl hV26 (((((((((ty.ui rfl).ui rfl).ui rfl).ui rfl).ui rfl).ui rfl).ui rfl).cr rfl rfl).cr rfl rfl) rfl
  have E := E.pu (p := 96) (lo' := (ri_as 0 [.ref 35, .ref 156])) (st' := [.int 0, .ref 38, .int 0, .ref 159]) rfl (e := (.iconst 0, 1, [], .null)) rfl rfl (fun _ _ => rfl)
  have E := E.pu (p := 98) (lo' := (ri_as 0 [.ref 35, .ref 156])) (st' := [.int 8, .int 0, .ref 38, .int 0, .ref 159]) rfl (e := (.bipush 8, 2, [], .null)) rfl rfl (fun _ _ => rfl)
  obtain ⟨h28, hV29, hN30, E⟩ := E.cr (p := 101) (n := 8) (a := 159) (b := 38) (st := []) rfl (x := 66) (m := 3) (w := .null) (u := [816]) rfl rfl (by decide) hV26
  have E := E.ld (p := 102) (t := ri_isA) (i := 1) (n := 1) (v := .ref 156) rfl (e := (.aload_n 1, 1, [], .null)) rfl rfl (fun _ _ => rfl) rfl rfl
  have E := E.gr (n := 160) (p := 105) rfl (x := 43) (m := 3) (w := .null) (t := 6) (i := 10) (u := 407) rfl rfl hV29 ((((((((((ty.ui rfl).ui rfl).ui rfl).ui rfl).ui rfl).ui rfl).ui rfl).cr rfl rfl).cr rfl rfl).cr rfl rfl) rfl
  have E := E.pu (p := 106) (lo' := (ri_as 0 [.ref 35, .ref 156])) (st' := [.int 0, .ref 160]) rfl (e := (.iconst 0, 1, [], .null)) rfl rfl (fun _ _ => rfl)
  have E := E.ld (p := 107) (t := ri_isA) (i := 0) (n := 1) (v := .ref 35) rfl (e := (.aload_n 0, 1, [], .null)) rfl rfl (fun _ _ => rfl) rfl rfl
  have E := E.gr (n := 39) (p := 110) rfl (x := 43) (m := 3) (w := .null) (t := 6) (i := 10) (u := 407) rfl rfl hV29 ((((((((((ty.ui rfl).ui rfl).ui rfl).ui rfl).ui rfl).ui rfl).ui rfl).cr rfl rfl).cr rfl rfl).cr rfl rfl) rfl
  have E := E.pu (p := 111) (lo' := (ri_as 0 [.ref 35, .ref 156])) (st' := [.int 0, .ref 39, .int 0, .ref 160]) rfl (e := (.iconst 0, 1, [], .null)) rfl rfl (fun _ _ => rfl)
  have E := E.pu (p := 113) (lo' := (ri_as 0 [.ref 35, .ref 156])) (st' := [.int 8, .int 0, .ref 39, .int 0, .ref 160]) rfl (e := (.bipush 8, 2, [], .null)) rfl rfl (fun _ _ => rfl)
  obtain ⟨h31, hV32, hN33, E⟩ := E.cr (p := 116) (n := 8) (a := 160) (b := 39) (st := []) rfl (x := 66) (m := 3) (w := .null) (u := [816]) rfl rfl (by decide) hV29
  have E := E.ld (p := 117) (t := ri_isA) (i := 1) (n := 1) (v := .ref 156) rfl (e := (.aload_n 1, 1, [], .null)) rfl rfl (fun _ _ => rfl) rfl rfl
  have E := E.gr (n := 161) (p := 120) rfl (x := 46) (m := 3) (w := .null) (t := 6) (i := 11) (u := 409) rfl rfl hV32 (((((((((((ty.ui rfl).ui rfl).ui rfl).ui rfl).ui rfl).ui rfl).ui rfl).cr rfl rfl).cr rfl rfl).cr rfl rfl).cr rfl rfl) rfl
  have E := E.pu (p := 121) (lo' := (ri_as 0 [.ref 35, .ref 156])) (st' := [.int 0, .ref 161]) rfl (e := (.iconst 0, 1, [], .null)) rfl rfl (fun _ _ => rfl)
  have E := E.ld (p := 122) (t := ri_isA) (i := 0) (n := 1) (v := .ref 35) rfl (e := (.aload_n 0, 1, [], .null)) rfl rfl (fun _ _ => rfl) rfl rfl
  have E := E.gr (n := 40) (p := 125) rfl (x := 46) (m := 3) (w := .null) (t := 6) (i := 11) (u := 409) rfl rfl hV32 (((((((((((ty.ui rfl).ui rfl).ui rfl).ui rfl).ui rfl).ui rfl).ui rfl).cr rfl rfl).cr rfl rfl).cr rfl rfl).cr rfl rfl) rfl
  have E := E.pu (p := 126) (lo' := (ri_as 0 [.ref 35, .ref 156])) (st' := [.int 0, .ref 40, .int 0, .ref 161]) rfl (e := (.iconst 0, 1, [], .null)) rfl rfl (fun _ _ => rfl)
  have E := E.pu (p := 128) (lo' := (ri_as 0 [.ref 35, .ref 156])) (st' := [.int 8, .int 0, .ref 40, .int 0, .ref 161]) rfl (e := (.bipush 8, 2, [], .null)) rfl rfl (fun _ _ => rfl)
  obtain ⟨h34, hV35, hN36, E⟩ := E.cr (p := 131) (n := 8) (a := 161) (b := 40) (st := []) rfl (x := 66) (m := 3) (w := .null) (u := [816]) rfl rfl (by decide) hV32
  have E := E.ld (p := 132) (t := ri_isA) (i := 1) (n := 1) (v := .ref 156) rfl (e := (.aload_n 1, 1, [], .null)) rfl rfl (fun _ _ => rfl) rfl rfl
  have E := E.gr (n := 162) (p := 135) rfl (x := 49) (m := 3) (w := .null) (t := 6) (i := 12) (u := 412) rfl rfl hV35 ((((((((((((ty.ui rfl).ui rfl).ui rfl).ui rfl).ui rfl).ui rfl).ui rfl).cr rfl rfl).cr rfl rfl).cr rfl rfl).cr rfl rfl).cr rfl rfl) rfl
  have E := E.pu (p := 136) (lo' := (ri_as 0 [.ref 35, .ref 156])) (st' := [.int 0, .ref 162]) rfl (e := (.iconst 0, 1, [], .null)) rfl rfl (fun _ _ => rfl)
  have E := E.ld (p := 137) (t := ri_isA) (i := 0) (n := 1) (v := .ref 35) rfl (e := (.aload_n 0, 1, [], .null)) rfl rfl (fun _ _ => rfl) rfl rfl
  have E := E.gr (n := 41) (p := 140) rfl (x := 49) (m := 3) (w := .null) (t := 6) (i := 12) (u := 412) rfl rfl hV35 ((((((((((((ty.ui rfl).ui rfl).ui rfl).ui rfl).ui rfl).ui rfl).ui rfl).cr rfl rfl).cr rfl rfl).cr rfl rfl).cr rfl rfl).cr rfl rfl) rfl
  have E := E.pu (p := 141) (lo' := (ri_as 0 [.ref 35, .ref 156])) (st' := [.int 0, .ref 41, .int 0, .ref 162]) rfl (e := (.iconst 0, 1, [], .null)) rfl rfl (fun _ _ => rfl)
  have E := E.pu (p := 143) (lo' := (ri_as 0 [.ref 35, .ref 156])) (st' := [.int 8, .int 0, .ref 41, .int 0, .ref 162]) rfl (e := (.bipush 8, 2, [], .null)) rfl rfl (fun _ _ => rfl)
  obtain ⟨h37, hV38, hN39, E⟩ := E.cr (p := 146) (n := 8) (a := 162) (b := 41) (st := []) rfl (x := 66) (m := 3) (w := .null) (u := [816]) rfl rfl (by decide) hV35
  have E := E.ld (p := 147) (t := ri_isA) (i := 1) (n := 1) (v := .ref 156) rfl (e := (.aload_n 1, 1, [], .null)) rfl rfl (fun _ _ => rfl) rfl rfl
  have E := E.gr (n := 163) (p := 150) rfl (x := 52) (m := 3) (w := .null) (t := 6) (i := 13) (u := 414) rfl rfl hV38 (((((((((((((ty.ui rfl).ui rfl).ui rfl).ui rfl).ui rfl).ui rfl).ui rfl).cr rfl rfl).cr rfl rfl).cr rfl rfl).cr rfl rfl).cr rfl rfl).cr rfl rfl) rfl
  have E := E.pu (p := 151) (lo' := (ri_as 0 [.ref 35, .ref 156])) (st' := [.int 0, .ref 163]) rfl (e := (.iconst 0, 1, [], .null)) rfl rfl (fun _ _ => rfl)
  have E := E.ld (p := 152) (t := ri_isA) (i := 0) (n := 1) (v := .ref 35) rfl (e := (.aload_n 0, 1, [], .null)) rfl rfl (fun _ _ => rfl) rfl rfl
  have E := E.gr (n := 42) (p := 155) rfl (x := 52) (m := 3) (w := .null) (t := 6) (i := 13) (u := 414) rfl rfl hV38 (((((((((((((ty.ui rfl).ui rfl).ui rfl).ui rfl).ui rfl).ui rfl).ui rfl).cr rfl rfl).cr rfl rfl).cr rfl rfl).cr rfl rfl).cr rfl rfl).cr rfl rfl) rfl
  have E := E.pu (p := 156) (lo' := (ri_as 0 [.ref 35, .ref 156])) (st' := [.int 0, .ref 42, .int 0, .ref 163]) rfl (e := (.iconst 0, 1, [], .null)) rfl rfl (fun _ _ => rfl)
  have E := E.pu (p := 158) (lo' := (ri_as 0 [.ref 35, .ref 156])) (st' := [.int 6, .int 0, .ref 42, .int 0, .ref 163]) rfl (e := (.bipush 6, 2, [], .null)) rfl rfl (fun _ _ => rfl)
  obtain ⟨h40, hV41, hN42, E⟩ := E.cr (p := 161) (n := 6) (a := 163) (b := 42) (st := []) rfl (x := 66) (m := 3) (w := .null) (u := [816]) rfl rfl (by decide) hV38
  have E := E.ld (p := 162) (t := ri_isA) (i := 1) (n := 1) (v := .ref 156) rfl (e := (.aload_n 1, 1, [], .null)) rfl rfl (fun _ _ => rfl) rfl rfl
  have E := E.gr (n := 164) (p := 165) rfl (x := 55) (m := 3) (w := .null) (t := 6) (i := 14) (u := 416) rfl rfl hV41 ((((((((((((((ty.ui rfl).ui rfl).ui rfl).ui rfl).ui rfl).ui rfl).ui rfl).cr rfl rfl).cr rfl rfl).cr rfl rfl).cr rfl rfl).cr rfl rfl).cr rfl rfl).cr rfl rfl) rfl
  have E := E.pu (p := 166) (lo' := (ri_as 0 [.ref 35, .ref 156])) (st' := [.int 0, .ref 164]) rfl (e := (.iconst 0, 1, [], .null)) rfl rfl (fun _ _ => rfl)
  have E := E.ld (p := 167) (t := ri_isA) (i := 0) (n := 1) (v := .ref 35) rfl (e := (.aload_n 0, 1, [], .null)) rfl rfl (fun _ _ => rfl) rfl rfl
  have E := E.gr (n := 43) (p := 170) rfl (x := 55) (m := 3) (w := .null) (t := 6) (i := 14) (u := 416) rfl rfl hV41 ((((((((((((((ty.ui rfl).ui rfl).ui rfl).ui rfl).ui rfl).ui rfl).ui rfl).cr rfl rfl).cr rfl rfl).cr rfl rfl).cr rfl rfl).cr rfl rfl).cr rfl rfl).cr rfl rfl) rfl
  have E := E.pu (p := 171) (lo' := (ri_as 0 [.ref 35, .ref 156])) (st' := [.int 0, .ref 43, .int 0, .ref 164]) rfl (e := (.iconst 0, 1, [], .null)) rfl rfl (fun _ _ => rfl)
  have E := E.pu (p := 173) (lo' := (ri_as 0 [.ref 35, .ref 156])) (st' := [.int 6, .int 0, .ref 43, .int 0, .ref 164]) rfl (e := (.bipush 6, 2, [], .null)) rfl rfl (fun _ _ => rfl)
  obtain ⟨h43, hV44, hN45, E⟩ := E.cr (p := 176) (n := 6) (a := 164) (b := 43) (st := []) rfl (x := 66) (m := 3) (w := .null) (u := [816]) rfl rfl (by decide) hV41
  have E := E.ld (p := 177) (t := ri_isA) (i := 1) (n := 1) (v := .ref 156) rfl (e := (.aload_n 1, 1, [], .null)) rfl rfl (fun _ _ => rfl) rfl rfl
  have E := E.gr (n := 165) (p := 180) rfl (x := 58) (m := 3) (w := .null) (t := 6) (i := 15) (u := 418) rfl rfl hV44 (((((((((((((((ty.ui rfl).ui rfl).ui rfl).ui rfl).ui rfl).ui rfl).ui rfl).cr rfl rfl).cr rfl rfl).cr rfl rfl).cr rfl rfl).cr rfl rfl).cr rfl rfl).cr rfl rfl).cr rfl rfl) rfl
  have E := E.pu (p := 181) (lo' := (ri_as 0 [.ref 35, .ref 156])) (st' := [.int 0, .ref 165]) rfl (e := (.iconst 0, 1, [], .null)) rfl rfl (fun _ _ => rfl)
  have E := E.ld (p := 182) (t := ri_isA) (i := 0) (n := 1) (v := .ref 35) rfl (e := (.aload_n 0, 1, [], .null)) rfl rfl (fun _ _ => rfl) rfl rfl
  have E := E.gr (n := 44) (p := 185) rfl (x := 58) (m := 3) (w := .null) (t := 6) (i := 15) (u := 418) rfl rfl hV44 (((((((((((((((ty.ui rfl).ui rfl).ui rfl).ui rfl).ui rfl).ui rfl).ui rfl).cr rfl rfl).cr rfl rfl).cr rfl rfl).cr rfl rfl).cr rfl rfl).cr rfl rfl).cr rfl rfl).cr rfl rfl) rfl
  have E := E.pu (p := 186) (lo' := (ri_as 0 [.ref 35, .ref 156])) (st' := [.int 0, .ref 44, .int 0, .ref 165]) rfl (e := (.iconst 0, 1, [], .null)) rfl rfl (fun _ _ => rfl)
  have E := E.pu (p := 188) (lo' := (ri_as 0 [.ref 35, .ref 156])) (st' := [.int 6, .int 0, .ref 44, .int 0, .ref 165]) rfl (e := (.bipush 6, 2, [], .null)) rfl rfl (fun _ _ => rfl)
  obtain ⟨h46, hV47, hN48, E⟩ := E.cr (p := 191) (n := 6) (a := 165) (b := 44) (st := []) rfl (x := 66) (m := 3) (w := .null) (u := [816]) rfl rfl (by decide) hV44
  obtain ⟨r1, r2⟩ := E.retv rfl (m := 1) (ax := []) (w := .null) rfl
  exact ⟨(by rw [← hrs, r1]; rfl), ((congrArg eh_V r2).trans hV47), ((congrArg eh_N r2).trans (hN48.trans (hN45.trans (hN42.trans (hN39.trans (hN36.trans (hN33.trans (hN30.trans (hN27.trans (hN24.trans (hN21.trans (hN18.trans (hN15.trans (hN12.trans (hN9.trans (hN6.trans hN3))))))))))))))))⟩
theorem ct_0a {d : Nat} {h h' : ri_H} {v : Option Value} {G : eh_W} (E : ri_calE ri_md (d + 1) 87 [.ref 166, .ref 137] h = some (v, h')) (hV : eh_V h = G) (ty : eh_ty tC G) (hl : (eh_N h).take 209 = NCl) : v = none ∧ eh_V h' = eh_cp (eh_cp (eh_cp (eh_u (eh_u G 166 0 (.int (eh_i G 137 0))) 166 1 (.int (eh_i G 137 1))) 138 167 40) 139 168 40) 140 169 40 ∧ eh_N h' = eh_N h := by
  obtain ⟨rs, hrs, E⟩ := eh_in E (q := md_87) rfl
  have E := E.ld (p := 1) (t := ri_isA) (i := 0) (n := 1) (v := .ref 166) rfl (e := (.aload_n 0, 1, [], .null)) rfl rfl (fun _ _ => rfl) rfl rfl
  have E := E.ld (p := 2) (t := ri_isA) (i := 1) (n := 1) (v := .ref 137) rfl (e := (.aload_n 1, 1, [], .null)) rfl rfl (fun _ _ => rfl) rfl rfl
  have E := E.gi (y := eh_i G 137 0) (p := 5) rfl (x := 9) (m := 3) (w := .null) (t := 9) (i := 0) (u := 345) rfl rfl hV ty rfl rfl
  obtain ⟨h1, hV2, hN3, E⟩ := E.gp (p := 8) rfl (x := 9) (m := 3) (w := .null) (t := 9) (i := 0) (u := 345) (y := 0) rfl rfl hV
  have E := E.ld (p := 9) (t := ri_isA) (i := 0) (n := 1) (v := .ref 166) rfl (e := (.aload_n 0, 1, [], .null)) rfl rfl (fun _ _ => rfl) rfl rfl
  have E := E.ld (p := 10) (t := ri_isA) (i := 1) (n := 1) (v := .ref 137) rfl (e := (.aload_n 1, 1, [], .null)) rfl rfl (fun _ _ => rfl) rfl rfl
  have E := E.gi (y := eh_i G 137 1) (p := 13) rfl (x := 15) (m := 3) (w := .null) (t := 9) (i := 1) (u := 348) rfl rfl hV2 (ty.ui rfl) rfl rfl
  obtain ⟨h4, hV5, hN6, E⟩ := E.gp (p := 16) rfl (x := 15) (m := 3) (w := .null) (t := 9) (i := 1) (u := 348) (y := 0) rfl rfl hV2
  have E := E.ld (p := 17) (t := ri_isA) (i := 1) (n := 1) (v := .ref 137) rfl (e := (.aload_n 1, 1, [], .null)) rfl rfl (fun _ _ => rfl) rfl rfl
  have E := E.gr (n := 138) (p := 20) rfl (x := 18) (m := 3) (w := .null) (t := 9) (i := 2) (u := 349) rfl rfl hV5 ((ty.ui rfl).ui rfl) rfl
  have E := E.pu (p := 21) (lo' := (ri_as 0 [.ref 166, .ref 137])) (st' := [.int 0, .ref 138]) rfl (e := (.iconst 0, 1, [], .null)) rfl rfl (fun _ _ => rfl)
  have E := E.ld (p := 22) (t := ri_isA) (i := 0) (n := 1) (v := .ref 166) rfl (e := (.aload_n 0, 1, [], .null)) rfl rfl (fun _ _ => rfl) rfl rfl
  have E := E.gr (n := 167) (p := 25) rfl (x := 18) (m := 3) (w := .null) (t := 9) (i := 2) (u := 349) rfl rfl hV5 ((ty.ui rfl).ui rfl) rfl
  have E := E.pu (p := 26) (lo' := (ri_as 0 [.ref 166, .ref 137])) (st' := [.int 0, .ref 167, .int 0, .ref 138]) rfl (e := (.iconst 0, 1, [], .null)) rfl rfl (fun _ _ => rfl)
  have E := E.pu (p := 28) (lo' := (ri_as 0 [.ref 166, .ref 137])) (st' := [.int 40, .int 0, .ref 167, .int 0, .ref 138]) rfl (e := (.bipush 40, 2, [], .null)) rfl rfl (fun _ _ => rfl)
  obtain ⟨h7, hV8, hN9, E⟩ := E.cr (p := 31) (n := 40) (a := 138) (b := 167) (st := []) rfl (x := 31) (m := 3) (w := .null) (u := [1165]) rfl rfl (by decide) hV5
  have E := E.ld (p := 32) (t := ri_isA) (i := 1) (n := 1) (v := .ref 137) rfl (e := (.aload_n 1, 1, [], .null)) rfl rfl (fun _ _ => rfl) rfl rfl
  have E := E.gr (n := 139) (p := 35) rfl (x := 22) (m := 3) (w := .null) (t := 9) (i := 3) (u := 350) rfl rfl hV8 (((ty.ui rfl).ui rfl).cr rfl rfl) rfl
  have E := E.pu (p := 36) (lo' := (ri_as 0 [.ref 166, .ref 137])) (st' := [.int 0, .ref 139]) rfl (e := (.iconst 0, 1, [], .null)) rfl rfl (fun _ _ => rfl)
  have E := E.ld (p := 37) (t := ri_isA) (i := 0) (n := 1) (v := .ref 166) rfl (e := (.aload_n 0, 1, [], .null)) rfl rfl (fun _ _ => rfl) rfl rfl
  have E := E.gr (n := 168) (p := 40) rfl (x := 22) (m := 3) (w := .null) (t := 9) (i := 3) (u := 350) rfl rfl hV8 (((ty.ui rfl).ui rfl).cr rfl rfl) rfl
  have E := E.pu (p := 41) (lo' := (ri_as 0 [.ref 166, .ref 137])) (st' := [.int 0, .ref 168, .int 0, .ref 139]) rfl (e := (.iconst 0, 1, [], .null)) rfl rfl (fun _ _ => rfl)
  have E := E.pu (p := 43) (lo' := (ri_as 0 [.ref 166, .ref 137])) (st' := [.int 40, .int 0, .ref 168, .int 0, .ref 139]) rfl (e := (.bipush 40, 2, [], .null)) rfl rfl (fun _ _ => rfl)
  obtain ⟨h10, hV11, hN12, E⟩ := E.cr (p := 46) (n := 40) (a := 139) (b := 168) (st := []) rfl (x := 31) (m := 3) (w := .null) (u := [1165]) rfl rfl (by decide) hV8
  have E := E.ld (p := 47) (t := ri_isA) (i := 1) (n := 1) (v := .ref 137) rfl (e := (.aload_n 1, 1, [], .null)) rfl rfl (fun _ _ => rfl) rfl rfl
  have E := E.gr (n := 140) (p := 50) rfl (x := 25) (m := 3) (w := .null) (t := 9) (i := 4) (u := 351) rfl rfl hV11 ((((ty.ui rfl).ui rfl).cr rfl rfl).cr rfl rfl) rfl
  have E := E.pu (p := 51) (lo' := (ri_as 0 [.ref 166, .ref 137])) (st' := [.int 0, .ref 140]) rfl (e := (.iconst 0, 1, [], .null)) rfl rfl (fun _ _ => rfl)
  have E := E.ld (p := 52) (t := ri_isA) (i := 0) (n := 1) (v := .ref 166) rfl (e := (.aload_n 0, 1, [], .null)) rfl rfl (fun _ _ => rfl) rfl rfl
  have E := E.gr (n := 169) (p := 55) rfl (x := 25) (m := 3) (w := .null) (t := 9) (i := 4) (u := 351) rfl rfl hV11 ((((ty.ui rfl).ui rfl).cr rfl rfl).cr rfl rfl) rfl
  have E := E.pu (p := 56) (lo' := (ri_as 0 [.ref 166, .ref 137])) (st' := [.int 0, .ref 169, .int 0, .ref 140]) rfl (e := (.iconst 0, 1, [], .null)) rfl rfl (fun _ _ => rfl)
  have E := E.pu (p := 58) (lo' := (ri_as 0 [.ref 166, .ref 137])) (st' := [.int 40, .int 0, .ref 169, .int 0, .ref 140]) rfl (e := (.bipush 40, 2, [], .null)) rfl rfl (fun _ _ => rfl)
  obtain ⟨h13, hV14, hN15, E⟩ := E.cr (p := 61) (n := 40) (a := 140) (b := 169) (st := []) rfl (x := 31) (m := 3) (w := .null) (u := [1165]) rfl rfl (by decide) hV11
  obtain ⟨r1, r2⟩ := E.retv rfl (m := 1) (ax := []) (w := .null) rfl
  exact ⟨(by rw [← hrs, r1]; rfl), ((congrArg eh_V r2).trans hV14), ((congrArg eh_N r2).trans (hN15.trans (hN12.trans (hN9.trans (hN6.trans hN3)))))⟩
theorem ct_0b {d : Nat} {h h' : ri_H} {v : Option Value} {G : eh_W} (E : ri_calE ri_md (d + 1) 87 [.ref 137, .ref 166] h = some (v, h')) (hV : eh_V h = G) (ty : eh_ty tC G) (hl : (eh_N h).take 209 = NCl) : v = none ∧ eh_V h' = eh_cp (eh_cp (eh_cp (eh_u (eh_u G 137 0 (.int (eh_i G 166 0))) 137 1 (.int (eh_i G 166 1))) 167 138 40) 168 139 40) 169 140 40 ∧ eh_N h' = eh_N h := by
  obtain ⟨rs, hrs, E⟩ := eh_in E (q := md_87) rfl
  have E := E.ld (p := 1) (t := ri_isA) (i := 0) (n := 1) (v := .ref 137) rfl (e := (.aload_n 0, 1, [], .null)) rfl rfl (fun _ _ => rfl) rfl rfl
  have E := E.ld (p := 2) (t := ri_isA) (i := 1) (n := 1) (v := .ref 166) rfl (e := (.aload_n 1, 1, [], .null)) rfl rfl (fun _ _ => rfl) rfl rfl
  have E := E.gi (y := eh_i G 166 0) (p := 5) rfl (x := 9) (m := 3) (w := .null) (t := 9) (i := 0) (u := 345) rfl rfl hV ty rfl rfl
  obtain ⟨h1, hV2, hN3, E⟩ := E.gp (p := 8) rfl (x := 9) (m := 3) (w := .null) (t := 9) (i := 0) (u := 345) (y := 0) rfl rfl hV
  have E := E.ld (p := 9) (t := ri_isA) (i := 0) (n := 1) (v := .ref 137) rfl (e := (.aload_n 0, 1, [], .null)) rfl rfl (fun _ _ => rfl) rfl rfl
  have E := E.ld (p := 10) (t := ri_isA) (i := 1) (n := 1) (v := .ref 166) rfl (e := (.aload_n 1, 1, [], .null)) rfl rfl (fun _ _ => rfl) rfl rfl
  have E := E.gi (y := eh_i G 166 1) (p := 13) rfl (x := 15) (m := 3) (w := .null) (t := 9) (i := 1) (u := 348) rfl rfl hV2 (ty.ui rfl) rfl rfl
  obtain ⟨h4, hV5, hN6, E⟩ := E.gp (p := 16) rfl (x := 15) (m := 3) (w := .null) (t := 9) (i := 1) (u := 348) (y := 0) rfl rfl hV2
  have E := E.ld (p := 17) (t := ri_isA) (i := 1) (n := 1) (v := .ref 166) rfl (e := (.aload_n 1, 1, [], .null)) rfl rfl (fun _ _ => rfl) rfl rfl
  have E := E.gr (n := 167) (p := 20) rfl (x := 18) (m := 3) (w := .null) (t := 9) (i := 2) (u := 349) rfl rfl hV5 ((ty.ui rfl).ui rfl) rfl
  have E := E.pu (p := 21) (lo' := (ri_as 0 [.ref 137, .ref 166])) (st' := [.int 0, .ref 167]) rfl (e := (.iconst 0, 1, [], .null)) rfl rfl (fun _ _ => rfl)
  have E := E.ld (p := 22) (t := ri_isA) (i := 0) (n := 1) (v := .ref 137) rfl (e := (.aload_n 0, 1, [], .null)) rfl rfl (fun _ _ => rfl) rfl rfl
  have E := E.gr (n := 138) (p := 25) rfl (x := 18) (m := 3) (w := .null) (t := 9) (i := 2) (u := 349) rfl rfl hV5 ((ty.ui rfl).ui rfl) rfl
  have E := E.pu (p := 26) (lo' := (ri_as 0 [.ref 137, .ref 166])) (st' := [.int 0, .ref 138, .int 0, .ref 167]) rfl (e := (.iconst 0, 1, [], .null)) rfl rfl (fun _ _ => rfl)
  have E := E.pu (p := 28) (lo' := (ri_as 0 [.ref 137, .ref 166])) (st' := [.int 40, .int 0, .ref 138, .int 0, .ref 167]) rfl (e := (.bipush 40, 2, [], .null)) rfl rfl (fun _ _ => rfl)
  obtain ⟨h7, hV8, hN9, E⟩ := E.cr (p := 31) (n := 40) (a := 167) (b := 138) (st := []) rfl (x := 31) (m := 3) (w := .null) (u := [1165]) rfl rfl (by decide) hV5
  have E := E.ld (p := 32) (t := ri_isA) (i := 1) (n := 1) (v := .ref 166) rfl (e := (.aload_n 1, 1, [], .null)) rfl rfl (fun _ _ => rfl) rfl rfl
  have E := E.gr (n := 168) (p := 35) rfl (x := 22) (m := 3) (w := .null) (t := 9) (i := 3) (u := 350) rfl rfl hV8 (((ty.ui rfl).ui rfl).cr rfl rfl) rfl
  have E := E.pu (p := 36) (lo' := (ri_as 0 [.ref 137, .ref 166])) (st' := [.int 0, .ref 168]) rfl (e := (.iconst 0, 1, [], .null)) rfl rfl (fun _ _ => rfl)
  have E := E.ld (p := 37) (t := ri_isA) (i := 0) (n := 1) (v := .ref 137) rfl (e := (.aload_n 0, 1, [], .null)) rfl rfl (fun _ _ => rfl) rfl rfl
  have E := E.gr (n := 139) (p := 40) rfl (x := 22) (m := 3) (w := .null) (t := 9) (i := 3) (u := 350) rfl rfl hV8 (((ty.ui rfl).ui rfl).cr rfl rfl) rfl
  have E := E.pu (p := 41) (lo' := (ri_as 0 [.ref 137, .ref 166])) (st' := [.int 0, .ref 139, .int 0, .ref 168]) rfl (e := (.iconst 0, 1, [], .null)) rfl rfl (fun _ _ => rfl)
  have E := E.pu (p := 43) (lo' := (ri_as 0 [.ref 137, .ref 166])) (st' := [.int 40, .int 0, .ref 139, .int 0, .ref 168]) rfl (e := (.bipush 40, 2, [], .null)) rfl rfl (fun _ _ => rfl)
  obtain ⟨h10, hV11, hN12, E⟩ := E.cr (p := 46) (n := 40) (a := 168) (b := 139) (st := []) rfl (x := 31) (m := 3) (w := .null) (u := [1165]) rfl rfl (by decide) hV8
  have E := E.ld (p := 47) (t := ri_isA) (i := 1) (n := 1) (v := .ref 166) rfl (e := (.aload_n 1, 1, [], .null)) rfl rfl (fun _ _ => rfl) rfl rfl
  have E := E.gr (n := 169) (p := 50) rfl (x := 25) (m := 3) (w := .null) (t := 9) (i := 4) (u := 351) rfl rfl hV11 ((((ty.ui rfl).ui rfl).cr rfl rfl).cr rfl rfl) rfl
  have E := E.pu (p := 51) (lo' := (ri_as 0 [.ref 137, .ref 166])) (st' := [.int 0, .ref 169]) rfl (e := (.iconst 0, 1, [], .null)) rfl rfl (fun _ _ => rfl)
  have E := E.ld (p := 52) (t := ri_isA) (i := 0) (n := 1) (v := .ref 137) rfl (e := (.aload_n 0, 1, [], .null)) rfl rfl (fun _ _ => rfl) rfl rfl
  have E := E.gr (n := 140) (p := 55) rfl (x := 25) (m := 3) (w := .null) (t := 9) (i := 4) (u := 351) rfl rfl hV11 ((((ty.ui rfl).ui rfl).cr rfl rfl).cr rfl rfl) rfl
  have E := E.pu (p := 56) (lo' := (ri_as 0 [.ref 137, .ref 166])) (st' := [.int 0, .ref 140, .int 0, .ref 169]) rfl (e := (.iconst 0, 1, [], .null)) rfl rfl (fun _ _ => rfl)
  have E := E.pu (p := 58) (lo' := (ri_as 0 [.ref 137, .ref 166])) (st' := [.int 40, .int 0, .ref 140, .int 0, .ref 169]) rfl (e := (.bipush 40, 2, [], .null)) rfl rfl (fun _ _ => rfl)
  obtain ⟨h13, hV14, hN15, E⟩ := E.cr (p := 61) (n := 40) (a := 169) (b := 140) (st := []) rfl (x := 31) (m := 3) (w := .null) (u := [1165]) rfl rfl (by decide) hV11
  obtain ⟨r1, r2⟩ := E.retv rfl (m := 1) (ax := []) (w := .null) rfl
  exact ⟨(by rw [← hrs, r1]; rfl), ((congrArg eh_V r2).trans hV14), ((congrArg eh_N r2).trans (hN15.trans (hN12.trans (hN9.trans (hN6.trans hN3)))))⟩
theorem cl_1a {d : Nat} {h h' : ri_H} {v : Option Value} {G : eh_W} (E : ri_calE ri_md (d + 1) 25 [.ref 172, .ref 23] h = some (v, h')) (hV : eh_V h = G) (ty : eh_ty tC G) (hl : (eh_N h).take 209 = NCl) : v = none ∧ eh_V h' = eh_u (eh_cp (eh_cp (eh_cp (eh_cp (eh_cp (eh_cp (eh_cp (eh_cp (eh_cp (eh_cp (eh_u (eh_cp G 24 173 5) 172 1 (.int (eh_i G 23 1))) 25 174 4) 26 175 8) 27 176 6) 28 177 8) 29 178 64) 30 179 8) 31 180 6) 32 181 24) 33 182 24) 34 183 24) 172 12 (.int (eh_i G 23 12)) ∧ eh_N h' = eh_N h := by
  obtain ⟨rs, hrs, E⟩ := eh_in E (q := md_25) rfl
  have E := E.ld (p := 1) (t := ri_isA) (i := 1) (n := 1) (v := .ref 23) rfl (e := (.aload_n 1, 1, [], .null)) rfl rfl (fun _ _ => rfl) rfl rfl
  have E := E.gr (n := 24) (p := 4) rfl (x := 18) (m := 3) (w := .null) (t := 4) (i := 0) (u := 254) rfl rfl hV ty rfl
  have E := E.pu (p := 5) (lo' := (ri_as 0 [.ref 172, .ref 23])) (st' := [.int 0, .ref 24]) rfl (e := (.iconst 0, 1, [], .null)) rfl rfl (fun _ _ => rfl)
  have E := E.ld (p := 6) (t := ri_isA) (i := 0) (n := 1) (v := .ref 172) rfl (e := (.aload_n 0, 1, [], .null)) rfl rfl (fun _ _ => rfl) rfl rfl
  have E := E.gr (n := 173) (p := 9) rfl (x := 18) (m := 3) (w := .null) (t := 4) (i := 0) (u := 254) rfl rfl hV ty rfl
  have E := E.pu (p := 10) (lo' := (ri_as 0 [.ref 172, .ref 23])) (st' := [.int 0, .ref 173, .int 0, .ref 24]) rfl (e := (.iconst 0, 1, [], .null)) rfl rfl (fun _ _ => rfl)
  have E := E.ld (p := 11) (t := ri_isA) (i := 0) (n := 1) (v := .ref 172) rfl (e := (.aload_n 0, 1, [], .null)) rfl rfl (fun _ _ => rfl) rfl rfl
  have E := E.gr (n := 173) (p := 14) rfl (x := 18) (m := 3) (w := .null) (t := 4) (i := 0) (u := 254) rfl rfl hV ty rfl
  have E := E.an (p := 15) (n := 5) rfl (m := 1) (ax := []) (w := .null) rfl (by rw [(rfl : eh_N h = eh_N h)]; exact (nc_at hl (k := 173) rfl)) rfl
  have E : eh_e _ _ 15 (ri_as 0 [.ref 172, .ref 23]) [.int 5, .int 0, .ref 173, .int 0, .ref 24] _ rs h' := E
  obtain ⟨h1, hV2, hN3, E⟩ := E.cr (p := 18) (n := 5) (a := 24) (b := 173) (st := []) rfl (x := 61) (m := 3) (w := .null) (u := [669]) rfl rfl (by decide) hV
  have E := E.ld (p := 19) (t := ri_isA) (i := 0) (n := 1) (v := .ref 172) rfl (e := (.aload_n 0, 1, [], .null)) rfl rfl (fun _ _ => rfl) rfl rfl
  have E := E.ld (p := 20) (t := ri_isA) (i := 1) (n := 1) (v := .ref 23) rfl (e := (.aload_n 1, 1, [], .null)) rfl rfl (fun _ _ => rfl) rfl rfl
  have E := E.gi (y := eh_i G 23 1) (p := 23) rfl (x := 23) (m := 3) (w := .null) (t := 4) (i := 1) (u := 259) rfl rfl hV2 (ty.cr rfl rfl) rfl rfl
  obtain ⟨h4, hV5, hN6, E⟩ := E.gp (p := 26) rfl (x := 23) (m := 3) (w := .null) (t := 4) (i := 1) (u := 259) (y := 0) rfl rfl hV2
  have E := E.ld (p := 27) (t := ri_isA) (i := 1) (n := 1) (v := .ref 23) rfl (e := (.aload_n 1, 1, [], .null)) rfl rfl (fun _ _ => rfl) rfl rfl
  have E := E.gr (n := 25) (p := 30) rfl (x := 27) (m := 3) (w := .null) (t := 4) (i := 2) (u := 262) rfl rfl hV5 ((ty.cr rfl rfl).ui rfl) rfl
  have E := E.pu (p := 31) (lo' := (ri_as 0 [.ref 172, .ref 23])) (st' := [.int 0, .ref 25]) rfl (e := (.iconst 0, 1, [], .null)) rfl rfl (fun _ _ => rfl)
  have E := E.ld (p := 32) (t := ri_isA) (i := 0) (n := 1) (v := .ref 172) rfl (e := (.aload_n 0, 1, [], .null)) rfl rfl (fun _ _ => rfl) rfl rfl
  have E := E.gr (n := 174) (p := 35) rfl (x := 27) (m := 3) (w := .null) (t := 4) (i := 2) (u := 262) rfl rfl hV5 ((ty.cr rfl rfl).ui rfl) rfl
  have E := E.pu (p := 36) (lo' := (ri_as 0 [.ref 172, .ref 23])) (st' := [.int 0, .ref 174, .int 0, .ref 25]) rfl (e := (.iconst 0, 1, [], .null)) rfl rfl (fun _ _ => rfl)
  have E := E.ld (p := 37) (t := ri_isA) (i := 0) (n := 1) (v := .ref 172) rfl (e := (.aload_n 0, 1, [], .null)) rfl rfl (fun _ _ => rfl) rfl rfl
  have E := E.gr (n := 174) (p := 40) rfl (x := 27) (m := 3) (w := .null) (t := 4) (i := 2) (u := 262) rfl rfl hV5 ((ty.cr rfl rfl).ui rfl) rfl
  have E := E.an (p := 41) (n := 4) rfl (m := 1) (ax := []) (w := .null) rfl (by rw [(hN6.trans hN3)]; exact (nc_at hl (k := 174) rfl)) rfl
  have E : eh_e _ _ 41 (ri_as 0 [.ref 172, .ref 23]) [.int 4, .int 0, .ref 174, .int 0, .ref 25] _ rs h' := E
  obtain ⟨h7, hV8, hN9, E⟩ := E.cr (p := 44) (n := 4) (a := 25) (b := 174) (st := []) rfl (x := 61) (m := 3) (w := .null) (u := [669]) rfl rfl (by decide) hV5
  have E := E.ld (p := 45) (t := ri_isA) (i := 1) (n := 1) (v := .ref 23) rfl (e := (.aload_n 1, 1, [], .null)) rfl rfl (fun _ _ => rfl) rfl rfl
  have E := E.gr (n := 26) (p := 48) rfl (x := 30) (m := 3) (w := .null) (t := 4) (i := 3) (u := 269) rfl rfl hV8 (((ty.cr rfl rfl).ui rfl).cr rfl rfl) rfl
  have E := E.pu (p := 49) (lo' := (ri_as 0 [.ref 172, .ref 23])) (st' := [.int 0, .ref 26]) rfl (e := (.iconst 0, 1, [], .null)) rfl rfl (fun _ _ => rfl)
  have E := E.ld (p := 50) (t := ri_isA) (i := 0) (n := 1) (v := .ref 172) rfl (e := (.aload_n 0, 1, [], .null)) rfl rfl (fun _ _ => rfl) rfl rfl
  have E := E.gr (n := 175) (p := 53) rfl (x := 30) (m := 3) (w := .null) (t := 4) (i := 3) (u := 269) rfl rfl hV8 (((ty.cr rfl rfl).ui rfl).cr rfl rfl) rfl
  have E := E.pu (p := 54) (lo' := (ri_as 0 [.ref 172, .ref 23])) (st' := [.int 0, .ref 175, .int 0, .ref 26]) rfl (e := (.iconst 0, 1, [], .null)) rfl rfl (fun _ _ => rfl)
  have E := E.pu (p := 56) (lo' := (ri_as 0 [.ref 172, .ref 23])) (st' := [.int 8, .int 0, .ref 175, .int 0, .ref 26]) rfl (e := (.bipush 8, 2, [], .null)) rfl rfl (fun _ _ => rfl)
  obtain ⟨h10, hV11, hN12, E⟩ := E.cr (p := 59) (n := 8) (a := 26) (b := 175) (st := []) rfl (x := 61) (m := 3) (w := .null) (u := [669]) rfl rfl (by decide) hV8
  have E := E.ld (p := 60) (t := ri_isA) (i := 1) (n := 1) (v := .ref 23) rfl (e := (.aload_n 1, 1, [], .null)) rfl rfl (fun _ _ => rfl) rfl rfl
  have E := E.gr (n := 27) (p := 63) rfl (x := 33) (m := 3) (w := .null) (t := 4) (i := 4) (u := 272) rfl rfl hV11 ((((ty.cr rfl rfl).ui rfl).cr rfl rfl).cr rfl rfl) rfl
  have E := E.pu (p := 64) (lo' := (ri_as 0 [.ref 172, .ref 23])) (st' := [.int 0, .ref 27]) rfl (e := (.iconst 0, 1, [], .null)) rfl rfl (fun _ _ => rfl)
  have E := E.ld (p := 65) (t := ri_isA) (i := 0) (n := 1) (v := .ref 172) rfl (e := (.aload_n 0, 1, [], .null)) rfl rfl (fun _ _ => rfl) rfl rfl
  have E := E.gr (n := 176) (p := 68) rfl (x := 33) (m := 3) (w := .null) (t := 4) (i := 4) (u := 272) rfl rfl hV11 ((((ty.cr rfl rfl).ui rfl).cr rfl rfl).cr rfl rfl) rfl
  have E := E.pu (p := 69) (lo' := (ri_as 0 [.ref 172, .ref 23])) (st' := [.int 0, .ref 176, .int 0, .ref 27]) rfl (e := (.iconst 0, 1, [], .null)) rfl rfl (fun _ _ => rfl)
  have E := E.pu (p := 71) (lo' := (ri_as 0 [.ref 172, .ref 23])) (st' := [.int 6, .int 0, .ref 176, .int 0, .ref 27]) rfl (e := (.bipush 6, 2, [], .null)) rfl rfl (fun _ _ => rfl)
  obtain ⟨h13, hV14, hN15, E⟩ := E.cr (p := 74) (n := 6) (a := 27) (b := 176) (st := []) rfl (x := 61) (m := 3) (w := .null) (u := [669]) rfl rfl (by decide) hV11
  have E := E.ld (p := 75) (t := ri_isA) (i := 1) (n := 1) (v := .ref 23) rfl (e := (.aload_n 1, 1, [], .null)) rfl rfl (fun _ _ => rfl) rfl rfl
  have E := E.gr (n := 28) (p := 78) rfl (x := 36) (m := 3) (w := .null) (t := 4) (i := 5) (u := 277) rfl rfl hV14 (((((ty.cr rfl rfl).ui rfl).cr rfl rfl).cr rfl rfl).cr rfl rfl) rfl
  have E := E.pu (p := 79) (lo' := (ri_as 0 [.ref 172, .ref 23])) (st' := [.int 0, .ref 28]) rfl (e := (.iconst 0, 1, [], .null)) rfl rfl (fun _ _ => rfl)
  have E := E.ld (p := 80) (t := ri_isA) (i := 0) (n := 1) (v := .ref 172) rfl (e := (.aload_n 0, 1, [], .null)) rfl rfl (fun _ _ => rfl) rfl rfl
  have E := E.gr (n := 177) (p := 83) rfl (x := 36) (m := 3) (w := .null) (t := 4) (i := 5) (u := 277) rfl rfl hV14 (((((ty.cr rfl rfl).ui rfl).cr rfl rfl).cr rfl rfl).cr rfl rfl) rfl
  have E := E.pu (p := 84) (lo' := (ri_as 0 [.ref 172, .ref 23])) (st' := [.int 0, .ref 177, .int 0, .ref 28]) rfl (e := (.iconst 0, 1, [], .null)) rfl rfl (fun _ _ => rfl)
  have E := E.pu (p := 86) (lo' := (ri_as 0 [.ref 172, .ref 23])) (st' := [.int 8, .int 0, .ref 177, .int 0, .ref 28]) rfl (e := (.bipush 8, 2, [], .null)) rfl rfl (fun _ _ => rfl)
  obtain ⟨h16, hV17, hN18, E⟩ := E.cr (p := 89) (n := 8) (a := 28) (b := 177) (st := []) rfl (x := 61) (m := 3) (w := .null) (u := [669]) rfl rfl (by decide) hV14
  have E := E.ld (p := 90) (t := ri_isA) (i := 1) (n := 1) (v := .ref 23) rfl (e := (.aload_n 1, 1, [], .null)) rfl rfl (fun _ _ => rfl) rfl rfl
  have E := E.gr (n := 29) (p := 93) rfl (x := 39) (m := 3) (w := .null) (t := 4) (i := 6) (u := 280) rfl rfl hV17 ((((((ty.cr rfl rfl).ui rfl).cr rfl rfl).cr rfl rfl).cr rfl rfl).cr rfl rfl) rfl
  have E := E.pu (p := 94) (lo' := (ri_as 0 [.ref 172, .ref 23])) (st' := [.int 0, .ref 29]) rfl (e := (.iconst 0, 1, [], .null)) rfl rfl (fun _ _ => rfl)
  have E := E.ld (p := 95) (t := ri_isA) (i := 0) (n := 1) (v := .ref 172) rfl (e := (.aload_n 0, 1, [], .null)) rfl rfl (fun _ _ => rfl) rfl rfl
  have E := E.gr (n := 178) (p := 98) rfl (x := 39) (m := 3) (w := .null) (t := 4) (i := 6) (u := 280) rfl rfl hV17 ((((((ty.cr rfl rfl).ui rfl).cr rfl rfl).cr rfl rfl).cr rfl rfl).cr rfl rfl) rfl
  have E := E.pu (p := 99) (lo' := (ri_as 0 [.ref 172, .ref 23])) (st' := [.int 0, .ref 178, .int 0, .ref 29]) rfl (e := (.iconst 0, 1, [], .null)) rfl rfl (fun _ _ => rfl)
  have E := E.ld (p := 100) (t := ri_isA) (i := 0) (n := 1) (v := .ref 172) rfl (e := (.aload_n 0, 1, [], .null)) rfl rfl (fun _ _ => rfl) rfl rfl
  have E := E.gr (n := 178) (p := 103) rfl (x := 39) (m := 3) (w := .null) (t := 4) (i := 6) (u := 280) rfl rfl hV17 ((((((ty.cr rfl rfl).ui rfl).cr rfl rfl).cr rfl rfl).cr rfl rfl).cr rfl rfl) rfl
  have E := E.an (p := 104) (n := 64) rfl (m := 1) (ax := []) (w := .null) rfl (by rw [(hN18.trans (hN15.trans (hN12.trans (hN9.trans (hN6.trans hN3)))))]; exact (nc_at hl (k := 178) rfl)) rfl
  have E : eh_e _ _ 104 (ri_as 0 [.ref 172, .ref 23]) [.int 64, .int 0, .ref 178, .int 0, .ref 29] _ rs h' := E
  obtain ⟨h19, hV20, hN21, E⟩ := E.cr (p := 107) (n := 64) (a := 29) (b := 178) (st := []) rfl (x := 61) (m := 3) (w := .null) (u := [669]) rfl rfl (by decide) hV17
  have E := E.ld (p := 108) (t := ri_isA) (i := 1) (n := 1) (v := .ref 23) rfl (e := (.aload_n 1, 1, [], .null)) rfl rfl (fun _ _ => rfl) rfl rfl
  have E := E.gr (n := 30) (p := 111) rfl (x := 42) (m := 3) (w := .null) (t := 4) (i := 7) (u := 282) rfl rfl hV20 (((((((ty.cr rfl rfl).ui rfl).cr rfl rfl).cr rfl rfl).cr rfl rfl).cr rfl rfl).cr rfl rfl) rfl
  have E := E.pu (p := 112) (lo' := (ri_as 0 [.ref 172, .ref 23])) (st' := [.int 0, .ref 30]) rfl (e := (.iconst 0, 1, [], .null)) rfl rfl (fun _ _ => rfl)
  have E := E.ld (p := 113) (t := ri_isA) (i := 0) (n := 1) (v := .ref 172) rfl (e := (.aload_n 0, 1, [], .null)) rfl rfl (fun _ _ => rfl) rfl rfl
  have E := E.gr (n := 179) (p := 116) rfl (x := 42) (m := 3) (w := .null) (t := 4) (i := 7) (u := 282) rfl rfl hV20 (((((((ty.cr rfl rfl).ui rfl).cr rfl rfl).cr rfl rfl).cr rfl rfl).cr rfl rfl).cr rfl rfl) rfl
  have E := E.pu (p := 117) (lo' := (ri_as 0 [.ref 172, .ref 23])) (st' := [.int 0, .ref 179, .int 0, .ref 30]) rfl (e := (.iconst 0, 1, [], .null)) rfl rfl (fun _ _ => rfl)
  have E := E.pu (p := 119) (lo' := (ri_as 0 [.ref 172, .ref 23])) (st' := [.int 8, .int 0, .ref 179, .int 0, .ref 30]) rfl (e := (.bipush 8, 2, [], .null)) rfl rfl (fun _ _ => rfl)
  obtain ⟨h22, hV23, hN24, E⟩ := E.cr (p := 122) (n := 8) (a := 30) (b := 179) (st := []) rfl (x := 61) (m := 3) (w := .null) (u := [669]) rfl rfl (by decide) hV20
  have E := E.ld (p := 123) (t := ri_isA) (i := 1) (n := 1) (v := .ref 23) rfl (e := (.aload_n 1, 1, [], .null)) rfl rfl (fun _ _ => rfl) rfl rfl
  have E := E.gr (n := 31) (p := 126) rfl (x := 45) (m := 3) (w := .null) (t := 4) (i := 8) (u := 283) rfl rfl hV23 ((((((((ty.cr rfl rfl).ui rfl).cr rfl rfl).cr rfl rfl).cr rfl rfl).cr rfl rfl).cr rfl rfl).cr rfl rfl) rfl
  have E := E.pu (p := 127) (lo' := (ri_as 0 [.ref 172, .ref 23])) (st' := [.int 0, .ref 31]) rfl (e := (.iconst 0, 1, [], .null)) rfl rfl (fun _ _ => rfl)
  have E := E.ld (p := 128) (t := ri_isA) (i := 0) (n := 1) (v := .ref 172) rfl (e := (.aload_n 0, 1, [], .null)) rfl rfl (fun _ _ => rfl) rfl rfl
  have E := E.gr (n := 180) (p := 131) rfl (x := 45) (m := 3) (w := .null) (t := 4) (i := 8) (u := 283) rfl rfl hV23 ((((((((ty.cr rfl rfl).ui rfl).cr rfl rfl).cr rfl rfl).cr rfl rfl).cr rfl rfl).cr rfl rfl).cr rfl rfl) rfl
  have E := E.pu (p := 132) (lo' := (ri_as 0 [.ref 172, .ref 23])) (st' := [.int 0, .ref 180, .int 0, .ref 31]) rfl (e := (.iconst 0, 1, [], .null)) rfl rfl (fun _ _ => rfl)
  have E := E.pu (p := 134) (lo' := (ri_as 0 [.ref 172, .ref 23])) (st' := [.int 6, .int 0, .ref 180, .int 0, .ref 31]) rfl (e := (.bipush 6, 2, [], .null)) rfl rfl (fun _ _ => rfl)
  obtain ⟨h25, hV26, hN27, E⟩ := E.cr (p := 137) (n := 6) (a := 31) (b := 180) (st := []) rfl (x := 61) (m := 3) (w := .null) (u := [669]) rfl rfl (by decide) hV23
  have E := E.ld (p := 138) (t := ri_isA) (i := 1) (n := 1) (v := .ref 23) rfl (e := (.aload_n 1, 1, [], .null)) rfl rfl (fun _ _ => rfl) rfl rfl
  have E := E.gr (n := 32) (p := 141) rfl (x := 48) (m := 3) (w := .null) (t := 4) (i := 9) (u := 286) rfl rfl hV26 (((((((((ty.cr rfl rfl).ui rfl).cr rfl rfl).cr rfl rfl).cr rfl rfl).cr rfl rfl).cr rfl rfl).cr rfl rfl).cr rfl rfl) rfl
  have E := E.pu (p := 142) (lo' := (ri_as 0 [.ref 172, .ref 23])) (st' := [.int 0, .ref 32]) rfl (e := (.iconst 0, 1, [], .null)) rfl rfl (fun _ _ => rfl)
  have E := E.ld (p := 143) (t := ri_isA) (i := 0) (n := 1) (v := .ref 172) rfl (e := (.aload_n 0, 1, [], .null)) rfl rfl (fun _ _ => rfl) rfl rfl
  have E := E.gr (n := 181) (p := 146) rfl (x := 48) (m := 3) (w := .null) (t := 4) (i := 9) (u := 286) rfl rfl hV26 (((((((((ty.cr rfl rfl).ui rfl).cr rfl rfl).cr rfl rfl).cr rfl rfl).cr rfl rfl).cr rfl rfl).cr rfl rfl).cr rfl rfl) rfl
  have E := E.pu (p := 147) (lo' := (ri_as 0 [.ref 172, .ref 23])) (st' := [.int 0, .ref 181, .int 0, .ref 32]) rfl (e := (.iconst 0, 1, [], .null)) rfl rfl (fun _ _ => rfl)
  have E := E.pu (p := 149) (lo' := (ri_as 0 [.ref 172, .ref 23])) (st' := [.int 24, .int 0, .ref 181, .int 0, .ref 32]) rfl (e := (.bipush 24, 2, [], .null)) rfl rfl (fun _ _ => rfl)
  obtain ⟨h28, hV29, hN30, E⟩ := E.cr (p := 152) (n := 24) (a := 32) (b := 181) (st := []) rfl (x := 61) (m := 3) (w := .null) (u := [669]) rfl rfl (by decide) hV26
  have E := E.ld (p := 153) (t := ri_isA) (i := 1) (n := 1) (v := .ref 23) rfl (e := (.aload_n 1, 1, [], .null)) rfl rfl (fun _ _ => rfl) rfl rfl
  have E := E.gr (n := 33) (p := 156) rfl (x := 52) (m := 3) (w := .null) (t := 4) (i := 10) (u := 287) rfl rfl hV29 ((((((((((ty.cr rfl rfl).ui rfl).cr rfl rfl).cr rfl rfl).cr rfl rfl).cr rfl rfl).cr rfl rfl).cr rfl rfl).cr rfl rfl).cr rfl rfl) rfl
  have E := E.pu (p := 157) (lo' := (ri_as 0 [.ref 172, .ref 23])) (st' := [.int 0, .ref 33]) rfl (e := (.iconst 0, 1, [], .null)) rfl rfl (fun _ _ => rfl)
  have E := E.ld (p := 158) (t := ri_isA) (i := 0) (n := 1) (v := .ref 172) rfl (e := (.aload_n 0, 1, [], .null)) rfl rfl (fun _ _ => rfl) rfl rfl
  have E := E.gr (n := 182) (p := 161) rfl (x := 52) (m := 3) (w := .null) (t := 4) (i := 10) (u := 287) rfl rfl hV29 ((((((((((ty.cr rfl rfl).ui rfl).cr rfl rfl).cr rfl rfl).cr rfl rfl).cr rfl rfl).cr rfl rfl).cr rfl rfl).cr rfl rfl).cr rfl rfl) rfl
  have E := E.pu (p := 162) (lo' := (ri_as 0 [.ref 172, .ref 23])) (st' := [.int 0, .ref 182, .int 0, .ref 33]) rfl (e := (.iconst 0, 1, [], .null)) rfl rfl (fun _ _ => rfl)
  have E := E.pu (p := 164) (lo' := (ri_as 0 [.ref 172, .ref 23])) (st' := [.int 24, .int 0, .ref 182, .int 0, .ref 33]) rfl (e := (.bipush 24, 2, [], .null)) rfl rfl (fun _ _ => rfl)
  obtain ⟨h31, hV32, hN33, E⟩ := E.cr (p := 167) (n := 24) (a := 33) (b := 182) (st := []) rfl (x := 61) (m := 3) (w := .null) (u := [669]) rfl rfl (by decide) hV29
  have E := E.ld (p := 168) (t := ri_isA) (i := 1) (n := 1) (v := .ref 23) rfl (e := (.aload_n 1, 1, [], .null)) rfl rfl (fun _ _ => rfl) rfl rfl
  have E := E.gr (n := 34) (p := 171) rfl (x := 55) (m := 3) (w := .null) (t := 4) (i := 11) (u := 290) rfl rfl hV32 (((((((((((ty.cr rfl rfl).ui rfl).cr rfl rfl).cr rfl rfl).cr rfl rfl).cr rfl rfl).cr rfl rfl).cr rfl rfl).cr rfl rfl).cr rfl rfl).cr rfl rfl) rfl
  have E := E.pu (p := 172) (lo' := (ri_as 0 [.ref 172, .ref 23])) (st' := [.int 0, .ref 34]) rfl (e := (.iconst 0, 1, [], .null)) rfl rfl (fun _ _ => rfl)
  have E := E.ld (p := 173) (t := ri_isA) (i := 0) (n := 1) (v := .ref 172) rfl (e := (.aload_n 0, 1, [], .null)) rfl rfl (fun _ _ => rfl) rfl rfl
  have E := E.gr (n := 183) (p := 176) rfl (x := 55) (m := 3) (w := .null) (t := 4) (i := 11) (u := 290) rfl rfl hV32 (((((((((((ty.cr rfl rfl).ui rfl).cr rfl rfl).cr rfl rfl).cr rfl rfl).cr rfl rfl).cr rfl rfl).cr rfl rfl).cr rfl rfl).cr rfl rfl).cr rfl rfl) rfl
  have E := E.pu (p := 177) (lo' := (ri_as 0 [.ref 172, .ref 23])) (st' := [.int 0, .ref 183, .int 0, .ref 34]) rfl (e := (.iconst 0, 1, [], .null)) rfl rfl (fun _ _ => rfl)
  have E := E.pu (p := 179) (lo' := (ri_as 0 [.ref 172, .ref 23])) (st' := [.int 24, .int 0, .ref 183, .int 0, .ref 34]) rfl (e := (.bipush 24, 2, [], .null)) rfl rfl (fun _ _ => rfl)
  obtain ⟨h34, hV35, hN36, E⟩ := E.cr (p := 182) (n := 24) (a := 34) (b := 183) (st := []) rfl (x := 61) (m := 3) (w := .null) (u := [669]) rfl rfl (by decide) hV32
  have E := E.ld (p := 183) (t := ri_isA) (i := 0) (n := 1) (v := .ref 172) rfl (e := (.aload_n 0, 1, [], .null)) rfl rfl (fun _ _ => rfl) rfl rfl
  have E := E.ld (p := 184) (t := ri_isA) (i := 1) (n := 1) (v := .ref 23) rfl (e := (.aload_n 1, 1, [], .null)) rfl rfl (fun _ _ => rfl) rfl rfl
  have E := E.gi (y := eh_i G 23 12) (p := 187) rfl (x := 58) (m := 3) (w := .null) (t := 4) (i := 12) (u := 293) rfl rfl hV35 ((((((((((((ty.cr rfl rfl).ui rfl).cr rfl rfl).cr rfl rfl).cr rfl rfl).cr rfl rfl).cr rfl rfl).cr rfl rfl).cr rfl rfl).cr rfl rfl).cr rfl rfl).cr rfl rfl) rfl rfl
  obtain ⟨h37, hV38, hN39, E⟩ := E.gp (p := 190) rfl (x := 58) (m := 3) (w := .null) (t := 4) (i := 12) (u := 293) (y := 0) rfl rfl hV35
  obtain ⟨r1, r2⟩ := E.retv rfl (m := 1) (ax := []) (w := .null) rfl
  exact ⟨(by rw [← hrs, r1]; rfl), ((congrArg eh_V r2).trans hV38), ((congrArg eh_N r2).trans (hN39.trans (hN36.trans (hN33.trans (hN30.trans (hN27.trans (hN24.trans (hN21.trans (hN18.trans (hN15.trans (hN12.trans (hN9.trans (hN6.trans hN3)))))))))))))⟩
theorem cl_1b {d : Nat} {h h' : ri_H} {v : Option Value} {G : eh_W} (E : ri_calE ri_md (d + 1) 25 [.ref 23, .ref 172] h = some (v, h')) (hV : eh_V h = G) (ty : eh_ty tC G) (hl : (eh_N h).take 209 = NCl) : v = none ∧ eh_V h' = eh_u (eh_cp (eh_cp (eh_cp (eh_cp (eh_cp (eh_cp (eh_cp (eh_cp (eh_cp (eh_cp (eh_u (eh_cp G 173 24 5) 23 1 (.int (eh_i G 172 1))) 174 25 4) 175 26 8) 176 27 6) 177 28 8) 178 29 64) 179 30 8) 180 31 6) 181 32 24) 182 33 24) 183 34 24) 23 12 (.int (eh_i G 172 12)) ∧ eh_N h' = eh_N h := by
  obtain ⟨rs, hrs, E⟩ := eh_in E (q := md_25) rfl
  have E := E.ld (p := 1) (t := ri_isA) (i := 1) (n := 1) (v := .ref 172) rfl (e := (.aload_n 1, 1, [], .null)) rfl rfl (fun _ _ => rfl) rfl rfl
  have E := E.gr (n := 173) (p := 4) rfl (x := 18) (m := 3) (w := .null) (t := 4) (i := 0) (u := 254) rfl rfl hV ty rfl
  have E := E.pu (p := 5) (lo' := (ri_as 0 [.ref 23, .ref 172])) (st' := [.int 0, .ref 173]) rfl (e := (.iconst 0, 1, [], .null)) rfl rfl (fun _ _ => rfl)
  have E := E.ld (p := 6) (t := ri_isA) (i := 0) (n := 1) (v := .ref 23) rfl (e := (.aload_n 0, 1, [], .null)) rfl rfl (fun _ _ => rfl) rfl rfl
  have E := E.gr (n := 24) (p := 9) rfl (x := 18) (m := 3) (w := .null) (t := 4) (i := 0) (u := 254) rfl rfl hV ty rfl
  have E := E.pu (p := 10) (lo' := (ri_as 0 [.ref 23, .ref 172])) (st' := [.int 0, .ref 24, .int 0, .ref 173]) rfl (e := (.iconst 0, 1, [], .null)) rfl rfl (fun _ _ => rfl)
  have E := E.ld (p := 11) (t := ri_isA) (i := 0) (n := 1) (v := .ref 23) rfl (e := (.aload_n 0, 1, [], .null)) rfl rfl (fun _ _ => rfl) rfl rfl
  have E := E.gr (n := 24) (p := 14) rfl (x := 18) (m := 3) (w := .null) (t := 4) (i := 0) (u := 254) rfl rfl hV ty rfl
  have E := E.an (p := 15) (n := 5) rfl (m := 1) (ax := []) (w := .null) rfl (by rw [(rfl : eh_N h = eh_N h)]; exact (nc_at hl (k := 24) rfl)) rfl
  have E : eh_e _ _ 15 (ri_as 0 [.ref 23, .ref 172]) [.int 5, .int 0, .ref 24, .int 0, .ref 173] _ rs h' := E
  obtain ⟨h1, hV2, hN3, E⟩ := E.cr (p := 18) (n := 5) (a := 173) (b := 24) (st := []) rfl (x := 61) (m := 3) (w := .null) (u := [669]) rfl rfl (by decide) hV
  have E := E.ld (p := 19) (t := ri_isA) (i := 0) (n := 1) (v := .ref 23) rfl (e := (.aload_n 0, 1, [], .null)) rfl rfl (fun _ _ => rfl) rfl rfl
  have E := E.ld (p := 20) (t := ri_isA) (i := 1) (n := 1) (v := .ref 172) rfl (e := (.aload_n 1, 1, [], .null)) rfl rfl (fun _ _ => rfl) rfl rfl
  have E := E.gi (y := eh_i G 172 1) (p := 23) rfl (x := 23) (m := 3) (w := .null) (t := 4) (i := 1) (u := 259) rfl rfl hV2 (ty.cr rfl rfl) rfl rfl
  obtain ⟨h4, hV5, hN6, E⟩ := E.gp (p := 26) rfl (x := 23) (m := 3) (w := .null) (t := 4) (i := 1) (u := 259) (y := 0) rfl rfl hV2
  have E := E.ld (p := 27) (t := ri_isA) (i := 1) (n := 1) (v := .ref 172) rfl (e := (.aload_n 1, 1, [], .null)) rfl rfl (fun _ _ => rfl) rfl rfl
  have E := E.gr (n := 174) (p := 30) rfl (x := 27) (m := 3) (w := .null) (t := 4) (i := 2) (u := 262) rfl rfl hV5 ((ty.cr rfl rfl).ui rfl) rfl
  have E := E.pu (p := 31) (lo' := (ri_as 0 [.ref 23, .ref 172])) (st' := [.int 0, .ref 174]) rfl (e := (.iconst 0, 1, [], .null)) rfl rfl (fun _ _ => rfl)
  have E := E.ld (p := 32) (t := ri_isA) (i := 0) (n := 1) (v := .ref 23) rfl (e := (.aload_n 0, 1, [], .null)) rfl rfl (fun _ _ => rfl) rfl rfl
  have E := E.gr (n := 25) (p := 35) rfl (x := 27) (m := 3) (w := .null) (t := 4) (i := 2) (u := 262) rfl rfl hV5 ((ty.cr rfl rfl).ui rfl) rfl
  have E := E.pu (p := 36) (lo' := (ri_as 0 [.ref 23, .ref 172])) (st' := [.int 0, .ref 25, .int 0, .ref 174]) rfl (e := (.iconst 0, 1, [], .null)) rfl rfl (fun _ _ => rfl)
  have E := E.ld (p := 37) (t := ri_isA) (i := 0) (n := 1) (v := .ref 23) rfl (e := (.aload_n 0, 1, [], .null)) rfl rfl (fun _ _ => rfl) rfl rfl
  have E := E.gr (n := 25) (p := 40) rfl (x := 27) (m := 3) (w := .null) (t := 4) (i := 2) (u := 262) rfl rfl hV5 ((ty.cr rfl rfl).ui rfl) rfl
  have E := E.an (p := 41) (n := 4) rfl (m := 1) (ax := []) (w := .null) rfl (by rw [(hN6.trans hN3)]; exact (nc_at hl (k := 25) rfl)) rfl
  have E : eh_e _ _ 41 (ri_as 0 [.ref 23, .ref 172]) [.int 4, .int 0, .ref 25, .int 0, .ref 174] _ rs h' := E
  obtain ⟨h7, hV8, hN9, E⟩ := E.cr (p := 44) (n := 4) (a := 174) (b := 25) (st := []) rfl (x := 61) (m := 3) (w := .null) (u := [669]) rfl rfl (by decide) hV5
  have E := E.ld (p := 45) (t := ri_isA) (i := 1) (n := 1) (v := .ref 172) rfl (e := (.aload_n 1, 1, [], .null)) rfl rfl (fun _ _ => rfl) rfl rfl
  have E := E.gr (n := 175) (p := 48) rfl (x := 30) (m := 3) (w := .null) (t := 4) (i := 3) (u := 269) rfl rfl hV8 (((ty.cr rfl rfl).ui rfl).cr rfl rfl) rfl
  have E := E.pu (p := 49) (lo' := (ri_as 0 [.ref 23, .ref 172])) (st' := [.int 0, .ref 175]) rfl (e := (.iconst 0, 1, [], .null)) rfl rfl (fun _ _ => rfl)
  have E := E.ld (p := 50) (t := ri_isA) (i := 0) (n := 1) (v := .ref 23) rfl (e := (.aload_n 0, 1, [], .null)) rfl rfl (fun _ _ => rfl) rfl rfl
  have E := E.gr (n := 26) (p := 53) rfl (x := 30) (m := 3) (w := .null) (t := 4) (i := 3) (u := 269) rfl rfl hV8 (((ty.cr rfl rfl).ui rfl).cr rfl rfl) rfl
  have E := E.pu (p := 54) (lo' := (ri_as 0 [.ref 23, .ref 172])) (st' := [.int 0, .ref 26, .int 0, .ref 175]) rfl (e := (.iconst 0, 1, [], .null)) rfl rfl (fun _ _ => rfl)
  have E := E.pu (p := 56) (lo' := (ri_as 0 [.ref 23, .ref 172])) (st' := [.int 8, .int 0, .ref 26, .int 0, .ref 175]) rfl (e := (.bipush 8, 2, [], .null)) rfl rfl (fun _ _ => rfl)
  obtain ⟨h10, hV11, hN12, E⟩ := E.cr (p := 59) (n := 8) (a := 175) (b := 26) (st := []) rfl (x := 61) (m := 3) (w := .null) (u := [669]) rfl rfl (by decide) hV8
  have E := E.ld (p := 60) (t := ri_isA) (i := 1) (n := 1) (v := .ref 172) rfl (e := (.aload_n 1, 1, [], .null)) rfl rfl (fun _ _ => rfl) rfl rfl
  have E := E.gr (n := 176) (p := 63) rfl (x := 33) (m := 3) (w := .null) (t := 4) (i := 4) (u := 272) rfl rfl hV11 ((((ty.cr rfl rfl).ui rfl).cr rfl rfl).cr rfl rfl) rfl
  have E := E.pu (p := 64) (lo' := (ri_as 0 [.ref 23, .ref 172])) (st' := [.int 0, .ref 176]) rfl (e := (.iconst 0, 1, [], .null)) rfl rfl (fun _ _ => rfl)
  have E := E.ld (p := 65) (t := ri_isA) (i := 0) (n := 1) (v := .ref 23) rfl (e := (.aload_n 0, 1, [], .null)) rfl rfl (fun _ _ => rfl) rfl rfl
  have E := E.gr (n := 27) (p := 68) rfl (x := 33) (m := 3) (w := .null) (t := 4) (i := 4) (u := 272) rfl rfl hV11 ((((ty.cr rfl rfl).ui rfl).cr rfl rfl).cr rfl rfl) rfl
  have E := E.pu (p := 69) (lo' := (ri_as 0 [.ref 23, .ref 172])) (st' := [.int 0, .ref 27, .int 0, .ref 176]) rfl (e := (.iconst 0, 1, [], .null)) rfl rfl (fun _ _ => rfl)
  have E := E.pu (p := 71) (lo' := (ri_as 0 [.ref 23, .ref 172])) (st' := [.int 6, .int 0, .ref 27, .int 0, .ref 176]) rfl (e := (.bipush 6, 2, [], .null)) rfl rfl (fun _ _ => rfl)
  obtain ⟨h13, hV14, hN15, E⟩ := E.cr (p := 74) (n := 6) (a := 176) (b := 27) (st := []) rfl (x := 61) (m := 3) (w := .null) (u := [669]) rfl rfl (by decide) hV11
  have E := E.ld (p := 75) (t := ri_isA) (i := 1) (n := 1) (v := .ref 172) rfl (e := (.aload_n 1, 1, [], .null)) rfl rfl (fun _ _ => rfl) rfl rfl
  have E := E.gr (n := 177) (p := 78) rfl (x := 36) (m := 3) (w := .null) (t := 4) (i := 5) (u := 277) rfl rfl hV14 (((((ty.cr rfl rfl).ui rfl).cr rfl rfl).cr rfl rfl).cr rfl rfl) rfl
  have E := E.pu (p := 79) (lo' := (ri_as 0 [.ref 23, .ref 172])) (st' := [.int 0, .ref 177]) rfl (e := (.iconst 0, 1, [], .null)) rfl rfl (fun _ _ => rfl)
  have E := E.ld (p := 80) (t := ri_isA) (i := 0) (n := 1) (v := .ref 23) rfl (e := (.aload_n 0, 1, [], .null)) rfl rfl (fun _ _ => rfl) rfl rfl
  have E := E.gr (n := 28) (p := 83) rfl (x := 36) (m := 3) (w := .null) (t := 4) (i := 5) (u := 277) rfl rfl hV14 (((((ty.cr rfl rfl).ui rfl).cr rfl rfl).cr rfl rfl).cr rfl rfl) rfl
  have E := E.pu (p := 84) (lo' := (ri_as 0 [.ref 23, .ref 172])) (st' := [.int 0, .ref 28, .int 0, .ref 177]) rfl (e := (.iconst 0, 1, [], .null)) rfl rfl (fun _ _ => rfl)
  have E := E.pu (p := 86) (lo' := (ri_as 0 [.ref 23, .ref 172])) (st' := [.int 8, .int 0, .ref 28, .int 0, .ref 177]) rfl (e := (.bipush 8, 2, [], .null)) rfl rfl (fun _ _ => rfl)
  obtain ⟨h16, hV17, hN18, E⟩ := E.cr (p := 89) (n := 8) (a := 177) (b := 28) (st := []) rfl (x := 61) (m := 3) (w := .null) (u := [669]) rfl rfl (by decide) hV14
  have E := E.ld (p := 90) (t := ri_isA) (i := 1) (n := 1) (v := .ref 172) rfl (e := (.aload_n 1, 1, [], .null)) rfl rfl (fun _ _ => rfl) rfl rfl
  have E := E.gr (n := 178) (p := 93) rfl (x := 39) (m := 3) (w := .null) (t := 4) (i := 6) (u := 280) rfl rfl hV17 ((((((ty.cr rfl rfl).ui rfl).cr rfl rfl).cr rfl rfl).cr rfl rfl).cr rfl rfl) rfl
  have E := E.pu (p := 94) (lo' := (ri_as 0 [.ref 23, .ref 172])) (st' := [.int 0, .ref 178]) rfl (e := (.iconst 0, 1, [], .null)) rfl rfl (fun _ _ => rfl)
  have E := E.ld (p := 95) (t := ri_isA) (i := 0) (n := 1) (v := .ref 23) rfl (e := (.aload_n 0, 1, [], .null)) rfl rfl (fun _ _ => rfl) rfl rfl
  have E := E.gr (n := 29) (p := 98) rfl (x := 39) (m := 3) (w := .null) (t := 4) (i := 6) (u := 280) rfl rfl hV17 ((((((ty.cr rfl rfl).ui rfl).cr rfl rfl).cr rfl rfl).cr rfl rfl).cr rfl rfl) rfl
  have E := E.pu (p := 99) (lo' := (ri_as 0 [.ref 23, .ref 172])) (st' := [.int 0, .ref 29, .int 0, .ref 178]) rfl (e := (.iconst 0, 1, [], .null)) rfl rfl (fun _ _ => rfl)
  have E := E.ld (p := 100) (t := ri_isA) (i := 0) (n := 1) (v := .ref 23) rfl (e := (.aload_n 0, 1, [], .null)) rfl rfl (fun _ _ => rfl) rfl rfl
  have E := E.gr (n := 29) (p := 103) rfl (x := 39) (m := 3) (w := .null) (t := 4) (i := 6) (u := 280) rfl rfl hV17 ((((((ty.cr rfl rfl).ui rfl).cr rfl rfl).cr rfl rfl).cr rfl rfl).cr rfl rfl) rfl
  have E := E.an (p := 104) (n := 64) rfl (m := 1) (ax := []) (w := .null) rfl (by rw [(hN18.trans (hN15.trans (hN12.trans (hN9.trans (hN6.trans hN3)))))]; exact (nc_at hl (k := 29) rfl)) rfl
  have E : eh_e _ _ 104 (ri_as 0 [.ref 23, .ref 172]) [.int 64, .int 0, .ref 29, .int 0, .ref 178] _ rs h' := E
  obtain ⟨h19, hV20, hN21, E⟩ := E.cr (p := 107) (n := 64) (a := 178) (b := 29) (st := []) rfl (x := 61) (m := 3) (w := .null) (u := [669]) rfl rfl (by decide) hV17
  have E := E.ld (p := 108) (t := ri_isA) (i := 1) (n := 1) (v := .ref 172) rfl (e := (.aload_n 1, 1, [], .null)) rfl rfl (fun _ _ => rfl) rfl rfl
  have E := E.gr (n := 179) (p := 111) rfl (x := 42) (m := 3) (w := .null) (t := 4) (i := 7) (u := 282) rfl rfl hV20 (((((((ty.cr rfl rfl).ui rfl).cr rfl rfl).cr rfl rfl).cr rfl rfl).cr rfl rfl).cr rfl rfl) rfl
  have E := E.pu (p := 112) (lo' := (ri_as 0 [.ref 23, .ref 172])) (st' := [.int 0, .ref 179]) rfl (e := (.iconst 0, 1, [], .null)) rfl rfl (fun _ _ => rfl)
  have E := E.ld (p := 113) (t := ri_isA) (i := 0) (n := 1) (v := .ref 23) rfl (e := (.aload_n 0, 1, [], .null)) rfl rfl (fun _ _ => rfl) rfl rfl
  have E := E.gr (n := 30) (p := 116) rfl (x := 42) (m := 3) (w := .null) (t := 4) (i := 7) (u := 282) rfl rfl hV20 (((((((ty.cr rfl rfl).ui rfl).cr rfl rfl).cr rfl rfl).cr rfl rfl).cr rfl rfl).cr rfl rfl) rfl
  have E := E.pu (p := 117) (lo' := (ri_as 0 [.ref 23, .ref 172])) (st' := [.int 0, .ref 30, .int 0, .ref 179]) rfl (e := (.iconst 0, 1, [], .null)) rfl rfl (fun _ _ => rfl)
  have E := E.pu (p := 119) (lo' := (ri_as 0 [.ref 23, .ref 172])) (st' := [.int 8, .int 0, .ref 30, .int 0, .ref 179]) rfl (e := (.bipush 8, 2, [], .null)) rfl rfl (fun _ _ => rfl)
  obtain ⟨h22, hV23, hN24, E⟩ := E.cr (p := 122) (n := 8) (a := 179) (b := 30) (st := []) rfl (x := 61) (m := 3) (w := .null) (u := [669]) rfl rfl (by decide) hV20
  have E := E.ld (p := 123) (t := ri_isA) (i := 1) (n := 1) (v := .ref 172) rfl (e := (.aload_n 1, 1, [], .null)) rfl rfl (fun _ _ => rfl) rfl rfl
  have E := E.gr (n := 180) (p := 126) rfl (x := 45) (m := 3) (w := .null) (t := 4) (i := 8) (u := 283) rfl rfl hV23 ((((((((ty.cr rfl rfl).ui rfl).cr rfl rfl).cr rfl rfl).cr rfl rfl).cr rfl rfl).cr rfl rfl).cr rfl rfl) rfl
  have E := E.pu (p := 127) (lo' := (ri_as 0 [.ref 23, .ref 172])) (st' := [.int 0, .ref 180]) rfl (e := (.iconst 0, 1, [], .null)) rfl rfl (fun _ _ => rfl)
  have E := E.ld (p := 128) (t := ri_isA) (i := 0) (n := 1) (v := .ref 23) rfl (e := (.aload_n 0, 1, [], .null)) rfl rfl (fun _ _ => rfl) rfl rfl
  have E := E.gr (n := 31) (p := 131) rfl (x := 45) (m := 3) (w := .null) (t := 4) (i := 8) (u := 283) rfl rfl hV23 ((((((((ty.cr rfl rfl).ui rfl).cr rfl rfl).cr rfl rfl).cr rfl rfl).cr rfl rfl).cr rfl rfl).cr rfl rfl) rfl
  have E := E.pu (p := 132) (lo' := (ri_as 0 [.ref 23, .ref 172])) (st' := [.int 0, .ref 31, .int 0, .ref 180]) rfl (e := (.iconst 0, 1, [], .null)) rfl rfl (fun _ _ => rfl)
  have E := E.pu (p := 134) (lo' := (ri_as 0 [.ref 23, .ref 172])) (st' := [.int 6, .int 0, .ref 31, .int 0, .ref 180]) rfl (e := (.bipush 6, 2, [], .null)) rfl rfl (fun _ _ => rfl)
  obtain ⟨h25, hV26, hN27, E⟩ := E.cr (p := 137) (n := 6) (a := 180) (b := 31) (st := []) rfl (x := 61) (m := 3) (w := .null) (u := [669]) rfl rfl (by decide) hV23
  have E := E.ld (p := 138) (t := ri_isA) (i := 1) (n := 1) (v := .ref 172) rfl (e := (.aload_n 1, 1, [], .null)) rfl rfl (fun _ _ => rfl) rfl rfl
  have E := E.gr (n := 181) (p := 141) rfl (x := 48) (m := 3) (w := .null) (t := 4) (i := 9) (u := 286) rfl rfl hV26 (((((((((ty.cr rfl rfl).ui rfl).cr rfl rfl).cr rfl rfl).cr rfl rfl).cr rfl rfl).cr rfl rfl).cr rfl rfl).cr rfl rfl) rfl
  have E := E.pu (p := 142) (lo' := (ri_as 0 [.ref 23, .ref 172])) (st' := [.int 0, .ref 181]) rfl (e := (.iconst 0, 1, [], .null)) rfl rfl (fun _ _ => rfl)
  have E := E.ld (p := 143) (t := ri_isA) (i := 0) (n := 1) (v := .ref 23) rfl (e := (.aload_n 0, 1, [], .null)) rfl rfl (fun _ _ => rfl) rfl rfl
  have E := E.gr (n := 32) (p := 146) rfl (x := 48) (m := 3) (w := .null) (t := 4) (i := 9) (u := 286) rfl rfl hV26 (((((((((ty.cr rfl rfl).ui rfl).cr rfl rfl).cr rfl rfl).cr rfl rfl).cr rfl rfl).cr rfl rfl).cr rfl rfl).cr rfl rfl) rfl
  have E := E.pu (p := 147) (lo' := (ri_as 0 [.ref 23, .ref 172])) (st' := [.int 0, .ref 32, .int 0, .ref 181]) rfl (e := (.iconst 0, 1, [], .null)) rfl rfl (fun _ _ => rfl)
  have E := E.pu (p := 149) (lo' := (ri_as 0 [.ref 23, .ref 172])) (st' := [.int 24, .int 0, .ref 32, .int 0, .ref 181]) rfl (e := (.bipush 24, 2, [], .null)) rfl rfl (fun _ _ => rfl)
  obtain ⟨h28, hV29, hN30, E⟩ := E.cr (p := 152) (n := 24) (a := 181) (b := 32) (st := []) rfl (x := 61) (m := 3) (w := .null) (u := [669]) rfl rfl (by decide) hV26
  have E := E.ld (p := 153) (t := ri_isA) (i := 1) (n := 1) (v := .ref 172) rfl (e := (.aload_n 1, 1, [], .null)) rfl rfl (fun _ _ => rfl) rfl rfl
  have E := E.gr (n := 182) (p := 156) rfl (x := 52) (m := 3) (w := .null) (t := 4) (i := 10) (u := 287) rfl rfl hV29 ((((((((((ty.cr rfl rfl).ui rfl).cr rfl rfl).cr rfl rfl).cr rfl rfl).cr rfl rfl).cr rfl rfl).cr rfl rfl).cr rfl rfl).cr rfl rfl) rfl
  have E := E.pu (p := 157) (lo' := (ri_as 0 [.ref 23, .ref 172])) (st' := [.int 0, .ref 182]) rfl (e := (.iconst 0, 1, [], .null)) rfl rfl (fun _ _ => rfl)
  have E := E.ld (p := 158) (t := ri_isA) (i := 0) (n := 1) (v := .ref 23) rfl (e := (.aload_n 0, 1, [], .null)) rfl rfl (fun _ _ => rfl) rfl rfl
  have E := E.gr (n := 33) (p := 161) rfl (x := 52) (m := 3) (w := .null) (t := 4) (i := 10) (u := 287) rfl rfl hV29 ((((((((((ty.cr rfl rfl).ui rfl).cr rfl rfl).cr rfl rfl).cr rfl rfl).cr rfl rfl).cr rfl rfl).cr rfl rfl).cr rfl rfl).cr rfl rfl) rfl
  have E := E.pu (p := 162) (lo' := (ri_as 0 [.ref 23, .ref 172])) (st' := [.int 0, .ref 33, .int 0, .ref 182]) rfl (e := (.iconst 0, 1, [], .null)) rfl rfl (fun _ _ => rfl)
  have E := E.pu (p := 164) (lo' := (ri_as 0 [.ref 23, .ref 172])) (st' := [.int 24, .int 0, .ref 33, .int 0, .ref 182]) rfl (e := (.bipush 24, 2, [], .null)) rfl rfl (fun _ _ => rfl)
  obtain ⟨h31, hV32, hN33, E⟩ := E.cr (p := 167) (n := 24) (a := 182) (b := 33) (st := []) rfl (x := 61) (m := 3) (w := .null) (u := [669]) rfl rfl (by decide) hV29
  have E := E.ld (p := 168) (t := ri_isA) (i := 1) (n := 1) (v := .ref 172) rfl (e := (.aload_n 1, 1, [], .null)) rfl rfl (fun _ _ => rfl) rfl rfl
  have E := E.gr (n := 183) (p := 171) rfl (x := 55) (m := 3) (w := .null) (t := 4) (i := 11) (u := 290) rfl rfl hV32 (((((((((((ty.cr rfl rfl).ui rfl).cr rfl rfl).cr rfl rfl).cr rfl rfl).cr rfl rfl).cr rfl rfl).cr rfl rfl).cr rfl rfl).cr rfl rfl).cr rfl rfl) rfl
  have E := E.pu (p := 172) (lo' := (ri_as 0 [.ref 23, .ref 172])) (st' := [.int 0, .ref 183]) rfl (e := (.iconst 0, 1, [], .null)) rfl rfl (fun _ _ => rfl)
  have E := E.ld (p := 173) (t := ri_isA) (i := 0) (n := 1) (v := .ref 23) rfl (e := (.aload_n 0, 1, [], .null)) rfl rfl (fun _ _ => rfl) rfl rfl
  have E := E.gr (n := 34) (p := 176) rfl (x := 55) (m := 3) (w := .null) (t := 4) (i := 11) (u := 290) rfl rfl hV32 (((((((((((ty.cr rfl rfl).ui rfl).cr rfl rfl).cr rfl rfl).cr rfl rfl).cr rfl rfl).cr rfl rfl).cr rfl rfl).cr rfl rfl).cr rfl rfl).cr rfl rfl) rfl
  have E := E.pu (p := 177) (lo' := (ri_as 0 [.ref 23, .ref 172])) (st' := [.int 0, .ref 34, .int 0, .ref 183]) rfl (e := (.iconst 0, 1, [], .null)) rfl rfl (fun _ _ => rfl)
  have E := E.pu (p := 179) (lo' := (ri_as 0 [.ref 23, .ref 172])) (st' := [.int 24, .int 0, .ref 34, .int 0, .ref 183]) rfl (e := (.bipush 24, 2, [], .null)) rfl rfl (fun _ _ => rfl)
  obtain ⟨h34, hV35, hN36, E⟩ := E.cr (p := 182) (n := 24) (a := 183) (b := 34) (st := []) rfl (x := 61) (m := 3) (w := .null) (u := [669]) rfl rfl (by decide) hV32
  have E := E.ld (p := 183) (t := ri_isA) (i := 0) (n := 1) (v := .ref 23) rfl (e := (.aload_n 0, 1, [], .null)) rfl rfl (fun _ _ => rfl) rfl rfl
  have E := E.ld (p := 184) (t := ri_isA) (i := 1) (n := 1) (v := .ref 172) rfl (e := (.aload_n 1, 1, [], .null)) rfl rfl (fun _ _ => rfl) rfl rfl
  have E := E.gi (y := eh_i G 172 12) (p := 187) rfl (x := 58) (m := 3) (w := .null) (t := 4) (i := 12) (u := 293) rfl rfl hV35 ((((((((((((ty.cr rfl rfl).ui rfl).cr rfl rfl).cr rfl rfl).cr rfl rfl).cr rfl rfl).cr rfl rfl).cr rfl rfl).cr rfl rfl).cr rfl rfl).cr rfl rfl).cr rfl rfl) rfl rfl
  obtain ⟨h37, hV38, hN39, E⟩ := E.gp (p := 190) rfl (x := 58) (m := 3) (w := .null) (t := 4) (i := 12) (u := 293) (y := 0) rfl rfl hV35
  obtain ⟨r1, r2⟩ := E.retv rfl (m := 1) (ax := []) (w := .null) rfl
  exact ⟨(by rw [← hrs, r1]; rfl), ((congrArg eh_V r2).trans hV38), ((congrArg eh_N r2).trans (hN39.trans (hN36.trans (hN33.trans (hN30.trans (hN27.trans (hN24.trans (hN21.trans (hN18.trans (hN15.trans (hN12.trans (hN9.trans (hN6.trans hN3)))))))))))))⟩
theorem cf_1a {d : Nat} {h h' : ri_H} {v : Option Value} {G : eh_W} (E : ri_calE ri_md (d + 1) 52 [.ref 184, .ref 35] h = some (v, h')) (hV : eh_V h = G) (ty : eh_ty tC G) (hl : (eh_N h).take 209 = NCl) : v = none ∧ eh_V h' = eh_cp (eh_cp (eh_cp (eh_cp (eh_cp (eh_cp (eh_cp (eh_cp (eh_cp (eh_u (eh_u (eh_u (eh_u (eh_u (eh_u (eh_u G 184 0 (.int (eh_i G 35 0))) 184 1 (.int (eh_i G 35 1))) 184 2 (.int (eh_i G 35 2))) 184 3 (.int (eh_i G 35 3))) 184 4 (.int (eh_i G 35 4))) 184 5 (.int (eh_i G 35 5))) 184 6 (.int (eh_i G 35 6))) 36 185 8) 37 186 8) 38 187 8) 39 188 8) 40 189 8) 41 190 8) 42 191 6) 43 192 6) 44 193 6 ∧ eh_N h' = eh_N h := by
  obtain ⟨rs, hrs, E⟩ := eh_in E (q := md_52) rfl
  have E := E.ld (p := 1) (t := ri_isA) (i := 0) (n := 1) (v := .ref 184) rfl (e := (.aload_n 0, 1, [], .null)) rfl rfl (fun _ _ => rfl) rfl rfl
  have E := E.ld (p := 2) (t := ri_isA) (i := 1) (n := 1) (v := .ref 35) rfl (e := (.aload_n 1, 1, [], .null)) rfl rfl (fun _ _ => rfl) rfl rfl
  have E := E.gi (y := eh_i G 35 0) (p := 5) rfl (x := 9) (m := 3) (w := .null) (t := 6) (i := 0) (u := 382) rfl rfl hV ty rfl rfl
  obtain ⟨h1, hV2, hN3, E⟩ := E.gp (p := 8) rfl (x := 9) (m := 3) (w := .null) (t := 6) (i := 0) (u := 382) (y := 0) rfl rfl hV
  have E := E.ld (p := 9) (t := ri_isA) (i := 0) (n := 1) (v := .ref 184) rfl (e := (.aload_n 0, 1, [], .null)) rfl rfl (fun _ _ => rfl) rfl rfl
  have E := E.ld (p := 10) (t := ri_isA) (i := 1) (n := 1) (v := .ref 35) rfl (e := (.aload_n 1, 1, [], .null)) rfl rfl (fun _ _ => rfl) rfl rfl
  have E := E.gi (y := eh_i G 35 1) (p := 13) rfl (x := 15) (m := 3) (w := .null) (t := 6) (i := 1) (u := 385) rfl rfl hV2 (ty.ui rfl) rfl rfl
  obtain ⟨h4, hV5, hN6, E⟩ := E.gp (p := 16) rfl (x := 15) (m := 3) (w := .null) (t := 6) (i := 1) (u := 385) (y := 0) rfl rfl hV2
  have E := E.ld (p := 17) (t := ri_isA) (i := 0) (n := 1) (v := .ref 184) rfl (e := (.aload_n 0, 1, [], .null)) rfl rfl (fun _ _ => rfl) rfl rfl
  have E := E.ld (p := 18) (t := ri_isA) (i := 1) (n := 1) (v := .ref 35) rfl (e := (.aload_n 1, 1, [], .null)) rfl rfl (fun _ _ => rfl) rfl rfl
  have E := E.gi (y := eh_i G 35 2) (p := 21) rfl (x := 18) (m := 3) (w := .null) (t := 6) (i := 2) (u := 387) rfl rfl hV5 ((ty.ui rfl).ui rfl) rfl rfl
  obtain ⟨h7, hV8, hN9, E⟩ := E.gp (p := 24) rfl (x := 18) (m := 3) (w := .null) (t := 6) (i := 2) (u := 387) (y := 0) rfl rfl hV5
  have E := E.ld (p := 25) (t := ri_isA) (i := 0) (n := 1) (v := .ref 184) rfl (e := (.aload_n 0, 1, [], .null)) rfl rfl (fun _ _ => rfl) rfl rfl
  have E := E.ld (p := 26) (t := ri_isA) (i := 1) (n := 1) (v := .ref 35) rfl (e := (.aload_n 1, 1, [], .null)) rfl rfl (fun _ _ => rfl) rfl rfl
  have E := E.gi (y := eh_i G 35 3) (p := 29) rfl (x := 21) (m := 3) (w := .null) (t := 6) (i := 3) (u := 389) rfl rfl hV8 (((ty.ui rfl).ui rfl).ui rfl) rfl rfl
  obtain ⟨h10, hV11, hN12, E⟩ := E.gp (p := 32) rfl (x := 21) (m := 3) (w := .null) (t := 6) (i := 3) (u := 389) (y := 0) rfl rfl hV8
  have E := E.ld (p := 33) (t := ri_isA) (i := 0) (n := 1) (v := .ref 184) rfl (e := (.aload_n 0, 1, [], .null)) rfl rfl (fun _ _ => rfl) rfl rfl
  have E := E.ld (p := 34) (t := ri_isA) (i := 1) (n := 1) (v := .ref 35) rfl (e := (.aload_n 1, 1, [], .null)) rfl rfl (fun _ _ => rfl) rfl rfl
  have E := E.gi (y := eh_i G 35 4) (p := 37) rfl (x := 24) (m := 3) (w := .null) (t := 6) (i := 4) (u := 393) rfl rfl hV11 ((((ty.ui rfl).ui rfl).ui rfl).ui rfl) rfl rfl
  obtain ⟨h13, hV14, hN15, E⟩ := E.gp (p := 40) rfl (x := 24) (m := 3) (w := .null) (t := 6) (i := 4) (u := 393) (y := 0) rfl rfl hV11
  have E := E.ld (p := 41) (t := ri_isA) (i := 0) (n := 1) (v := .ref 184) rfl (e := (.aload_n 0, 1, [], .null)) rfl rfl (fun _ _ => rfl) rfl rfl
  have E := E.ld (p := 42) (t := ri_isA) (i := 1) (n := 1) (v := .ref 35) rfl (e := (.aload_n 1, 1, [], .null)) rfl rfl (fun _ _ => rfl) rfl rfl
  have E := E.gi (y := eh_i G 35 5) (p := 45) rfl (x := 27) (m := 3) (w := .null) (t := 6) (i := 5) (u := 396) rfl rfl hV14 (((((ty.ui rfl).ui rfl).ui rfl).ui rfl).ui rfl) rfl rfl
  obtain ⟨h16, hV17, hN18, E⟩ := E.gp (p := 48) rfl (x := 27) (m := 3) (w := .null) (t := 6) (i := 5) (u := 396) (y := 0) rfl rfl hV14
  have E := E.ld (p := 49) (t := ri_isA) (i := 0) (n := 1) (v := .ref 184) rfl (e := (.aload_n 0, 1, [], .null)) rfl rfl (fun _ _ => rfl) rfl rfl
  have E := E.ld (p := 50) (t := ri_isA) (i := 1) (n := 1) (v := .ref 35) rfl (e := (.aload_n 1, 1, [], .null)) rfl rfl (fun _ _ => rfl) rfl rfl
  have E := E.gi (y := eh_i G 35 6) (p := 53) rfl (x := 30) (m := 3) (w := .null) (t := 6) (i := 6) (u := 398) rfl rfl hV17 ((((((ty.ui rfl).ui rfl).ui rfl).ui rfl).ui rfl).ui rfl) rfl rfl
  obtain ⟨h19, hV20, hN21, E⟩ := E.gp (p := 56) rfl (x := 30) (m := 3) (w := .null) (t := 6) (i := 6) (u := 398) (y := 0) rfl rfl hV17
  have E := E.ld (p := 57) (t := ri_isA) (i := 1) (n := 1) (v := .ref 35) rfl (e := (.aload_n 1, 1, [], .null)) rfl rfl (fun _ _ => rfl) rfl rfl
  have E := E.gr (n := 36) (p := 60) rfl (x := 33) (m := 3) (w := .null) (t := 6) (i := 7) (u := 399) rfl rfl hV20 (((((((ty.ui rfl).ui rfl).ui rfl).ui rfl).ui rfl).ui rfl).ui rfl) rfl
  have E := E.pu (p := 61) (lo' := (ri_as 0 [.ref 184, .ref 35])) (st' := [.int 0, .ref 36]) rfl (e := (.iconst 0, 1, [], .null)) rfl rfl (fun _ _ => rfl)
  have E := E.ld (p := 62) (t := ri_isA) (i := 0) (n := 1) (v := .ref 184) rfl (e := (.aload_n 0, 1, [], .null)) rfl rfl (fun _ _ => rfl) rfl rfl
  have E := E.gr (n := 185) (p := 65) rfl (x := 33) (m := 3) (w := .null) (t := 6) (i := 7) (u := 399) rfl rfl hV20 (((((((ty.ui rfl).ui rfl).ui rfl).ui rfl).ui rfl).ui rfl).ui rfl) rfl
  have E := E.pu (p := 66) (lo' := (ri_as 0 [.ref 184, .ref 35])) (st' := [.int 0, .ref 185, .int 0, .ref 36]) rfl (e := (.iconst 0, 1, [], .null)) rfl rfl (fun _ _ => rfl)
  have E := E.pu (p := 68) (lo' := (ri_as 0 [.ref 184, .ref 35])) (st' := [.int 8, .int 0, .ref 185, .int 0, .ref 36]) rfl (e := (.bipush 8, 2, [], .null)) rfl rfl (fun _ _ => rfl)
  obtain ⟨h22, hV23, hN24, E⟩ := E.cr (p := 71) (n := 8) (a := 36) (b := 185) (st := []) rfl (x := 66) (m := 3) (w := .null) (u := [816]) rfl rfl (by decide) hV20
  have E := E.ld (p := 72) (t := ri_isA) (i := 1) (n := 1) (v := .ref 35) rfl (e := (.aload_n 1, 1, [], .null)) rfl rfl (fun _ _ => rfl) rfl rfl
  have E := E.gr (n := 37) (p := 75) rfl (x := 37) (m := 3) (w := .null) (t := 6) (i := 8) (u := 401) rfl rfl hV23 ((((((((ty.ui rfl).ui rfl).ui rfl).ui rfl).ui rfl).ui rfl).ui rfl).cr rfl rfl) rfl
  have E := E.pu (p := 76) (lo' := (ri_as 0 [.ref 184, .ref 35])) (st' := [.int 0, .ref 37]) rfl (e := (.iconst 0, 1, [], .null)) rfl rfl (fun _ _ => rfl)
  have E := E.ld (p := 77) (t := ri_isA) (i := 0) (n := 1) (v := .ref 184) rfl (e := (.aload_n 0, 1, [], .null)) rfl rfl (fun _ _ => rfl) rfl rfl
  have E := E.gr (n := 186) (p := 80) rfl (x := 37) (m := 3) (w := .null) (t := 6) (i := 8) (u := 401) rfl rfl hV23 ((((((((ty.ui rfl).ui rfl).ui rfl).ui rfl).ui rfl).ui rfl).ui rfl).cr rfl rfl) rfl
  have E := E.pu (p := 81) (lo' := (ri_as 0 [.ref 184, .ref 35])) (st' := [.int 0, .ref 186, .int 0, .ref 37]) rfl (e := (.iconst 0, 1, [], .null)) rfl rfl (fun _ _ => rfl)
  have E := E.pu (p := 83) (lo' := (ri_as 0 [.ref 184, .ref 35])) (st' := [.int 8, .int 0, .ref 186, .int 0, .ref 37]) rfl (e := (.bipush 8, 2, [], .null)) rfl rfl (fun _ _ => rfl)
  obtain ⟨h25, hV26, hN27, E⟩ := E.cr (p := 86) (n := 8) (a := 37) (b := 186) (st := []) rfl (x := 66) (m := 3) (w := .null) (u := [816]) rfl rfl (by decide) hV23
  have E := E.ld (p := 87) (t := ri_isA) (i := 1) (n := 1) (v := .ref 35) rfl (e := (.aload_n 1, 1, [], .null)) rfl rfl (fun _ _ => rfl) rfl rfl
  have E := E.gr (n := 38) (p := 90) rfl (x := 40) (m := 3) (w := .null) (t := 6) (i := 9) (u := 404) rfl rfl hV26 (((((((((ty.ui rfl).ui rfl).ui rfl).ui rfl).ui rfl).ui rfl).ui rfl).cr rfl rfl).cr rfl rfl) rfl
  have E := E.pu (p := 91) (lo' := (ri_as 0 [.ref 184, .ref 35])) (st' := [.int 0, .ref 38]) rfl (e := (.iconst 0, 1, [], .null)) rfl rfl (fun _ _ => rfl)
  have E := E.ld (p := 92) (t := ri_isA) (i := 0) (n := 1) (v := .ref 184) rfl (e := (.aload_n 0, 1, [], .null)) rfl rfl (fun _ _ => rfl) rfl rfl
  have E := E.gr (n := 187) (p := 95) rfl (x := 40) (m := 3) (w := .null) (t := 6) (i := 9) (u := 404) rfl rfl hV26 (((((((((ty.ui rfl).ui rfl).ui rfl).ui rfl).ui rfl).ui rfl).ui rfl).cr rfl rfl).cr rfl rfl) rfl
  have E := E.pu (p := 96) (lo' := (ri_as 0 [.ref 184, .ref 35])) (st' := [.int 0, .ref 187, .int 0, .ref 38]) rfl (e := (.iconst 0, 1, [], .null)) rfl rfl (fun _ _ => rfl)
  have E := E.pu (p := 98) (lo' := (ri_as 0 [.ref 184, .ref 35])) (st' := [.int 8, .int 0, .ref 187, .int 0, .ref 38]) rfl (e := (.bipush 8, 2, [], .null)) rfl rfl (fun _ _ => rfl)
  obtain ⟨h28, hV29, hN30, E⟩ := E.cr (p := 101) (n := 8) (a := 38) (b := 187) (st := []) rfl (x := 66) (m := 3) (w := .null) (u := [816]) rfl rfl (by decide) hV26
  have E := E.ld (p := 102) (t := ri_isA) (i := 1) (n := 1) (v := .ref 35) rfl (e := (.aload_n 1, 1, [], .null)) rfl rfl (fun _ _ => rfl) rfl rfl
  have E := E.gr (n := 39) (p := 105) rfl (x := 43) (m := 3) (w := .null) (t := 6) (i := 10) (u := 407) rfl rfl hV29 ((((((((((ty.ui rfl).ui rfl).ui rfl).ui rfl).ui rfl).ui rfl).ui rfl).cr rfl rfl).cr rfl rfl).cr rfl rfl) rfl
  have E := E.pu (p := 106) (lo' := (ri_as 0 [.ref 184, .ref 35])) (st' := [.int 0, .ref 39]) rfl (e := (.iconst 0, 1, [], .null)) rfl rfl (fun _ _ => rfl)
  have E := E.ld (p := 107) (t := ri_isA) (i := 0) (n := 1) (v := .ref 184) rfl (e := (.aload_n 0, 1, [], .null)) rfl rfl (fun _ _ => rfl) rfl rfl
  have E := E.gr (n := 188) (p := 110) rfl (x := 43) (m := 3) (w := .null) (t := 6) (i := 10) (u := 407) rfl rfl hV29 ((((((((((ty.ui rfl).ui rfl).ui rfl).ui rfl).ui rfl).ui rfl).ui rfl).cr rfl rfl).cr rfl rfl).cr rfl rfl) rfl
  have E := E.pu (p := 111) (lo' := (ri_as 0 [.ref 184, .ref 35])) (st' := [.int 0, .ref 188, .int 0, .ref 39]) rfl (e := (.iconst 0, 1, [], .null)) rfl rfl (fun _ _ => rfl)
  have E := E.pu (p := 113) (lo' := (ri_as 0 [.ref 184, .ref 35])) (st' := [.int 8, .int 0, .ref 188, .int 0, .ref 39]) rfl (e := (.bipush 8, 2, [], .null)) rfl rfl (fun _ _ => rfl)
  obtain ⟨h31, hV32, hN33, E⟩ := E.cr (p := 116) (n := 8) (a := 39) (b := 188) (st := []) rfl (x := 66) (m := 3) (w := .null) (u := [816]) rfl rfl (by decide) hV29
  have E := E.ld (p := 117) (t := ri_isA) (i := 1) (n := 1) (v := .ref 35) rfl (e := (.aload_n 1, 1, [], .null)) rfl rfl (fun _ _ => rfl) rfl rfl
  have E := E.gr (n := 40) (p := 120) rfl (x := 46) (m := 3) (w := .null) (t := 6) (i := 11) (u := 409) rfl rfl hV32 (((((((((((ty.ui rfl).ui rfl).ui rfl).ui rfl).ui rfl).ui rfl).ui rfl).cr rfl rfl).cr rfl rfl).cr rfl rfl).cr rfl rfl) rfl
  have E := E.pu (p := 121) (lo' := (ri_as 0 [.ref 184, .ref 35])) (st' := [.int 0, .ref 40]) rfl (e := (.iconst 0, 1, [], .null)) rfl rfl (fun _ _ => rfl)
  have E := E.ld (p := 122) (t := ri_isA) (i := 0) (n := 1) (v := .ref 184) rfl (e := (.aload_n 0, 1, [], .null)) rfl rfl (fun _ _ => rfl) rfl rfl
  have E := E.gr (n := 189) (p := 125) rfl (x := 46) (m := 3) (w := .null) (t := 6) (i := 11) (u := 409) rfl rfl hV32 (((((((((((ty.ui rfl).ui rfl).ui rfl).ui rfl).ui rfl).ui rfl).ui rfl).cr rfl rfl).cr rfl rfl).cr rfl rfl).cr rfl rfl) rfl
  have E := E.pu (p := 126) (lo' := (ri_as 0 [.ref 184, .ref 35])) (st' := [.int 0, .ref 189, .int 0, .ref 40]) rfl (e := (.iconst 0, 1, [], .null)) rfl rfl (fun _ _ => rfl)
  have E := E.pu (p := 128) (lo' := (ri_as 0 [.ref 184, .ref 35])) (st' := [.int 8, .int 0, .ref 189, .int 0, .ref 40]) rfl (e := (.bipush 8, 2, [], .null)) rfl rfl (fun _ _ => rfl)
  obtain ⟨h34, hV35, hN36, E⟩ := E.cr (p := 131) (n := 8) (a := 40) (b := 189) (st := []) rfl (x := 66) (m := 3) (w := .null) (u := [816]) rfl rfl (by decide) hV32
  have E := E.ld (p := 132) (t := ri_isA) (i := 1) (n := 1) (v := .ref 35) rfl (e := (.aload_n 1, 1, [], .null)) rfl rfl (fun _ _ => rfl) rfl rfl
  have E := E.gr (n := 41) (p := 135) rfl (x := 49) (m := 3) (w := .null) (t := 6) (i := 12) (u := 412) rfl rfl hV35 ((((((((((((ty.ui rfl).ui rfl).ui rfl).ui rfl).ui rfl).ui rfl).ui rfl).cr rfl rfl).cr rfl rfl).cr rfl rfl).cr rfl rfl).cr rfl rfl) rfl
  have E := E.pu (p := 136) (lo' := (ri_as 0 [.ref 184, .ref 35])) (st' := [.int 0, .ref 41]) rfl (e := (.iconst 0, 1, [], .null)) rfl rfl (fun _ _ => rfl)
  have E := E.ld (p := 137) (t := ri_isA) (i := 0) (n := 1) (v := .ref 184) rfl (e := (.aload_n 0, 1, [], .null)) rfl rfl (fun _ _ => rfl) rfl rfl
  have E := E.gr (n := 190) (p := 140) rfl (x := 49) (m := 3) (w := .null) (t := 6) (i := 12) (u := 412) rfl rfl hV35 ((((((((((((ty.ui rfl).ui rfl).ui rfl).ui rfl).ui rfl).ui rfl).ui rfl).cr rfl rfl).cr rfl rfl).cr rfl rfl).cr rfl rfl).cr rfl rfl) rfl
  have E := E.pu (p := 141) (lo' := (ri_as 0 [.ref 184, .ref 35])) (st' := [.int 0, .ref 190, .int 0, .ref 41]) rfl (e := (.iconst 0, 1, [], .null)) rfl rfl (fun _ _ => rfl)
  have E := E.pu (p := 143) (lo' := (ri_as 0 [.ref 184, .ref 35])) (st' := [.int 8, .int 0, .ref 190, .int 0, .ref 41]) rfl (e := (.bipush 8, 2, [], .null)) rfl rfl (fun _ _ => rfl)
  obtain ⟨h37, hV38, hN39, E⟩ := E.cr (p := 146) (n := 8) (a := 41) (b := 190) (st := []) rfl (x := 66) (m := 3) (w := .null) (u := [816]) rfl rfl (by decide) hV35
  have E := E.ld (p := 147) (t := ri_isA) (i := 1) (n := 1) (v := .ref 35) rfl (e := (.aload_n 1, 1, [], .null)) rfl rfl (fun _ _ => rfl) rfl rfl
  have E := E.gr (n := 42) (p := 150) rfl (x := 52) (m := 3) (w := .null) (t := 6) (i := 13) (u := 414) rfl rfl hV38 (((((((((((((ty.ui rfl).ui rfl).ui rfl).ui rfl).ui rfl).ui rfl).ui rfl).cr rfl rfl).cr rfl rfl).cr rfl rfl).cr rfl rfl).cr rfl rfl).cr rfl rfl) rfl
  have E := E.pu (p := 151) (lo' := (ri_as 0 [.ref 184, .ref 35])) (st' := [.int 0, .ref 42]) rfl (e := (.iconst 0, 1, [], .null)) rfl rfl (fun _ _ => rfl)
  have E := E.ld (p := 152) (t := ri_isA) (i := 0) (n := 1) (v := .ref 184) rfl (e := (.aload_n 0, 1, [], .null)) rfl rfl (fun _ _ => rfl) rfl rfl
  have E := E.gr (n := 191) (p := 155) rfl (x := 52) (m := 3) (w := .null) (t := 6) (i := 13) (u := 414) rfl rfl hV38 (((((((((((((ty.ui rfl).ui rfl).ui rfl).ui rfl).ui rfl).ui rfl).ui rfl).cr rfl rfl).cr rfl rfl).cr rfl rfl).cr rfl rfl).cr rfl rfl).cr rfl rfl) rfl
  have E := E.pu (p := 156) (lo' := (ri_as 0 [.ref 184, .ref 35])) (st' := [.int 0, .ref 191, .int 0, .ref 42]) rfl (e := (.iconst 0, 1, [], .null)) rfl rfl (fun _ _ => rfl)
  have E := E.pu (p := 158) (lo' := (ri_as 0 [.ref 184, .ref 35])) (st' := [.int 6, .int 0, .ref 191, .int 0, .ref 42]) rfl (e := (.bipush 6, 2, [], .null)) rfl rfl (fun _ _ => rfl)
  obtain ⟨h40, hV41, hN42, E⟩ := E.cr (p := 161) (n := 6) (a := 42) (b := 191) (st := []) rfl (x := 66) (m := 3) (w := .null) (u := [816]) rfl rfl (by decide) hV38
  have E := E.ld (p := 162) (t := ri_isA) (i := 1) (n := 1) (v := .ref 35) rfl (e := (.aload_n 1, 1, [], .null)) rfl rfl (fun _ _ => rfl) rfl rfl
  have E := E.gr (n := 43) (p := 165) rfl (x := 55) (m := 3) (w := .null) (t := 6) (i := 14) (u := 416) rfl rfl hV41 ((((((((((((((ty.ui rfl).ui rfl).ui rfl).ui rfl).ui rfl).ui rfl).ui rfl).cr rfl rfl).cr rfl rfl).cr rfl rfl).cr rfl rfl).cr rfl rfl).cr rfl rfl).cr rfl rfl) rfl
  have E := E.pu (p := 166) (lo' := (ri_as 0 [.ref 184, .ref 35])) (st' := [.int 0, .ref 43]) rfl (e := (.iconst 0, 1, [], .null)) rfl rfl (fun _ _ => rfl)
  have E := E.ld (p := 167) (t := ri_isA) (i := 0) (n := 1) (v := .ref 184) rfl (e := (.aload_n 0, 1, [], .null)) rfl rfl (fun _ _ => rfl) rfl rfl
  have E := E.gr (n := 192) (p := 170) rfl (x := 55) (m := 3) (w := .null) (t := 6) (i := 14) (u := 416) rfl rfl hV41 ((((((((((((((ty.ui rfl).ui rfl).ui rfl).ui rfl).ui rfl).ui rfl).ui rfl).cr rfl rfl).cr rfl rfl).cr rfl rfl).cr rfl rfl).cr rfl rfl).cr rfl rfl).cr rfl rfl) rfl
  have E := E.pu (p := 171) (lo' := (ri_as 0 [.ref 184, .ref 35])) (st' := [.int 0, .ref 192, .int 0, .ref 43]) rfl (e := (.iconst 0, 1, [], .null)) rfl rfl (fun _ _ => rfl)
  have E := E.pu (p := 173) (lo' := (ri_as 0 [.ref 184, .ref 35])) (st' := [.int 6, .int 0, .ref 192, .int 0, .ref 43]) rfl (e := (.bipush 6, 2, [], .null)) rfl rfl (fun _ _ => rfl)
  obtain ⟨h43, hV44, hN45, E⟩ := E.cr (p := 176) (n := 6) (a := 43) (b := 192) (st := []) rfl (x := 66) (m := 3) (w := .null) (u := [816]) rfl rfl (by decide) hV41
  have E := E.ld (p := 177) (t := ri_isA) (i := 1) (n := 1) (v := .ref 35) rfl (e := (.aload_n 1, 1, [], .null)) rfl rfl (fun _ _ => rfl) rfl rfl
  have E := E.gr (n := 44) (p := 180) rfl (x := 58) (m := 3) (w := .null) (t := 6) (i := 15) (u := 418) rfl rfl hV44 (((((((((((((((ty.ui rfl).ui rfl).ui rfl).ui rfl).ui rfl).ui rfl).ui rfl).cr rfl rfl).cr rfl rfl).cr rfl rfl).cr rfl rfl).cr rfl rfl).cr rfl rfl).cr rfl rfl).cr rfl rfl) rfl
  have E := E.pu (p := 181) (lo' := (ri_as 0 [.ref 184, .ref 35])) (st' := [.int 0, .ref 44]) rfl (e := (.iconst 0, 1, [], .null)) rfl rfl (fun _ _ => rfl)
  have E := E.ld (p := 182) (t := ri_isA) (i := 0) (n := 1) (v := .ref 184) rfl (e := (.aload_n 0, 1, [], .null)) rfl rfl (fun _ _ => rfl) rfl rfl
  have E := E.gr (n := 193) (p := 185) rfl (x := 58) (m := 3) (w := .null) (t := 6) (i := 15) (u := 418) rfl rfl hV44 (((((((((((((((ty.ui rfl).ui rfl).ui rfl).ui rfl).ui rfl).ui rfl).ui rfl).cr rfl rfl).cr rfl rfl).cr rfl rfl).cr rfl rfl).cr rfl rfl).cr rfl rfl).cr rfl rfl).cr rfl rfl) rfl
  have E := E.pu (p := 186) (lo' := (ri_as 0 [.ref 184, .ref 35])) (st' := [.int 0, .ref 193, .int 0, .ref 44]) rfl (e := (.iconst 0, 1, [], .null)) rfl rfl (fun _ _ => rfl)
  have E := E.pu (p := 188) (lo' := (ri_as 0 [.ref 184, .ref 35])) (st' := [.int 6, .int 0, .ref 193, .int 0, .ref 44]) rfl (e := (.bipush 6, 2, [], .null)) rfl rfl (fun _ _ => rfl)
  obtain ⟨h46, hV47, hN48, E⟩ := E.cr (p := 191) (n := 6) (a := 44) (b := 193) (st := []) rfl (x := 66) (m := 3) (w := .null) (u := [816]) rfl rfl (by decide) hV44
  obtain ⟨r1, r2⟩ := E.retv rfl (m := 1) (ax := []) (w := .null) rfl
  exact ⟨(by rw [← hrs, r1]; rfl), ((congrArg eh_V r2).trans hV47), ((congrArg eh_N r2).trans (hN48.trans (hN45.trans (hN42.trans (hN39.trans (hN36.trans (hN33.trans (hN30.trans (hN27.trans (hN24.trans (hN21.trans (hN18.trans (hN15.trans (hN12.trans (hN9.trans (hN6.trans hN3))))))))))))))))⟩
theorem cf_1b {d : Nat} {h h' : ri_H} {v : Option Value} {G : eh_W} (E : ri_calE ri_md (d + 1) 52 [.ref 35, .ref 184] h = some (v, h')) (hV : eh_V h = G) (ty : eh_ty tC G) (hl : (eh_N h).take 209 = NCl) : v = none ∧ eh_V h' = eh_cp (eh_cp (eh_cp (eh_cp (eh_cp (eh_cp (eh_cp (eh_cp (eh_cp (eh_u (eh_u (eh_u (eh_u (eh_u (eh_u (eh_u G 35 0 (.int (eh_i G 184 0))) 35 1 (.int (eh_i G 184 1))) 35 2 (.int (eh_i G 184 2))) 35 3 (.int (eh_i G 184 3))) 35 4 (.int (eh_i G 184 4))) 35 5 (.int (eh_i G 184 5))) 35 6 (.int (eh_i G 184 6))) 185 36 8) 186 37 8) 187 38 8) 188 39 8) 189 40 8) 190 41 8) 191 42 6) 192 43 6) 193 44 6 ∧ eh_N h' = eh_N h := by
  obtain ⟨rs, hrs, E⟩ := eh_in E (q := md_52) rfl
  have E := E.ld (p := 1) (t := ri_isA) (i := 0) (n := 1) (v := .ref 35) rfl (e := (.aload_n 0, 1, [], .null)) rfl rfl (fun _ _ => rfl) rfl rfl
  have E := E.ld (p := 2) (t := ri_isA) (i := 1) (n := 1) (v := .ref 184) rfl (e := (.aload_n 1, 1, [], .null)) rfl rfl (fun _ _ => rfl) rfl rfl
  have E := E.gi (y := eh_i G 184 0) (p := 5) rfl (x := 9) (m := 3) (w := .null) (t := 6) (i := 0) (u := 382) rfl rfl hV ty rfl rfl
  obtain ⟨h1, hV2, hN3, E⟩ := E.gp (p := 8) rfl (x := 9) (m := 3) (w := .null) (t := 6) (i := 0) (u := 382) (y := 0) rfl rfl hV
  have E := E.ld (p := 9) (t := ri_isA) (i := 0) (n := 1) (v := .ref 35) rfl (e := (.aload_n 0, 1, [], .null)) rfl rfl (fun _ _ => rfl) rfl rfl
  have E := E.ld (p := 10) (t := ri_isA) (i := 1) (n := 1) (v := .ref 184) rfl (e := (.aload_n 1, 1, [], .null)) rfl rfl (fun _ _ => rfl) rfl rfl
  have E := E.gi (y := eh_i G 184 1) (p := 13) rfl (x := 15) (m := 3) (w := .null) (t := 6) (i := 1) (u := 385) rfl rfl hV2 (ty.ui rfl) rfl rfl
  obtain ⟨h4, hV5, hN6, E⟩ := E.gp (p := 16) rfl (x := 15) (m := 3) (w := .null) (t := 6) (i := 1) (u := 385) (y := 0) rfl rfl hV2
  have E := E.ld (p := 17) (t := ri_isA) (i := 0) (n := 1) (v := .ref 35) rfl (e := (.aload_n 0, 1, [], .null)) rfl rfl (fun _ _ => rfl) rfl rfl
  have E := E.ld (p := 18) (t := ri_isA) (i := 1) (n := 1) (v := .ref 184) rfl (e := (.aload_n 1, 1, [], .null)) rfl rfl (fun _ _ => rfl) rfl rfl
  have E := E.gi (y := eh_i G 184 2) (p := 21) rfl (x := 18) (m := 3) (w := .null) (t := 6) (i := 2) (u := 387) rfl rfl hV5 ((ty.ui rfl).ui rfl) rfl rfl
  obtain ⟨h7, hV8, hN9, E⟩ := E.gp (p := 24) rfl (x := 18) (m := 3) (w := .null) (t := 6) (i := 2) (u := 387) (y := 0) rfl rfl hV5
  have E := E.ld (p := 25) (t := ri_isA) (i := 0) (n := 1) (v := .ref 35) rfl (e := (.aload_n 0, 1, [], .null)) rfl rfl (fun _ _ => rfl) rfl rfl
  have E := E.ld (p := 26) (t := ri_isA) (i := 1) (n := 1) (v := .ref 184) rfl (e := (.aload_n 1, 1, [], .null)) rfl rfl (fun _ _ => rfl) rfl rfl
  have E := E.gi (y := eh_i G 184 3) (p := 29) rfl (x := 21) (m := 3) (w := .null) (t := 6) (i := 3) (u := 389) rfl rfl hV8 (((ty.ui rfl).ui rfl).ui rfl) rfl rfl
  obtain ⟨h10, hV11, hN12, E⟩ := E.gp (p := 32) rfl (x := 21) (m := 3) (w := .null) (t := 6) (i := 3) (u := 389) (y := 0) rfl rfl hV8
  have E := E.ld (p := 33) (t := ri_isA) (i := 0) (n := 1) (v := .ref 35) rfl (e := (.aload_n 0, 1, [], .null)) rfl rfl (fun _ _ => rfl) rfl rfl
  have E := E.ld (p := 34) (t := ri_isA) (i := 1) (n := 1) (v := .ref 184) rfl (e := (.aload_n 1, 1, [], .null)) rfl rfl (fun _ _ => rfl) rfl rfl
  have E := E.gi (y := eh_i G 184 4) (p := 37) rfl (x := 24) (m := 3) (w := .null) (t := 6) (i := 4) (u := 393) rfl rfl hV11 ((((ty.ui rfl).ui rfl).ui rfl).ui rfl) rfl rfl
  obtain ⟨h13, hV14, hN15, E⟩ := E.gp (p := 40) rfl (x := 24) (m := 3) (w := .null) (t := 6) (i := 4) (u := 393) (y := 0) rfl rfl hV11
  have E := E.ld (p := 41) (t := ri_isA) (i := 0) (n := 1) (v := .ref 35) rfl (e := (.aload_n 0, 1, [], .null)) rfl rfl (fun _ _ => rfl) rfl rfl
  have E := E.ld (p := 42) (t := ri_isA) (i := 1) (n := 1) (v := .ref 184) rfl (e := (.aload_n 1, 1, [], .null)) rfl rfl (fun _ _ => rfl) rfl rfl
  have E := E.gi (y := eh_i G 184 5) (p := 45) rfl (x := 27) (m := 3) (w := .null) (t := 6) (i := 5) (u := 396) rfl rfl hV14 (((((ty.ui rfl).ui rfl).ui rfl).ui rfl).ui rfl) rfl rfl
  obtain ⟨h16, hV17, hN18, E⟩ := E.gp (p := 48) rfl (x := 27) (m := 3) (w := .null) (t := 6) (i := 5) (u := 396) (y := 0) rfl rfl hV14
  have E := E.ld (p := 49) (t := ri_isA) (i := 0) (n := 1) (v := .ref 35) rfl (e := (.aload_n 0, 1, [], .null)) rfl rfl (fun _ _ => rfl) rfl rfl
  have E := E.ld (p := 50) (t := ri_isA) (i := 1) (n := 1) (v := .ref 184) rfl (e := (.aload_n 1, 1, [], .null)) rfl rfl (fun _ _ => rfl) rfl rfl
  have E := E.gi (y := eh_i G 184 6) (p := 53) rfl (x := 30) (m := 3) (w := .null) (t := 6) (i := 6) (u := 398) rfl rfl hV17 ((((((ty.ui rfl).ui rfl).ui rfl).ui rfl).ui rfl).ui rfl) rfl rfl
  obtain ⟨h19, hV20, hN21, E⟩ := E.gp (p := 56) rfl (x := 30) (m := 3) (w := .null) (t := 6) (i := 6) (u := 398) (y := 0) rfl rfl hV17
  have E := E.ld (p := 57) (t := ri_isA) (i := 1) (n := 1) (v := .ref 184) rfl (e := (.aload_n 1, 1, [], .null)) rfl rfl (fun _ _ => rfl) rfl rfl
  have E := E.gr (n := 185) (p := 60) rfl (x := 33) (m := 3) (w := .null) (t := 6) (i := 7) (u := 399) rfl rfl hV20 (((((((ty.ui rfl).ui rfl).ui rfl).ui rfl).ui rfl).ui rfl).ui rfl) rfl
  have E := E.pu (p := 61) (lo' := (ri_as 0 [.ref 35, .ref 184])) (st' := [.int 0, .ref 185]) rfl (e := (.iconst 0, 1, [], .null)) rfl rfl (fun _ _ => rfl)
  have E := E.ld (p := 62) (t := ri_isA) (i := 0) (n := 1) (v := .ref 35) rfl (e := (.aload_n 0, 1, [], .null)) rfl rfl (fun _ _ => rfl) rfl rfl
  have E := E.gr (n := 36) (p := 65) rfl (x := 33) (m := 3) (w := .null) (t := 6) (i := 7) (u := 399) rfl rfl hV20 (((((((ty.ui rfl).ui rfl).ui rfl).ui rfl).ui rfl).ui rfl).ui rfl) rfl
  have E := E.pu (p := 66) (lo' := (ri_as 0 [.ref 35, .ref 184])) (st' := [.int 0, .ref 36, .int 0, .ref 185]) rfl (e := (.iconst 0, 1, [], .null)) rfl rfl (fun _ _ => rfl)
  have E := E.pu (p := 68) (lo' := (ri_as 0 [.ref 35, .ref 184])) (st' := [.int 8, .int 0, .ref 36, .int 0, .ref 185]) rfl (e := (.bipush 8, 2, [], .null)) rfl rfl (fun _ _ => rfl)
  obtain ⟨h22, hV23, hN24, E⟩ := E.cr (p := 71) (n := 8) (a := 185) (b := 36) (st := []) rfl (x := 66) (m := 3) (w := .null) (u := [816]) rfl rfl (by decide) hV20
  have E := E.ld (p := 72) (t := ri_isA) (i := 1) (n := 1) (v := .ref 184) rfl (e := (.aload_n 1, 1, [], .null)) rfl rfl (fun _ _ => rfl) rfl rfl
  have E := E.gr (n := 186) (p := 75) rfl (x := 37) (m := 3) (w := .null) (t := 6) (i := 8) (u := 401) rfl rfl hV23 ((((((((ty.ui rfl).ui rfl).ui rfl).ui rfl).ui rfl).ui rfl).ui rfl).cr rfl rfl) rfl
  have E := E.pu (p := 76) (lo' := (ri_as 0 [.ref 35, .ref 184])) (st' := [.int 0, .ref 186]) rfl (e := (.iconst 0, 1, [], .null)) rfl rfl (fun _ _ => rfl)
  have E := E.ld (p := 77) (t := ri_isA) (i := 0) (n := 1) (v := .ref 35) rfl (e := (.aload_n 0, 1, [], .null)) rfl rfl (fun _ _ => rfl) rfl rfl
  have E := E.gr (n := 37) (p := 80) rfl (x := 37) (m := 3) (w := .null) (t := 6) (i := 8) (u := 401) rfl rfl hV23 ((((((((ty.ui rfl).ui rfl).ui rfl).ui rfl).ui rfl).ui rfl).ui rfl).cr rfl rfl) rfl
  have E := E.pu (p := 81) (lo' := (ri_as 0 [.ref 35, .ref 184])) (st' := [.int 0, .ref 37, .int 0, .ref 186]) rfl (e := (.iconst 0, 1, [], .null)) rfl rfl (fun _ _ => rfl)
  have E := E.pu (p := 83) (lo' := (ri_as 0 [.ref 35, .ref 184])) (st' := [.int 8, .int 0, .ref 37, .int 0, .ref 186]) rfl (e := (.bipush 8, 2, [], .null)) rfl rfl (fun _ _ => rfl)
  obtain ⟨h25, hV26, hN27, E⟩ := E.cr (p := 86) (n := 8) (a := 186) (b := 37) (st := []) rfl (x := 66) (m := 3) (w := .null) (u := [816]) rfl rfl (by decide) hV23
  have E := E.ld (p := 87) (t := ri_isA) (i := 1) (n := 1) (v := .ref 184) rfl (e := (.aload_n 1, 1, [], .null)) rfl rfl (fun _ _ => rfl) rfl rfl
  have E := E.gr (n := 187) (p := 90) rfl (x := 40) (m := 3) (w := .null) (t := 6) (i := 9) (u := 404) rfl rfl hV26 (((((((((ty.ui rfl).ui rfl).ui rfl).ui rfl).ui rfl).ui rfl).ui rfl).cr rfl rfl).cr rfl rfl) rfl
  have E := E.pu (p := 91) (lo' := (ri_as 0 [.ref 35, .ref 184])) (st' := [.int 0, .ref 187]) rfl (e := (.iconst 0, 1, [], .null)) rfl rfl (fun _ _ => rfl)
  have E := E.ld (p := 92) (t := ri_isA) (i := 0) (n := 1) (v := .ref 35) rfl (e := (.aload_n 0, 1, [], .null)) rfl rfl (fun _ _ => rfl) rfl rfl
  have E := E.gr (n := 38) (p := 95) rfl (x := 40) (m := 3) (w := .null) (t := 6) (i := 9) (u := 404) rfl rfl hV26 (((((((((ty.ui rfl).ui rfl).ui rfl).ui rfl).ui rfl).ui rfl).ui rfl).cr rfl rfl).cr rfl rfl) rfl
  have E := E.pu (p := 96) (lo' := (ri_as 0 [.ref 35, .ref 184])) (st' := [.int 0, .ref 38, .int 0, .ref 187]) rfl (e := (.iconst 0, 1, [], .null)) rfl rfl (fun _ _ => rfl)
  have E := E.pu (p := 98) (lo' := (ri_as 0 [.ref 35, .ref 184])) (st' := [.int 8, .int 0, .ref 38, .int 0, .ref 187]) rfl (e := (.bipush 8, 2, [], .null)) rfl rfl (fun _ _ => rfl)
  obtain ⟨h28, hV29, hN30, E⟩ := E.cr (p := 101) (n := 8) (a := 187) (b := 38) (st := []) rfl (x := 66) (m := 3) (w := .null) (u := [816]) rfl rfl (by decide) hV26
  have E := E.ld (p := 102) (t := ri_isA) (i := 1) (n := 1) (v := .ref 184) rfl (e := (.aload_n 1, 1, [], .null)) rfl rfl (fun _ _ => rfl) rfl rfl
  have E := E.gr (n := 188) (p := 105) rfl (x := 43) (m := 3) (w := .null) (t := 6) (i := 10) (u := 407) rfl rfl hV29 ((((((((((ty.ui rfl).ui rfl).ui rfl).ui rfl).ui rfl).ui rfl).ui rfl).cr rfl rfl).cr rfl rfl).cr rfl rfl) rfl
  have E := E.pu (p := 106) (lo' := (ri_as 0 [.ref 35, .ref 184])) (st' := [.int 0, .ref 188]) rfl (e := (.iconst 0, 1, [], .null)) rfl rfl (fun _ _ => rfl)
  have E := E.ld (p := 107) (t := ri_isA) (i := 0) (n := 1) (v := .ref 35) rfl (e := (.aload_n 0, 1, [], .null)) rfl rfl (fun _ _ => rfl) rfl rfl
  have E := E.gr (n := 39) (p := 110) rfl (x := 43) (m := 3) (w := .null) (t := 6) (i := 10) (u := 407) rfl rfl hV29 ((((((((((ty.ui rfl).ui rfl).ui rfl).ui rfl).ui rfl).ui rfl).ui rfl).cr rfl rfl).cr rfl rfl).cr rfl rfl) rfl
  have E := E.pu (p := 111) (lo' := (ri_as 0 [.ref 35, .ref 184])) (st' := [.int 0, .ref 39, .int 0, .ref 188]) rfl (e := (.iconst 0, 1, [], .null)) rfl rfl (fun _ _ => rfl)
  have E := E.pu (p := 113) (lo' := (ri_as 0 [.ref 35, .ref 184])) (st' := [.int 8, .int 0, .ref 39, .int 0, .ref 188]) rfl (e := (.bipush 8, 2, [], .null)) rfl rfl (fun _ _ => rfl)
  obtain ⟨h31, hV32, hN33, E⟩ := E.cr (p := 116) (n := 8) (a := 188) (b := 39) (st := []) rfl (x := 66) (m := 3) (w := .null) (u := [816]) rfl rfl (by decide) hV29
  have E := E.ld (p := 117) (t := ri_isA) (i := 1) (n := 1) (v := .ref 184) rfl (e := (.aload_n 1, 1, [], .null)) rfl rfl (fun _ _ => rfl) rfl rfl
  have E := E.gr (n := 189) (p := 120) rfl (x := 46) (m := 3) (w := .null) (t := 6) (i := 11) (u := 409) rfl rfl hV32 (((((((((((ty.ui rfl).ui rfl).ui rfl).ui rfl).ui rfl).ui rfl).ui rfl).cr rfl rfl).cr rfl rfl).cr rfl rfl).cr rfl rfl) rfl
  have E := E.pu (p := 121) (lo' := (ri_as 0 [.ref 35, .ref 184])) (st' := [.int 0, .ref 189]) rfl (e := (.iconst 0, 1, [], .null)) rfl rfl (fun _ _ => rfl)
  have E := E.ld (p := 122) (t := ri_isA) (i := 0) (n := 1) (v := .ref 35) rfl (e := (.aload_n 0, 1, [], .null)) rfl rfl (fun _ _ => rfl) rfl rfl
  have E := E.gr (n := 40) (p := 125) rfl (x := 46) (m := 3) (w := .null) (t := 6) (i := 11) (u := 409) rfl rfl hV32 (((((((((((ty.ui rfl).ui rfl).ui rfl).ui rfl).ui rfl).ui rfl).ui rfl).cr rfl rfl).cr rfl rfl).cr rfl rfl).cr rfl rfl) rfl
  have E := E.pu (p := 126) (lo' := (ri_as 0 [.ref 35, .ref 184])) (st' := [.int 0, .ref 40, .int 0, .ref 189]) rfl (e := (.iconst 0, 1, [], .null)) rfl rfl (fun _ _ => rfl)
  have E := E.pu (p := 128) (lo' := (ri_as 0 [.ref 35, .ref 184])) (st' := [.int 8, .int 0, .ref 40, .int 0, .ref 189]) rfl (e := (.bipush 8, 2, [], .null)) rfl rfl (fun _ _ => rfl)
  obtain ⟨h34, hV35, hN36, E⟩ := E.cr (p := 131) (n := 8) (a := 189) (b := 40) (st := []) rfl (x := 66) (m := 3) (w := .null) (u := [816]) rfl rfl (by decide) hV32
  have E := E.ld (p := 132) (t := ri_isA) (i := 1) (n := 1) (v := .ref 184) rfl (e := (.aload_n 1, 1, [], .null)) rfl rfl (fun _ _ => rfl) rfl rfl
  have E := E.gr (n := 190) (p := 135) rfl (x := 49) (m := 3) (w := .null) (t := 6) (i := 12) (u := 412) rfl rfl hV35 ((((((((((((ty.ui rfl).ui rfl).ui rfl).ui rfl).ui rfl).ui rfl).ui rfl).cr rfl rfl).cr rfl rfl).cr rfl rfl).cr rfl rfl).cr rfl rfl) rfl
  have E := E.pu (p := 136) (lo' := (ri_as 0 [.ref 35, .ref 184])) (st' := [.int 0, .ref 190]) rfl (e := (.iconst 0, 1, [], .null)) rfl rfl (fun _ _ => rfl)
  have E := E.ld (p := 137) (t := ri_isA) (i := 0) (n := 1) (v := .ref 35) rfl (e := (.aload_n 0, 1, [], .null)) rfl rfl (fun _ _ => rfl) rfl rfl
  have E := E.gr (n := 41) (p := 140) rfl (x := 49) (m := 3) (w := .null) (t := 6) (i := 12) (u := 412) rfl rfl hV35 ((((((((((((ty.ui rfl).ui rfl).ui rfl).ui rfl).ui rfl).ui rfl).ui rfl).cr rfl rfl).cr rfl rfl).cr rfl rfl).cr rfl rfl).cr rfl rfl) rfl
  have E := E.pu (p := 141) (lo' := (ri_as 0 [.ref 35, .ref 184])) (st' := [.int 0, .ref 41, .int 0, .ref 190]) rfl (e := (.iconst 0, 1, [], .null)) rfl rfl (fun _ _ => rfl)
  have E := E.pu (p := 143) (lo' := (ri_as 0 [.ref 35, .ref 184])) (st' := [.int 8, .int 0, .ref 41, .int 0, .ref 190]) rfl (e := (.bipush 8, 2, [], .null)) rfl rfl (fun _ _ => rfl)
  obtain ⟨h37, hV38, hN39, E⟩ := E.cr (p := 146) (n := 8) (a := 190) (b := 41) (st := []) rfl (x := 66) (m := 3) (w := .null) (u := [816]) rfl rfl (by decide) hV35
  have E := E.ld (p := 147) (t := ri_isA) (i := 1) (n := 1) (v := .ref 184) rfl (e := (.aload_n 1, 1, [], .null)) rfl rfl (fun _ _ => rfl) rfl rfl
  have E := E.gr (n := 191) (p := 150) rfl (x := 52) (m := 3) (w := .null) (t := 6) (i := 13) (u := 414) rfl rfl hV38 (((((((((((((ty.ui rfl).ui rfl).ui rfl).ui rfl).ui rfl).ui rfl).ui rfl).cr rfl rfl).cr rfl rfl).cr rfl rfl).cr rfl rfl).cr rfl rfl).cr rfl rfl) rfl
  have E := E.pu (p := 151) (lo' := (ri_as 0 [.ref 35, .ref 184])) (st' := [.int 0, .ref 191]) rfl (e := (.iconst 0, 1, [], .null)) rfl rfl (fun _ _ => rfl)
  have E := E.ld (p := 152) (t := ri_isA) (i := 0) (n := 1) (v := .ref 35) rfl (e := (.aload_n 0, 1, [], .null)) rfl rfl (fun _ _ => rfl) rfl rfl
  have E := E.gr (n := 42) (p := 155) rfl (x := 52) (m := 3) (w := .null) (t := 6) (i := 13) (u := 414) rfl rfl hV38 (((((((((((((ty.ui rfl).ui rfl).ui rfl).ui rfl).ui rfl).ui rfl).ui rfl).cr rfl rfl).cr rfl rfl).cr rfl rfl).cr rfl rfl).cr rfl rfl).cr rfl rfl) rfl
  have E := E.pu (p := 156) (lo' := (ri_as 0 [.ref 35, .ref 184])) (st' := [.int 0, .ref 42, .int 0, .ref 191]) rfl (e := (.iconst 0, 1, [], .null)) rfl rfl (fun _ _ => rfl)
  have E := E.pu (p := 158) (lo' := (ri_as 0 [.ref 35, .ref 184])) (st' := [.int 6, .int 0, .ref 42, .int 0, .ref 191]) rfl (e := (.bipush 6, 2, [], .null)) rfl rfl (fun _ _ => rfl)
  obtain ⟨h40, hV41, hN42, E⟩ := E.cr (p := 161) (n := 6) (a := 191) (b := 42) (st := []) rfl (x := 66) (m := 3) (w := .null) (u := [816]) rfl rfl (by decide) hV38
  have E := E.ld (p := 162) (t := ri_isA) (i := 1) (n := 1) (v := .ref 184) rfl (e := (.aload_n 1, 1, [], .null)) rfl rfl (fun _ _ => rfl) rfl rfl
  have E := E.gr (n := 192) (p := 165) rfl (x := 55) (m := 3) (w := .null) (t := 6) (i := 14) (u := 416) rfl rfl hV41 ((((((((((((((ty.ui rfl).ui rfl).ui rfl).ui rfl).ui rfl).ui rfl).ui rfl).cr rfl rfl).cr rfl rfl).cr rfl rfl).cr rfl rfl).cr rfl rfl).cr rfl rfl).cr rfl rfl) rfl
  have E := E.pu (p := 166) (lo' := (ri_as 0 [.ref 35, .ref 184])) (st' := [.int 0, .ref 192]) rfl (e := (.iconst 0, 1, [], .null)) rfl rfl (fun _ _ => rfl)
  have E := E.ld (p := 167) (t := ri_isA) (i := 0) (n := 1) (v := .ref 35) rfl (e := (.aload_n 0, 1, [], .null)) rfl rfl (fun _ _ => rfl) rfl rfl
  have E := E.gr (n := 43) (p := 170) rfl (x := 55) (m := 3) (w := .null) (t := 6) (i := 14) (u := 416) rfl rfl hV41 ((((((((((((((ty.ui rfl).ui rfl).ui rfl).ui rfl).ui rfl).ui rfl).ui rfl).cr rfl rfl).cr rfl rfl).cr rfl rfl).cr rfl rfl).cr rfl rfl).cr rfl rfl).cr rfl rfl) rfl
  have E := E.pu (p := 171) (lo' := (ri_as 0 [.ref 35, .ref 184])) (st' := [.int 0, .ref 43, .int 0, .ref 192]) rfl (e := (.iconst 0, 1, [], .null)) rfl rfl (fun _ _ => rfl)
  have E := E.pu (p := 173) (lo' := (ri_as 0 [.ref 35, .ref 184])) (st' := [.int 6, .int 0, .ref 43, .int 0, .ref 192]) rfl (e := (.bipush 6, 2, [], .null)) rfl rfl (fun _ _ => rfl)
  obtain ⟨h43, hV44, hN45, E⟩ := E.cr (p := 176) (n := 6) (a := 192) (b := 43) (st := []) rfl (x := 66) (m := 3) (w := .null) (u := [816]) rfl rfl (by decide) hV41
  have E := E.ld (p := 177) (t := ri_isA) (i := 1) (n := 1) (v := .ref 184) rfl (e := (.aload_n 1, 1, [], .null)) rfl rfl (fun _ _ => rfl) rfl rfl
  have E := E.gr (n := 193) (p := 180) rfl (x := 58) (m := 3) (w := .null) (t := 6) (i := 15) (u := 418) rfl rfl hV44 (((((((((((((((ty.ui rfl).ui rfl).ui rfl).ui rfl).ui rfl).ui rfl).ui rfl).cr rfl rfl).cr rfl rfl).cr rfl rfl).cr rfl rfl).cr rfl rfl).cr rfl rfl).cr rfl rfl).cr rfl rfl) rfl
  have E := E.pu (p := 181) (lo' := (ri_as 0 [.ref 35, .ref 184])) (st' := [.int 0, .ref 193]) rfl (e := (.iconst 0, 1, [], .null)) rfl rfl (fun _ _ => rfl)
  have E := E.ld (p := 182) (t := ri_isA) (i := 0) (n := 1) (v := .ref 35) rfl (e := (.aload_n 0, 1, [], .null)) rfl rfl (fun _ _ => rfl) rfl rfl
  have E := E.gr (n := 44) (p := 185) rfl (x := 58) (m := 3) (w := .null) (t := 6) (i := 15) (u := 418) rfl rfl hV44 (((((((((((((((ty.ui rfl).ui rfl).ui rfl).ui rfl).ui rfl).ui rfl).ui rfl).cr rfl rfl).cr rfl rfl).cr rfl rfl).cr rfl rfl).cr rfl rfl).cr rfl rfl).cr rfl rfl).cr rfl rfl) rfl
  have E := E.pu (p := 186) (lo' := (ri_as 0 [.ref 35, .ref 184])) (st' := [.int 0, .ref 44, .int 0, .ref 193]) rfl (e := (.iconst 0, 1, [], .null)) rfl rfl (fun _ _ => rfl)
  have E := E.pu (p := 188) (lo' := (ri_as 0 [.ref 35, .ref 184])) (st' := [.int 6, .int 0, .ref 44, .int 0, .ref 193]) rfl (e := (.bipush 6, 2, [], .null)) rfl rfl (fun _ _ => rfl)
  obtain ⟨h46, hV47, hN48, E⟩ := E.cr (p := 191) (n := 6) (a := 193) (b := 44) (st := []) rfl (x := 66) (m := 3) (w := .null) (u := [816]) rfl rfl (by decide) hV44
  obtain ⟨r1, r2⟩ := E.retv rfl (m := 1) (ax := []) (w := .null) rfl
  exact ⟨(by rw [← hrs, r1]; rfl), ((congrArg eh_V r2).trans hV47), ((congrArg eh_N r2).trans (hN48.trans (hN45.trans (hN42.trans (hN39.trans (hN36.trans (hN33.trans (hN30.trans (hN27.trans (hN24.trans (hN21.trans (hN18.trans (hN15.trans (hN12.trans (hN9.trans (hN6.trans hN3))))))))))))))))⟩
theorem ct_1a {d : Nat} {h h' : ri_H} {v : Option Value} {G : eh_W} (E : ri_calE ri_md (d + 1) 87 [.ref 194, .ref 137] h = some (v, h')) (hV : eh_V h = G) (ty : eh_ty tC G) (hl : (eh_N h).take 209 = NCl) : v = none ∧ eh_V h' = eh_cp (eh_cp (eh_cp (eh_u (eh_u G 194 0 (.int (eh_i G 137 0))) 194 1 (.int (eh_i G 137 1))) 138 195 40) 139 196 40) 140 197 40 ∧ eh_N h' = eh_N h := by
  obtain ⟨rs, hrs, E⟩ := eh_in E (q := md_87) rfl
  have E := E.ld (p := 1) (t := ri_isA) (i := 0) (n := 1) (v := .ref 194) rfl (e := (.aload_n 0, 1, [], .null)) rfl rfl (fun _ _ => rfl) rfl rfl
  have E := E.ld (p := 2) (t := ri_isA) (i := 1) (n := 1) (v := .ref 137) rfl (e := (.aload_n 1, 1, [], .null)) rfl rfl (fun _ _ => rfl) rfl rfl
  have E := E.gi (y := eh_i G 137 0) (p := 5) rfl (x := 9) (m := 3) (w := .null) (t := 9) (i := 0) (u := 345) rfl rfl hV ty rfl rfl
  obtain ⟨h1, hV2, hN3, E⟩ := E.gp (p := 8) rfl (x := 9) (m := 3) (w := .null) (t := 9) (i := 0) (u := 345) (y := 0) rfl rfl hV
  have E := E.ld (p := 9) (t := ri_isA) (i := 0) (n := 1) (v := .ref 194) rfl (e := (.aload_n 0, 1, [], .null)) rfl rfl (fun _ _ => rfl) rfl rfl
  have E := E.ld (p := 10) (t := ri_isA) (i := 1) (n := 1) (v := .ref 137) rfl (e := (.aload_n 1, 1, [], .null)) rfl rfl (fun _ _ => rfl) rfl rfl
  have E := E.gi (y := eh_i G 137 1) (p := 13) rfl (x := 15) (m := 3) (w := .null) (t := 9) (i := 1) (u := 348) rfl rfl hV2 (ty.ui rfl) rfl rfl
  obtain ⟨h4, hV5, hN6, E⟩ := E.gp (p := 16) rfl (x := 15) (m := 3) (w := .null) (t := 9) (i := 1) (u := 348) (y := 0) rfl rfl hV2
  have E := E.ld (p := 17) (t := ri_isA) (i := 1) (n := 1) (v := .ref 137) rfl (e := (.aload_n 1, 1, [], .null)) rfl rfl (fun _ _ => rfl) rfl rfl
  have E := E.gr (n := 138) (p := 20) rfl (x := 18) (m := 3) (w := .null) (t := 9) (i := 2) (u := 349) rfl rfl hV5 ((ty.ui rfl).ui rfl) rfl
  have E := E.pu (p := 21) (lo' := (ri_as 0 [.ref 194, .ref 137])) (st' := [.int 0, .ref 138]) rfl (e := (.iconst 0, 1, [], .null)) rfl rfl (fun _ _ => rfl)
  have E := E.ld (p := 22) (t := ri_isA) (i := 0) (n := 1) (v := .ref 194) rfl (e := (.aload_n 0, 1, [], .null)) rfl rfl (fun _ _ => rfl) rfl rfl
  have E := E.gr (n := 195) (p := 25) rfl (x := 18) (m := 3) (w := .null) (t := 9) (i := 2) (u := 349) rfl rfl hV5 ((ty.ui rfl).ui rfl) rfl
  have E := E.pu (p := 26) (lo' := (ri_as 0 [.ref 194, .ref 137])) (st' := [.int 0, .ref 195, .int 0, .ref 138]) rfl (e := (.iconst 0, 1, [], .null)) rfl rfl (fun _ _ => rfl)
  have E := E.pu (p := 28) (lo' := (ri_as 0 [.ref 194, .ref 137])) (st' := [.int 40, .int 0, .ref 195, .int 0, .ref 138]) rfl (e := (.bipush 40, 2, [], .null)) rfl rfl (fun _ _ => rfl)
  obtain ⟨h7, hV8, hN9, E⟩ := E.cr (p := 31) (n := 40) (a := 138) (b := 195) (st := []) rfl (x := 31) (m := 3) (w := .null) (u := [1165]) rfl rfl (by decide) hV5
  have E := E.ld (p := 32) (t := ri_isA) (i := 1) (n := 1) (v := .ref 137) rfl (e := (.aload_n 1, 1, [], .null)) rfl rfl (fun _ _ => rfl) rfl rfl
  have E := E.gr (n := 139) (p := 35) rfl (x := 22) (m := 3) (w := .null) (t := 9) (i := 3) (u := 350) rfl rfl hV8 (((ty.ui rfl).ui rfl).cr rfl rfl) rfl
  have E := E.pu (p := 36) (lo' := (ri_as 0 [.ref 194, .ref 137])) (st' := [.int 0, .ref 139]) rfl (e := (.iconst 0, 1, [], .null)) rfl rfl (fun _ _ => rfl)
  have E := E.ld (p := 37) (t := ri_isA) (i := 0) (n := 1) (v := .ref 194) rfl (e := (.aload_n 0, 1, [], .null)) rfl rfl (fun _ _ => rfl) rfl rfl
  have E := E.gr (n := 196) (p := 40) rfl (x := 22) (m := 3) (w := .null) (t := 9) (i := 3) (u := 350) rfl rfl hV8 (((ty.ui rfl).ui rfl).cr rfl rfl) rfl
  have E := E.pu (p := 41) (lo' := (ri_as 0 [.ref 194, .ref 137])) (st' := [.int 0, .ref 196, .int 0, .ref 139]) rfl (e := (.iconst 0, 1, [], .null)) rfl rfl (fun _ _ => rfl)
  have E := E.pu (p := 43) (lo' := (ri_as 0 [.ref 194, .ref 137])) (st' := [.int 40, .int 0, .ref 196, .int 0, .ref 139]) rfl (e := (.bipush 40, 2, [], .null)) rfl rfl (fun _ _ => rfl)
  obtain ⟨h10, hV11, hN12, E⟩ := E.cr (p := 46) (n := 40) (a := 139) (b := 196) (st := []) rfl (x := 31) (m := 3) (w := .null) (u := [1165]) rfl rfl (by decide) hV8
  have E := E.ld (p := 47) (t := ri_isA) (i := 1) (n := 1) (v := .ref 137) rfl (e := (.aload_n 1, 1, [], .null)) rfl rfl (fun _ _ => rfl) rfl rfl
  have E := E.gr (n := 140) (p := 50) rfl (x := 25) (m := 3) (w := .null) (t := 9) (i := 4) (u := 351) rfl rfl hV11 ((((ty.ui rfl).ui rfl).cr rfl rfl).cr rfl rfl) rfl
  have E := E.pu (p := 51) (lo' := (ri_as 0 [.ref 194, .ref 137])) (st' := [.int 0, .ref 140]) rfl (e := (.iconst 0, 1, [], .null)) rfl rfl (fun _ _ => rfl)
  have E := E.ld (p := 52) (t := ri_isA) (i := 0) (n := 1) (v := .ref 194) rfl (e := (.aload_n 0, 1, [], .null)) rfl rfl (fun _ _ => rfl) rfl rfl
  have E := E.gr (n := 197) (p := 55) rfl (x := 25) (m := 3) (w := .null) (t := 9) (i := 4) (u := 351) rfl rfl hV11 ((((ty.ui rfl).ui rfl).cr rfl rfl).cr rfl rfl) rfl
  have E := E.pu (p := 56) (lo' := (ri_as 0 [.ref 194, .ref 137])) (st' := [.int 0, .ref 197, .int 0, .ref 140]) rfl (e := (.iconst 0, 1, [], .null)) rfl rfl (fun _ _ => rfl)
  have E := E.pu (p := 58) (lo' := (ri_as 0 [.ref 194, .ref 137])) (st' := [.int 40, .int 0, .ref 197, .int 0, .ref 140]) rfl (e := (.bipush 40, 2, [], .null)) rfl rfl (fun _ _ => rfl)
  obtain ⟨h13, hV14, hN15, E⟩ := E.cr (p := 61) (n := 40) (a := 140) (b := 197) (st := []) rfl (x := 31) (m := 3) (w := .null) (u := [1165]) rfl rfl (by decide) hV11
  obtain ⟨r1, r2⟩ := E.retv rfl (m := 1) (ax := []) (w := .null) rfl
  exact ⟨(by rw [← hrs, r1]; rfl), ((congrArg eh_V r2).trans hV14), ((congrArg eh_N r2).trans (hN15.trans (hN12.trans (hN9.trans (hN6.trans hN3)))))⟩
theorem ct_1b {d : Nat} {h h' : ri_H} {v : Option Value} {G : eh_W} (E : ri_calE ri_md (d + 1) 87 [.ref 137, .ref 194] h = some (v, h')) (hV : eh_V h = G) (ty : eh_ty tC G) (hl : (eh_N h).take 209 = NCl) : v = none ∧ eh_V h' = eh_cp (eh_cp (eh_cp (eh_u (eh_u G 137 0 (.int (eh_i G 194 0))) 137 1 (.int (eh_i G 194 1))) 195 138 40) 196 139 40) 197 140 40 ∧ eh_N h' = eh_N h := by
  obtain ⟨rs, hrs, E⟩ := eh_in E (q := md_87) rfl
  have E := E.ld (p := 1) (t := ri_isA) (i := 0) (n := 1) (v := .ref 137) rfl (e := (.aload_n 0, 1, [], .null)) rfl rfl (fun _ _ => rfl) rfl rfl
  have E := E.ld (p := 2) (t := ri_isA) (i := 1) (n := 1) (v := .ref 194) rfl (e := (.aload_n 1, 1, [], .null)) rfl rfl (fun _ _ => rfl) rfl rfl
  have E := E.gi (y := eh_i G 194 0) (p := 5) rfl (x := 9) (m := 3) (w := .null) (t := 9) (i := 0) (u := 345) rfl rfl hV ty rfl rfl
  obtain ⟨h1, hV2, hN3, E⟩ := E.gp (p := 8) rfl (x := 9) (m := 3) (w := .null) (t := 9) (i := 0) (u := 345) (y := 0) rfl rfl hV
  have E := E.ld (p := 9) (t := ri_isA) (i := 0) (n := 1) (v := .ref 137) rfl (e := (.aload_n 0, 1, [], .null)) rfl rfl (fun _ _ => rfl) rfl rfl
  have E := E.ld (p := 10) (t := ri_isA) (i := 1) (n := 1) (v := .ref 194) rfl (e := (.aload_n 1, 1, [], .null)) rfl rfl (fun _ _ => rfl) rfl rfl
  have E := E.gi (y := eh_i G 194 1) (p := 13) rfl (x := 15) (m := 3) (w := .null) (t := 9) (i := 1) (u := 348) rfl rfl hV2 (ty.ui rfl) rfl rfl
  obtain ⟨h4, hV5, hN6, E⟩ := E.gp (p := 16) rfl (x := 15) (m := 3) (w := .null) (t := 9) (i := 1) (u := 348) (y := 0) rfl rfl hV2
  have E := E.ld (p := 17) (t := ri_isA) (i := 1) (n := 1) (v := .ref 194) rfl (e := (.aload_n 1, 1, [], .null)) rfl rfl (fun _ _ => rfl) rfl rfl
  have E := E.gr (n := 195) (p := 20) rfl (x := 18) (m := 3) (w := .null) (t := 9) (i := 2) (u := 349) rfl rfl hV5 ((ty.ui rfl).ui rfl) rfl
  have E := E.pu (p := 21) (lo' := (ri_as 0 [.ref 137, .ref 194])) (st' := [.int 0, .ref 195]) rfl (e := (.iconst 0, 1, [], .null)) rfl rfl (fun _ _ => rfl)
  have E := E.ld (p := 22) (t := ri_isA) (i := 0) (n := 1) (v := .ref 137) rfl (e := (.aload_n 0, 1, [], .null)) rfl rfl (fun _ _ => rfl) rfl rfl
  have E := E.gr (n := 138) (p := 25) rfl (x := 18) (m := 3) (w := .null) (t := 9) (i := 2) (u := 349) rfl rfl hV5 ((ty.ui rfl).ui rfl) rfl
  have E := E.pu (p := 26) (lo' := (ri_as 0 [.ref 137, .ref 194])) (st' := [.int 0, .ref 138, .int 0, .ref 195]) rfl (e := (.iconst 0, 1, [], .null)) rfl rfl (fun _ _ => rfl)
  have E := E.pu (p := 28) (lo' := (ri_as 0 [.ref 137, .ref 194])) (st' := [.int 40, .int 0, .ref 138, .int 0, .ref 195]) rfl (e := (.bipush 40, 2, [], .null)) rfl rfl (fun _ _ => rfl)
  obtain ⟨h7, hV8, hN9, E⟩ := E.cr (p := 31) (n := 40) (a := 195) (b := 138) (st := []) rfl (x := 31) (m := 3) (w := .null) (u := [1165]) rfl rfl (by decide) hV5
  have E := E.ld (p := 32) (t := ri_isA) (i := 1) (n := 1) (v := .ref 194) rfl (e := (.aload_n 1, 1, [], .null)) rfl rfl (fun _ _ => rfl) rfl rfl
  have E := E.gr (n := 196) (p := 35) rfl (x := 22) (m := 3) (w := .null) (t := 9) (i := 3) (u := 350) rfl rfl hV8 (((ty.ui rfl).ui rfl).cr rfl rfl) rfl
  have E := E.pu (p := 36) (lo' := (ri_as 0 [.ref 137, .ref 194])) (st' := [.int 0, .ref 196]) rfl (e := (.iconst 0, 1, [], .null)) rfl rfl (fun _ _ => rfl)
  have E := E.ld (p := 37) (t := ri_isA) (i := 0) (n := 1) (v := .ref 137) rfl (e := (.aload_n 0, 1, [], .null)) rfl rfl (fun _ _ => rfl) rfl rfl
  have E := E.gr (n := 139) (p := 40) rfl (x := 22) (m := 3) (w := .null) (t := 9) (i := 3) (u := 350) rfl rfl hV8 (((ty.ui rfl).ui rfl).cr rfl rfl) rfl
  have E := E.pu (p := 41) (lo' := (ri_as 0 [.ref 137, .ref 194])) (st' := [.int 0, .ref 139, .int 0, .ref 196]) rfl (e := (.iconst 0, 1, [], .null)) rfl rfl (fun _ _ => rfl)
  have E := E.pu (p := 43) (lo' := (ri_as 0 [.ref 137, .ref 194])) (st' := [.int 40, .int 0, .ref 139, .int 0, .ref 196]) rfl (e := (.bipush 40, 2, [], .null)) rfl rfl (fun _ _ => rfl)
  obtain ⟨h10, hV11, hN12, E⟩ := E.cr (p := 46) (n := 40) (a := 196) (b := 139) (st := []) rfl (x := 31) (m := 3) (w := .null) (u := [1165]) rfl rfl (by decide) hV8
  have E := E.ld (p := 47) (t := ri_isA) (i := 1) (n := 1) (v := .ref 194) rfl (e := (.aload_n 1, 1, [], .null)) rfl rfl (fun _ _ => rfl) rfl rfl
  have E := E.gr (n := 197) (p := 50) rfl (x := 25) (m := 3) (w := .null) (t := 9) (i := 4) (u := 351) rfl rfl hV11 ((((ty.ui rfl).ui rfl).cr rfl rfl).cr rfl rfl) rfl
  have E := E.pu (p := 51) (lo' := (ri_as 0 [.ref 137, .ref 194])) (st' := [.int 0, .ref 197]) rfl (e := (.iconst 0, 1, [], .null)) rfl rfl (fun _ _ => rfl)
  have E := E.ld (p := 52) (t := ri_isA) (i := 0) (n := 1) (v := .ref 137) rfl (e := (.aload_n 0, 1, [], .null)) rfl rfl (fun _ _ => rfl) rfl rfl
  have E := E.gr (n := 140) (p := 55) rfl (x := 25) (m := 3) (w := .null) (t := 9) (i := 4) (u := 351) rfl rfl hV11 ((((ty.ui rfl).ui rfl).cr rfl rfl).cr rfl rfl) rfl
  have E := E.pu (p := 56) (lo' := (ri_as 0 [.ref 137, .ref 194])) (st' := [.int 0, .ref 140, .int 0, .ref 197]) rfl (e := (.iconst 0, 1, [], .null)) rfl rfl (fun _ _ => rfl)
  have E := E.pu (p := 58) (lo' := (ri_as 0 [.ref 137, .ref 194])) (st' := [.int 40, .int 0, .ref 140, .int 0, .ref 197]) rfl (e := (.bipush 40, 2, [], .null)) rfl rfl (fun _ _ => rfl)
  obtain ⟨h13, hV14, hN15, E⟩ := E.cr (p := 61) (n := 40) (a := 197) (b := 140) (st := []) rfl (x := 31) (m := 3) (w := .null) (u := [1165]) rfl rfl (by decide) hV11
  obtain ⟨r1, r2⟩ := E.retv rfl (m := 1) (ax := []) (w := .null) rfl
  exact ⟨(by rw [← hrs, r1]; rfl), ((congrArg eh_V r2).trans hV14), ((congrArg eh_N r2).trans (hN15.trans (hN12.trans (hN9.trans (hN6.trans hN3)))))⟩
