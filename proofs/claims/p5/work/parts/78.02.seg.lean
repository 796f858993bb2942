theorem sp_101 {d : Nat} {h h' : ri_H} {v : Option Value} {G : eh_W} {a0 a1 a2 a3 a4 : Int32} (E : ri_calE ri_md (d + 2) 101 [.ref 0, .int a0, .int a1, .int a2, .int a3, .int a4] h = some (v, h')) (hV : eh_V h = G) (ty : eh_ty tC G) : (∃ (x3 : eh_W), ∃ (x9 : eh_W), ∃ (x15 : eh_W), ∃ (x21 : eh_W), ∃ (x27 : eh_W), ¬ (940 < ((eh_i G 0 1) + 20).toInt) ∧ ap_C G a0 x3 ∧ eh_ty tC x3 ∧ ap_C x3 a1 x9 ∧ eh_ty tC x9 ∧ ap_C x9 a2 x15 ∧ eh_ty tC x15 ∧ ap_C x15 a3 x21 ∧ eh_ty tC x21 ∧ ap_C x21 a4 x27 ∧ eh_ty tC x27 ∧ v = some (.int (eh_i x27 0 1)) ∧ eh_V h' = x27 ∧ eh_N h' = eh_N h) ∨ (940 < ((eh_i G 0 1) + 20).toInt ∧ v = some (.int (-1)) ∧ eh_V h' = G ∧ eh_N h' = eh_N h) := by
  obtain ⟨rs, hrs, E⟩ := eh_in E (q := md_101) rfl
  have E := E.ld (p := 1) (t := ri_isA) (i := 0) (n := 1) (v := .ref 0) rfl (e := (.aload_n 0, 1, [], .null)) rfl rfl (fun _ _ => rfl) rfl rfl
  have E := E.gi (y := eh_i G 0 1) (p := 4) rfl (x := 13) (m := 3) (w := .null) (t := 11) (i := 1) (u := 568) rfl rfl hV ty rfl rfl
  have E := E.pu (p := 6) (lo' := (ri_as 0 [.ref 0, .int a0, .int a1, .int a2, .int a3, .int a4])) (st' := [.int 20, .int (eh_i G 0 1)]) rfl (e := (.bipush 20, 2, [], .null)) rfl rfl (fun _ _ => rfl)
  have E := E.pu (p := 7) (lo' := (ri_as 0 [.ref 0, .int a0, .int a1, .int a2, .int a3, .int a4])) (st' := [.int ((eh_i G 0 1) + 20)]) rfl (e := (.iadd, 1, [], .null)) rfl rfl (fun _ _ => rfl)
  have E := E.pu (p := 10) (lo' := (ri_as 0 [.ref 0, .int a0, .int a1, .int a2, .int a3, .int a4])) (st' := [.int 940, .int ((eh_i G 0 1) + 20)]) rfl (e := (.sipush 940, 3, [], .null)) rfl rfl (fun _ _ => rfl)
  rcases eh_r5 rfl (show (940 : Int32).toInt = 940 by decide) (E.br (p := 13) (c := 5) (tgt := 15) (a := (eh_i G 0 1) + 20) (b := 940) (st' := []) rfl (e := (.if_icmp .le 5, 3, [15], .null)) rfl rfl (fun _ _ => rfl) rfl) with ⟨c1, E⟩ | ⟨c1, E⟩
  · skip
    have E := E.ld (p := 16) (t := ri_isA) (i := 0) (n := 1) (v := .ref 0) rfl (e := (.aload_n 0, 1, [], .null)) rfl rfl (fun _ _ => rfl) rfl rfl
    have E := E.ld (p := 17) (t := ri_isI) (i := 1) (n := 1) (v := .int a0) rfl (e := (.iload_n 1, 1, [], .null)) rfl rfl (fun _ _ => rfl) rfl rfl
    obtain ⟨v1, h2, X, E⟩ := E.cv (p := 20) (as := [.int a0]) (b := 0) (r := []) rfl (x := 111) (m := 3) (w := .null) (j := 102) (n := 1) (t := 11) (u := [623, 0, 625]) rfl rfl rfl
    rcases fd_102 (d := d) X hV ty with ⟨x3, c4, c5, rfl, hV6, hN7⟩
    have c4 : ap_C G a0 x3 := c4
    have c5 : eh_ty tC x3 := c5
    have hV6 : _ = x3 := hV6
    have E : eh_e _ _ 20 (ri_as 0 [.ref 0, .int a0, .int a1, .int a2, .int a3, .int a4]) [] _ rs h' := E
    have E := E.ld (p := 21) (t := ri_isA) (i := 0) (n := 1) (v := .ref 0) rfl (e := (.aload_n 0, 1, [], .null)) rfl rfl (fun _ _ => rfl) rfl rfl
    have E := E.ld (p := 22) (t := ri_isI) (i := 2) (n := 1) (v := .int a1) rfl (e := (.iload_n 2, 1, [], .null)) rfl rfl (fun _ _ => rfl) rfl rfl
    obtain ⟨v1, h8, X, E⟩ := E.cv (p := 25) (as := [.int a1]) (b := 0) (r := []) rfl (x := 111) (m := 3) (w := .null) (j := 102) (n := 1) (t := 11) (u := [623, 0, 625]) rfl rfl rfl
    rcases fd_102 (d := d) X hV6 c5 with ⟨x9, c10, c11, rfl, hV12, hN13⟩
    have c10 : ap_C x3 a1 x9 := c10
    have c11 : eh_ty tC x9 := c11
    have hV12 : _ = x9 := hV12
    have E : eh_e _ _ 25 (ri_as 0 [.ref 0, .int a0, .int a1, .int a2, .int a3, .int a4]) [] _ rs h' := E
    have E := E.ld (p := 26) (t := ri_isA) (i := 0) (n := 1) (v := .ref 0) rfl (e := (.aload_n 0, 1, [], .null)) rfl rfl (fun _ _ => rfl) rfl rfl
    have E := E.ld (p := 27) (t := ri_isI) (i := 3) (n := 1) (v := .int a2) rfl (e := (.iload_n 3, 1, [], .null)) rfl rfl (fun _ _ => rfl) rfl rfl
    obtain ⟨v1, h14, X, E⟩ := E.cv (p := 30) (as := [.int a2]) (b := 0) (r := []) rfl (x := 111) (m := 3) (w := .null) (j := 102) (n := 1) (t := 11) (u := [623, 0, 625]) rfl rfl rfl
    rcases fd_102 (d := d) X hV12 c11 with ⟨x15, c16, c17, rfl, hV18, hN19⟩
    have c16 : ap_C x9 a2 x15 := c16
    have c17 : eh_ty tC x15 := c17
    have hV18 : _ = x15 := hV18
    have E : eh_e _ _ 30 (ri_as 0 [.ref 0, .int a0, .int a1, .int a2, .int a3, .int a4]) [] _ rs h' := E
    have E := E.ld (p := 31) (t := ri_isA) (i := 0) (n := 1) (v := .ref 0) rfl (e := (.aload_n 0, 1, [], .null)) rfl rfl (fun _ _ => rfl) rfl rfl
    have E := E.ld (p := 33) (t := ri_isI) (i := 4) (n := 2) (v := .int a3) rfl (e := (.iload 4, 2, [], .null)) rfl rfl (fun _ _ => rfl) rfl rfl
    obtain ⟨v1, h20, X, E⟩ := E.cv (p := 36) (as := [.int a3]) (b := 0) (r := []) rfl (x := 111) (m := 3) (w := .null) (j := 102) (n := 1) (t := 11) (u := [623, 0, 625]) rfl rfl rfl
    rcases fd_102 (d := d) X hV18 c17 with ⟨x21, c22, c23, rfl, hV24, hN25⟩
    have c22 : ap_C x15 a3 x21 := c22
    have c23 : eh_ty tC x21 := c23
    have hV24 : _ = x21 := hV24
    have E : eh_e _ _ 36 (ri_as 0 [.ref 0, .int a0, .int a1, .int a2, .int a3, .int a4]) [] _ rs h' := E
    have E := E.ld (p := 37) (t := ri_isA) (i := 0) (n := 1) (v := .ref 0) rfl (e := (.aload_n 0, 1, [], .null)) rfl rfl (fun _ _ => rfl) rfl rfl
    have E := E.ld (p := 39) (t := ri_isI) (i := 5) (n := 2) (v := .int a4) rfl (e := (.iload 5, 2, [], .null)) rfl rfl (fun _ _ => rfl) rfl rfl
    obtain ⟨v1, h26, X, E⟩ := E.cv (p := 42) (as := [.int a4]) (b := 0) (r := []) rfl (x := 111) (m := 3) (w := .null) (j := 102) (n := 1) (t := 11) (u := [623, 0, 625]) rfl rfl rfl
    rcases fd_102 (d := d) X hV24 c23 with ⟨x27, c28, c29, rfl, hV30, hN31⟩
    have c28 : ap_C x21 a4 x27 := c28
    have c29 : eh_ty tC x27 := c29
    have hV30 : _ = x27 := hV30
    have E : eh_e _ _ 42 (ri_as 0 [.ref 0, .int a0, .int a1, .int a2, .int a3, .int a4]) [] _ rs h' := E
    have E := E.ld (p := 43) (t := ri_isA) (i := 0) (n := 1) (v := .ref 0) rfl (e := (.aload_n 0, 1, [], .null)) rfl rfl (fun _ _ => rfl) rfl rfl
    have E := E.gi (y := eh_i x27 0 1) (p := 46) rfl (x := 13) (m := 3) (w := .null) (t := 11) (i := 1) (u := 568) rfl rfl hV30 c29 rfl rfl
    obtain ⟨r1, r2⟩ := E.reti rfl (m := 1) (ax := []) (w := .null) rfl
    exact Or.inl ⟨x3, x9, x15, x21, x27, c1, c4, c5, c10, c11, c16, c17, c22, c23, c28, c29, (by rw [← hrs, r1]; rfl), ((congrArg eh_V r2).trans hV30), ((congrArg eh_N r2).trans (hN31.trans (hN25.trans (hN19.trans (hN13.trans hN7)))))⟩
  · skip
    have E := E.pu (p := 14) (lo' := (ri_as 0 [.ref 0, .int a0, .int a1, .int a2, .int a3, .int a4])) (st' := [.int (-1)]) rfl (e := (.iconst (-1), 1, [], .null)) rfl rfl (fun _ _ => rfl)
    obtain ⟨r1, r2⟩ := E.reti rfl (m := 1) (ax := []) (w := .null) rfl
    exact Or.inr (⟨c1, (by rw [← hrs, r1]; rfl), ((congrArg eh_V r2).trans hV), (congrArg eh_N r2)⟩)
theorem sp_145 {d : Nat} {h h' : ri_H} {v : Option Value} {G : eh_W} {a0 a1 a2 a3 a4 : Int32} (E : ri_calE ri_md (d + 2) 145 [.ref 0, .int a0, .int a1, .int a2, .int a3, .int a4] h = some (v, h')) (hV : eh_V h = G) (ty : eh_ty tM G) : (∃ (x6 : eh_W), ∃ (x12 : eh_W), ∃ (x18 : eh_W), ∃ (x24 : eh_W), ∃ (x30 : eh_W), ¬ (940 < ((eh_i G 0 2) + 20).toInt) ∧ ap_M (eh_u G 0 0 (.int 0)) a0 x6 ∧ eh_ty tM x6 ∧ ap_M x6 a1 x12 ∧ eh_ty tM x12 ∧ ap_M x12 a2 x18 ∧ eh_ty tM x18 ∧ ap_M x18 a3 x24 ∧ eh_ty tM x24 ∧ ap_M x24 a4 x30 ∧ eh_ty tM x30 ∧ v = some (.int (eh_i x30 0 2)) ∧ eh_V h' = x30 ∧ eh_N h' = eh_N h) ∨ (940 < ((eh_i G 0 2) + 20).toInt ∧ v = some (.int (-1)) ∧ eh_V h' = eh_u G 0 0 (.int 0) ∧ eh_N h' = eh_N h) := by
  obtain ⟨rs, hrs, E⟩ := eh_in E (q := md_145) rfl
  have E := E.ld (p := 1) (t := ri_isA) (i := 0) (n := 1) (v := .ref 0) rfl (e := (.aload_n 0, 1, [], .null)) rfl rfl (fun _ _ => rfl) rfl rfl
  have E := E.pu (p := 2) (lo' := (ri_as 0 [.ref 0, .int a0, .int a1, .int a2, .int a3, .int a4])) (st' := [.int 0, .ref 0]) rfl (e := (.iconst 0, 1, [], .null)) rfl rfl (fun _ _ => rfl)
  obtain ⟨h1, hV2, hN3, E⟩ := E.gp (p := 5) rfl (x := 1) (m := 3) (w := .null) (t := 12) (i := 0) (u := 1324) (y := 0) rfl rfl hV
  have E := E.ld (p := 6) (t := ri_isA) (i := 0) (n := 1) (v := .ref 0) rfl (e := (.aload_n 0, 1, [], .null)) rfl rfl (fun _ _ => rfl) rfl rfl
  have E := E.gi (y := eh_i G 0 2) (p := 9) rfl (x := 7) (m := 3) (w := .null) (t := 12) (i := 2) (u := 1326) rfl rfl hV2 (ty.ui rfl) rfl rfl
  have E := E.pu (p := 11) (lo' := (ri_as 0 [.ref 0, .int a0, .int a1, .int a2, .int a3, .int a4])) (st' := [.int 20, .int (eh_i G 0 2)]) rfl (e := (.bipush 20, 2, [], .null)) rfl rfl (fun _ _ => rfl)
  have E := E.pu (p := 12) (lo' := (ri_as 0 [.ref 0, .int a0, .int a1, .int a2, .int a3, .int a4])) (st' := [.int ((eh_i G 0 2) + 20)]) rfl (e := (.iadd, 1, [], .null)) rfl rfl (fun _ _ => rfl)
  have E := E.pu (p := 15) (lo' := (ri_as 0 [.ref 0, .int a0, .int a1, .int a2, .int a3, .int a4])) (st' := [.int 940, .int ((eh_i G 0 2) + 20)]) rfl (e := (.sipush 940, 3, [], .null)) rfl rfl (fun _ _ => rfl)
  rcases eh_r5 rfl (show (940 : Int32).toInt = 940 by decide) (E.br (p := 18) (c := 5) (tgt := 20) (a := (eh_i G 0 2) + 20) (b := 940) (st' := []) rfl (e := (.if_icmp .le 5, 3, [20], .null)) rfl rfl (fun _ _ => rfl) rfl) with ⟨c4, E⟩ | ⟨c4, E⟩
  · skip
    have E := E.ld (p := 21) (t := ri_isA) (i := 0) (n := 1) (v := .ref 0) rfl (e := (.aload_n 0, 1, [], .null)) rfl rfl (fun _ _ => rfl) rfl rfl
    have E := E.ld (p := 22) (t := ri_isI) (i := 1) (n := 1) (v := .int a0) rfl (e := (.iload_n 1, 1, [], .null)) rfl rfl (fun _ _ => rfl) rfl rfl
    obtain ⟨v1, h5, X, E⟩ := E.cv (p := 25) (as := [.int a0]) (b := 0) (r := []) rfl (x := 10) (m := 3) (w := .null) (j := 146) (n := 1) (t := 12) (u := [1282, 32, 1284]) rfl rfl rfl
    rcases fd_146 (d := d) X hV2 (ty.ui rfl) with ⟨x6, c7, c8, rfl, hV9, hN10⟩
    have c7 : ap_M (eh_u G 0 0 (.int 0)) a0 x6 := c7
    have c8 : eh_ty tM x6 := c8
    have hV9 : _ = x6 := hV9
    have E : eh_e _ _ 25 (ri_as 0 [.ref 0, .int a0, .int a1, .int a2, .int a3, .int a4]) [] _ rs h' := E
    have E := E.ld (p := 26) (t := ri_isA) (i := 0) (n := 1) (v := .ref 0) rfl (e := (.aload_n 0, 1, [], .null)) rfl rfl (fun _ _ => rfl) rfl rfl
    have E := E.ld (p := 27) (t := ri_isI) (i := 2) (n := 1) (v := .int a1) rfl (e := (.iload_n 2, 1, [], .null)) rfl rfl (fun _ _ => rfl) rfl rfl
    obtain ⟨v1, h11, X, E⟩ := E.cv (p := 30) (as := [.int a1]) (b := 0) (r := []) rfl (x := 10) (m := 3) (w := .null) (j := 146) (n := 1) (t := 12) (u := [1282, 32, 1284]) rfl rfl rfl
    rcases fd_146 (d := d) X hV9 c8 with ⟨x12, c13, c14, rfl, hV15, hN16⟩
    have c13 : ap_M x6 a1 x12 := c13
    have c14 : eh_ty tM x12 := c14
    have hV15 : _ = x12 := hV15
    have E : eh_e _ _ 30 (ri_as 0 [.ref 0, .int a0, .int a1, .int a2, .int a3, .int a4]) [] _ rs h' := E
    have E := E.ld (p := 31) (t := ri_isA) (i := 0) (n := 1) (v := .ref 0) rfl (e := (.aload_n 0, 1, [], .null)) rfl rfl (fun _ _ => rfl) rfl rfl
    have E := E.ld (p := 32) (t := ri_isI) (i := 3) (n := 1) (v := .int a2) rfl (e := (.iload_n 3, 1, [], .null)) rfl rfl (fun _ _ => rfl) rfl rfl
    obtain ⟨v1, h17, X, E⟩ := E.cv (p := 35) (as := [.int a2]) (b := 0) (r := []) rfl (x := 10) (m := 3) (w := .null) (j := 146) (n := 1) (t := 12) (u := [1282, 32, 1284]) rfl rfl rfl
    rcases fd_146 (d := d) X hV15 c14 with ⟨x18, c19, c20, rfl, hV21, hN22⟩
    have c19 : ap_M x12 a2 x18 := c19
    have c20 : eh_ty tM x18 := c20
    have hV21 : _ = x18 := hV21
    have E : eh_e _ _ 35 (ri_as 0 [.ref 0, .int a0, .int a1, .int a2, .int a3, .int a4]) [] _ rs h' := E
    have E := E.ld (p := 36) (t := ri_isA) (i := 0) (n := 1) (v := .ref 0) rfl (e := (.aload_n 0, 1, [], .null)) rfl rfl (fun _ _ => rfl) rfl rfl
    have E := E.ld (p := 38) (t := ri_isI) (i := 4) (n := 2) (v := .int a3) rfl (e := (.iload 4, 2, [], .null)) rfl rfl (fun _ _ => rfl) rfl rfl
    obtain ⟨v1, h23, X, E⟩ := E.cv (p := 41) (as := [.int a3]) (b := 0) (r := []) rfl (x := 10) (m := 3) (w := .null) (j := 146) (n := 1) (t := 12) (u := [1282, 32, 1284]) rfl rfl rfl
    rcases fd_146 (d := d) X hV21 c20 with ⟨x24, c25, c26, rfl, hV27, hN28⟩
    have c25 : ap_M x18 a3 x24 := c25
    have c26 : eh_ty tM x24 := c26
    have hV27 : _ = x24 := hV27
    have E : eh_e _ _ 41 (ri_as 0 [.ref 0, .int a0, .int a1, .int a2, .int a3, .int a4]) [] _ rs h' := E
    have E := E.ld (p := 42) (t := ri_isA) (i := 0) (n := 1) (v := .ref 0) rfl (e := (.aload_n 0, 1, [], .null)) rfl rfl (fun _ _ => rfl) rfl rfl
    have E := E.ld (p := 44) (t := ri_isI) (i := 5) (n := 2) (v := .int a4) rfl (e := (.iload 5, 2, [], .null)) rfl rfl (fun _ _ => rfl) rfl rfl
    obtain ⟨v1, h29, X, E⟩ := E.cv (p := 47) (as := [.int a4]) (b := 0) (r := []) rfl (x := 10) (m := 3) (w := .null) (j := 146) (n := 1) (t := 12) (u := [1282, 32, 1284]) rfl rfl rfl
    rcases fd_146 (d := d) X hV27 c26 with ⟨x30, c31, c32, rfl, hV33, hN34⟩
    have c31 : ap_M x24 a4 x30 := c31
    have c32 : eh_ty tM x30 := c32
    have hV33 : _ = x30 := hV33
    have E : eh_e _ _ 47 (ri_as 0 [.ref 0, .int a0, .int a1, .int a2, .int a3, .int a4]) [] _ rs h' := E
    have E := E.ld (p := 48) (t := ri_isA) (i := 0) (n := 1) (v := .ref 0) rfl (e := (.aload_n 0, 1, [], .null)) rfl rfl (fun _ _ => rfl) rfl rfl
    have E := E.gi (y := eh_i x30 0 2) (p := 51) rfl (x := 7) (m := 3) (w := .null) (t := 12) (i := 2) (u := 1326) rfl rfl hV33 c32 rfl rfl
    obtain ⟨r1, r2⟩ := E.reti rfl (m := 1) (ax := []) (w := .null) rfl
    exact Or.inl ⟨x6, x12, x18, x24, x30, c4, c7, c8, c13, c14, c19, c20, c25, c26, c31, c32, (by rw [← hrs, r1]; rfl), ((congrArg eh_V r2).trans hV33), ((congrArg eh_N r2).trans (hN34.trans (hN28.trans (hN22.trans (hN16.trans (hN10.trans hN3))))))⟩
  · skip
    have E := E.pu (p := 19) (lo' := (ri_as 0 [.ref 0, .int a0, .int a1, .int a2, .int a3, .int a4])) (st' := [.int (-1)]) rfl (e := (.iconst (-1), 1, [], .null)) rfl rfl (fun _ _ => rfl)
    obtain ⟨r1, r2⟩ := E.reti rfl (m := 1) (ax := []) (w := .null) rfl
    exact Or.inr (⟨c4, (by rw [← hrs, r1]; rfl), ((congrArg eh_V r2).trans hV2), ((congrArg eh_N r2).trans hN3)⟩)
