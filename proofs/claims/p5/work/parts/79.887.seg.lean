theorem zt_a {d : Nat} {lo : List (Nat × Value)} {h h' : ri_H} {rs : List Value} {G : eh_W} (E : eh_e (ri_calE ri_md (d + 1)) md_248 0 lo [] h rs h') (hV : eh_V h = G) (ty : eh_ty tM G) (l0 : ri_lk lo 0 = some (.ref 0)) : ∃ hz loz, eh_e (ri_calE ri_md (d + 1)) md_248 42 loz [] hz rs h' ∧ eh_V hz = eh_u (eh_u (eh_u (eh_u (eh_u (eh_u (eh_u (eh_u (eh_u (eh_u (eh_u G 0 0 (.int 0)) 0 3 (.int (eh_i G 0 2))) 0 2 (.int 0)) 0 4 (.int 0)) 0 5 (.int 200)) 0 15 (.int 0)) 0 39 (.int 0)) 0 40 (.int 0)) 0 41 (.int 0)) 0 42 (.int 1)) 0 43 (.int 0) ∧ eh_N hz = eh_N h ∧ eh_ty tM (eh_u (eh_u (eh_u (eh_u (eh_u (eh_u (eh_u (eh_u (eh_u (eh_u (eh_u G 0 0 (.int 0)) 0 3 (.int (eh_i G 0 2))) 0 2 (.int 0)) 0 4 (.int 0)) 0 5 (.int 200)) 0 15 (.int 0)) 0 39 (.int 0)) 0 40 (.int 0)) 0 41 (.int 0)) 0 42 (.int 1)) 0 43 (.int 0)) ∧ ri_lk loz 0 = some (.ref 0) := by
  have E := E.ld (p := 1) (t := ri_isA) (i := 0) (n := 1) (v := .ref 0) rfl (e := (.aload_n 0, 1, [], .null)) rfl rfl (fun _ _ => rfl) l0 rfl
  have E := E.pu (p := 2) (lo' := lo) (st' := [.int 0, .ref 0]) rfl (e := (.iconst 0, 1, [], .null)) rfl rfl (fun _ _ => rfl)
  obtain ⟨h1, hV2, hN3, E⟩ := E.gp (p := 5) rfl (x := 1) (m := 3) (w := .null) (t := 12) (i := 0) (u := 1324) (y := 0) rfl rfl hV
  have E := E.ld (p := 6) (t := ri_isA) (i := 0) (n := 1) (v := .ref 0) rfl (e := (.aload_n 0, 1, [], .null)) rfl rfl (fun _ _ => rfl) l0 rfl
  have E := E.pu (p := 9) (lo' := lo) (st' := [.int 200, .ref 0]) rfl (e := (.sipush 200, 3, [], .null)) rfl rfl (fun _ _ => rfl)
  obtain ⟨v1, h4, X, E⟩ := E.cv (p := 12) (as := [.int 200]) (b := 0) (r := []) rfl (x := 221) (m := 3) (w := .null) (j := 148) (n := 1) (t := 12) (u := [1474, 34, 1476]) rfl rfl rfl
  rcases sp_148 (d := d) X hV2 (ty.ui rfl) with ⟨rfl, hV5, hN6⟩
  have hV5 : _ = eh_u (eh_u (eh_u (eh_u (eh_u G 0 0 (.int 0)) 0 3 (.int (eh_i G 0 2))) 0 2 (.int 0)) 0 4 (.int 0)) 0 5 (.int 200) := hV5
  have E : eh_e _ _ 12 lo [] _ rs h' := E
  have E := E.ld (p := 13) (t := ri_isA) (i := 0) (n := 1) (v := .ref 0) rfl (e := (.aload_n 0, 1, [], .null)) rfl rfl (fun _ _ => rfl) l0 rfl
  have E := E.pu (p := 14) (lo' := lo) (st' := [.int 0, .ref 0]) rfl (e := (.iconst 0, 1, [], .null)) rfl rfl (fun _ _ => rfl)
  obtain ⟨h7, hV8, hN9, E⟩ := E.gp (p := 17) rfl (x := 162) (m := 3) (w := .null) (t := 12) (i := 15) (u := 1339) (y := 0) rfl rfl hV5
  have E := E.ld (p := 18) (t := ri_isA) (i := 0) (n := 1) (v := .ref 0) rfl (e := (.aload_n 0, 1, [], .null)) rfl rfl (fun _ _ => rfl) l0 rfl
  have E := E.pu (p := 19) (lo' := lo) (st' := [.int 0, .ref 0]) rfl (e := (.iconst 0, 1, [], .null)) rfl rfl (fun _ _ => rfl)
  obtain ⟨h10, hV11, hN12, E⟩ := E.gp (p := 22) rfl (x := 397) (m := 3) (w := .null) (t := 12) (i := 39) (u := 1363) (y := 0) rfl rfl hV8
  have E := E.ld (p := 23) (t := ri_isA) (i := 0) (n := 1) (v := .ref 0) rfl (e := (.aload_n 0, 1, [], .null)) rfl rfl (fun _ _ => rfl) l0 rfl
  have E := E.pu (p := 24) (lo' := lo) (st' := [.int 0, .ref 0]) rfl (e := (.iconst 0, 1, [], .null)) rfl rfl (fun _ _ => rfl)
  obtain ⟨h13, hV14, hN15, E⟩ := E.gp (p := 27) rfl (x := 413) (m := 3) (w := .null) (t := 12) (i := 40) (u := 1364) (y := 0) rfl rfl hV11
  have E := E.ld (p := 28) (t := ri_isA) (i := 0) (n := 1) (v := .ref 0) rfl (e := (.aload_n 0, 1, [], .null)) rfl rfl (fun _ _ => rfl) l0 rfl
  have E := E.pu (p := 29) (lo' := lo) (st' := [.int 0, .ref 0]) rfl (e := (.iconst 0, 1, [], .null)) rfl rfl (fun _ _ => rfl)
  obtain ⟨h16, hV17, hN18, E⟩ := E.gp (p := 32) rfl (x := 400) (m := 3) (w := .null) (t := 12) (i := 41) (u := 1365) (y := 0) rfl rfl hV14
  have E := E.ld (p := 33) (t := ri_isA) (i := 0) (n := 1) (v := .ref 0) rfl (e := (.aload_n 0, 1, [], .null)) rfl rfl (fun _ _ => rfl) l0 rfl
  have E := E.pu (p := 34) (lo' := lo) (st' := [.int 1, .ref 0]) rfl (e := (.iconst 1, 1, [], .null)) rfl rfl (fun _ _ => rfl)
  obtain ⟨h19, hV20, hN21, E⟩ := E.gp (p := 37) rfl (x := 407) (m := 3) (w := .null) (t := 12) (i := 42) (u := 1366) (y := 0) rfl rfl hV17
  have E := E.ld (p := 38) (t := ri_isA) (i := 0) (n := 1) (v := .ref 0) rfl (e := (.aload_n 0, 1, [], .null)) rfl rfl (fun _ _ => rfl) l0 rfl
  have E := E.pu (p := 39) (lo' := lo) (st' := [.int 0, .ref 0]) rfl (e := (.iconst 0, 1, [], .null)) rfl rfl (fun _ _ => rfl)
  obtain ⟨h22, hV23, hN24, E⟩ := E.gp (p := 42) rfl (x := 416) (m := 3) (w := .null) (t := 12) (i := 43) (u := 1367) (y := 1) rfl rfl hV20
  exact ⟨_, _, E, hV23, (hN24.trans (hN21.trans (hN18.trans (hN15.trans (hN12.trans (hN9.trans (hN6.trans hN3))))))), (((((((((((ty.ui rfl).ui rfl).ui rfl).ui rfl).ui rfl).ui rfl).ui rfl).ui rfl).ui rfl).ui rfl).ui rfl), l0⟩
theorem zt_b {d : Nat} {lo : List (Nat × Value)} {h h' : ri_H} {rs : List Value} {G : eh_W} {b : Nat → Int32} {n m : Nat} (E : eh_e (ri_calE ri_md (d + 2)) md_248 42 lo [] h rs h') (hV : eh_V h = G) (iv : iT b n m G) (l0 : ri_lk lo 0 = some (.ref 0)) : ∃ (h1 : ri_H), ri_calE ri_md (d + 2) 158 [.ref 0] h = some (none, h1) ∧ iT b n m (eh_V h1) ∧ ∃ hz loz, eh_e (ri_calE ri_md (d + 2)) md_248 48 loz [] hz rs h' ∧ eh_V hz = (eh_V h1) ∧ eh_N hz = eh_N h ∧ iT b n m (eh_V h1) ∧ ri_lk loz 0 = some (.ref 0) ∧ ri_lk loz 1 = some (.int 1) := by
  have E := E.ld (p := 43) (t := ri_isA) (i := 0) (n := 1) (v := .ref 0) rfl (e := (.aload_n 0, 1, [], .null)) rfl rfl (fun _ _ => rfl) l0 rfl
  obtain ⟨v1, h1, X, E⟩ := E.cv (p := 46) (as := []) (b := 0) (r := []) rfl (x := 174) (m := 3) (w := .null) (j := 158) (n := 0) (t := 12) (u := [1478, 35, 1480]) rfl rfl rfl
  obtain ⟨rfl, ivk2, hNk2⟩ := ts_158 (d := d) X (by rw [hV]; exact iv)
  have Xk2 := X
  have E : eh_e _ _ 46 lo [] h1 rs h' := E
  have E := E.pu (p := 47) (lo' := lo) (st' := [.int 1]) rfl (e := (.iconst 1, 1, [], .null)) rfl rfl (fun _ _ => rfl)
  have E := E.so (p := 48) (t := ri_isI) (i := 1) (n := 1) rfl (e := (.istore_n 1, 1, [], .null)) rfl rfl (fun _ _ => rfl) rfl
  have k3_1 : ri_lk (ri_st1 lo 1 (.int 1)) 1 = some (.int 1) := eh_self
  have k3_0 : ri_lk (ri_st1 lo 1 (.int 1)) 0 = some (.ref 0) := eh_keep (by decide) (Or.inl rfl) l0
  exact ⟨h1, Xk2, ivk2, _, _, E, (rfl : eh_V h1 = eh_V h1), hNk2, ivk2, k3_0, k3_1⟩
theorem zx_a {cal : eh_K} {lo : List (Nat × Value)} {h h' : ri_H} {rs : List Value} {G : eh_W} (E : eh_e cal md_139 0 lo [] h rs h') (hV : eh_V h = G) (ty : eh_ty tC G) (l0 : ri_lk lo 0 = some (.ref 0)) : ∃ h1 loz v1 hz, eh_V h1 = G ∧ eh_N h1 = eh_N h ∧ eh_ty tC G ∧ cal 105 [.ref 0, .int 200] h1 = some (v1, hz) ∧ eh_e cal md_139 7 loz (v1.toList ++ []) hz rs h' ∧ ri_lk loz 0 = some (.ref 0) := by
  have E := E.ld (p := 1) (t := ri_isA) (i := 0) (n := 1) (v := .ref 0) rfl (e := (.aload_n 0, 1, [], .null)) rfl rfl (fun _ _ => rfl) l0 rfl
  have E := E.pu (p := 4) (lo' := lo) (st' := [.int 200, .ref 0]) rfl (e := (.sipush 200, 3, [], .null)) rfl rfl (fun _ _ => rfl)
  obtain ⟨v1, h1, X, E⟩ := E.cv (p := 7) (as := [.int 200]) (b := 0) (r := []) rfl (x := 115) (m := 3) (w := .null) (j := 105) (n := 1) (t := 11) (u := [635, 1, 637]) rfl rfl rfl
  exact ⟨_, _, _, _, hV, rfl, ty, X, E, l0⟩
theorem zx_c {cal : eh_K} {lo : List (Nat × Value)} {h h' : ri_H} {rs : List Value} {G : eh_W} (E : eh_e cal md_139 7 lo [] h rs h') (hV : eh_V h = G) (ty : eh_ty tC G) (l0 : ri_lk lo 0 = some (.ref 0)) : ∃ h1 loz v1 hz, eh_V h1 = G ∧ eh_N h1 = eh_N h ∧ eh_ty tC G ∧ cal 95 [.ref 17, .ref 23] h1 = some (v1, hz) ∧ eh_e cal md_139 18 loz (v1.toList ++ []) hz rs h' ∧ ri_lk loz 0 = some (.ref 0) := by
  have E := E.ld (p := 8) (t := ri_isA) (i := 0) (n := 1) (v := .ref 0) rfl (e := (.aload_n 0, 1, [], .null)) rfl rfl (fun _ _ => rfl) l0 rfl
  have E := E.gr (n := 17) (p := 11) rfl (x := 38) (m := 3) (w := .null) (t := 11) (i := 4) (u := 571) rfl rfl hV ty rfl
  have E := E.ld (p := 12) (t := ri_isA) (i := 0) (n := 1) (v := .ref 0) rfl (e := (.aload_n 0, 1, [], .null)) rfl rfl (fun _ _ => rfl) l0 rfl
  have E := E.gr (n := 23) (p := 15) rfl (x := 45) (m := 3) (w := .null) (t := 11) (i := 5) (u := 572) rfl rfl hV ty rfl
  obtain ⟨v1, h1, X, E⟩ := E.cv (p := 18) (as := [.ref 23]) (b := 17) (r := []) rfl (x := 344) (m := 3) (w := .null) (j := 95) (n := 1) (t := 10) (u := [1129, 1131, 1130]) rfl rfl rfl
  exact ⟨_, _, _, _, hV, rfl, ty, X, E, l0⟩
theorem zs_87 {d : Nat} {h h' : ri_H} {v : Option Value} {G : eh_W} (E : ri_calE ri_md (d + 1) 87 [.ref 137, .ref 18] h = some (v, h')) (hV : eh_V h = G) (ty : eh_ty tC G) (hl : (eh_N h).take 209 = NCl) : v = none ∧ eh_V h' = eh_cp (eh_cp (eh_cp (eh_u (eh_u G 137 0 (.int (eh_i G 18 0))) 137 1 (.int (eh_i G 18 1))) 19 138 40) 20 139 40) 21 140 40 ∧ eh_N h' = eh_N h := by
  obtain ⟨rs, hrs, E⟩ := eh_in E (q := md_87) rfl
  have E := E.ld (p := 1) (t := ri_isA) (i := 0) (n := 1) (v := .ref 137) rfl (e := (.aload_n 0, 1, [], .null)) rfl rfl (fun _ _ => rfl) rfl rfl
  have E := E.ld (p := 2) (t := ri_isA) (i := 1) (n := 1) (v := .ref 18) rfl (e := (.aload_n 1, 1, [], .null)) rfl rfl (fun _ _ => rfl) rfl rfl
  have E := E.gi (y := eh_i G 18 0) (p := 5) rfl (x := 9) (m := 3) (w := .null) (t := 9) (i := 0) (u := 345) rfl rfl hV ty rfl rfl
  obtain ⟨h1, hV2, hN3, E⟩ := E.gp (p := 8) rfl (x := 9) (m := 3) (w := .null) (t := 9) (i := 0) (u := 345) (y := 0) rfl rfl hV
  have E := E.ld (p := 9) (t := ri_isA) (i := 0) (n := 1) (v := .ref 137) rfl (e := (.aload_n 0, 1, [], .null)) rfl rfl (fun _ _ => rfl) rfl rfl
  have E := E.ld (p := 10) (t := ri_isA) (i := 1) (n := 1) (v := .ref 18) rfl (e := (.aload_n 1, 1, [], .null)) rfl rfl (fun _ _ => rfl) rfl rfl
  have E := E.gi (y := eh_i G 18 1) (p := 13) rfl (x := 15) (m := 3) (w := .null) (t := 9) (i := 1) (u := 348) rfl rfl hV2 (ty.ui rfl) rfl rfl
  obtain ⟨h4, hV5, hN6, E⟩ := E.gp (p := 16) rfl (x := 15) (m := 3) (w := .null) (t := 9) (i := 1) (u := 348) (y := 0) rfl rfl hV2
  have E := E.ld (p := 17) (t := ri_isA) (i := 1) (n := 1) (v := .ref 18) rfl (e := (.aload_n 1, 1, [], .null)) rfl rfl (fun _ _ => rfl) rfl rfl
  have E := E.gr (n := 19) (p := 20) rfl (x := 18) (m := 3) (w := .null) (t := 9) (i := 2) (u := 349) rfl rfl hV5 ((ty.ui rfl).ui rfl) rfl
  have E := E.pu (p := 21) (lo' := (ri_as 0 [.ref 137, .ref 18])) (st' := [.int 0, .ref 19]) rfl (e := (.iconst 0, 1, [], .null)) rfl rfl (fun _ _ => rfl)
  have E := E.ld (p := 22) (t := ri_isA) (i := 0) (n := 1) (v := .ref 137) rfl (e := (.aload_n 0, 1, [], .null)) rfl rfl (fun _ _ => rfl) rfl rfl
  have E := E.gr (n := 138) (p := 25) rfl (x := 18) (m := 3) (w := .null) (t := 9) (i := 2) (u := 349) rfl rfl hV5 ((ty.ui rfl).ui rfl) rfl
  have E := E.pu (p := 26) (lo' := (ri_as 0 [.ref 137, .ref 18])) (st' := [.int 0, .ref 138, .int 0, .ref 19]) rfl (e := (.iconst 0, 1, [], .null)) rfl rfl (fun _ _ => rfl)
  have E := E.pu (p := 28) (lo' := (ri_as 0 [.ref 137, .ref 18])) (st' := [.int 40, .int 0, .ref 138, .int 0, .ref 19]) rfl (e := (.bipush 40, 2, [], .null)) rfl rfl (fun _ _ => rfl)
  obtain ⟨h7, hV8, hN9, E⟩ := E.cr (p := 31) (n := 40) (a := 19) (b := 138) (st := []) rfl (x := 31) (m := 3) (w := .null) (u := [1165]) rfl rfl (by decide) hV5
  have E := E.ld (p := 32) (t := ri_isA) (i := 1) (n := 1) (v := .ref 18) rfl (e := (.aload_n 1, 1, [], .null)) rfl rfl (fun _ _ => rfl) rfl rfl
  have E := E.gr (n := 20) (p := 35) rfl (x := 22) (m := 3) (w := .null) (t := 9) (i := 3) (u := 350) rfl rfl hV8 (((ty.ui rfl).ui rfl).cr rfl rfl) rfl
  have E := E.pu (p := 36) (lo' := (ri_as 0 [.ref 137, .ref 18])) (st' := [.int 0, .ref 20]) rfl (e := (.iconst 0, 1, [], .null)) rfl rfl (fun _ _ => rfl)
  have E := E.ld (p := 37) (t := ri_isA) (i := 0) (n := 1) (v := .ref 137) rfl (e := (.aload_n 0, 1, [], .null)) rfl rfl (fun _ _ => rfl) rfl rfl
  have E := E.gr (n := 139) (p := 40) rfl (x := 22) (m := 3) (w := .null) (t := 9) (i := 3) (u := 350) rfl rfl hV8 (((ty.ui rfl).ui rfl).cr rfl rfl) rfl
  have E := E.pu (p := 41) (lo' := (ri_as 0 [.ref 137, .ref 18])) (st' := [.int 0, .ref 139, .int 0, .ref 20]) rfl (e := (.iconst 0, 1, [], .null)) rfl rfl (fun _ _ => rfl)
  have E := E.pu (p := 43) (lo' := (ri_as 0 [.ref 137, .ref 18])) (st' := [.int 40, .int 0, .ref 139, .int 0, .ref 20]) rfl (e := (.bipush 40, 2, [], .null)) rfl rfl (fun _ _ => rfl)
  obtain ⟨h10, hV11, hN12, E⟩ := E.cr (p := 46) (n := 40) (a := 20) (b := 139) (st := []) rfl (x := 31) (m := 3) (w := .null) (u := [1165]) rfl rfl (by decide) hV8
  have E := E.ld (p := 47) (t := ri_isA) (i := 1) (n := 1) (v := .ref 18) rfl (e := (.aload_n 1, 1, [], .null)) rfl rfl (fun _ _ => rfl) rfl rfl
  have E := E.gr (n := 21) (p := 50) rfl (x := 25) (m := 3) (w := .null) (t := 9) (i := 4) (u := 351) rfl rfl hV11 ((((ty.ui rfl).ui rfl).cr rfl rfl).cr rfl rfl) rfl
  have E := E.pu (p := 51) (lo' := (ri_as 0 [.ref 137, .ref 18])) (st' := [.int 0, .ref 21]) rfl (e := (.iconst 0, 1, [], .null)) rfl rfl (fun _ _ => rfl)
  have E := E.ld (p := 52) (t := ri_isA) (i := 0) (n := 1) (v := .ref 137) rfl (e := (.aload_n 0, 1, [], .null)) rfl rfl (fun _ _ => rfl) rfl rfl
  have E := E.gr (n := 140) (p := 55) rfl (x := 25) (m := 3) (w := .null) (t := 9) (i := 4) (u := 351) rfl rfl hV11 ((((ty.ui rfl).ui rfl).cr rfl rfl).cr rfl rfl) rfl
  have E := E.pu (p := 56) (lo' := (ri_as 0 [.ref 137, .ref 18])) (st' := [.int 0, .ref 140, .int 0, .ref 21]) rfl (e := (.iconst 0, 1, [], .null)) rfl rfl (fun _ _ => rfl)
  have E := E.pu (p := 58) (lo' := (ri_as 0 [.ref 137, .ref 18])) (st' := [.int 40, .int 0, .ref 140, .int 0, .ref 21]) rfl (e := (.bipush 40, 2, [], .null)) rfl rfl (fun _ _ => rfl)
  obtain ⟨h13, hV14, hN15, E⟩ := E.cr (p := 61) (n := 40) (a := 21) (b := 140) (st := []) rfl (x := 31) (m := 3) (w := .null) (u := [1165]) rfl rfl (by decide) hV11
  obtain ⟨r1, r2⟩ := E.retv rfl (m := 1) (ax := []) (w := .null) rfl
  exact ⟨(by rw [← hrs, r1]; rfl), ((congrArg eh_V r2).trans hV14), ((congrArg eh_N r2).trans (hN15.trans (hN12.trans (hN9.trans (hN6.trans hN3)))))⟩
theorem zx_b {d : Nat} {lo : List (Nat × Value)} {h h' : ri_H} {rs : List Value} {G : eh_W} {x : Int32} (E : eh_e (ri_calE ri_md (d + 1)) md_139 18 lo [.int x] h rs h') (hV : eh_V h = G) (ty : eh_ty tC G) (l0 : ri_lk lo 0 = some (.ref 0)) (hl : (eh_N h).take 209 = NCl) : (¬ (x = 0) ∧ rs = [.int (eh_i G 18 0)] ∧ eh_V h' = eh_cp (eh_cp (eh_cp (eh_u (eh_u (eh_u G 0 15 (.int (eh_i G 2 9))) 137 0 (.int (eh_i G 18 0))) 137 1 (.int (eh_i G 18 1))) 19 138 40) 20 139 40) 21 140 40 ∧ eh_N h' = eh_N h) ∨ (x = 0 ∧ rs = [.int ((-1) - (eh_i G 2 10))] ∧ eh_V h' = eh_u G 0 15 (.int (eh_i G 2 9)) ∧ eh_N h' = eh_N h) := by
  have E := E.so (p := 19) (t := ri_isI) (i := 1) (n := 1) rfl (e := (.istore_n 1, 1, [], .null)) rfl rfl (fun _ _ => rfl) rfl
  have k1_1 : ri_lk (ri_st1 lo 1 (.int x)) 1 = some (.int x) := eh_self
  have k1_0 : ri_lk (ri_st1 lo 1 (.int x)) 0 = some (.ref 0) := eh_keep (by decide) (Or.inl rfl) l0
  have E := E.ld (p := 20) (t := ri_isA) (i := 0) (n := 1) (v := .ref 0) rfl (e := (.aload_n 0, 1, [], .null)) rfl rfl (fun _ _ => rfl) k1_0 rfl
  have E := E.ld (p := 21) (t := ri_isA) (i := 0) (n := 1) (v := .ref 0) rfl (e := (.aload_n 0, 1, [], .null)) rfl rfl (fun _ _ => rfl) k1_0 rfl
  have E := E.gr (n := 2) (p := 24) rfl (x := 22) (m := 3) (w := .null) (t := 11) (i := 2) (u := 569) rfl rfl hV ty rfl
  have E := E.gi (y := eh_i G 2 9) (p := 27) rfl (x := 122) (m := 3) (w := .null) (t := 8) (i := 9) (u := 205) rfl rfl hV ty rfl rfl
  obtain ⟨h2, hV3, hN4, E⟩ := E.gp (p := 30) rfl (x := 105) (m := 3) (w := .null) (t := 11) (i := 15) (u := 582) (y := 0) rfl rfl hV
  have E := E.ld (p := 31) (t := ri_isI) (i := 1) (n := 1) (v := .int x) rfl (e := (.iload_n 1, 1, [], .null)) rfl rfl (fun _ _ => rfl) k1_1 rfl
  rcases eh_q1 (E.br (p := 34) (c := 1) (tgt := 44) (a := x) (b := 0) (st' := []) rfl (e := (.ifCond .ne 13, 3, [44], .null)) rfl rfl (fun _ _ => rfl) rfl) with ⟨c5, E⟩ | ⟨c5, E⟩
  · skip
    have E := E.ld (p := 45) (t := ri_isA) (i := 0) (n := 1) (v := .ref 0) rfl (e := (.aload_n 0, 1, [], .null)) rfl rfl (fun _ _ => rfl) k1_0 rfl
    have E := E.gr (n := 137) (p := 48) rfl (x := 69) (m := 3) (w := .null) (t := 11) (i := 9) (u := 576) rfl rfl hV3 (ty.ui rfl) rfl
    have E := E.ld (p := 49) (t := ri_isA) (i := 0) (n := 1) (v := .ref 0) rfl (e := (.aload_n 0, 1, [], .null)) rfl rfl (fun _ _ => rfl) k1_0 rfl
    have E := E.gr (n := 17) (p := 52) rfl (x := 38) (m := 3) (w := .null) (t := 11) (i := 4) (u := 571) rfl rfl hV3 (ty.ui rfl) rfl
    have E := E.gr (n := 18) (p := 55) rfl (x := 348) (m := 3) (w := .null) (t := 10) (i := 1) (u := 368) rfl rfl hV3 (ty.ui rfl) rfl
    obtain ⟨v1, h6, X, E⟩ := E.cv (p := 58) (as := [.ref 18]) (b := 137) (r := []) rfl (x := 350) (m := 3) (w := .null) (j := 87) (n := 1) (t := 9) (u := [1161, 1163, 1162]) rfl rfl rfl
    rcases zs_87 (d := d) X hV3 (ty.ui rfl) (by rw [hN4]; exact hl) with ⟨rfl, hV7, hN8⟩
    have hV7 : _ = eh_cp (eh_cp (eh_cp (eh_u (eh_u (eh_u G 0 15 (.int (eh_i G 2 9))) 137 0 (.int (eh_i G 18 0))) 137 1 (.int (eh_i G 18 1))) 19 138 40) 20 139 40) 21 140 40 := hV7
    have E : eh_e _ _ 58 (ri_st1 lo 1 (.int x)) [] _ rs h' := E
    have E := E.ld (p := 59) (t := ri_isA) (i := 0) (n := 1) (v := .ref 0) rfl (e := (.aload_n 0, 1, [], .null)) rfl rfl (fun _ _ => rfl) k1_0 rfl
    have E := E.gr (n := 137) (p := 62) rfl (x := 69) (m := 3) (w := .null) (t := 11) (i := 9) (u := 576) rfl rfl hV7 ((((((ty.ui rfl).ui rfl).ui rfl).cr rfl rfl).cr rfl rfl).cr rfl rfl) rfl
    have E := E.gi (y := eh_i G 18 0) (p := 65) rfl (x := 353) (m := 3) (w := .null) (t := 9) (i := 0) (u := 347) rfl rfl hV7 ((((((ty.ui rfl).ui rfl).ui rfl).cr rfl rfl).cr rfl rfl).cr rfl rfl) rfl rfl
    obtain ⟨r1, r2⟩ := E.reti rfl (m := 1) (ax := []) (w := .null) rfl
    exact Or.inl ⟨c5, r1, ((congrArg eh_V r2).trans hV7), ((congrArg eh_N r2).trans (hN8.trans hN4))⟩
  · skip
    have E := E.pu (p := 35) (lo' := (ri_st1 lo 1 (.int x))) (st' := [.int (-1)]) rfl (e := (.iconst (-1), 1, [], .null)) rfl rfl (fun _ _ => rfl)
    have E := E.ld (p := 36) (t := ri_isA) (i := 0) (n := 1) (v := .ref 0) rfl (e := (.aload_n 0, 1, [], .null)) rfl rfl (fun _ _ => rfl) k1_0 rfl
    have E := E.gr (n := 2) (p := 39) rfl (x := 22) (m := 3) (w := .null) (t := 11) (i := 2) (u := 569) rfl rfl hV3 (ty.ui rfl) rfl
    have E := E.gi (y := eh_i G 2 10) (p := 42) rfl (x := 125) (m := 3) (w := .null) (t := 8) (i := 10) (u := 207) rfl rfl hV3 (ty.ui rfl) rfl rfl
    have E := E.pu (p := 43) (lo' := (ri_st1 lo 1 (.int x))) (st' := [.int ((-1) - (eh_i G 2 10))]) rfl (e := (.isub, 1, [], .null)) rfl rfl (fun _ _ => rfl)
    obtain ⟨r1, r2⟩ := E.reti rfl (m := 1) (ax := []) (w := .null) rfl
    exact Or.inr (⟨c5, r1, ((congrArg eh_V r2).trans hV3), ((congrArg eh_N r2).trans hN4)⟩)
