theorem sp_148 {d : Nat} {h h' : ri_H} {v : Option Value} {G : eh_W} {mo : Int32} (E : ri_calE ri_md (d + 1) 148 [.ref 0, .int mo] h = some (v, h')) (hV : eh_V h = G) (ty : eh_ty tM G) : v = none ∧ eh_V h' = eh_u (eh_u (eh_u (eh_u G 0 3 (.int (eh_i G 0 2))) 0 2 (.int 0)) 0 4 (.int 0)) 0 5 (.int mo) ∧ eh_N h' = eh_N h := by
  obtain ⟨rs, hrs, E⟩ := eh_in E (q := md_148) rfl
  have E := E.ld (p := 1) (t := ri_isA) (i := 0) (n := 1) (v := .ref 0) rfl (e := (.aload_n 0, 1, [], .null)) rfl rfl (fun _ _ => rfl) rfl rfl
  have E := E.ld (p := 2) (t := ri_isA) (i := 0) (n := 1) (v := .ref 0) rfl (e := (.aload_n 0, 1, [], .null)) rfl rfl (fun _ _ => rfl) rfl rfl
  have E := E.gi (y := eh_i G 0 2) (p := 5) rfl (x := 7) (m := 3) (w := .null) (t := 12) (i := 2) (u := 1326) rfl rfl hV ty rfl rfl
  obtain ⟨h1, hV2, hN3, E⟩ := E.gp (p := 8) rfl (x := 18) (m := 3) (w := .null) (t := 12) (i := 3) (u := 1327) (y := 0) rfl rfl hV
  have E := E.ld (p := 9) (t := ri_isA) (i := 0) (n := 1) (v := .ref 0) rfl (e := (.aload_n 0, 1, [], .null)) rfl rfl (fun _ _ => rfl) rfl rfl
  have E := E.pu (p := 10) (lo' := (ri_as 0 [.ref 0, .int mo])) (st' := [.int 0, .ref 0]) rfl (e := (.iconst 0, 1, [], .null)) rfl rfl (fun _ _ => rfl)
  obtain ⟨h4, hV5, hN6, E⟩ := E.gp (p := 13) rfl (x := 7) (m := 3) (w := .null) (t := 12) (i := 2) (u := 1326) (y := 0) rfl rfl hV2
  have E := E.ld (p := 14) (t := ri_isA) (i := 0) (n := 1) (v := .ref 0) rfl (e := (.aload_n 0, 1, [], .null)) rfl rfl (fun _ _ => rfl) rfl rfl
  have E := E.pu (p := 15) (lo' := (ri_as 0 [.ref 0, .int mo])) (st' := [.int 0, .ref 0]) rfl (e := (.iconst 0, 1, [], .null)) rfl rfl (fun _ _ => rfl)
  obtain ⟨h7, hV8, hN9, E⟩ := E.gp (p := 18) rfl (x := 21) (m := 3) (w := .null) (t := 12) (i := 4) (u := 1328) (y := 0) rfl rfl hV5
  have E := E.ld (p := 19) (t := ri_isA) (i := 0) (n := 1) (v := .ref 0) rfl (e := (.aload_n 0, 1, [], .null)) rfl rfl (fun _ _ => rfl) rfl rfl
  have E := E.ld (p := 20) (t := ri_isI) (i := 1) (n := 1) (v := .int mo) rfl (e := (.iload_n 1, 1, [], .null)) rfl rfl (fun _ _ => rfl) rfl rfl
  obtain ⟨h10, hV11, hN12, E⟩ := E.gp (p := 23) rfl (x := 24) (m := 3) (w := .null) (t := 12) (i := 5) (u := 1329) (y := 0) rfl rfl hV8
  obtain ⟨r1, r2⟩ := E.retv rfl (m := 1) (ax := []) (w := .null) rfl
  exact ⟨(by rw [← hrs, r1]; rfl), ((congrArg eh_V r2).trans hV11), ((congrArg eh_N r2).trans (hN12.trans (hN9.trans (hN6.trans hN3))))⟩
theorem cl_a {cal : eh_K} {lo : List (Nat × Value)} {h h' : ri_H} {rs : List Value} {G : eh_W} (E : eh_e cal md_154 0 lo [] h rs h') (hV : eh_V h = G) (ty : eh_ty tM G) (l0 : ri_lk lo 0 = some (.ref 0)) : ∃ hz loz, eh_e cal md_154 2 loz [] hz rs h' ∧ eh_V hz = G ∧ eh_N hz = eh_N h ∧ eh_ty tM G ∧ ri_lk loz 0 = some (.ref 0) ∧ ri_lk loz 1 = some (.int 0) := by
  have E := E.pu (p := 1) (lo' := lo) (st' := [.int 0]) rfl (e := (.iconst 0, 1, [], .null)) rfl rfl (fun _ _ => rfl)
  have E := E.so (p := 2) (t := ri_isI) (i := 1) (n := 1) rfl (e := (.istore_n 1, 1, [], .null)) rfl rfl (fun _ _ => rfl) rfl
  have k1_1 : ri_lk (ri_st1 lo 1 (.int 0)) 1 = some (.int 0) := eh_self
  have k1_0 : ri_lk (ri_st1 lo 1 (.int 0)) 0 = some (.ref 0) := eh_keep (by decide) (Or.inl rfl) l0
  exact ⟨_, _, E, hV, rfl, ty, k1_0, k1_1⟩
theorem cl_i {cal : eh_K} {lo : List (Nat × Value)} {h h' : ri_H} {rs : List Value} {G : eh_W} {k : Int32} (E : eh_e cal md_154 2 lo [] h rs h') (hV : eh_V h = G) (ty : eh_ty tM G) (l0 : ri_lk lo 0 = some (.ref 0)) (l1 : ri_lk lo 1 = some (.int k)) : (¬ (k.toInt < 96) ∧ rs = [] ∧ eh_V h' = eh_u (eh_u (eh_u (eh_u G 3 0 (.int 4)) 3 1 (.int 3)) 3 2 (.int 20)) 3 8 (.int (-1)) ∧ eh_N h' = eh_N h) ∨ (k.toInt < 96 ∧ ∃ hz loz, eh_e cal md_154 2 loz [] hz rs h' ∧ eh_V hz = eh_u G 3 (k).toNatClampNeg (.int 0) ∧ eh_N hz = eh_N h ∧ eh_ty tM (eh_u G 3 (k).toNatClampNeg (.int 0)) ∧ ri_lk loz 0 = some (.ref 0) ∧ ri_lk loz 1 = some (.int (k + 1))) := by
  have E := E.ld (p := 3) (t := ri_isI) (i := 1) (n := 1) (v := .int k) rfl (e := (.iload_n 1, 1, [], .null)) rfl rfl (fun _ _ => rfl) l1 rfl
  have E := E.pu (p := 5) (lo' := lo) (st' := [.int 96, .int k]) rfl (e := (.bipush 96, 2, [], .null)) rfl rfl (fun _ _ => rfl)
  rcases eh_r3 rfl (show (96 : Int32).toInt = 96 by decide) (E.br (p := 8) (c := 3) (tgt := 21) (a := k) (b := 96) (st' := []) rfl (e := (.if_icmp .ge 16, 3, [21], .null)) rfl rfl (fun _ _ => rfl) rfl) with ⟨c1, E⟩ | ⟨c1, E⟩
  · skip
    have E := E.ld (p := 22) (t := ri_isA) (i := 0) (n := 1) (v := .ref 0) rfl (e := (.aload_n 0, 1, [], .null)) rfl rfl (fun _ _ => rfl) l0 rfl
    have E := E.gr (n := 3) (p := 25) rfl (x := 37) (m := 3) (w := .null) (t := 12) (i := 7) (u := 1331) rfl rfl hV ty rfl
    have E := E.pu (p := 26) (lo' := lo) (st' := [.int 0, .ref 3]) rfl (e := (.iconst 0, 1, [], .null)) rfl rfl (fun _ _ => rfl)
    have E := E.pu (p := 27) (lo' := lo) (st' := [.int 4, .int 0, .ref 3]) rfl (e := (.iconst 4, 1, [], .null)) rfl rfl (fun _ _ => rfl)
    obtain ⟨h2, hV3, hN4, E⟩ := E.aw (gg := ri_g1) (b := true) (p := 28) (n := 0) rfl (e := (.iastore, 1, [], .null)) rfl rfl (fun _ _ => rfl) rfl hV (by decide)
    have E := E.ld (p := 29) (t := ri_isA) (i := 0) (n := 1) (v := .ref 0) rfl (e := (.aload_n 0, 1, [], .null)) rfl rfl (fun _ _ => rfl) l0 rfl
    have E := E.gr (n := 3) (p := 32) rfl (x := 37) (m := 3) (w := .null) (t := 12) (i := 7) (u := 1331) rfl rfl hV3 (ty.ui rfl) rfl
    have E := E.pu (p := 33) (lo' := lo) (st' := [.int 1, .ref 3]) rfl (e := (.iconst 1, 1, [], .null)) rfl rfl (fun _ _ => rfl)
    have E := E.pu (p := 34) (lo' := lo) (st' := [.int 3, .int 1, .ref 3]) rfl (e := (.iconst 3, 1, [], .null)) rfl rfl (fun _ _ => rfl)
    obtain ⟨h5, hV6, hN7, E⟩ := E.aw (gg := ri_g1) (b := true) (p := 35) (n := 1) rfl (e := (.iastore, 1, [], .null)) rfl rfl (fun _ _ => rfl) rfl hV3 (by decide)
    have E := E.ld (p := 36) (t := ri_isA) (i := 0) (n := 1) (v := .ref 0) rfl (e := (.aload_n 0, 1, [], .null)) rfl rfl (fun _ _ => rfl) l0 rfl
    have E := E.gr (n := 3) (p := 39) rfl (x := 37) (m := 3) (w := .null) (t := 12) (i := 7) (u := 1331) rfl rfl hV6 ((ty.ui rfl).ui rfl) rfl
    have E := E.pu (p := 40) (lo' := lo) (st' := [.int 2, .ref 3]) rfl (e := (.iconst 2, 1, [], .null)) rfl rfl (fun _ _ => rfl)
    have E := E.pu (p := 42) (lo' := lo) (st' := [.int 20, .int 2, .ref 3]) rfl (e := (.bipush 20, 2, [], .null)) rfl rfl (fun _ _ => rfl)
    obtain ⟨h8, hV9, hN10, E⟩ := E.aw (gg := ri_g1) (b := true) (p := 43) (n := 2) rfl (e := (.iastore, 1, [], .null)) rfl rfl (fun _ _ => rfl) rfl hV6 (by decide)
    have E := E.ld (p := 44) (t := ri_isA) (i := 0) (n := 1) (v := .ref 0) rfl (e := (.aload_n 0, 1, [], .null)) rfl rfl (fun _ _ => rfl) l0 rfl
    have E := E.gr (n := 3) (p := 47) rfl (x := 37) (m := 3) (w := .null) (t := 12) (i := 7) (u := 1331) rfl rfl hV9 (((ty.ui rfl).ui rfl).ui rfl) rfl
    have E := E.pu (p := 49) (lo' := lo) (st' := [.int 8, .ref 3]) rfl (e := (.bipush 8, 2, [], .null)) rfl rfl (fun _ _ => rfl)
    have E := E.pu (p := 50) (lo' := lo) (st' := [.int (-1), .int 8, .ref 3]) rfl (e := (.iconst (-1), 1, [], .null)) rfl rfl (fun _ _ => rfl)
    obtain ⟨h11, hV12, hN13, E⟩ := E.aw (gg := ri_g1) (b := true) (p := 51) (n := 8) rfl (e := (.iastore, 1, [], .null)) rfl rfl (fun _ _ => rfl) rfl hV9 (by decide)
    obtain ⟨r1, r2⟩ := E.retv rfl (m := 1) (ax := []) (w := .null) rfl
    exact Or.inl ⟨c1, r1, ((congrArg eh_V r2).trans hV12), ((congrArg eh_N r2).trans (hN13.trans (hN10.trans (hN7.trans hN4))))⟩
  · skip
    have E := E.ld (p := 9) (t := ri_isA) (i := 0) (n := 1) (v := .ref 0) rfl (e := (.aload_n 0, 1, [], .null)) rfl rfl (fun _ _ => rfl) l0 rfl
    have E := E.gr (n := 3) (p := 12) rfl (x := 37) (m := 3) (w := .null) (t := 12) (i := 7) (u := 1331) rfl rfl hV ty rfl
    have E := E.ld (p := 13) (t := ri_isI) (i := 1) (n := 1) (v := .int k) rfl (e := (.iload_n 1, 1, [], .null)) rfl rfl (fun _ _ => rfl) l1 rfl
    have E := E.pu (p := 14) (lo' := lo) (st' := [.int 0, .int k, .ref 3]) rfl (e := (.iconst 0, 1, [], .null)) rfl rfl (fun _ _ => rfl)
    obtain ⟨h14, hV15, hN16, E⟩ := E.aw (gg := ri_g1) (b := true) (p := 15) (n := (k).toNatClampNeg) rfl (e := (.iastore, 1, [], .null)) rfl rfl (fun _ _ => rfl) rfl hV rfl
    have E := E.ii (p := 18) (y := k + 1) rfl (i := 1) (n := 1) (m := 3) (ax := []) (w := .null) rfl l1 rfl rfl
    have k17_1 : ri_lk (ri_st1 lo 1 (.int (k + 1))) 1 = some (.int (k + 1)) := eh_self
    have k17_0 : ri_lk (ri_st1 lo 1 (.int (k + 1))) 0 = some (.ref 0) := eh_keep (by decide) (Or.inl rfl) l0
    have E := E.pu (p := 2) (lo' := (ri_st1 lo 1 (.int (k + 1)))) (st' := []) rfl (e := (.goto (-16), 3, [2], .null)) rfl rfl (fun _ _ => rfl)
    exact Or.inr (⟨c1, _, _, E, hV15, hN16, (ty.ui rfl), k17_0, k17_1⟩)
