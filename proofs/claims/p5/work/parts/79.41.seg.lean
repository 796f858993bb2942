theorem xm_150 {d : Nat} {h h' : ri_H} {v : Option Value} {G : eh_W} {x0 x1 : Int32} (E : ri_calE ri_md (d + 1) 150 [.int x0, .int x1] h = some (v, h')) (hV : eh_V h = G) (ty : eh_ty tM G) : (¬ (((x0 >>> (x1 &&& 31)) &&& 1) = 1) ∧ v = some (.int 0) ∧ eh_V h' = G ∧ eh_N h' = eh_N h) ∨ (((x0 >>> (x1 &&& 31)) &&& 1) = 1 ∧ v = some (.int 1) ∧ eh_V h' = G ∧ eh_N h' = eh_N h) := by
  obtain ⟨rs, hrs, E⟩ := eh_in E (q := md_150) rfl
  have E := E.ld (p := 1) (t := ri_isI) (i := 0) (n := 1) (v := .int x0) rfl (e := (.iload_n 0, 1, [], .null)) rfl rfl (fun _ _ => rfl) rfl rfl
  have E := E.ld (p := 2) (t := ri_isI) (i := 1) (n := 1) (v := .int x1) rfl (e := (.iload_n 1, 1, [], .null)) rfl rfl (fun _ _ => rfl) rfl rfl
  have E := E.pu (p := 3) (lo' := (ri_as 0 [.int x0, .int x1])) (st' := [.int (x0 >>> (x1 &&& 31))]) rfl (e := (.ishr, 1, [], .null)) rfl rfl (fun _ _ => rfl)
  have E := E.pu (p := 4) (lo' := (ri_as 0 [.int x0, .int x1])) (st' := [.int 1, .int (x0 >>> (x1 &&& 31))]) rfl (e := (.iconst 1, 1, [], .null)) rfl rfl (fun _ _ => rfl)
  have E := E.pu (p := 5) (lo' := (ri_as 0 [.int x0, .int x1])) (st' := [.int ((x0 >>> (x1 &&& 31)) &&& 1)]) rfl (e := (.iand, 1, [], .null)) rfl rfl (fun _ _ => rfl)
  have E := E.pu (p := 6) (lo' := (ri_as 0 [.int x0, .int x1])) (st' := [.int 1, .int ((x0 >>> (x1 &&& 31)) &&& 1)]) rfl (e := (.iconst 1, 1, [], .null)) rfl rfl (fun _ _ => rfl)
  rcases eh_q1 (E.br (p := 9) (c := 1) (tgt := 13) (a := (x0 >>> (x1 &&& 31)) &&& 1) (b := 1) (st' := []) rfl (e := (.if_icmp .ne 7, 3, [13], .null)) rfl rfl (fun _ _ => rfl) rfl) with ⟨c1, E⟩ | ⟨c1, E⟩
  · skip
    have E := E.pu (p := 14) (lo' := (ri_as 0 [.int x0, .int x1])) (st' := [.int 0]) rfl (e := (.iconst 0, 1, [], .null)) rfl rfl (fun _ _ => rfl)
    obtain ⟨r1, r2⟩ := E.reti rfl (m := 1) (ax := []) (w := .null) rfl
    exact Or.inl ⟨c1, (by rw [← hrs, r1]; rfl), ((congrArg eh_V r2).trans hV), (congrArg eh_N r2)⟩
  · skip
    have E := E.pu (p := 10) (lo' := (ri_as 0 [.int x0, .int x1])) (st' := [.int 1]) rfl (e := (.iconst 1, 1, [], .null)) rfl rfl (fun _ _ => rfl)
    have E := E.pu (p := 14) (lo' := (ri_as 0 [.int x0, .int x1])) (st' := [.int 1]) rfl (e := (.goto 4, 3, [14], .null)) rfl rfl (fun _ _ => rfl)
    obtain ⟨r1, r2⟩ := E.reti rfl (m := 1) (ax := []) (w := .null) rfl
    exact Or.inr (⟨c1, (by rw [← hrs, r1]; rfl), ((congrArg eh_V r2).trans hV), (congrArg eh_N r2)⟩)
theorem xm_151 {d : Nat} {h h' : ri_H} {v : Option Value} {G : eh_W} {x0 x1 : Int32} (E : ri_calE ri_md (d + 1) 151 [.int x0, .int x1] h = some (v, h')) (hV : eh_V h = G) (ty : eh_ty tM G) : (¬ (x1.toInt < x0.toInt) ∧ v = some (.int x1) ∧ eh_V h' = G ∧ eh_N h' = eh_N h) ∨ (x1.toInt < x0.toInt ∧ v = some (.int x0) ∧ eh_V h' = G ∧ eh_N h' = eh_N h) := by
  obtain ⟨rs, hrs, E⟩ := eh_in E (q := md_151) rfl
  have E := E.ld (p := 1) (t := ri_isI) (i := 0) (n := 1) (v := .int x0) rfl (e := (.iload_n 0, 1, [], .null)) rfl rfl (fun _ _ => rfl) rfl rfl
  have E := E.ld (p := 2) (t := ri_isI) (i := 1) (n := 1) (v := .int x1) rfl (e := (.iload_n 1, 1, [], .null)) rfl rfl (fun _ _ => rfl) rfl rfl
  rcases eh_r5 rfl rfl (E.br (p := 5) (c := 5) (tgt := 9) (a := x0) (b := x1) (st' := []) rfl (e := (.if_icmp .le 7, 3, [9], .null)) rfl rfl (fun _ _ => rfl) rfl) with ⟨c1, E⟩ | ⟨c1, E⟩
  · skip
    have E := E.ld (p := 10) (t := ri_isI) (i := 1) (n := 1) (v := .int x1) rfl (e := (.iload_n 1, 1, [], .null)) rfl rfl (fun _ _ => rfl) rfl rfl
    obtain ⟨r1, r2⟩ := E.reti rfl (m := 1) (ax := []) (w := .null) rfl
    exact Or.inl ⟨c1, (by rw [← hrs, r1]; rfl), ((congrArg eh_V r2).trans hV), (congrArg eh_N r2)⟩
  · skip
    have E := E.ld (p := 6) (t := ri_isI) (i := 0) (n := 1) (v := .int x0) rfl (e := (.iload_n 0, 1, [], .null)) rfl rfl (fun _ _ => rfl) rfl rfl
    have E := E.pu (p := 10) (lo' := (ri_as 0 [.int x0, .int x1])) (st' := [.int x0]) rfl (e := (.goto 4, 3, [10], .null)) rfl rfl (fun _ _ => rfl)
    obtain ⟨r1, r2⟩ := E.reti rfl (m := 1) (ax := []) (w := .null) rfl
    exact Or.inr (⟨c1, (by rw [← hrs, r1]; rfl), ((congrArg eh_V r2).trans hV), (congrArg eh_N r2)⟩)
theorem xm_a {cal : eh_K} {lo : List (Nat × Value)} {h h' : ri_H} {rs : List Value} {G : eh_W} {cu se : Int32} (E : eh_e cal md_190 0 lo [] h rs h') (hV : eh_V h = G) (ty : eh_ty tM G) (l0 : ri_lk lo 0 = some (.ref 0)) (l1 : ri_lk lo 1 = some (.int cu)) (l2 : ri_lk lo 2 = some (.int se)) : ∃ hz loz, eh_e cal md_190 7 loz [] hz rs h' ∧ eh_V hz = eh_u G 0 22 (.int 0) ∧ eh_N hz = eh_N h ∧ eh_ty tM (eh_u G 0 22 (.int 0)) ∧ ri_lk loz 0 = some (.ref 0) ∧ ri_lk loz 1 = some (.int cu) ∧ ri_lk loz 2 = some (.int se) ∧ ri_lk loz 3 = some (.int 0) := by
  have E := E.ld (p := 1) (t := ri_isA) (i := 0) (n := 1) (v := .ref 0) rfl (e := (.aload_n 0, 1, [], .null)) rfl rfl (fun _ _ => rfl) l0 rfl
  have E := E.pu (p := 2) (lo' := lo) (st' := [.int 0, .ref 0]) rfl (e := (.iconst 0, 1, [], .null)) rfl rfl (fun _ _ => rfl)
  obtain ⟨h1, hV2, hN3, E⟩ := E.gp (p := 5) rfl (x := 264) (m := 3) (w := .null) (t := 12) (i := 22) (u := 1346) (y := 0) rfl rfl hV
  have E := E.pu (p := 6) (lo' := lo) (st' := [.int 0]) rfl (e := (.iconst 0, 1, [], .null)) rfl rfl (fun _ _ => rfl)
  have E := E.so (p := 7) (t := ri_isI) (i := 3) (n := 1) rfl (e := (.istore_n 3, 1, [], .null)) rfl rfl (fun _ _ => rfl) rfl
  have k4_3 : ri_lk (ri_st1 lo 3 (.int 0)) 3 = some (.int 0) := eh_self
  have k4_0 : ri_lk (ri_st1 lo 3 (.int 0)) 0 = some (.ref 0) := eh_keep (by decide) (Or.inl rfl) l0
  have k4_1 : ri_lk (ri_st1 lo 3 (.int 0)) 1 = some (.int cu) := eh_keep (by decide) (Or.inl rfl) l1
  have k4_2 : ri_lk (ri_st1 lo 3 (.int 0)) 2 = some (.int se) := eh_keep (by decide) (Or.inl rfl) l2
  exact ⟨_, _, E, hV2, hN3, (ty.ui rfl), k4_0, k4_1, k4_2, k4_3⟩
theorem xm_r {cal : eh_K} {lo : List (Nat × Value)} {h h' : ri_H} {rs : List Value} {G : eh_W} {cu se i : Int32} (E : eh_e cal md_190 7 lo [] h rs h') (hV : eh_V h = G) (ty : eh_ty tM G) (l0 : ri_lk lo 0 = some (.ref 0)) (l1 : ri_lk lo 1 = some (.int cu)) (l2 : ri_lk lo 2 = some (.int se)) (l3 : ri_lk lo 3 = some (.int i)) : (¬ (i.toInt < 8) ∧ ∃ hz loz, eh_e cal md_190 28 loz [] hz rs h' ∧ eh_V hz = G ∧ eh_N hz = eh_N h ∧ eh_ty tM G ∧ ri_lk loz 0 = some (.ref 0) ∧ ri_lk loz 1 = some (.int cu) ∧ ri_lk loz 2 = some (.int se) ∧ ri_lk loz 3 = some (.int 0)) ∨ (i.toInt < 8 ∧ ∃ hz loz, eh_e cal md_190 7 loz [] hz rs h' ∧ eh_V hz = eh_u G 7 (i).toNatClampNeg (.int 0) ∧ eh_N hz = eh_N h ∧ eh_ty tM (eh_u G 7 (i).toNatClampNeg (.int 0)) ∧ ri_lk loz 0 = some (.ref 0) ∧ ri_lk loz 1 = some (.int cu) ∧ ri_lk loz 2 = some (.int se) ∧ ri_lk loz 3 = some (.int (i + 1))) := by
  have E := E.ld (p := 8) (t := ri_isI) (i := 3) (n := 1) (v := .int i) rfl (e := (.iload_n 3, 1, [], .null)) rfl rfl (fun _ _ => rfl) l3 rfl
  have E := E.pu (p := 10) (lo' := lo) (st' := [.int 8, .int i]) rfl (e := (.bipush 8, 2, [], .null)) rfl rfl (fun _ _ => rfl)
  rcases eh_r3 rfl (show (8 : Int32).toInt = 8 by decide) (E.br (p := 13) (c := 3) (tgt := 26) (a := i) (b := 8) (st' := []) rfl (e := (.if_icmp .ge 16, 3, [26], .null)) rfl rfl (fun _ _ => rfl) rfl) with ⟨c1, E⟩ | ⟨c1, E⟩
  · skip
    have E := E.pu (p := 27) (lo' := lo) (st' := [.int 0]) rfl (e := (.iconst 0, 1, [], .null)) rfl rfl (fun _ _ => rfl)
    have E := E.so (p := 28) (t := ri_isI) (i := 3) (n := 1) rfl (e := (.istore_n 3, 1, [], .null)) rfl rfl (fun _ _ => rfl) rfl
    have k2_3 : ri_lk (ri_st1 lo 3 (.int 0)) 3 = some (.int 0) := eh_self
    have k2_0 : ri_lk (ri_st1 lo 3 (.int 0)) 0 = some (.ref 0) := eh_keep (by decide) (Or.inl rfl) l0
    have k2_1 : ri_lk (ri_st1 lo 3 (.int 0)) 1 = some (.int cu) := eh_keep (by decide) (Or.inl rfl) l1
    have k2_2 : ri_lk (ri_st1 lo 3 (.int 0)) 2 = some (.int se) := eh_keep (by decide) (Or.inl rfl) l2
    exact Or.inl ⟨c1, _, _, E, hV, rfl, ty, k2_0, k2_1, k2_2, k2_3⟩
  · skip
    have E := E.ld (p := 14) (t := ri_isA) (i := 0) (n := 1) (v := .ref 0) rfl (e := (.aload_n 0, 1, [], .null)) rfl rfl (fun _ _ => rfl) l0 rfl
    have E := E.gr (n := 7) (p := 17) rfl (x := 50) (m := 3) (w := .null) (t := 12) (i := 21) (u := 1345) rfl rfl hV ty rfl
    have E := E.ld (p := 18) (t := ri_isI) (i := 3) (n := 1) (v := .int i) rfl (e := (.iload_n 3, 1, [], .null)) rfl rfl (fun _ _ => rfl) l3 rfl
    have E := E.pu (p := 19) (lo' := lo) (st' := [.int 0, .int i, .ref 7]) rfl (e := (.iconst 0, 1, [], .null)) rfl rfl (fun _ _ => rfl)
    obtain ⟨h3, hV4, hN5, E⟩ := E.aw (gg := ri_g1) (b := true) (p := 20) (n := (i).toNatClampNeg) rfl (e := (.iastore, 1, [], .null)) rfl rfl (fun _ _ => rfl) rfl hV rfl
    have E := E.ii (p := 23) (y := i + 1) rfl (i := 3) (n := 1) (m := 3) (ax := []) (w := .null) rfl l3 rfl rfl
    have k6_3 : ri_lk (ri_st1 lo 3 (.int (i + 1))) 3 = some (.int (i + 1)) := eh_self
    have k6_0 : ri_lk (ri_st1 lo 3 (.int (i + 1))) 0 = some (.ref 0) := eh_keep (by decide) (Or.inl rfl) l0
    have k6_1 : ri_lk (ri_st1 lo 3 (.int (i + 1))) 1 = some (.int cu) := eh_keep (by decide) (Or.inl rfl) l1
    have k6_2 : ri_lk (ri_st1 lo 3 (.int (i + 1))) 2 = some (.int se) := eh_keep (by decide) (Or.inl rfl) l2
    have E := E.pu (p := 7) (lo' := (ri_st1 lo 3 (.int (i + 1)))) (st' := []) rfl (e := (.goto (-16), 3, [7], .null)) rfl rfl (fun _ _ => rfl)
    exact Or.inr (⟨c1, _, _, E, hV4, hN5, (ty.ui rfl), k6_0, k6_1, k6_2, k6_3⟩)
theorem xm_o {cal : eh_K} {lo : List (Nat × Value)} {h h' : ri_H} {rs : List Value} {G : eh_W} {cu se i : Int32} (E : eh_e cal md_190 28 lo [] h rs h') (hV : eh_V h = G) (ty : eh_ty tM G) (l0 : ri_lk lo 0 = some (.ref 0)) (l1 : ri_lk lo 1 = some (.int cu)) (l2 : ri_lk lo 2 = some (.int se)) (l3 : ri_lk lo 3 = some (.int i)) : (¬ (i.toInt < 8) ∧ rs = [] ∧ eh_V h' = G ∧ eh_N h' = eh_N h) ∨ (i.toInt < 8 ∧ ∃ hz loz, eh_e cal md_190 37 loz [] hz rs h' ∧ eh_V hz = G ∧ eh_N hz = eh_N h ∧ eh_ty tM G ∧ ri_lk loz 0 = some (.ref 0) ∧ ri_lk loz 1 = some (.int cu) ∧ ri_lk loz 2 = some (.int se) ∧ ri_lk loz 3 = some (.int i) ∧ ri_lk loz 4 = some (.int 0)) := by
  have E := E.ld (p := 29) (t := ri_isI) (i := 3) (n := 1) (v := .int i) rfl (e := (.iload_n 3, 1, [], .null)) rfl rfl (fun _ _ => rfl) l3 rfl
  have E := E.pu (p := 31) (lo' := lo) (st' := [.int 8, .int i]) rfl (e := (.bipush 8, 2, [], .null)) rfl rfl (fun _ _ => rfl)
  rcases eh_r3 rfl (show (8 : Int32).toInt = 8 by decide) (E.br (p := 34) (c := 3) (tgt := 199) (a := i) (b := 8) (st' := []) rfl (e := (.if_icmp .ge 168, 3, [199], .null)) rfl rfl (fun _ _ => rfl) rfl) with ⟨c1, E⟩ | ⟨c1, E⟩
  · skip
    obtain ⟨r1, r2⟩ := E.retv rfl (m := 1) (ax := []) (w := .null) rfl
    exact Or.inl ⟨c1, r1, ((congrArg eh_V r2).trans hV), (congrArg eh_N r2)⟩
  · skip
    have E := E.pu (p := 35) (lo' := lo) (st' := [.int 0]) rfl (e := (.iconst 0, 1, [], .null)) rfl rfl (fun _ _ => rfl)
    have E := E.so (p := 37) (t := ri_isI) (i := 4) (n := 2) rfl (e := (.istore 4, 2, [], .null)) rfl rfl (fun _ _ => rfl) rfl
    have k2_4 : ri_lk (ri_st1 lo 4 (.int 0)) 4 = some (.int 0) := eh_self
    have k2_0 : ri_lk (ri_st1 lo 4 (.int 0)) 0 = some (.ref 0) := eh_keep (by decide) (Or.inl rfl) l0
    have k2_1 : ri_lk (ri_st1 lo 4 (.int 0)) 1 = some (.int cu) := eh_keep (by decide) (Or.inl rfl) l1
    have k2_2 : ri_lk (ri_st1 lo 4 (.int 0)) 2 = some (.int se) := eh_keep (by decide) (Or.inl rfl) l2
    have k2_3 : ri_lk (ri_st1 lo 4 (.int 0)) 3 = some (.int i) := eh_keep (by decide) (Or.inl rfl) l3
    exact Or.inr (⟨c1, _, _, E, hV, rfl, ty, k2_0, k2_1, k2_2, k2_3, k2_4⟩)
theorem xm_l {d : Nat} {lo : List (Nat × Value)} {h h' : ri_H} {rs : List Value} {G : eh_W} {cu se i l : Int32} (E : eh_e (ri_calE ri_md (d + 1)) md_190 37 lo [] h rs h') (hV : eh_V h = G) (ty : eh_ty tM G) (l0 : ri_lk lo 0 = some (.ref 0)) (l1 : ri_lk lo 1 = some (.int cu)) (l2 : ri_lk lo 2 = some (.int se)) (l3 : ri_lk lo 3 = some (.int i)) (l4 : ri_lk lo 4 = some (.int l)) : (¬ (l.toInt < (eh_i G 2 4).toInt) ∧ ∃ hz loz, eh_e (ri_calE ri_md (d + 1)) md_190 139 loz [] hz rs h' ∧ eh_V hz = G ∧ eh_N hz = eh_N h ∧ eh_ty tM G ∧ ri_lk loz 0 = some (.ref 0) ∧ ri_lk loz 1 = some (.int cu) ∧ ri_lk loz 2 = some (.int se) ∧ ri_lk loz 3 = some (.int i) ∧ ri_lk loz 4 = some (.int l)) ∨ (l.toInt < (eh_i G 2 4).toInt ∧ ¬ (((se >>> (l &&& 31)) &&& 1) = 1) ∧ ∃ hz loz, eh_e (ri_calE ri_md (d + 1)) md_190 37 loz [] hz rs h' ∧ eh_V hz = G ∧ eh_N hz = eh_N h ∧ eh_ty tM G ∧ ri_lk loz 0 = some (.ref 0) ∧ ri_lk loz 1 = some (.int cu) ∧ ri_lk loz 2 = some (.int se) ∧ ri_lk loz 3 = some (.int i) ∧ ri_lk loz 4 = some (.int (l + 1))) ∨ (l.toInt < (eh_i G 2 4).toInt ∧ ((se >>> (l &&& 31)) &&& 1) = 1 ∧ ¬ ((eh_i G 2 (10 + l).toNatClampNeg) = cu) ∧ ∃ hz loz, eh_e (ri_calE ri_md (d + 1)) md_190 37 loz [] hz rs h' ∧ eh_V hz = G ∧ eh_N hz = eh_N h ∧ eh_ty tM G ∧ ri_lk loz 0 = some (.ref 0) ∧ ri_lk loz 1 = some (.int cu) ∧ ri_lk loz 2 = some (.int se) ∧ ri_lk loz 3 = some (.int i) ∧ ri_lk loz 4 = some (.int (l + 1))) ∨ (l.toInt < (eh_i G 2 4).toInt ∧ ((se >>> (l &&& 31)) &&& 1) = 1 ∧ (eh_i G 2 (10 + l).toNatClampNeg) = cu ∧ i.toInt < (eh_i G 2 (18 + l).toNatClampNeg).toInt ∧ ∃ hz loz, eh_e (ri_calE ri_md (d + 1)) md_190 37 loz [] hz rs h' ∧ eh_V hz = eh_u G 7 ((eh_i G 2 ((26 + (8 * l)) + i).toNatClampNeg) / 10).toNatClampNeg (.int (((eh_i G 7 ((eh_i G 2 ((26 + (8 * l)) + i).toNatClampNeg) / 10).toNatClampNeg) + ((eh_i G 2 ((26 + (8 * l)) + i).toNatClampNeg) - (eh_i G 2 ((26 + (8 * l)) + i).toNatClampNeg) / 10 * 10)) - ((eh_i G 7 ((eh_i G 2 ((26 + (8 * l)) + i).toNatClampNeg) / 10).toNatClampNeg) + ((eh_i G 2 ((26 + (8 * l)) + i).toNatClampNeg) - (eh_i G 2 ((26 + (8 * l)) + i).toNatClampNeg) / 10 * 10)) / 4 * 4)) ∧ eh_N hz = eh_N h ∧ eh_ty tM (eh_u G 7 ((eh_i G 2 ((26 + (8 * l)) + i).toNatClampNeg) / 10).toNatClampNeg (.int (((eh_i G 7 ((eh_i G 2 ((26 + (8 * l)) + i).toNatClampNeg) / 10).toNatClampNeg) + ((eh_i G 2 ((26 + (8 * l)) + i).toNatClampNeg) - (eh_i G 2 ((26 + (8 * l)) + i).toNatClampNeg) / 10 * 10)) - ((eh_i G 7 ((eh_i G 2 ((26 + (8 * l)) + i).toNatClampNeg) / 10).toNatClampNeg) + ((eh_i G 2 ((26 + (8 * l)) + i).toNatClampNeg) - (eh_i G 2 ((26 + (8 * l)) + i).toNatClampNeg) / 10 * 10)) / 4 * 4))) ∧ ri_lk loz 0 = some (.ref 0) ∧ ri_lk loz 1 = some (.int cu) ∧ ri_lk loz 2 = some (.int se) ∧ ri_lk loz 3 = some (.int i) ∧ ri_lk loz 4 = some (.int (l + 1)) ∧ ri_lk loz 5 = some (.int (eh_i G 2 ((26 + (8 * l)) + i).toNatClampNeg))) ∨ (l.toInt < (eh_i G 2 4).toInt ∧ ((se >>> (l &&& 31)) &&& 1) = 1 ∧ (eh_i G 2 (10 + l).toNatClampNeg) = cu ∧ ¬ (i.toInt < (eh_i G 2 (18 + l).toNatClampNeg).toInt) ∧ ∃ hz loz, eh_e (ri_calE ri_md (d + 1)) md_190 37 loz [] hz rs h' ∧ eh_V hz = G ∧ eh_N hz = eh_N h ∧ eh_ty tM G ∧ ri_lk loz 0 = some (.ref 0) ∧ ri_lk loz 1 = some (.int cu) ∧ ri_lk loz 2 = some (.int se) ∧ ri_lk loz 3 = some (.int i) ∧ ri_lk loz 4 = some (.int (l + 1))) := by
  have E := E.ld (p := 39) (t := ri_isI) (i := 4) (n := 2) (v := .int l) rfl (e := (.iload 4, 2, [], .null)) rfl rfl (fun _ _ => rfl) l4 rfl
  have E := E.ld (p := 40) (t := ri_isA) (i := 0) (n := 1) (v := .ref 0) rfl (e := (.aload_n 0, 1, [], .null)) rfl rfl (fun _ _ => rfl) l0 rfl
  have E := E.gr (n := 2) (p := 43) rfl (x := 33) (m := 3) (w := .null) (t := 12) (i := 6) (u := 1330) rfl rfl hV ty rfl
  have E := E.pu (p := 44) (lo' := lo) (st' := [.int 4, .ref 2, .int l]) rfl (e := (.iconst 4, 1, [], .null)) rfl rfl (fun _ _ => rfl)
  have E := E.ai (p := 45) (z := eh_i G 2 4) (n := 4) rfl (e := (.iaload, 1, [], .null)) rfl rfl (fun _ _ => rfl) rfl hV ty (by decide) rfl rfl
  rcases eh_r3 rfl rfl (E.br (p := 48) (c := 3) (tgt := 139) (a := l) (b := eh_i G 2 4) (st' := []) rfl (e := (.if_icmp .ge 94, 3, [139], .null)) rfl rfl (fun _ _ => rfl) rfl) with ⟨c1, E⟩ | ⟨c1, E⟩
  · skip
    exact Or.inl ⟨c1, _, _, E, hV, rfl, ty, l0, l1, l2, l3, l4⟩
  · skip
    have E := E.ld (p := 49) (t := ri_isI) (i := 2) (n := 1) (v := .int se) rfl (e := (.iload_n 2, 1, [], .null)) rfl rfl (fun _ _ => rfl) l2 rfl
    have E := E.ld (p := 51) (t := ri_isI) (i := 4) (n := 2) (v := .int l) rfl (e := (.iload 4, 2, [], .null)) rfl rfl (fun _ _ => rfl) l4 rfl
    obtain ⟨v1, h2, X, E⟩ := E.cs (p := 54) (as := [.int se, .int l]) (r := []) rfl (x := 199) (m := 3) (w := .null) (j := 150) (n := 2) (t := 0) (u := [1504, 1505]) rfl rfl rfl
    rcases xm_150 (d := d) X hV ty with ⟨c3, rfl, hV4, hN5⟩ | ⟨c6, rfl, hV7, hN8⟩
    · skip
      have c3 : ¬ (((se >>> (l &&& 31)) &&& 1) = 1) := c3
      have E : eh_e _ _ 54 lo [.int 0] _ rs h' := E
      have E := E.brt (c := 0) (tgt := 133) (a := 0) (b := 0) (st' := []) rfl (e := (.ifCond .eq 79, 3, [133], .null)) rfl rfl (fun _ _ => rfl) (by decide)
      have E := E.ii (p := 136) (y := l + 1) rfl (i := 4) (n := 1) (m := 3) (ax := []) (w := .null) rfl l4 rfl rfl
      have k9_4 : ri_lk (ri_st1 lo 4 (.int (l + 1))) 4 = some (.int (l + 1)) := eh_self
      have k9_0 : ri_lk (ri_st1 lo 4 (.int (l + 1))) 0 = some (.ref 0) := eh_keep (by decide) (Or.inl rfl) l0
      have k9_1 : ri_lk (ri_st1 lo 4 (.int (l + 1))) 1 = some (.int cu) := eh_keep (by decide) (Or.inl rfl) l1
      have k9_2 : ri_lk (ri_st1 lo 4 (.int (l + 1))) 2 = some (.int se) := eh_keep (by decide) (Or.inl rfl) l2
      have k9_3 : ri_lk (ri_st1 lo 4 (.int (l + 1))) 3 = some (.int i) := eh_keep (by decide) (Or.inl rfl) l3
      have E := E.pu (p := 37) (lo' := (ri_st1 lo 4 (.int (l + 1)))) (st' := []) rfl (e := (.goto (-99), 3, [37], .null)) rfl rfl (fun _ _ => rfl)
      exact Or.inr (Or.inl ⟨c1, c3, _, _, E, hV4, hN5, ty, k9_0, k9_1, k9_2, k9_3, k9_4⟩)
    · skip
      have c6 : ((se >>> (l &&& 31)) &&& 1) = 1 := c6
      have E : eh_e _ _ 54 lo [.int 1] _ rs h' := E
      have E := E.brf (p := 57) (c := 0) (tgt := 133) (a := 1) (b := 0) (st' := []) rfl (e := (.ifCond .eq 79, 3, [133], .null)) rfl rfl (fun _ _ => rfl) (by decide) rfl
      have E := E.ld (p := 58) (t := ri_isA) (i := 0) (n := 1) (v := .ref 0) rfl (e := (.aload_n 0, 1, [], .null)) rfl rfl (fun _ _ => rfl) l0 rfl
      have E := E.gr (n := 2) (p := 61) rfl (x := 33) (m := 3) (w := .null) (t := 12) (i := 6) (u := 1330) rfl rfl hV7 ty rfl
      have E := E.pu (p := 63) (lo' := lo) (st' := [.int 10, .ref 2]) rfl (e := (.bipush 10, 2, [], .null)) rfl rfl (fun _ _ => rfl)
      have E := E.ld (p := 65) (t := ri_isI) (i := 4) (n := 2) (v := .int l) rfl (e := (.iload 4, 2, [], .null)) rfl rfl (fun _ _ => rfl) l4 rfl
      have E := E.pu (p := 66) (lo' := lo) (st' := [.int (10 + l), .ref 2]) rfl (e := (.iadd, 1, [], .null)) rfl rfl (fun _ _ => rfl)
      have E := E.ai (p := 67) (z := eh_i G 2 (10 + l).toNatClampNeg) (n := (10 + l).toNatClampNeg) rfl (e := (.iaload, 1, [], .null)) rfl rfl (fun _ _ => rfl) rfl hV7 ty rfl rfl rfl
      have E := E.ld (p := 68) (t := ri_isI) (i := 1) (n := 1) (v := .int cu) rfl (e := (.iload_n 1, 1, [], .null)) rfl rfl (fun _ _ => rfl) l1 rfl
      rcases eh_q1 (E.br (p := 71) (c := 1) (tgt := 133) (a := eh_i G 2 (10 + l).toNatClampNeg) (b := cu) (st' := []) rfl (e := (.if_icmp .ne 65, 3, [133], .null)) rfl rfl (fun _ _ => rfl) rfl) with ⟨c10, E⟩ | ⟨c10, E⟩
      · skip
        have E := E.ii (p := 136) (y := l + 1) rfl (i := 4) (n := 1) (m := 3) (ax := []) (w := .null) rfl l4 rfl rfl
        have k11_4 : ri_lk (ri_st1 lo 4 (.int (l + 1))) 4 = some (.int (l + 1)) := eh_self
        have k11_0 : ri_lk (ri_st1 lo 4 (.int (l + 1))) 0 = some (.ref 0) := eh_keep (by decide) (Or.inl rfl) l0
        have k11_1 : ri_lk (ri_st1 lo 4 (.int (l + 1))) 1 = some (.int cu) := eh_keep (by decide) (Or.inl rfl) l1
        have k11_2 : ri_lk (ri_st1 lo 4 (.int (l + 1))) 2 = some (.int se) := eh_keep (by decide) (Or.inl rfl) l2
        have k11_3 : ri_lk (ri_st1 lo 4 (.int (l + 1))) 3 = some (.int i) := eh_keep (by decide) (Or.inl rfl) l3
        have E := E.pu (p := 37) (lo' := (ri_st1 lo 4 (.int (l + 1)))) (st' := []) rfl (e := (.goto (-99), 3, [37], .null)) rfl rfl (fun _ _ => rfl)
        exact Or.inr (Or.inr (Or.inl ⟨c1, c6, c10, _, _, E, hV7, hN8, ty, k11_0, k11_1, k11_2, k11_3, k11_4⟩))
      · skip
        have E := E.ld (p := 72) (t := ri_isI) (i := 3) (n := 1) (v := .int i) rfl (e := (.iload_n 3, 1, [], .null)) rfl rfl (fun _ _ => rfl) l3 rfl
        have E := E.ld (p := 73) (t := ri_isA) (i := 0) (n := 1) (v := .ref 0) rfl (e := (.aload_n 0, 1, [], .null)) rfl rfl (fun _ _ => rfl) l0 rfl
        have E := E.gr (n := 2) (p := 76) rfl (x := 33) (m := 3) (w := .null) (t := 12) (i := 6) (u := 1330) rfl rfl hV7 ty rfl
        have E := E.pu (p := 78) (lo' := lo) (st' := [.int 18, .ref 2, .int i]) rfl (e := (.bipush 18, 2, [], .null)) rfl rfl (fun _ _ => rfl)
        have E := E.ld (p := 80) (t := ri_isI) (i := 4) (n := 2) (v := .int l) rfl (e := (.iload 4, 2, [], .null)) rfl rfl (fun _ _ => rfl) l4 rfl
        have E := E.pu (p := 81) (lo' := lo) (st' := [.int (18 + l), .ref 2, .int i]) rfl (e := (.iadd, 1, [], .null)) rfl rfl (fun _ _ => rfl)
        have E := E.ai (p := 82) (z := eh_i G 2 (18 + l).toNatClampNeg) (n := (18 + l).toNatClampNeg) rfl (e := (.iaload, 1, [], .null)) rfl rfl (fun _ _ => rfl) rfl hV7 ty rfl rfl rfl
        rcases eh_r2 rfl rfl (E.br (p := 85) (c := 2) (tgt := 88) (a := i) (b := eh_i G 2 (18 + l).toNatClampNeg) (st' := []) rfl (e := (.if_icmp .lt 6, 3, [88], .null)) rfl rfl (fun _ _ => rfl) rfl) with ⟨c12, E⟩ | ⟨c12, E⟩
        · skip
          have E := E.ld (p := 89) (t := ri_isA) (i := 0) (n := 1) (v := .ref 0) rfl (e := (.aload_n 0, 1, [], .null)) rfl rfl (fun _ _ => rfl) l0 rfl
          have E := E.gr (n := 2) (p := 92) rfl (x := 33) (m := 3) (w := .null) (t := 12) (i := 6) (u := 1330) rfl rfl hV7 ty rfl
          have E := E.pu (p := 94) (lo' := lo) (st' := [.int 26, .ref 2]) rfl (e := (.bipush 26, 2, [], .null)) rfl rfl (fun _ _ => rfl)
          have E := E.pu (p := 96) (lo' := lo) (st' := [.int 8, .int 26, .ref 2]) rfl (e := (.bipush 8, 2, [], .null)) rfl rfl (fun _ _ => rfl)
          have E := E.ld (p := 98) (t := ri_isI) (i := 4) (n := 2) (v := .int l) rfl (e := (.iload 4, 2, [], .null)) rfl rfl (fun _ _ => rfl) l4 rfl
          have E := E.pu (p := 99) (lo' := lo) (st' := [.int (8 * l), .int 26, .ref 2]) rfl (e := (.imul, 1, [], .null)) rfl rfl (fun _ _ => rfl)
          have E := E.pu (p := 100) (lo' := lo) (st' := [.int (26 + (8 * l)), .ref 2]) rfl (e := (.iadd, 1, [], .null)) rfl rfl (fun _ _ => rfl)
          have E := E.ld (p := 101) (t := ri_isI) (i := 3) (n := 1) (v := .int i) rfl (e := (.iload_n 3, 1, [], .null)) rfl rfl (fun _ _ => rfl) l3 rfl
          have E := E.pu (p := 102) (lo' := lo) (st' := [.int ((26 + (8 * l)) + i), .ref 2]) rfl (e := (.iadd, 1, [], .null)) rfl rfl (fun _ _ => rfl)
          have E := E.ai (p := 103) (z := eh_i G 2 ((26 + (8 * l)) + i).toNatClampNeg) (n := ((26 + (8 * l)) + i).toNatClampNeg) rfl (e := (.iaload, 1, [], .null)) rfl rfl (fun _ _ => rfl) rfl hV7 ty rfl rfl rfl
          have E := E.so (p := 105) (t := ri_isI) (i := 5) (n := 2) rfl (e := (.istore 5, 2, [], .null)) rfl rfl (fun _ _ => rfl) rfl
          have k13_5 : ri_lk (ri_st1 lo 5 (.int (eh_i G 2 ((26 + (8 * l)) + i).toNatClampNeg))) 5 = some (.int (eh_i G 2 ((26 + (8 * l)) + i).toNatClampNeg)) := eh_self
          have k13_0 : ri_lk (ri_st1 lo 5 (.int (eh_i G 2 ((26 + (8 * l)) + i).toNatClampNeg))) 0 = some (.ref 0) := eh_keep (by decide) (Or.inl rfl) l0
          have k13_1 : ri_lk (ri_st1 lo 5 (.int (eh_i G 2 ((26 + (8 * l)) + i).toNatClampNeg))) 1 = some (.int cu) := eh_keep (by decide) (Or.inl rfl) l1
          have k13_2 : ri_lk (ri_st1 lo 5 (.int (eh_i G 2 ((26 + (8 * l)) + i).toNatClampNeg))) 2 = some (.int se) := eh_keep (by decide) (Or.inl rfl) l2
          have k13_3 : ri_lk (ri_st1 lo 5 (.int (eh_i G 2 ((26 + (8 * l)) + i).toNatClampNeg))) 3 = some (.int i) := eh_keep (by decide) (Or.inl rfl) l3
          have k13_4 : ri_lk (ri_st1 lo 5 (.int (eh_i G 2 ((26 + (8 * l)) + i).toNatClampNeg))) 4 = some (.int l) := eh_keep (by decide) (Or.inl rfl) l4
          have E := E.ld (p := 106) (t := ri_isA) (i := 0) (n := 1) (v := .ref 0) rfl (e := (.aload_n 0, 1, [], .null)) rfl rfl (fun _ _ => rfl) k13_0 rfl
          have E := E.gr (n := 7) (p := 109) rfl (x := 50) (m := 3) (w := .null) (t := 12) (i := 21) (u := 1345) rfl rfl hV7 ty rfl
          have E := E.ld (p := 111) (t := ri_isI) (i := 5) (n := 2) (v := .int (eh_i G 2 ((26 + (8 * l)) + i).toNatClampNeg)) rfl (e := (.iload 5, 2, [], .null)) rfl rfl (fun _ _ => rfl) k13_5 rfl
          have E := E.pu (p := 113) (lo' := (ri_st1 lo 5 (.int (eh_i G 2 ((26 + (8 * l)) + i).toNatClampNeg)))) (st' := [.int 10, .int (eh_i G 2 ((26 + (8 * l)) + i).toNatClampNeg), .ref 7]) rfl (e := (.bipush 10, 2, [], .null)) rfl rfl (fun _ _ => rfl)
          have E := E.dv (p := 114) (v := (eh_i G 2 ((26 + (8 * l)) + i).toNatClampNeg) / 10) rfl (e := (.idiv, 1, [], .null)) rfl rfl (op := fun x y => x / y) (fun _ _ => rfl) rfl rfl
          have E := E.ld (p := 115) (t := ri_isA) (i := 0) (n := 1) (v := .ref 0) rfl (e := (.aload_n 0, 1, [], .null)) rfl rfl (fun _ _ => rfl) k13_0 rfl
          have E := E.gr (n := 7) (p := 118) rfl (x := 50) (m := 3) (w := .null) (t := 12) (i := 21) (u := 1345) rfl rfl hV7 ty rfl
          have E := E.ld (p := 120) (t := ri_isI) (i := 5) (n := 2) (v := .int (eh_i G 2 ((26 + (8 * l)) + i).toNatClampNeg)) rfl (e := (.iload 5, 2, [], .null)) rfl rfl (fun _ _ => rfl) k13_5 rfl
          have E := E.pu (p := 122) (lo' := (ri_st1 lo 5 (.int (eh_i G 2 ((26 + (8 * l)) + i).toNatClampNeg)))) (st' := [.int 10, .int (eh_i G 2 ((26 + (8 * l)) + i).toNatClampNeg), .ref 7, .int ((eh_i G 2 ((26 + (8 * l)) + i).toNatClampNeg) / 10), .ref 7]) rfl (e := (.bipush 10, 2, [], .null)) rfl rfl (fun _ _ => rfl)
          have E := E.dv (p := 123) (v := (eh_i G 2 ((26 + (8 * l)) + i).toNatClampNeg) / 10) rfl (e := (.idiv, 1, [], .null)) rfl rfl (op := fun x y => x / y) (fun _ _ => rfl) rfl rfl
          have E := E.ai (p := 124) (z := eh_i G 7 ((eh_i G 2 ((26 + (8 * l)) + i).toNatClampNeg) / 10).toNatClampNeg) (n := ((eh_i G 2 ((26 + (8 * l)) + i).toNatClampNeg) / 10).toNatClampNeg) rfl (e := (.iaload, 1, [], .null)) rfl rfl (fun _ _ => rfl) rfl hV7 ty rfl rfl rfl
          have E := E.ld (p := 126) (t := ri_isI) (i := 5) (n := 2) (v := .int (eh_i G 2 ((26 + (8 * l)) + i).toNatClampNeg)) rfl (e := (.iload 5, 2, [], .null)) rfl rfl (fun _ _ => rfl) k13_5 rfl
          have E := E.pu (p := 128) (lo' := (ri_st1 lo 5 (.int (eh_i G 2 ((26 + (8 * l)) + i).toNatClampNeg)))) (st' := [.int 10, .int (eh_i G 2 ((26 + (8 * l)) + i).toNatClampNeg), .int (eh_i G 7 ((eh_i G 2 ((26 + (8 * l)) + i).toNatClampNeg) / 10).toNatClampNeg), .int ((eh_i G 2 ((26 + (8 * l)) + i).toNatClampNeg) / 10), .ref 7]) rfl (e := (.bipush 10, 2, [], .null)) rfl rfl (fun _ _ => rfl)
          have E := E.dv (p := 129) (v := (eh_i G 2 ((26 + (8 * l)) + i).toNatClampNeg) - (eh_i G 2 ((26 + (8 * l)) + i).toNatClampNeg) / 10 * 10) rfl (e := (.irem, 1, [], .null)) rfl rfl (op := fun x y => x - x / y * y) (fun _ _ => rfl) rfl rfl
          have E := E.pu (p := 130) (lo' := (ri_st1 lo 5 (.int (eh_i G 2 ((26 + (8 * l)) + i).toNatClampNeg)))) (st' := [.int ((eh_i G 7 ((eh_i G 2 ((26 + (8 * l)) + i).toNatClampNeg) / 10).toNatClampNeg) + ((eh_i G 2 ((26 + (8 * l)) + i).toNatClampNeg) - (eh_i G 2 ((26 + (8 * l)) + i).toNatClampNeg) / 10 * 10)), .int ((eh_i G 2 ((26 + (8 * l)) + i).toNatClampNeg) / 10), .ref 7]) rfl (e := (.iadd, 1, [], .null)) rfl rfl (fun _ _ => rfl)
          have E := E.pu (p := 131) (lo' := (ri_st1 lo 5 (.int (eh_i G 2 ((26 + (8 * l)) + i).toNatClampNeg)))) (st' := [.int 4, .int ((eh_i G 7 ((eh_i G 2 ((26 + (8 * l)) + i).toNatClampNeg) / 10).toNatClampNeg) + ((eh_i G 2 ((26 + (8 * l)) + i).toNatClampNeg) - (eh_i G 2 ((26 + (8 * l)) + i).toNatClampNeg) / 10 * 10)), .int ((eh_i G 2 ((26 + (8 * l)) + i).toNatClampNeg) / 10), .ref 7]) rfl (e := (.iconst 4, 1, [], .null)) rfl rfl (fun _ _ => rfl)
          have E := E.dv (p := 132) (v := ((eh_i G 7 ((eh_i G 2 ((26 + (8 * l)) + i).toNatClampNeg) / 10).toNatClampNeg) + ((eh_i G 2 ((26 + (8 * l)) + i).toNatClampNeg) - (eh_i G 2 ((26 + (8 * l)) + i).toNatClampNeg) / 10 * 10)) - ((eh_i G 7 ((eh_i G 2 ((26 + (8 * l)) + i).toNatClampNeg) / 10).toNatClampNeg) + ((eh_i G 2 ((26 + (8 * l)) + i).toNatClampNeg) - (eh_i G 2 ((26 + (8 * l)) + i).toNatClampNeg) / 10 * 10)) / 4 * 4) rfl (e := (.irem, 1, [], .null)) rfl rfl (op := fun x y => x - x / y * y) (fun _ _ => rfl) rfl rfl
          obtain ⟨h14, hV15, hN16, E⟩ := E.aw (gg := ri_g1) (b := true) (p := 133) (n := ((eh_i G 2 ((26 + (8 * l)) + i).toNatClampNeg) / 10).toNatClampNeg) rfl (e := (.iastore, 1, [], .null)) rfl rfl (fun _ _ => rfl) rfl hV7 rfl
          have E := E.ii (p := 136) (y := l + 1) rfl (i := 4) (n := 1) (m := 3) (ax := []) (w := .null) rfl k13_4 rfl rfl
          have k17_4 : ri_lk (ri_st1 (ri_st1 lo 5 (.int (eh_i G 2 ((26 + (8 * l)) + i).toNatClampNeg))) 4 (.int (l + 1))) 4 = some (.int (l + 1)) := eh_self
          have k17_0 : ri_lk (ri_st1 (ri_st1 lo 5 (.int (eh_i G 2 ((26 + (8 * l)) + i).toNatClampNeg))) 4 (.int (l + 1))) 0 = some (.ref 0) := eh_keep (by decide) (Or.inl rfl) k13_0
          have k17_1 : ri_lk (ri_st1 (ri_st1 lo 5 (.int (eh_i G 2 ((26 + (8 * l)) + i).toNatClampNeg))) 4 (.int (l + 1))) 1 = some (.int cu) := eh_keep (by decide) (Or.inl rfl) k13_1
          have k17_2 : ri_lk (ri_st1 (ri_st1 lo 5 (.int (eh_i G 2 ((26 + (8 * l)) + i).toNatClampNeg))) 4 (.int (l + 1))) 2 = some (.int se) := eh_keep (by decide) (Or.inl rfl) k13_2
          have k17_3 : ri_lk (ri_st1 (ri_st1 lo 5 (.int (eh_i G 2 ((26 + (8 * l)) + i).toNatClampNeg))) 4 (.int (l + 1))) 3 = some (.int i) := eh_keep (by decide) (Or.inl rfl) k13_3
          have k17_5 : ri_lk (ri_st1 (ri_st1 lo 5 (.int (eh_i G 2 ((26 + (8 * l)) + i).toNatClampNeg))) 4 (.int (l + 1))) 5 = some (.int (eh_i G 2 ((26 + (8 * l)) + i).toNatClampNeg)) := eh_keep (by decide) (Or.inl rfl) k13_5
          have E := E.pu (p := 37) (lo' := (ri_st1 (ri_st1 lo 5 (.int (eh_i G 2 ((26 + (8 * l)) + i).toNatClampNeg))) 4 (.int (l + 1)))) (st' := []) rfl (e := (.goto (-99), 3, [37], .null)) rfl rfl (fun _ _ => rfl)
          exact Or.inr (Or.inr (Or.inr (Or.inl ⟨c1, c6, c10, c12, _, _, E, hV15, (hN16.trans hN8), (ty.ui rfl), k17_0, k17_1, k17_2, k17_3, k17_4, k17_5⟩)))
        · skip
          have E := E.pu (p := 133) (lo' := lo) (st' := []) rfl (e := (.goto 48, 3, [133], .null)) rfl rfl (fun _ _ => rfl)
          have E := E.ii (p := 136) (y := l + 1) rfl (i := 4) (n := 1) (m := 3) (ax := []) (w := .null) rfl l4 rfl rfl
          have k18_4 : ri_lk (ri_st1 lo 4 (.int (l + 1))) 4 = some (.int (l + 1)) := eh_self
          have k18_0 : ri_lk (ri_st1 lo 4 (.int (l + 1))) 0 = some (.ref 0) := eh_keep (by decide) (Or.inl rfl) l0
          have k18_1 : ri_lk (ri_st1 lo 4 (.int (l + 1))) 1 = some (.int cu) := eh_keep (by decide) (Or.inl rfl) l1
          have k18_2 : ri_lk (ri_st1 lo 4 (.int (l + 1))) 2 = some (.int se) := eh_keep (by decide) (Or.inl rfl) l2
          have k18_3 : ri_lk (ri_st1 lo 4 (.int (l + 1))) 3 = some (.int i) := eh_keep (by decide) (Or.inl rfl) l3
          have E := E.pu (p := 37) (lo' := (ri_st1 lo 4 (.int (l + 1)))) (st' := []) rfl (e := (.goto (-99), 3, [37], .null)) rfl rfl (fun _ _ => rfl)
          exact Or.inr (Or.inr (Or.inr (Or.inr (⟨c1, c6, c10, c12, _, _, E, hV7, hN8, ty, k18_0, k18_1, k18_2, k18_3, k18_4⟩))))
theorem xl_a {cal : eh_K} {lo : List (Nat × Value)} {h h' : ri_H} {rs : List Value} {G : eh_W} {cu se : Int32} (E : eh_e cal md_191 0 lo [] h rs h') (hV : eh_V h = G) (ty : eh_ty tM G) (l0 : ri_lk lo 0 = some (.ref 0)) (l1 : ri_lk lo 1 = some (.int cu)) (l2 : ri_lk lo 2 = some (.int se)) : ∃ hz loz, eh_e cal md_191 5 loz [] hz rs h' ∧ eh_V hz = G ∧ eh_N hz = eh_N h ∧ eh_ty tM G ∧ ri_lk loz 0 = some (.ref 0) ∧ ri_lk loz 1 = some (.int cu) ∧ ri_lk loz 2 = some (.int se) ∧ ri_lk loz 3 = some (.int 0) ∧ ri_lk loz 4 = some (.int 0) := by
  have E := E.pu (p := 1) (lo' := lo) (st' := [.int 0]) rfl (e := (.iconst 0, 1, [], .null)) rfl rfl (fun _ _ => rfl)
  have E := E.so (p := 2) (t := ri_isI) (i := 3) (n := 1) rfl (e := (.istore_n 3, 1, [], .null)) rfl rfl (fun _ _ => rfl) rfl
  have k1_3 : ri_lk (ri_st1 lo 3 (.int 0)) 3 = some (.int 0) := eh_self
  have k1_0 : ri_lk (ri_st1 lo 3 (.int 0)) 0 = some (.ref 0) := eh_keep (by decide) (Or.inl rfl) l0
  have k1_1 : ri_lk (ri_st1 lo 3 (.int 0)) 1 = some (.int cu) := eh_keep (by decide) (Or.inl rfl) l1
  have k1_2 : ri_lk (ri_st1 lo 3 (.int 0)) 2 = some (.int se) := eh_keep (by decide) (Or.inl rfl) l2
  have E := E.pu (p := 3) (lo' := (ri_st1 lo 3 (.int 0))) (st' := [.int 0]) rfl (e := (.iconst 0, 1, [], .null)) rfl rfl (fun _ _ => rfl)
  have E := E.so (p := 5) (t := ri_isI) (i := 4) (n := 2) rfl (e := (.istore 4, 2, [], .null)) rfl rfl (fun _ _ => rfl) rfl
  have k2_4 : ri_lk (ri_st1 (ri_st1 lo 3 (.int 0)) 4 (.int 0)) 4 = some (.int 0) := eh_self
  have k2_0 : ri_lk (ri_st1 (ri_st1 lo 3 (.int 0)) 4 (.int 0)) 0 = some (.ref 0) := eh_keep (by decide) (Or.inl rfl) k1_0
  have k2_1 : ri_lk (ri_st1 (ri_st1 lo 3 (.int 0)) 4 (.int 0)) 1 = some (.int cu) := eh_keep (by decide) (Or.inl rfl) k1_1
  have k2_2 : ri_lk (ri_st1 (ri_st1 lo 3 (.int 0)) 4 (.int 0)) 2 = some (.int se) := eh_keep (by decide) (Or.inl rfl) k1_2
  have k2_3 : ri_lk (ri_st1 (ri_st1 lo 3 (.int 0)) 4 (.int 0)) 3 = some (.int 0) := eh_keep (by decide) (Or.inl rfl) k1_3
  exact ⟨_, _, E, hV, rfl, ty, k2_0, k2_1, k2_2, k2_3, k2_4⟩
theorem xl_l {d : Nat} {lo : List (Nat × Value)} {h h' : ri_H} {rs : List Value} {G : eh_W} {cu se mo l : Int32} (E : eh_e (ri_calE ri_md (d + 1)) md_191 5 lo [] h rs h') (hV : eh_V h = G) (ty : eh_ty tM G) (l0 : ri_lk lo 0 = some (.ref 0)) (l1 : ri_lk lo 1 = some (.int cu)) (l2 : ri_lk lo 2 = some (.int se)) (l3 : ri_lk lo 3 = some (.int mo)) (l4 : ri_lk lo 4 = some (.int l)) : (¬ (l.toInt < (eh_i G 2 4).toInt) ∧ rs = [.int mo] ∧ eh_V h' = G ∧ eh_N h' = eh_N h) ∨ (l.toInt < (eh_i G 2 4).toInt ∧ ¬ (((se >>> (l &&& 31)) &&& 1) = 1) ∧ ∃ hz loz, eh_e (ri_calE ri_md (d + 1)) md_191 5 loz [] hz rs h' ∧ eh_V hz = G ∧ eh_N hz = eh_N h ∧ eh_ty tM G ∧ ri_lk loz 0 = some (.ref 0) ∧ ri_lk loz 1 = some (.int cu) ∧ ri_lk loz 2 = some (.int se) ∧ ri_lk loz 3 = some (.int mo) ∧ ri_lk loz 4 = some (.int (l + 1))) ∨ (l.toInt < (eh_i G 2 4).toInt ∧ ((se >>> (l &&& 31)) &&& 1) = 1 ∧ ¬ ((eh_i G 2 (10 + l).toNatClampNeg) = cu) ∧ ∃ hz loz, eh_e (ri_calE ri_md (d + 1)) md_191 5 loz [] hz rs h' ∧ eh_V hz = G ∧ eh_N hz = eh_N h ∧ eh_ty tM G ∧ ri_lk loz 0 = some (.ref 0) ∧ ri_lk loz 1 = some (.int cu) ∧ ri_lk loz 2 = some (.int se) ∧ ri_lk loz 3 = some (.int mo) ∧ ri_lk loz 4 = some (.int (l + 1))) ∨ (l.toInt < (eh_i G 2 4).toInt ∧ ((se >>> (l &&& 31)) &&& 1) = 1 ∧ (eh_i G 2 (10 + l).toNatClampNeg) = cu ∧ ¬ ((eh_i G 2 (18 + l).toNatClampNeg).toInt < mo.toInt) ∧ ∃ hz loz, eh_e (ri_calE ri_md (d + 1)) md_191 5 loz [] hz rs h' ∧ eh_V hz = G ∧ eh_N hz = eh_N h ∧ eh_ty tM G ∧ ri_lk loz 0 = some (.ref 0) ∧ ri_lk loz 1 = some (.int cu) ∧ ri_lk loz 2 = some (.int se) ∧ ri_lk loz 3 = some (.int (eh_i G 2 (18 + l).toNatClampNeg)) ∧ ri_lk loz 4 = some (.int (l + 1))) ∨ (l.toInt < (eh_i G 2 4).toInt ∧ ((se >>> (l &&& 31)) &&& 1) = 1 ∧ (eh_i G 2 (10 + l).toNatClampNeg) = cu ∧ (eh_i G 2 (18 + l).toNatClampNeg).toInt < mo.toInt ∧ ∃ hz loz, eh_e (ri_calE ri_md (d + 1)) md_191 5 loz [] hz rs h' ∧ eh_V hz = G ∧ eh_N hz = eh_N h ∧ eh_ty tM G ∧ ri_lk loz 0 = some (.ref 0) ∧ ri_lk loz 1 = some (.int cu) ∧ ri_lk loz 2 = some (.int se) ∧ ri_lk loz 3 = some (.int mo) ∧ ri_lk loz 4 = some (.int (l + 1))) := by
  have E := E.ld (p := 7) (t := ri_isI) (i := 4) (n := 2) (v := .int l) rfl (e := (.iload 4, 2, [], .null)) rfl rfl (fun _ _ => rfl) l4 rfl
  have E := E.ld (p := 8) (t := ri_isA) (i := 0) (n := 1) (v := .ref 0) rfl (e := (.aload_n 0, 1, [], .null)) rfl rfl (fun _ _ => rfl) l0 rfl
  have E := E.gr (n := 2) (p := 11) rfl (x := 33) (m := 3) (w := .null) (t := 12) (i := 6) (u := 1330) rfl rfl hV ty rfl
  have E := E.pu (p := 12) (lo' := lo) (st' := [.int 4, .ref 2, .int l]) rfl (e := (.iconst 4, 1, [], .null)) rfl rfl (fun _ _ => rfl)
  have E := E.ai (p := 13) (z := eh_i G 2 4) (n := 4) rfl (e := (.iaload, 1, [], .null)) rfl rfl (fun _ _ => rfl) rfl hV ty (by decide) rfl rfl
  rcases eh_r3 rfl rfl (E.br (p := 16) (c := 3) (tgt := 60) (a := l) (b := eh_i G 2 4) (st' := []) rfl (e := (.if_icmp .ge 47, 3, [60], .null)) rfl rfl (fun _ _ => rfl) rfl) with ⟨c1, E⟩ | ⟨c1, E⟩
  · skip
    have E := E.ld (p := 61) (t := ri_isI) (i := 3) (n := 1) (v := .int mo) rfl (e := (.iload_n 3, 1, [], .null)) rfl rfl (fun _ _ => rfl) l3 rfl
    obtain ⟨r1, r2⟩ := E.reti rfl (m := 1) (ax := []) (w := .null) rfl
    exact Or.inl ⟨c1, r1, ((congrArg eh_V r2).trans hV), (congrArg eh_N r2)⟩
  · skip
    have E := E.ld (p := 17) (t := ri_isI) (i := 2) (n := 1) (v := .int se) rfl (e := (.iload_n 2, 1, [], .null)) rfl rfl (fun _ _ => rfl) l2 rfl
    have E := E.ld (p := 19) (t := ri_isI) (i := 4) (n := 2) (v := .int l) rfl (e := (.iload 4, 2, [], .null)) rfl rfl (fun _ _ => rfl) l4 rfl
    obtain ⟨v1, h2, X, E⟩ := E.cs (p := 22) (as := [.int se, .int l]) (r := []) rfl (x := 199) (m := 3) (w := .null) (j := 150) (n := 2) (t := 0) (u := [1504, 1505]) rfl rfl rfl
    rcases xm_150 (d := d) X hV ty with ⟨c3, rfl, hV4, hN5⟩ | ⟨c6, rfl, hV7, hN8⟩
    · skip
      have c3 : ¬ (((se >>> (l &&& 31)) &&& 1) = 1) := c3
      have E : eh_e _ _ 22 lo [.int 0] _ rs h' := E
      have E := E.brt (c := 0) (tgt := 54) (a := 0) (b := 0) (st' := []) rfl (e := (.ifCond .eq 32, 3, [54], .null)) rfl rfl (fun _ _ => rfl) (by decide)
      have E := E.ii (p := 57) (y := l + 1) rfl (i := 4) (n := 1) (m := 3) (ax := []) (w := .null) rfl l4 rfl rfl
      have k9_4 : ri_lk (ri_st1 lo 4 (.int (l + 1))) 4 = some (.int (l + 1)) := eh_self
      have k9_0 : ri_lk (ri_st1 lo 4 (.int (l + 1))) 0 = some (.ref 0) := eh_keep (by decide) (Or.inl rfl) l0
      have k9_1 : ri_lk (ri_st1 lo 4 (.int (l + 1))) 1 = some (.int cu) := eh_keep (by decide) (Or.inl rfl) l1
      have k9_2 : ri_lk (ri_st1 lo 4 (.int (l + 1))) 2 = some (.int se) := eh_keep (by decide) (Or.inl rfl) l2
      have k9_3 : ri_lk (ri_st1 lo 4 (.int (l + 1))) 3 = some (.int mo) := eh_keep (by decide) (Or.inl rfl) l3
      have E := E.pu (p := 5) (lo' := (ri_st1 lo 4 (.int (l + 1)))) (st' := []) rfl (e := (.goto (-52), 3, [5], .null)) rfl rfl (fun _ _ => rfl)
      exact Or.inr (Or.inl ⟨c1, c3, _, _, E, hV4, hN5, ty, k9_0, k9_1, k9_2, k9_3, k9_4⟩)
    · skip
      have c6 : ((se >>> (l &&& 31)) &&& 1) = 1 := c6
      have E : eh_e _ _ 22 lo [.int 1] _ rs h' := E
      have E := E.brf (p := 25) (c := 0) (tgt := 54) (a := 1) (b := 0) (st' := []) rfl (e := (.ifCond .eq 32, 3, [54], .null)) rfl rfl (fun _ _ => rfl) (by decide) rfl
      have E := E.ld (p := 26) (t := ri_isA) (i := 0) (n := 1) (v := .ref 0) rfl (e := (.aload_n 0, 1, [], .null)) rfl rfl (fun _ _ => rfl) l0 rfl
      have E := E.gr (n := 2) (p := 29) rfl (x := 33) (m := 3) (w := .null) (t := 12) (i := 6) (u := 1330) rfl rfl hV7 ty rfl
      have E := E.pu (p := 31) (lo' := lo) (st' := [.int 10, .ref 2]) rfl (e := (.bipush 10, 2, [], .null)) rfl rfl (fun _ _ => rfl)
      have E := E.ld (p := 33) (t := ri_isI) (i := 4) (n := 2) (v := .int l) rfl (e := (.iload 4, 2, [], .null)) rfl rfl (fun _ _ => rfl) l4 rfl
      have E := E.pu (p := 34) (lo' := lo) (st' := [.int (10 + l), .ref 2]) rfl (e := (.iadd, 1, [], .null)) rfl rfl (fun _ _ => rfl)
      have E := E.ai (p := 35) (z := eh_i G 2 (10 + l).toNatClampNeg) (n := (10 + l).toNatClampNeg) rfl (e := (.iaload, 1, [], .null)) rfl rfl (fun _ _ => rfl) rfl hV7 ty rfl rfl rfl
      have E := E.ld (p := 36) (t := ri_isI) (i := 1) (n := 1) (v := .int cu) rfl (e := (.iload_n 1, 1, [], .null)) rfl rfl (fun _ _ => rfl) l1 rfl
      rcases eh_q1 (E.br (p := 39) (c := 1) (tgt := 54) (a := eh_i G 2 (10 + l).toNatClampNeg) (b := cu) (st' := []) rfl (e := (.if_icmp .ne 18, 3, [54], .null)) rfl rfl (fun _ _ => rfl) rfl) with ⟨c10, E⟩ | ⟨c10, E⟩
      · skip
        have E := E.ii (p := 57) (y := l + 1) rfl (i := 4) (n := 1) (m := 3) (ax := []) (w := .null) rfl l4 rfl rfl
        have k11_4 : ri_lk (ri_st1 lo 4 (.int (l + 1))) 4 = some (.int (l + 1)) := eh_self
        have k11_0 : ri_lk (ri_st1 lo 4 (.int (l + 1))) 0 = some (.ref 0) := eh_keep (by decide) (Or.inl rfl) l0
        have k11_1 : ri_lk (ri_st1 lo 4 (.int (l + 1))) 1 = some (.int cu) := eh_keep (by decide) (Or.inl rfl) l1
        have k11_2 : ri_lk (ri_st1 lo 4 (.int (l + 1))) 2 = some (.int se) := eh_keep (by decide) (Or.inl rfl) l2
        have k11_3 : ri_lk (ri_st1 lo 4 (.int (l + 1))) 3 = some (.int mo) := eh_keep (by decide) (Or.inl rfl) l3
        have E := E.pu (p := 5) (lo' := (ri_st1 lo 4 (.int (l + 1)))) (st' := []) rfl (e := (.goto (-52), 3, [5], .null)) rfl rfl (fun _ _ => rfl)
        exact Or.inr (Or.inr (Or.inl ⟨c1, c6, c10, _, _, E, hV7, hN8, ty, k11_0, k11_1, k11_2, k11_3, k11_4⟩))
      · skip
        have E := E.ld (p := 40) (t := ri_isI) (i := 3) (n := 1) (v := .int mo) rfl (e := (.iload_n 3, 1, [], .null)) rfl rfl (fun _ _ => rfl) l3 rfl
        have E := E.ld (p := 41) (t := ri_isA) (i := 0) (n := 1) (v := .ref 0) rfl (e := (.aload_n 0, 1, [], .null)) rfl rfl (fun _ _ => rfl) l0 rfl
        have E := E.gr (n := 2) (p := 44) rfl (x := 33) (m := 3) (w := .null) (t := 12) (i := 6) (u := 1330) rfl rfl hV7 ty rfl
        have E := E.pu (p := 46) (lo' := lo) (st' := [.int 18, .ref 2, .int mo]) rfl (e := (.bipush 18, 2, [], .null)) rfl rfl (fun _ _ => rfl)
        have E := E.ld (p := 48) (t := ri_isI) (i := 4) (n := 2) (v := .int l) rfl (e := (.iload 4, 2, [], .null)) rfl rfl (fun _ _ => rfl) l4 rfl
        have E := E.pu (p := 49) (lo' := lo) (st' := [.int (18 + l), .ref 2, .int mo]) rfl (e := (.iadd, 1, [], .null)) rfl rfl (fun _ _ => rfl)
        have E := E.ai (p := 50) (z := eh_i G 2 (18 + l).toNatClampNeg) (n := (18 + l).toNatClampNeg) rfl (e := (.iaload, 1, [], .null)) rfl rfl (fun _ _ => rfl) rfl hV7 ty rfl rfl rfl
        obtain ⟨v1, h12, X, E⟩ := E.cs (p := 53) (as := [.int mo, .int (eh_i G 2 (18 + l).toNatClampNeg)]) (r := []) rfl (x := 270) (m := 3) (w := .null) (j := 151) (n := 2) (t := 0) (u := [1654, 1655]) rfl rfl rfl
        rcases xm_151 (d := d) X hV7 ty with ⟨c13, rfl, hV14, hN15⟩ | ⟨c16, rfl, hV17, hN18⟩
        · skip
          have c13 : ¬ ((eh_i G 2 (18 + l).toNatClampNeg).toInt < mo.toInt) := c13
          have E : eh_e _ _ 53 lo [.int (eh_i G 2 (18 + l).toNatClampNeg)] _ rs h' := E
          have E := E.so (p := 54) (t := ri_isI) (i := 3) (n := 1) rfl (e := (.istore_n 3, 1, [], .null)) rfl rfl (fun _ _ => rfl) rfl
          have k19_3 : ri_lk (ri_st1 lo 3 (.int (eh_i G 2 (18 + l).toNatClampNeg))) 3 = some (.int (eh_i G 2 (18 + l).toNatClampNeg)) := eh_self
          have k19_0 : ri_lk (ri_st1 lo 3 (.int (eh_i G 2 (18 + l).toNatClampNeg))) 0 = some (.ref 0) := eh_keep (by decide) (Or.inl rfl) l0
          have k19_1 : ri_lk (ri_st1 lo 3 (.int (eh_i G 2 (18 + l).toNatClampNeg))) 1 = some (.int cu) := eh_keep (by decide) (Or.inl rfl) l1
          have k19_2 : ri_lk (ri_st1 lo 3 (.int (eh_i G 2 (18 + l).toNatClampNeg))) 2 = some (.int se) := eh_keep (by decide) (Or.inl rfl) l2
          have k19_4 : ri_lk (ri_st1 lo 3 (.int (eh_i G 2 (18 + l).toNatClampNeg))) 4 = some (.int l) := eh_keep (by decide) (Or.inl rfl) l4
          have E := E.ii (p := 57) (y := l + 1) rfl (i := 4) (n := 1) (m := 3) (ax := []) (w := .null) rfl k19_4 rfl rfl
          have k20_4 : ri_lk (ri_st1 (ri_st1 lo 3 (.int (eh_i G 2 (18 + l).toNatClampNeg))) 4 (.int (l + 1))) 4 = some (.int (l + 1)) := eh_self
          have k20_0 : ri_lk (ri_st1 (ri_st1 lo 3 (.int (eh_i G 2 (18 + l).toNatClampNeg))) 4 (.int (l + 1))) 0 = some (.ref 0) := eh_keep (by decide) (Or.inl rfl) k19_0
          have k20_1 : ri_lk (ri_st1 (ri_st1 lo 3 (.int (eh_i G 2 (18 + l).toNatClampNeg))) 4 (.int (l + 1))) 1 = some (.int cu) := eh_keep (by decide) (Or.inl rfl) k19_1
          have k20_2 : ri_lk (ri_st1 (ri_st1 lo 3 (.int (eh_i G 2 (18 + l).toNatClampNeg))) 4 (.int (l + 1))) 2 = some (.int se) := eh_keep (by decide) (Or.inl rfl) k19_2
          have k20_3 : ri_lk (ri_st1 (ri_st1 lo 3 (.int (eh_i G 2 (18 + l).toNatClampNeg))) 4 (.int (l + 1))) 3 = some (.int (eh_i G 2 (18 + l).toNatClampNeg)) := eh_keep (by decide) (Or.inl rfl) k19_3
          have E := E.pu (p := 5) (lo' := (ri_st1 (ri_st1 lo 3 (.int (eh_i G 2 (18 + l).toNatClampNeg))) 4 (.int (l + 1)))) (st' := []) rfl (e := (.goto (-52), 3, [5], .null)) rfl rfl (fun _ _ => rfl)
          exact Or.inr (Or.inr (Or.inr (Or.inl ⟨c1, c6, c10, c13, _, _, E, hV14, (hN15.trans hN8), ty, k20_0, k20_1, k20_2, k20_3, k20_4⟩)))
        · skip
          have c16 : (eh_i G 2 (18 + l).toNatClampNeg).toInt < mo.toInt := c16
          have E : eh_e _ _ 53 lo [.int mo] _ rs h' := E
          have E := E.so (p := 54) (t := ri_isI) (i := 3) (n := 1) rfl (e := (.istore_n 3, 1, [], .null)) rfl rfl (fun _ _ => rfl) rfl
          have k21_3 : ri_lk (ri_st1 lo 3 (.int mo)) 3 = some (.int mo) := eh_self
          have k21_0 : ri_lk (ri_st1 lo 3 (.int mo)) 0 = some (.ref 0) := eh_keep (by decide) (Or.inl rfl) l0
          have k21_1 : ri_lk (ri_st1 lo 3 (.int mo)) 1 = some (.int cu) := eh_keep (by decide) (Or.inl rfl) l1
          have k21_2 : ri_lk (ri_st1 lo 3 (.int mo)) 2 = some (.int se) := eh_keep (by decide) (Or.inl rfl) l2
          have k21_4 : ri_lk (ri_st1 lo 3 (.int mo)) 4 = some (.int l) := eh_keep (by decide) (Or.inl rfl) l4
          have E := E.ii (p := 57) (y := l + 1) rfl (i := 4) (n := 1) (m := 3) (ax := []) (w := .null) rfl k21_4 rfl rfl
          have k22_4 : ri_lk (ri_st1 (ri_st1 lo 3 (.int mo)) 4 (.int (l + 1))) 4 = some (.int (l + 1)) := eh_self
          have k22_0 : ri_lk (ri_st1 (ri_st1 lo 3 (.int mo)) 4 (.int (l + 1))) 0 = some (.ref 0) := eh_keep (by decide) (Or.inl rfl) k21_0
          have k22_1 : ri_lk (ri_st1 (ri_st1 lo 3 (.int mo)) 4 (.int (l + 1))) 1 = some (.int cu) := eh_keep (by decide) (Or.inl rfl) k21_1
          have k22_2 : ri_lk (ri_st1 (ri_st1 lo 3 (.int mo)) 4 (.int (l + 1))) 2 = some (.int se) := eh_keep (by decide) (Or.inl rfl) k21_2
          have k22_3 : ri_lk (ri_st1 (ri_st1 lo 3 (.int mo)) 4 (.int (l + 1))) 3 = some (.int mo) := eh_keep (by decide) (Or.inl rfl) k21_3
          have E := E.pu (p := 5) (lo' := (ri_st1 (ri_st1 lo 3 (.int mo)) 4 (.int (l + 1)))) (st' := []) rfl (e := (.goto (-52), 3, [5], .null)) rfl rfl (fun _ _ => rfl)
          exact Or.inr (Or.inr (Or.inr (Or.inr (⟨c1, c6, c10, c16, _, _, E, hV17, (hN18.trans hN8), ty, k22_0, k22_1, k22_2, k22_3, k22_4⟩))))
