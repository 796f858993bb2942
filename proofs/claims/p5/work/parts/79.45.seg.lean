theorem xh_a {d : Nat} {lo : List (Nat × Value)} {h h' : ri_H} {rs : List Value} {G : eh_W} {c sw P : Nat} {ku sz : Nat → Nat} {ce hi : Nat → Nat → Nat} {cu se : Int32} (E : eh_e (ri_calE ri_md (d + 3)) md_192 0 lo [] h rs h') (hV : eh_V h = G) (ty : eh_ty tM G) (l0 : ri_lk lo 0 = some (.ref 0)) (l1 : ri_lk lo 1 = some (.int cu)) (l2 : ri_lk lo 2 = some (.int se)) (D : xD c sw P ku sz ce hi cu se G) : ∃ (x2 : eh_W), mo_M c sw P ku sz ce hi G x2 ∧ eh_ty tM x2 ∧ ∃ hz loz, eh_e (ri_calE ri_md (d + 3)) md_192 18 loz [] hz rs h' ∧ eh_V hz = x2 ∧ eh_N hz = eh_N h ∧ eh_ty tM x2 ∧ ri_lk loz 0 = some (.ref 0) ∧ ri_lk loz 1 = some (.int cu) ∧ ri_lk loz 2 = some (.int se) ∧ ri_lk loz 3 = some (.int 0) ∧ ri_lk loz 4 = some (.int ((eh_i x2 2 0) - 1)) := by
  have E := E.ld (p := 1) (t := ri_isA) (i := 0) (n := 1) (v := .ref 0) rfl (e := (.aload_n 0, 1, [], .null)) rfl rfl (fun _ _ => rfl) l0 rfl
  have E := E.ld (p := 2) (t := ri_isI) (i := 1) (n := 1) (v := .int cu) rfl (e := (.iload_n 1, 1, [], .null)) rfl rfl (fun _ _ => rfl) l1 rfl
  have E := E.ld (p := 3) (t := ri_isI) (i := 2) (n := 1) (v := .int se) rfl (e := (.iload_n 2, 1, [], .null)) rfl rfl (fun _ _ => rfl) l2 rfl
  obtain ⟨v1, h1, X, E⟩ := E.cv (p := 6) (as := [.int cu, .int se]) (b := 0) (r := []) rfl (x := 273) (m := 3) (w := .null) (j := 190) (n := 2) (t := 12) (u := [1646, 66, 1648]) rfl rfl rfl
  rcases xm_190 (d := d) X hV ty D with ⟨x2, c3, c4, rfl, hV5, hN6⟩
  have c3 : mo_M c sw P ku sz ce hi G x2 := c3
  have c4 : eh_ty tM x2 := c4
  have hV5 : _ = x2 := hV5
  have E : eh_e _ _ 6 lo [] _ rs h' := E
  have E := E.pu (p := 7) (lo' := lo) (st' := [.int 0]) rfl (e := (.iconst 0, 1, [], .null)) rfl rfl (fun _ _ => rfl)
  have E := E.so (p := 8) (t := ri_isI) (i := 3) (n := 1) rfl (e := (.istore_n 3, 1, [], .null)) rfl rfl (fun _ _ => rfl) rfl
  have k7_3 : ri_lk (ri_st1 lo 3 (.int 0)) 3 = some (.int 0) := eh_self
  have k7_0 : ri_lk (ri_st1 lo 3 (.int 0)) 0 = some (.ref 0) := eh_keep (by decide) (Or.inl rfl) l0
  have k7_1 : ri_lk (ri_st1 lo 3 (.int 0)) 1 = some (.int cu) := eh_keep (by decide) (Or.inl rfl) l1
  have k7_2 : ri_lk (ri_st1 lo 3 (.int 0)) 2 = some (.int se) := eh_keep (by decide) (Or.inl rfl) l2
  have E := E.ld (p := 9) (t := ri_isA) (i := 0) (n := 1) (v := .ref 0) rfl (e := (.aload_n 0, 1, [], .null)) rfl rfl (fun _ _ => rfl) k7_0 rfl
  have E := E.gr (n := 2) (p := 12) rfl (x := 33) (m := 3) (w := .null) (t := 12) (i := 6) (u := 1330) rfl rfl hV5 c4 rfl
  have E := E.pu (p := 13) (lo' := (ri_st1 lo 3 (.int 0))) (st' := [.int 0, .ref 2]) rfl (e := (.iconst 0, 1, [], .null)) rfl rfl (fun _ _ => rfl)
  have E := E.ai (p := 14) (z := eh_i x2 2 0) (n := 0) rfl (e := (.iaload, 1, [], .null)) rfl rfl (fun _ _ => rfl) rfl hV5 c4 (by decide) rfl rfl
  have E := E.pu (p := 15) (lo' := (ri_st1 lo 3 (.int 0))) (st' := [.int 1, .int (eh_i x2 2 0)]) rfl (e := (.iconst 1, 1, [], .null)) rfl rfl (fun _ _ => rfl)
  have E := E.pu (p := 16) (lo' := (ri_st1 lo 3 (.int 0))) (st' := [.int ((eh_i x2 2 0) - 1)]) rfl (e := (.isub, 1, [], .null)) rfl rfl (fun _ _ => rfl)
  have E := E.so (p := 18) (t := ri_isI) (i := 4) (n := 2) rfl (e := (.istore 4, 2, [], .null)) rfl rfl (fun _ _ => rfl) rfl
  have k8_4 : ri_lk (ri_st1 (ri_st1 lo 3 (.int 0)) 4 (.int ((eh_i x2 2 0) - 1))) 4 = some (.int ((eh_i x2 2 0) - 1)) := eh_self
  have k8_0 : ri_lk (ri_st1 (ri_st1 lo 3 (.int 0)) 4 (.int ((eh_i x2 2 0) - 1))) 0 = some (.ref 0) := eh_keep (by decide) (Or.inl rfl) k7_0
  have k8_1 : ri_lk (ri_st1 (ri_st1 lo 3 (.int 0)) 4 (.int ((eh_i x2 2 0) - 1))) 1 = some (.int cu) := eh_keep (by decide) (Or.inl rfl) k7_1
  have k8_2 : ri_lk (ri_st1 (ri_st1 lo 3 (.int 0)) 4 (.int ((eh_i x2 2 0) - 1))) 2 = some (.int se) := eh_keep (by decide) (Or.inl rfl) k7_2
  have k8_3 : ri_lk (ri_st1 (ri_st1 lo 3 (.int 0)) 4 (.int ((eh_i x2 2 0) - 1))) 3 = some (.int 0) := eh_keep (by decide) (Or.inl rfl) k7_3
  exact ⟨x2, c3, c4, _, _, E, hV5, hN6, c4, k8_0, k8_1, k8_2, k8_3, k8_4⟩
theorem xh_l {cal : eh_K} {lo : List (Nat × Value)} {h h' : ri_H} {rs : List Value} {G : eh_W} {cu se v k : Int32} (E : eh_e cal md_192 18 lo [] h rs h') (hV : eh_V h = G) (ty : eh_ty tM G) (l0 : ri_lk lo 0 = some (.ref 0)) (l1 : ri_lk lo 1 = some (.int cu)) (l2 : ri_lk lo 2 = some (.int se)) (l3 : ri_lk lo 3 = some (.int v)) (l4 : ri_lk lo 4 = some (.int k)) : (k.toInt < 0 ∧ rs = [.int v] ∧ eh_V h' = G ∧ eh_N h' = eh_N h) ∨ (¬ (k.toInt < 0) ∧ ∃ hz loz, eh_e cal md_192 18 loz [] hz rs h' ∧ eh_V hz = G ∧ eh_N hz = eh_N h ∧ eh_ty tM G ∧ ri_lk loz 0 = some (.ref 0) ∧ ri_lk loz 1 = some (.int cu) ∧ ri_lk loz 2 = some (.int se) ∧ ri_lk loz 3 = some (.int ((4 * v) + (eh_i G 7 (k).toNatClampNeg))) ∧ ri_lk loz 4 = some (.int (k + (-1)))) := by
  have E := E.ld (p := 20) (t := ri_isI) (i := 4) (n := 2) (v := .int k) rfl (e := (.iload 4, 2, [], .null)) rfl rfl (fun _ _ => rfl) l4 rfl
  rcases eh_r2 rfl (show (0 : Int32).toInt = 0 by decide) (E.br (p := 23) (c := 2) (tgt := 41) (a := k) (b := 0) (st' := []) rfl (e := (.ifCond .lt 21, 3, [41], .null)) rfl rfl (fun _ _ => rfl) rfl) with ⟨c1, E⟩ | ⟨c1, E⟩
  · skip
    have E := E.ld (p := 42) (t := ri_isI) (i := 3) (n := 1) (v := .int v) rfl (e := (.iload_n 3, 1, [], .null)) rfl rfl (fun _ _ => rfl) l3 rfl
    obtain ⟨r1, r2⟩ := E.reti rfl (m := 1) (ax := []) (w := .null) rfl
    exact Or.inl ⟨c1, r1, ((congrArg eh_V r2).trans hV), (congrArg eh_N r2)⟩
  · skip
    have E := E.pu (p := 24) (lo' := lo) (st' := [.int 4]) rfl (e := (.iconst 4, 1, [], .null)) rfl rfl (fun _ _ => rfl)
    have E := E.ld (p := 25) (t := ri_isI) (i := 3) (n := 1) (v := .int v) rfl (e := (.iload_n 3, 1, [], .null)) rfl rfl (fun _ _ => rfl) l3 rfl
    have E := E.pu (p := 26) (lo' := lo) (st' := [.int (4 * v)]) rfl (e := (.imul, 1, [], .null)) rfl rfl (fun _ _ => rfl)
    have E := E.ld (p := 27) (t := ri_isA) (i := 0) (n := 1) (v := .ref 0) rfl (e := (.aload_n 0, 1, [], .null)) rfl rfl (fun _ _ => rfl) l0 rfl
    have E := E.gr (n := 7) (p := 30) rfl (x := 50) (m := 3) (w := .null) (t := 12) (i := 21) (u := 1345) rfl rfl hV ty rfl
    have E := E.ld (p := 32) (t := ri_isI) (i := 4) (n := 2) (v := .int k) rfl (e := (.iload 4, 2, [], .null)) rfl rfl (fun _ _ => rfl) l4 rfl
    have E := E.ai (p := 33) (z := eh_i G 7 (k).toNatClampNeg) (n := (k).toNatClampNeg) rfl (e := (.iaload, 1, [], .null)) rfl rfl (fun _ _ => rfl) rfl hV ty rfl rfl rfl
    have E := E.pu (p := 34) (lo' := lo) (st' := [.int ((4 * v) + (eh_i G 7 (k).toNatClampNeg))]) rfl (e := (.iadd, 1, [], .null)) rfl rfl (fun _ _ => rfl)
    have E := E.so (p := 35) (t := ri_isI) (i := 3) (n := 1) rfl (e := (.istore_n 3, 1, [], .null)) rfl rfl (fun _ _ => rfl) rfl
    have k2_3 : ri_lk (ri_st1 lo 3 (.int ((4 * v) + (eh_i G 7 (k).toNatClampNeg)))) 3 = some (.int ((4 * v) + (eh_i G 7 (k).toNatClampNeg))) := eh_self
    have k2_0 : ri_lk (ri_st1 lo 3 (.int ((4 * v) + (eh_i G 7 (k).toNatClampNeg)))) 0 = some (.ref 0) := eh_keep (by decide) (Or.inl rfl) l0
    have k2_1 : ri_lk (ri_st1 lo 3 (.int ((4 * v) + (eh_i G 7 (k).toNatClampNeg)))) 1 = some (.int cu) := eh_keep (by decide) (Or.inl rfl) l1
    have k2_2 : ri_lk (ri_st1 lo 3 (.int ((4 * v) + (eh_i G 7 (k).toNatClampNeg)))) 2 = some (.int se) := eh_keep (by decide) (Or.inl rfl) l2
    have k2_4 : ri_lk (ri_st1 lo 3 (.int ((4 * v) + (eh_i G 7 (k).toNatClampNeg)))) 4 = some (.int k) := eh_keep (by decide) (Or.inl rfl) l4
    have E := E.ii (p := 38) (y := k + (-1)) rfl (i := 4) (n := (-1)) (m := 3) (ax := []) (w := .null) rfl k2_4 rfl rfl
    have k3_4 : ri_lk (ri_st1 (ri_st1 lo 3 (.int ((4 * v) + (eh_i G 7 (k).toNatClampNeg)))) 4 (.int (k + (-1)))) 4 = some (.int (k + (-1))) := eh_self
    have k3_0 : ri_lk (ri_st1 (ri_st1 lo 3 (.int ((4 * v) + (eh_i G 7 (k).toNatClampNeg)))) 4 (.int (k + (-1)))) 0 = some (.ref 0) := eh_keep (by decide) (Or.inl rfl) k2_0
    have k3_1 : ri_lk (ri_st1 (ri_st1 lo 3 (.int ((4 * v) + (eh_i G 7 (k).toNatClampNeg)))) 4 (.int (k + (-1)))) 1 = some (.int cu) := eh_keep (by decide) (Or.inl rfl) k2_1
    have k3_2 : ri_lk (ri_st1 (ri_st1 lo 3 (.int ((4 * v) + (eh_i G 7 (k).toNatClampNeg)))) 4 (.int (k + (-1)))) 2 = some (.int se) := eh_keep (by decide) (Or.inl rfl) k2_2
    have k3_3 : ri_lk (ri_st1 (ri_st1 lo 3 (.int ((4 * v) + (eh_i G 7 (k).toNatClampNeg)))) 4 (.int (k + (-1)))) 3 = some (.int ((4 * v) + (eh_i G 7 (k).toNatClampNeg))) := eh_keep (by decide) (Or.inl rfl) k2_3
    have E := E.pu (p := 18) (lo' := (ri_st1 (ri_st1 lo 3 (.int ((4 * v) + (eh_i G 7 (k).toNatClampNeg)))) 4 (.int (k + (-1))))) (st' := []) rfl (e := (.goto (-20), 3, [18], .null)) rfl rfl (fun _ _ => rfl)
    exact Or.inr (⟨c1, _, _, E, hV, rfl, ty, k3_0, k3_1, k3_2, k3_3, k3_4⟩)
theorem xw_193 {d : Nat} {h h' : ri_H} {v : Option Value} {G : eh_W} {c sw P : Nat} {ku sz : Nat → Nat} {ce hi : Nat → Nat → Nat} {cu se : Int32} (E : ri_calE ri_md (d + 4) 193 [.ref 0, .int cu, .int se] h = some (v, h')) (hV : eh_V h = G) (ty : eh_ty tM G) (D : xD c sw P ku sz ce hi cu se G) : ∃ (x2 : eh_W), mo_M c sw P ku sz ce hi G x2 ∧ eh_ty tM x2 ∧ v = some (.int (eh_i x2 0 22)) ∧ eh_V h' = x2 ∧ eh_N h' = eh_N h := by
  obtain ⟨rs, hrs, E⟩ := eh_in E (q := md_193) rfl
  have E := E.ld (p := 1) (t := ri_isA) (i := 0) (n := 1) (v := .ref 0) rfl (e := (.aload_n 0, 1, [], .null)) rfl rfl (fun _ _ => rfl) rfl rfl
  have E := E.ld (p := 2) (t := ri_isI) (i := 1) (n := 1) (v := .int cu) rfl (e := (.iload_n 1, 1, [], .null)) rfl rfl (fun _ _ => rfl) rfl rfl
  have E := E.ld (p := 3) (t := ri_isI) (i := 2) (n := 1) (v := .int se) rfl (e := (.iload_n 2, 1, [], .null)) rfl rfl (fun _ _ => rfl) rfl rfl
  obtain ⟨v1, h1, X, E⟩ := E.cv (p := 6) (as := [.int cu, .int se]) (b := 0) (r := []) rfl (x := 273) (m := 3) (w := .null) (j := 190) (n := 2) (t := 12) (u := [1646, 66, 1648]) rfl rfl rfl
  rcases xm_190 (d := d) X hV ty D with ⟨x2, c3, c4, rfl, hV5, hN6⟩
  have c3 : mo_M c sw P ku sz ce hi G x2 := c3
  have c4 : eh_ty tM x2 := c4
  have hV5 : _ = x2 := hV5
  have E : eh_e _ _ 6 (ri_as 0 [.ref 0, .int cu, .int se]) [] _ rs h' := E
  have E := E.ld (p := 7) (t := ri_isA) (i := 0) (n := 1) (v := .ref 0) rfl (e := (.aload_n 0, 1, [], .null)) rfl rfl (fun _ _ => rfl) rfl rfl
  have E := E.gi (y := eh_i x2 0 22) (p := 10) rfl (x := 264) (m := 3) (w := .null) (t := 12) (i := 22) (u := 1346) rfl rfl hV5 c4 rfl rfl
  obtain ⟨r1, r2⟩ := E.reti rfl (m := 1) (ax := []) (w := .null) rfl
  exact ⟨x2, c3, c4, (by rw [← hrs, r1]; rfl), ((congrArg eh_V r2).trans hV5), ((congrArg eh_N r2).trans hN6)⟩
