theorem xm_x {d : Nat} {lo : List (Nat × Value)} {h h' : ri_H} {rs : List Value} {G : eh_W} {c sw P : Nat} {ku sz : Nat → Nat} {ce hi : Nat → Nat → Nat} {cu se i l : Int32} (E : eh_e (ri_calE ri_md (d + 2)) md_190 139 lo [] h rs h') (hV : eh_V h = G) (ty : eh_ty tM G) (l0 : ri_lk lo 0 = some (.ref 0)) (l1 : ri_lk lo 1 = some (.int cu)) (l2 : ri_lk lo 2 = some (.int se)) (l3 : ri_lk lo 3 = some (.int i)) (l4 : ri_lk lo 4 = some (.int l)) (D : xD c sw P ku sz ce hi cu se G) : (∃ (x2 : Int32), x2 = nI (rM (chs c sw ku) sz P) ∧ ¬ (i.toInt < x2.toInt) ∧ ∃ hz loz, eh_e (ri_calE ri_md (d + 2)) md_190 28 loz [] hz rs h' ∧ eh_V hz = G ∧ eh_N hz = eh_N h ∧ eh_ty tM G ∧ ri_lk loz 0 = some (.ref 0) ∧ ri_lk loz 1 = some (.int cu) ∧ ri_lk loz 2 = some (.int se) ∧ ri_lk loz 3 = some (.int (i + 1)) ∧ ri_lk loz 4 = some (.int l)) ∨ (∃ (x2 : Int32), x2 = nI (rM (chs c sw ku) sz P) ∧ i.toInt < x2.toInt ∧ ∃ hz loz, eh_e (ri_calE ri_md (d + 2)) md_190 152 loz [] hz rs h' ∧ eh_V hz = G ∧ eh_N hz = eh_N h ∧ eh_ty tM G ∧ ri_lk loz 0 = some (.ref 0) ∧ ri_lk loz 1 = some (.int cu) ∧ ri_lk loz 2 = some (.int se) ∧ ri_lk loz 3 = some (.int i) ∧ ri_lk loz 4 = some (.int 0)) := by
  have E := E.ld (p := 140) (t := ri_isI) (i := 3) (n := 1) (v := .int i) rfl (e := (.iload_n 3, 1, [], .null)) rfl rfl (fun _ _ => rfl) l3 rfl
  have E := E.ld (p := 141) (t := ri_isA) (i := 0) (n := 1) (v := .ref 0) rfl (e := (.aload_n 0, 1, [], .null)) rfl rfl (fun _ _ => rfl) l0 rfl
  have E := E.ld (p := 142) (t := ri_isI) (i := 1) (n := 1) (v := .int cu) rfl (e := (.iload_n 1, 1, [], .null)) rfl rfl (fun _ _ => rfl) l1 rfl
  have E := E.ld (p := 143) (t := ri_isI) (i := 2) (n := 1) (v := .int se) rfl (e := (.iload_n 2, 1, [], .null)) rfl rfl (fun _ _ => rfl) l2 rfl
  obtain ⟨v1, h1, X, E⟩ := E.cv (p := 146) (as := [.int cu, .int se]) (b := 0) (r := [.int i]) rfl (x := 267) (m := 3) (w := .null) (j := 191) (n := 2) (t := 12) (u := [1650, 67, 1652]) rfl rfl rfl
  rcases xl_191 (d := d) X hV ty D with ⟨x2, c3, rfl, hV4, hN5⟩
  have c3 : x2 = nI (rM (chs c sw ku) sz P) := c3
  have E : eh_e _ _ 146 lo [.int x2, .int i] _ rs h' := E
  rcases eh_r3 rfl rfl (E.br (p := 149) (c := 3) (tgt := 193) (a := i) (b := x2) (st' := []) rfl (e := (.if_icmp .ge 47, 3, [193], .null)) rfl rfl (fun _ _ => rfl) rfl) with ⟨c6, E⟩ | ⟨c6, E⟩
  · skip
    have E := E.ii (p := 196) (y := i + 1) rfl (i := 3) (n := 1) (m := 3) (ax := []) (w := .null) rfl l3 rfl rfl
    have k7_3 : ri_lk (ri_st1 lo 3 (.int (i + 1))) 3 = some (.int (i + 1)) := eh_self
    have k7_0 : ri_lk (ri_st1 lo 3 (.int (i + 1))) 0 = some (.ref 0) := eh_keep (by decide) (Or.inl rfl) l0
    have k7_1 : ri_lk (ri_st1 lo 3 (.int (i + 1))) 1 = some (.int cu) := eh_keep (by decide) (Or.inl rfl) l1
    have k7_2 : ri_lk (ri_st1 lo 3 (.int (i + 1))) 2 = some (.int se) := eh_keep (by decide) (Or.inl rfl) l2
    have k7_4 : ri_lk (ri_st1 lo 3 (.int (i + 1))) 4 = some (.int l) := eh_keep (by decide) (Or.inl rfl) l4
    have E := E.pu (p := 28) (lo' := (ri_st1 lo 3 (.int (i + 1)))) (st' := []) rfl (e := (.goto (-168), 3, [28], .null)) rfl rfl (fun _ _ => rfl)
    exact Or.inl ⟨x2, c3, c6, _, _, E, hV4, hN5, ty, k7_0, k7_1, k7_2, k7_3, k7_4⟩
  · skip
    have E := E.pu (p := 150) (lo' := lo) (st' := [.int 0]) rfl (e := (.iconst 0, 1, [], .null)) rfl rfl (fun _ _ => rfl)
    have E := E.so (p := 152) (t := ri_isI) (i := 4) (n := 2) rfl (e := (.istore 4, 2, [], .null)) rfl rfl (fun _ _ => rfl) rfl
    have k8_4 : ri_lk (ri_st1 lo 4 (.int 0)) 4 = some (.int 0) := eh_self
    have k8_0 : ri_lk (ri_st1 lo 4 (.int 0)) 0 = some (.ref 0) := eh_keep (by decide) (Or.inl rfl) l0
    have k8_1 : ri_lk (ri_st1 lo 4 (.int 0)) 1 = some (.int cu) := eh_keep (by decide) (Or.inl rfl) l1
    have k8_2 : ri_lk (ri_st1 lo 4 (.int 0)) 2 = some (.int se) := eh_keep (by decide) (Or.inl rfl) l2
    have k8_3 : ri_lk (ri_st1 lo 4 (.int 0)) 3 = some (.int i) := eh_keep (by decide) (Or.inl rfl) l3
    exact Or.inr (⟨x2, c3, c6, _, _, E, hV4, hN5, ty, k8_0, k8_1, k8_2, k8_3, k8_4⟩)
theorem xm_h {cal : eh_K} {lo : List (Nat × Value)} {h h' : ri_H} {rs : List Value} {G : eh_W} {cu se i l : Int32} (E : eh_e cal md_190 152 lo [] h rs h') (hV : eh_V h = G) (ty : eh_ty tM G) (l0 : ri_lk lo 0 = some (.ref 0)) (l1 : ri_lk lo 1 = some (.int cu)) (l2 : ri_lk lo 2 = some (.int se)) (l3 : ri_lk lo 3 = some (.int i)) (l4 : ri_lk lo 4 = some (.int l)) : (¬ (l.toInt < 8) ∧ ∃ hz loz, eh_e cal md_190 28 loz [] hz rs h' ∧ eh_V hz = G ∧ eh_N hz = eh_N h ∧ eh_ty tM G ∧ ri_lk loz 0 = some (.ref 0) ∧ ri_lk loz 1 = some (.int cu) ∧ ri_lk loz 2 = some (.int se) ∧ ri_lk loz 3 = some (.int (i + 1)) ∧ ri_lk loz 4 = some (.int l)) ∨ (l.toInt < 8 ∧ (eh_i G 7 (l).toNatClampNeg).toInt < 2 ∧ ∃ hz loz, eh_e cal md_190 152 loz [] hz rs h' ∧ eh_V hz = eh_u G 0 22 (.int ((eh_i G 0 22) ||| 0)) ∧ eh_N hz = eh_N h ∧ eh_ty tM (eh_u G 0 22 (.int ((eh_i G 0 22) ||| 0))) ∧ ri_lk loz 0 = some (.ref 0) ∧ ri_lk loz 1 = some (.int cu) ∧ ri_lk loz 2 = some (.int se) ∧ ri_lk loz 3 = some (.int i) ∧ ri_lk loz 4 = some (.int (l + 1))) ∨ (l.toInt < 8 ∧ ¬ ((eh_i G 7 (l).toNatClampNeg).toInt < 2) ∧ ∃ hz loz, eh_e cal md_190 152 loz [] hz rs h' ∧ eh_V hz = eh_u G 0 22 (.int ((eh_i G 0 22) ||| (1 <<< (l &&& 31)))) ∧ eh_N hz = eh_N h ∧ eh_ty tM (eh_u G 0 22 (.int ((eh_i G 0 22) ||| (1 <<< (l &&& 31))))) ∧ ri_lk loz 0 = some (.ref 0) ∧ ri_lk loz 1 = some (.int cu) ∧ ri_lk loz 2 = some (.int se) ∧ ri_lk loz 3 = some (.int i) ∧ ri_lk loz 4 = some (.int (l + 1))) := by
  have E := E.ld (p := 154) (t := ri_isI) (i := 4) (n := 2) (v := .int l) rfl (e := (.iload 4, 2, [], .null)) rfl rfl (fun _ _ => rfl) l4 rfl
  have E := E.pu (p := 156) (lo' := lo) (st' := [.int 8, .int l]) rfl (e := (.bipush 8, 2, [], .null)) rfl rfl (fun _ _ => rfl)
  rcases eh_r3 rfl (show (8 : Int32).toInt = 8 by decide) (E.br (p := 159) (c := 3) (tgt := 193) (a := l) (b := 8) (st' := []) rfl (e := (.if_icmp .ge 37, 3, [193], .null)) rfl rfl (fun _ _ => rfl) rfl) with ⟨c1, E⟩ | ⟨c1, E⟩
  · skip
    have E := E.ii (p := 196) (y := i + 1) rfl (i := 3) (n := 1) (m := 3) (ax := []) (w := .null) rfl l3 rfl rfl
    have k2_3 : ri_lk (ri_st1 lo 3 (.int (i + 1))) 3 = some (.int (i + 1)) := eh_self
    have k2_0 : ri_lk (ri_st1 lo 3 (.int (i + 1))) 0 = some (.ref 0) := eh_keep (by decide) (Or.inl rfl) l0
    have k2_1 : ri_lk (ri_st1 lo 3 (.int (i + 1))) 1 = some (.int cu) := eh_keep (by decide) (Or.inl rfl) l1
    have k2_2 : ri_lk (ri_st1 lo 3 (.int (i + 1))) 2 = some (.int se) := eh_keep (by decide) (Or.inl rfl) l2
    have k2_4 : ri_lk (ri_st1 lo 3 (.int (i + 1))) 4 = some (.int l) := eh_keep (by decide) (Or.inl rfl) l4
    have E := E.pu (p := 28) (lo' := (ri_st1 lo 3 (.int (i + 1)))) (st' := []) rfl (e := (.goto (-168), 3, [28], .null)) rfl rfl (fun _ _ => rfl)
    exact Or.inl ⟨c1, _, _, E, hV, rfl, ty, k2_0, k2_1, k2_2, k2_3, k2_4⟩
  · skip
    have E := E.ld (p := 160) (t := ri_isA) (i := 0) (n := 1) (v := .ref 0) rfl (e := (.aload_n 0, 1, [], .null)) rfl rfl (fun _ _ => rfl) l0 rfl
    have E := E.pu (p := 161) (lo' := lo) (st' := [.ref 0, .ref 0]) rfl (e := (.dup, 1, [], .null)) rfl rfl (fun _ _ => rfl)
    have E := E.gi (y := eh_i G 0 22) (p := 164) rfl (x := 264) (m := 3) (w := .null) (t := 12) (i := 22) (u := 1346) rfl rfl hV ty rfl rfl
    have E := E.ld (p := 165) (t := ri_isA) (i := 0) (n := 1) (v := .ref 0) rfl (e := (.aload_n 0, 1, [], .null)) rfl rfl (fun _ _ => rfl) l0 rfl
    have E := E.gr (n := 7) (p := 168) rfl (x := 50) (m := 3) (w := .null) (t := 12) (i := 21) (u := 1345) rfl rfl hV ty rfl
    have E := E.ld (p := 170) (t := ri_isI) (i := 4) (n := 2) (v := .int l) rfl (e := (.iload 4, 2, [], .null)) rfl rfl (fun _ _ => rfl) l4 rfl
    have E := E.ai (p := 171) (z := eh_i G 7 (l).toNatClampNeg) (n := (l).toNatClampNeg) rfl (e := (.iaload, 1, [], .null)) rfl rfl (fun _ _ => rfl) rfl hV ty rfl rfl rfl
    have E := E.pu (p := 172) (lo' := lo) (st' := [.int 2, .int (eh_i G 7 (l).toNatClampNeg), .int (eh_i G 0 22), .ref 0]) rfl (e := (.iconst 2, 1, [], .null)) rfl rfl (fun _ _ => rfl)
    rcases eh_r2 rfl (show (2 : Int32).toInt = 2 by decide) (E.br (p := 175) (c := 2) (tgt := 182) (a := eh_i G 7 (l).toNatClampNeg) (b := 2) (st' := [.int (eh_i G 0 22), .ref 0]) rfl (e := (.if_icmp .lt 10, 3, [182], .null)) rfl rfl (fun _ _ => rfl) rfl) with ⟨c3, E⟩ | ⟨c3, E⟩
    · skip
      have E := E.pu (p := 183) (lo' := lo) (st' := [.int 0, .int (eh_i G 0 22), .ref 0]) rfl (e := (.iconst 0, 1, [], .null)) rfl rfl (fun _ _ => rfl)
      have E := E.pu (p := 184) (lo' := lo) (st' := [.int ((eh_i G 0 22) ||| 0), .ref 0]) rfl (e := (.ior, 1, [], .null)) rfl rfl (fun _ _ => rfl)
      obtain ⟨h4, hV5, hN6, E⟩ := E.gp (p := 187) rfl (x := 264) (m := 3) (w := .null) (t := 12) (i := 22) (u := 1346) (y := 0) rfl rfl hV
      have E := E.ii (p := 190) (y := l + 1) rfl (i := 4) (n := 1) (m := 3) (ax := []) (w := .null) rfl l4 rfl rfl
      have k7_4 : ri_lk (ri_st1 lo 4 (.int (l + 1))) 4 = some (.int (l + 1)) := eh_self
      have k7_0 : ri_lk (ri_st1 lo 4 (.int (l + 1))) 0 = some (.ref 0) := eh_keep (by decide) (Or.inl rfl) l0
      have k7_1 : ri_lk (ri_st1 lo 4 (.int (l + 1))) 1 = some (.int cu) := eh_keep (by decide) (Or.inl rfl) l1
      have k7_2 : ri_lk (ri_st1 lo 4 (.int (l + 1))) 2 = some (.int se) := eh_keep (by decide) (Or.inl rfl) l2
      have k7_3 : ri_lk (ri_st1 lo 4 (.int (l + 1))) 3 = some (.int i) := eh_keep (by decide) (Or.inl rfl) l3
      have E := E.pu (p := 152) (lo' := (ri_st1 lo 4 (.int (l + 1)))) (st' := []) rfl (e := (.goto (-38), 3, [152], .null)) rfl rfl (fun _ _ => rfl)
      exact Or.inr (Or.inl ⟨c1, c3, _, _, E, hV5, hN6, (ty.ui rfl), k7_0, k7_1, k7_2, k7_3, k7_4⟩)
    · skip
      have E := E.pu (p := 176) (lo' := lo) (st' := [.int 1, .int (eh_i G 0 22), .ref 0]) rfl (e := (.iconst 1, 1, [], .null)) rfl rfl (fun _ _ => rfl)
      have E := E.ld (p := 178) (t := ri_isI) (i := 4) (n := 2) (v := .int l) rfl (e := (.iload 4, 2, [], .null)) rfl rfl (fun _ _ => rfl) l4 rfl
      have E := E.pu (p := 179) (lo' := lo) (st' := [.int (1 <<< (l &&& 31)), .int (eh_i G 0 22), .ref 0]) rfl (e := (.ishl, 1, [], .null)) rfl rfl (fun _ _ => rfl)
      have E := E.pu (p := 183) (lo' := lo) (st' := [.int (1 <<< (l &&& 31)), .int (eh_i G 0 22), .ref 0]) rfl (e := (.goto 4, 3, [183], .null)) rfl rfl (fun _ _ => rfl)
      have E := E.pu (p := 184) (lo' := lo) (st' := [.int ((eh_i G 0 22) ||| (1 <<< (l &&& 31))), .ref 0]) rfl (e := (.ior, 1, [], .null)) rfl rfl (fun _ _ => rfl)
      obtain ⟨h8, hV9, hN10, E⟩ := E.gp (p := 187) rfl (x := 264) (m := 3) (w := .null) (t := 12) (i := 22) (u := 1346) (y := 0) rfl rfl hV
      have E := E.ii (p := 190) (y := l + 1) rfl (i := 4) (n := 1) (m := 3) (ax := []) (w := .null) rfl l4 rfl rfl
      have k11_4 : ri_lk (ri_st1 lo 4 (.int (l + 1))) 4 = some (.int (l + 1)) := eh_self
      have k11_0 : ri_lk (ri_st1 lo 4 (.int (l + 1))) 0 = some (.ref 0) := eh_keep (by decide) (Or.inl rfl) l0
      have k11_1 : ri_lk (ri_st1 lo 4 (.int (l + 1))) 1 = some (.int cu) := eh_keep (by decide) (Or.inl rfl) l1
      have k11_2 : ri_lk (ri_st1 lo 4 (.int (l + 1))) 2 = some (.int se) := eh_keep (by decide) (Or.inl rfl) l2
      have k11_3 : ri_lk (ri_st1 lo 4 (.int (l + 1))) 3 = some (.int i) := eh_keep (by decide) (Or.inl rfl) l3
      have E := E.pu (p := 152) (lo' := (ri_st1 lo 4 (.int (l + 1)))) (st' := []) rfl (e := (.goto (-38), 3, [152], .null)) rfl rfl (fun _ _ => rfl)
      exact Or.inr (Or.inr (⟨c1, c3, _, _, E, hV9, hN10, (ty.ui rfl), k11_0, k11_1, k11_2, k11_3, k11_4⟩))
