theorem zfc_a {cal : eh_K} {lo : List (Nat × Value)} {h h' : ri_H} {rs : List Value} {G : eh_W} {co : Int64} (E : eh_e cal md_29 0 lo [] h rs h') (hV : eh_V h = G) (ty : eh_ty tC G) (l0 : ri_lk lo 0 = some (.ref 23)) (l1 : ri_lk lo 1 = some (.long co)) : ∃ hz loz, eh_e cal md_29 2 loz [] hz rs h' ∧ eh_V hz = G ∧ eh_N hz = eh_N h ∧ eh_ty tC G ∧ ri_lk loz 0 = some (.ref 23) ∧ ri_lk loz 1 = some (.long co) ∧ ri_lk loz 3 = some (.int 0) := by
  have E := E.pu (p := 1) (lo' := lo) (st' := [.int 0]) rfl (e := (.iconst 0, 1, [], .null)) rfl rfl (fun _ _ => rfl)
  have E := E.so (p := 2) (t := ri_isI) (i := 3) (n := 1) rfl (e := (.istore_n 3, 1, [], .null)) rfl rfl (fun _ _ => rfl) rfl
  have k1_3 : ri_lk (ri_st1 lo 3 (.int 0)) 3 = some (.int 0) := eh_self
  have k1_0 : ri_lk (ri_st1 lo 3 (.int 0)) 0 = some (.ref 23) := eh_keep (by decide) (Or.inl rfl) l0
  have k1_1 : ri_lk (ri_st1 lo 3 (.int 0)) 1 = some (.long co) := eh_keep (by decide) (Or.inr (by decide)) l1
  exact ⟨_, _, E, hV, rfl, ty, k1_0, k1_1, k1_3⟩
theorem zfc_i {cal : eh_K} {lo : List (Nat × Value)} {h h' : ri_H} {rs : List Value} {G : eh_W} {co : Int64} {k : Int32} (E : eh_e cal md_29 2 lo [] h rs h') (hV : eh_V h = G) (ty : eh_ty tC G) (l0 : ri_lk lo 0 = some (.ref 23)) (l1 : ri_lk lo 1 = some (.long co)) (l3 : ri_lk lo 3 = some (.int k)) : (¬ (k.toInt < (eh_i G 23 12).toInt) ∧ rs = [.int (-1)] ∧ eh_V h' = G ∧ eh_N h' = eh_N h) ∨ (k.toInt < (eh_i G 23 12).toInt ∧ ¬ ((eh_l G 32 (k).toNatClampNeg) = co) ∧ ∃ hz loz, eh_e cal md_29 2 loz [] hz rs h' ∧ eh_V hz = G ∧ eh_N hz = eh_N h ∧ eh_ty tC G ∧ ri_lk loz 0 = some (.ref 23) ∧ ri_lk loz 1 = some (.long co) ∧ ri_lk loz 3 = some (.int (k + 1))) ∨ (k.toInt < (eh_i G 23 12).toInt ∧ (eh_l G 32 (k).toNatClampNeg) = co ∧ rs = [.int k] ∧ eh_V h' = G ∧ eh_N h' = eh_N h) := by
  have E := E.ld (p := 3) (t := ri_isI) (i := 3) (n := 1) (v := .int k) rfl (e := (.iload_n 3, 1, [], .null)) rfl rfl (fun _ _ => rfl) l3 rfl
  have E := E.ld (p := 4) (t := ri_isA) (i := 0) (n := 1) (v := .ref 23) rfl (e := (.aload_n 0, 1, [], .null)) rfl rfl (fun _ _ => rfl) l0 rfl
  have E := E.gi (y := eh_i G 23 12) (p := 7) rfl (x := 58) (m := 3) (w := .null) (t := 4) (i := 12) (u := 293) rfl rfl hV ty rfl rfl
  rcases eh_r3 rfl rfl (E.br (p := 10) (c := 3) (tgt := 29) (a := k) (b := eh_i G 23 12) (st' := []) rfl (e := (.if_icmp .ge 22, 3, [29], .null)) rfl rfl (fun _ _ => rfl) rfl) with ⟨c1, E⟩ | ⟨c1, E⟩
  · skip
    have E := E.pu (p := 30) (lo' := lo) (st' := [.int (-1)]) rfl (e := (.iconst (-1), 1, [], .null)) rfl rfl (fun _ _ => rfl)
    obtain ⟨r1, r2⟩ := E.reti rfl (m := 1) (ax := []) (w := .null) rfl
    exact Or.inl ⟨c1, r1, ((congrArg eh_V r2).trans hV), (congrArg eh_N r2)⟩
  · skip
    have E := E.ld (p := 11) (t := ri_isA) (i := 0) (n := 1) (v := .ref 23) rfl (e := (.aload_n 0, 1, [], .null)) rfl rfl (fun _ _ => rfl) l0 rfl
    have E := E.gr (n := 32) (p := 14) rfl (x := 48) (m := 3) (w := .null) (t := 4) (i := 9) (u := 286) rfl rfl hV ty rfl
    have E := E.ld (p := 15) (t := ri_isI) (i := 3) (n := 1) (v := .int k) rfl (e := (.iload_n 3, 1, [], .null)) rfl rfl (fun _ _ => rfl) l3 rfl
    have E := E.al (p := 16) (z := eh_l G 32 (k).toNatClampNeg) (n := (k).toNatClampNeg) rfl (e := (.laload, 1, [], .null)) rfl rfl (fun _ _ => rfl) rfl hV ty rfl rfl rfl
    have E := E.ld (p := 17) (t := ri_isL) (i := 1) (n := 1) (v := .long co) rfl (e := (.lload_n 1, 1, [], .null)) rfl rfl (fun _ _ => rfl) l1 rfl
    have E := E.pu (p := 18) (lo' := lo) (st' := [.int (lg_cmp (eh_l G 32 (k).toNatClampNeg) co)]) rfl (e := (.lcmp, 1, [], .null)) rfl rfl (fun _ _ => rfl)
    rcases eh_ql1 (E.br (p := 21) (c := 1) (tgt := 23) (a := lg_cmp (eh_l G 32 (k).toNatClampNeg) co) (b := 0) (st' := []) rfl (e := (.ifCond .ne 5, 3, [23], .null)) rfl rfl (fun _ _ => rfl) rfl) with ⟨c2, E⟩ | ⟨c2, E⟩
    · skip
      have E := E.ii (p := 26) (y := k + 1) rfl (i := 3) (n := 1) (m := 3) (ax := []) (w := .null) rfl l3 rfl rfl
      have k3_3 : ri_lk (ri_st1 lo 3 (.int (k + 1))) 3 = some (.int (k + 1)) := eh_self
      have k3_0 : ri_lk (ri_st1 lo 3 (.int (k + 1))) 0 = some (.ref 23) := eh_keep (by decide) (Or.inl rfl) l0
      have k3_1 : ri_lk (ri_st1 lo 3 (.int (k + 1))) 1 = some (.long co) := eh_keep (by decide) (Or.inr (by decide)) l1
      have E := E.pu (p := 2) (lo' := (ri_st1 lo 3 (.int (k + 1)))) (st' := []) rfl (e := (.goto (-24), 3, [2], .null)) rfl rfl (fun _ _ => rfl)
      exact Or.inr (Or.inl ⟨c1, c2, _, _, E, hV, rfl, ty, k3_0, k3_1, k3_3⟩)
    · skip
      have E := E.ld (p := 22) (t := ri_isI) (i := 3) (n := 1) (v := .int k) rfl (e := (.iload_n 3, 1, [], .null)) rfl rfl (fun _ _ => rfl) l3 rfl
      obtain ⟨r1, r2⟩ := E.reti rfl (m := 1) (ax := []) (w := .null) rfl
      exact Or.inr (Or.inr (⟨c1, c2, r1, ((congrArg eh_V r2).trans hV), (congrArg eh_N r2)⟩))
