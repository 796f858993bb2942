theorem yex_a {cal : eh_K} {lo : List (Nat × Value)} {h h' : ri_H} {rs : List Value} {G : eh_W} {se : Int32} (E : eh_e cal md_18 0 lo [] h rs h') (hV : eh_V h = G) (ty : eh_ty tC G) (l0 : ri_lk lo 0 = some (.ref 203)) (l1 : ri_lk lo 1 = some (.ref 23)) (l2 : ri_lk lo 2 = some (.int se)) : ∃ hz loz, eh_e cal md_18 2 loz [] hz rs h' ∧ eh_V hz = G ∧ eh_N hz = eh_N h ∧ eh_ty tC G ∧ ri_lk loz 0 = some (.ref 203) ∧ ri_lk loz 1 = some (.ref 23) ∧ ri_lk loz 2 = some (.int se) ∧ ri_lk loz 3 = some (.int 0) := by
  have E := E.pu (p := 1) (lo' := lo) (st' := [.int 0]) rfl (e := (.iconst 0, 1, [], .null)) rfl rfl (fun _ _ => rfl)
  have E := E.so (p := 2) (t := ri_isI) (i := 3) (n := 1) rfl (e := (.istore_n 3, 1, [], .null)) rfl rfl (fun _ _ => rfl) rfl
  have k1_3 : ri_lk (ri_st1 lo 3 (.int 0)) 3 = some (.int 0) := eh_self
  have k1_0 : ri_lk (ri_st1 lo 3 (.int 0)) 0 = some (.ref 203) := eh_keep (by decide) (Or.inl rfl) l0
  have k1_1 : ri_lk (ri_st1 lo 3 (.int 0)) 1 = some (.ref 23) := eh_keep (by decide) (Or.inl rfl) l1
  have k1_2 : ri_lk (ri_st1 lo 3 (.int 0)) 2 = some (.int se) := eh_keep (by decide) (Or.inl rfl) l2
  exact ⟨_, _, E, hV, rfl, ty, k1_0, k1_1, k1_2, k1_3⟩
theorem yex_l {d : Nat} {lo : List (Nat × Value)} {h h' : ri_H} {rs : List Value} {G : eh_W} {c sw P w : Nat} {ku sz : Nat → Nat} {ce hi : Nat → Nat → Nat} {se k : Int32} (E : eh_e (ri_calE ri_md (d + 2)) md_18 2 lo [] h rs h') (hV : eh_V h = G) (ty : eh_ty tC G) (l0 : ri_lk lo 0 = some (.ref 203)) (l1 : ri_lk lo 1 = some (.ref 23)) (l2 : ri_lk lo 2 = some (.int se)) (l3 : ri_lk lo 3 = some (.int k)) (D : k.toInt < (eh_i G 25 0).toInt → xE c sw P ku sz ce hi k se G) (W : LDw w P sz ce) (w8 : w ≤ 8) : (¬ (k.toInt < (eh_i G 25 0).toInt) ∧ rs = [.int 1] ∧ eh_V h' = G ∧ eh_N h' = eh_N h) ∨ (k.toInt < (eh_i G 25 0).toInt ∧ (eh_i G 204 (k).toNatClampNeg) = (-1) ∧ ∃ hz loz, eh_e (ri_calE ri_md (d + 2)) md_18 2 loz [] hz rs h' ∧ eh_V hz = G ∧ eh_N hz = eh_N h ∧ eh_ty tC G ∧ ri_lk loz 0 = some (.ref 203) ∧ ri_lk loz 1 = some (.ref 23) ∧ ri_lk loz 2 = some (.int se) ∧ ri_lk loz 3 = some (.int (k + 1))) ∨ (∃ (x5 : Int32), k.toInt < (eh_i G 25 0).toInt ∧ ¬ ((eh_i G 204 (k).toNatClampNeg) = (-1)) ∧ x5 = nI (ht_M c sw P w ku sz ce hi) ∧ x5 = (eh_i G 204 (k).toNatClampNeg) ∧ ∃ hz loz, eh_e (ri_calE ri_md (d + 2)) md_18 2 loz [] hz rs h' ∧ eh_V hz = G ∧ eh_N hz = eh_N h ∧ eh_ty tC G ∧ ri_lk loz 0 = some (.ref 203) ∧ ri_lk loz 1 = some (.ref 23) ∧ ri_lk loz 2 = some (.int se) ∧ ri_lk loz 3 = some (.int (k + 1))) ∨ (∃ (x5 : Int32), k.toInt < (eh_i G 25 0).toInt ∧ ¬ ((eh_i G 204 (k).toNatClampNeg) = (-1)) ∧ x5 = nI (ht_M c sw P w ku sz ce hi) ∧ ¬ (x5 = (eh_i G 204 (k).toNatClampNeg)) ∧ rs = [.int 0] ∧ eh_V h' = G ∧ eh_N h' = eh_N h) := by
  have E := E.ld (p := 3) (t := ri_isI) (i := 3) (n := 1) (v := .int k) rfl (e := (.iload_n 3, 1, [], .null)) rfl rfl (fun _ _ => rfl) l3 rfl
  have E := E.ld (p := 4) (t := ri_isA) (i := 1) (n := 1) (v := .ref 23) rfl (e := (.aload_n 1, 1, [], .null)) rfl rfl (fun _ _ => rfl) l1 rfl
  have E := E.gr (n := 25) (p := 7) rfl (x := 69) (m := 3) (w := .null) (t := 4) (i := 2) (u := 265) rfl rfl hV ty rfl
  have E := E.pu (p := 8) (lo' := lo) (st' := [.int 0, .ref 25, .int k]) rfl (e := (.iconst 0, 1, [], .null)) rfl rfl (fun _ _ => rfl)
  have E := E.ai (p := 9) (z := eh_i G 25 0) (n := 0) rfl (e := (.iaload, 1, [], .null)) rfl rfl (fun _ _ => rfl) rfl hV ty (by decide) rfl rfl
  rcases eh_r3 rfl rfl (E.br (p := 12) (c := 3) (tgt := 45) (a := k) (b := eh_i G 25 0) (st' := []) rfl (e := (.if_icmp .ge 36, 3, [45], .null)) rfl rfl (fun _ _ => rfl) rfl) with ⟨c1, E⟩ | ⟨c1, E⟩
  · skip
    have E := E.pu (p := 46) (lo' := lo) (st' := [.int 1]) rfl (e := (.iconst 1, 1, [], .null)) rfl rfl (fun _ _ => rfl)
    obtain ⟨r1, r2⟩ := E.reti rfl (m := 1) (ax := []) (w := .null) rfl
    exact Or.inl ⟨c1, r1, ((congrArg eh_V r2).trans hV), (congrArg eh_N r2)⟩
  · skip
    have E := E.ld (p := 13) (t := ri_isA) (i := 0) (n := 1) (v := .ref 203) rfl (e := (.aload_n 0, 1, [], .null)) rfl rfl (fun _ _ => rfl) l0 rfl
    have E := E.gr (n := 204) (p := 16) rfl (x := 21) (m := 3) (w := .null) (t := 2) (i := 3) (u := 535) rfl rfl hV ty rfl
    have E := E.ld (p := 17) (t := ri_isI) (i := 3) (n := 1) (v := .int k) rfl (e := (.iload_n 3, 1, [], .null)) rfl rfl (fun _ _ => rfl) l3 rfl
    have E := E.ai (p := 18) (z := eh_i G 204 (k).toNatClampNeg) (n := (k).toNatClampNeg) rfl (e := (.iaload, 1, [], .null)) rfl rfl (fun _ _ => rfl) rfl hV ty rfl rfl rfl
    have E := E.pu (p := 19) (lo' := lo) (st' := [.int (-1), .int (eh_i G 204 (k).toNatClampNeg)]) rfl (e := (.iconst (-1), 1, [], .null)) rfl rfl (fun _ _ => rfl)
    rcases eh_q0 (E.br (p := 22) (c := 0) (tgt := 39) (a := eh_i G 204 (k).toNatClampNeg) (b := (-1)) (st' := []) rfl (e := (.if_icmp .eq 20, 3, [39], .null)) rfl rfl (fun _ _ => rfl) rfl) with ⟨c2, E⟩ | ⟨c2, E⟩
    · skip
      have E := E.ii (p := 42) (y := k + 1) rfl (i := 3) (n := 1) (m := 3) (ax := []) (w := .null) rfl l3 rfl rfl
      have k3_3 : ri_lk (ri_st1 lo 3 (.int (k + 1))) 3 = some (.int (k + 1)) := eh_self
      have k3_0 : ri_lk (ri_st1 lo 3 (.int (k + 1))) 0 = some (.ref 203) := eh_keep (by decide) (Or.inl rfl) l0
      have k3_1 : ri_lk (ri_st1 lo 3 (.int (k + 1))) 1 = some (.ref 23) := eh_keep (by decide) (Or.inl rfl) l1
      have k3_2 : ri_lk (ri_st1 lo 3 (.int (k + 1))) 2 = some (.int se) := eh_keep (by decide) (Or.inl rfl) l2
      have E := E.pu (p := 2) (lo' := (ri_st1 lo 3 (.int (k + 1)))) (st' := []) rfl (e := (.goto (-40), 3, [2], .null)) rfl rfl (fun _ _ => rfl)
      exact Or.inr (Or.inl ⟨c1, c2, _, _, E, hV, rfl, ty, k3_0, k3_1, k3_2, k3_3⟩)
    · skip
      have E := E.ld (p := 23) (t := ri_isA) (i := 1) (n := 1) (v := .ref 23) rfl (e := (.aload_n 1, 1, [], .null)) rfl rfl (fun _ _ => rfl) l1 rfl
      have E := E.ld (p := 24) (t := ri_isI) (i := 3) (n := 1) (v := .int k) rfl (e := (.iload_n 3, 1, [], .null)) rfl rfl (fun _ _ => rfl) l3 rfl
      have E := E.ld (p := 25) (t := ri_isI) (i := 2) (n := 1) (v := .int se) rfl (e := (.iload_n 2, 1, [], .null)) rfl rfl (fun _ _ => rfl) l2 rfl
      obtain ⟨v1, h4, X, E⟩ := E.cv (p := 28) (as := [.int k, .int se]) (b := 23) (r := []) rfl (x := 76) (m := 3) (w := .null) (j := 33) (n := 2) (t := 4) (u := [951, 836, 835]) rfl rfl rfl
      rcases xb_33w (d := d) X hV ty (D c1) W w8 with ⟨x5, c6, rfl, hV7, hN8⟩
      have c6 : x5 = nI (ht_M c sw P w ku sz ce hi) := c6
      have E : eh_e _ _ 28 lo [.int x5] _ rs h' := E
      have E := E.ld (p := 29) (t := ri_isA) (i := 0) (n := 1) (v := .ref 203) rfl (e := (.aload_n 0, 1, [], .null)) rfl rfl (fun _ _ => rfl) l0 rfl
      have E := E.gr (n := 204) (p := 32) rfl (x := 21) (m := 3) (w := .null) (t := 2) (i := 3) (u := 535) rfl rfl hV7 ty rfl
      have E := E.ld (p := 33) (t := ri_isI) (i := 3) (n := 1) (v := .int k) rfl (e := (.iload_n 3, 1, [], .null)) rfl rfl (fun _ _ => rfl) l3 rfl
      have E := E.ai (p := 34) (z := eh_i G 204 (k).toNatClampNeg) (n := (k).toNatClampNeg) rfl (e := (.iaload, 1, [], .null)) rfl rfl (fun _ _ => rfl) rfl hV7 ty rfl rfl rfl
      rcases eh_q0 (E.br (p := 37) (c := 0) (tgt := 39) (a := x5) (b := eh_i G 204 (k).toNatClampNeg) (st' := []) rfl (e := (.if_icmp .eq 5, 3, [39], .null)) rfl rfl (fun _ _ => rfl) rfl) with ⟨c9, E⟩ | ⟨c9, E⟩
      · skip
        have E := E.ii (p := 42) (y := k + 1) rfl (i := 3) (n := 1) (m := 3) (ax := []) (w := .null) rfl l3 rfl rfl
        have k10_3 : ri_lk (ri_st1 lo 3 (.int (k + 1))) 3 = some (.int (k + 1)) := eh_self
        have k10_0 : ri_lk (ri_st1 lo 3 (.int (k + 1))) 0 = some (.ref 203) := eh_keep (by decide) (Or.inl rfl) l0
        have k10_1 : ri_lk (ri_st1 lo 3 (.int (k + 1))) 1 = some (.ref 23) := eh_keep (by decide) (Or.inl rfl) l1
        have k10_2 : ri_lk (ri_st1 lo 3 (.int (k + 1))) 2 = some (.int se) := eh_keep (by decide) (Or.inl rfl) l2
        have E := E.pu (p := 2) (lo' := (ri_st1 lo 3 (.int (k + 1)))) (st' := []) rfl (e := (.goto (-40), 3, [2], .null)) rfl rfl (fun _ _ => rfl)
        exact Or.inr (Or.inr (Or.inl ⟨x5, c1, c2, c6, c9, _, _, E, hV7, hN8, ty, k10_0, k10_1, k10_2, k10_3⟩))
      · skip
        have E := E.pu (p := 38) (lo' := lo) (st' := [.int 0]) rfl (e := (.iconst 0, 1, [], .null)) rfl rfl (fun _ _ => rfl)
        obtain ⟨r1, r2⟩ := E.reti rfl (m := 1) (ax := []) (w := .null) rfl
        exact Or.inr (Or.inr (Or.inr (⟨x5, c1, c2, c6, c9, r1, ((congrArg eh_V r2).trans hV7), ((congrArg eh_N r2).trans hN8)⟩)))
