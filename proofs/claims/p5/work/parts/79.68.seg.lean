theorem ycu_a {cal : eh_K} {lo : List (Nat × Value)} {h h' : ri_H} {rs : List Value} {G : eh_W} {cu : Int32} (E : eh_e cal md_21 0 lo [] h rs h') (hV : eh_V h = G) (ty : eh_ty tC G) (l0 : ri_lk lo 0 = some (.ref 203)) (l1 : ri_lk lo 1 = some (.ref 23)) (l2 : ri_lk lo 2 = some (.int cu)) : ∃ hz loz, eh_e cal md_21 5 loz [] hz rs h' ∧ eh_V hz = G ∧ eh_N hz = eh_N h ∧ eh_ty tC G ∧ ri_lk loz 0 = some (.ref 203) ∧ ri_lk loz 1 = some (.ref 23) ∧ ri_lk loz 2 = some (.int cu) ∧ ri_lk loz 3 = some (.int 0) ∧ ri_lk loz 4 = some (.int 0) := by
  have E := E.pu (p := 1) (lo' := lo) (st' := [.int 0]) rfl (e := (.iconst 0, 1, [], .null)) rfl rfl (fun _ _ => rfl)
  have E := E.so (p := 2) (t := ri_isI) (i := 3) (n := 1) rfl (e := (.istore_n 3, 1, [], .null)) rfl rfl (fun _ _ => rfl) rfl
  have k1_3 : ri_lk (ri_st1 lo 3 (.int 0)) 3 = some (.int 0) := eh_self
  have k1_0 : ri_lk (ri_st1 lo 3 (.int 0)) 0 = some (.ref 203) := eh_keep (by decide) (Or.inl rfl) l0
  have k1_1 : ri_lk (ri_st1 lo 3 (.int 0)) 1 = some (.ref 23) := eh_keep (by decide) (Or.inl rfl) l1
  have k1_2 : ri_lk (ri_st1 lo 3 (.int 0)) 2 = some (.int cu) := eh_keep (by decide) (Or.inl rfl) l2
  have E := E.pu (p := 3) (lo' := (ri_st1 lo 3 (.int 0))) (st' := [.int 0]) rfl (e := (.iconst 0, 1, [], .null)) rfl rfl (fun _ _ => rfl)
  have E := E.so (p := 5) (t := ri_isI) (i := 4) (n := 2) rfl (e := (.istore 4, 2, [], .null)) rfl rfl (fun _ _ => rfl) rfl
  have k2_4 : ri_lk (ri_st1 (ri_st1 lo 3 (.int 0)) 4 (.int 0)) 4 = some (.int 0) := eh_self
  have k2_0 : ri_lk (ri_st1 (ri_st1 lo 3 (.int 0)) 4 (.int 0)) 0 = some (.ref 203) := eh_keep (by decide) (Or.inl rfl) k1_0
  have k2_1 : ri_lk (ri_st1 (ri_st1 lo 3 (.int 0)) 4 (.int 0)) 1 = some (.ref 23) := eh_keep (by decide) (Or.inl rfl) k1_1
  have k2_2 : ri_lk (ri_st1 (ri_st1 lo 3 (.int 0)) 4 (.int 0)) 2 = some (.int cu) := eh_keep (by decide) (Or.inl rfl) k1_2
  have k2_3 : ri_lk (ri_st1 (ri_st1 lo 3 (.int 0)) 4 (.int 0)) 3 = some (.int 0) := eh_keep (by decide) (Or.inl rfl) k1_3
  exact ⟨_, _, E, hV, rfl, ty, k2_0, k2_1, k2_2, k2_3, k2_4⟩
theorem ycu_o {d : Nat} {lo : List (Nat × Value)} {h h' : ri_H} {rs : List Value} {G : eh_W} {c sw P w : Nat} {ku sz : Nat → Nat} {ce hi : Nat → Nat → Nat} {cu fo k : Int32} (E : eh_e (ri_calE ri_md (d + 2)) md_21 5 lo [] h rs h') (hV : eh_V h = G) (ty : eh_ty tC G) (l0 : ri_lk lo 0 = some (.ref 203)) (l1 : ri_lk lo 1 = some (.ref 23)) (l2 : ri_lk lo 2 = some (.int cu)) (l3 : ri_lk lo 3 = some (.int fo)) (l4 : ri_lk lo 4 = some (.int k)) (D : k.toInt < (eh_i G 203 6).toInt → xE c sw P ku sz ce hi cu (eh_i G 205 k.toNatClampNeg) G) (W : LDw w P sz ce) (w8 : w ≤ 8) : (¬ (k.toInt < (eh_i G 203 6).toInt) ∧ rs = [.int fo] ∧ eh_V h' = G ∧ eh_N h' = eh_N h) ∨ (∃ (x3 : Int32), k.toInt < (eh_i G 203 6).toInt ∧ x3 = nI (ht_M c sw P w ku sz ce hi) ∧ ∃ hz loz, eh_e (ri_calE ri_md (d + 2)) md_21 31 loz [] hz rs h' ∧ eh_V hz = G ∧ eh_N hz = eh_N h ∧ eh_ty tC G ∧ ri_lk loz 0 = some (.ref 203) ∧ ri_lk loz 1 = some (.ref 23) ∧ ri_lk loz 2 = some (.int cu) ∧ ri_lk loz 3 = some (.int fo) ∧ ri_lk loz 4 = some (.int k) ∧ ri_lk loz 5 = some (.int x3) ∧ ri_lk loz 6 = some (.int 0)) := by
  have E := E.ld (p := 7) (t := ri_isI) (i := 4) (n := 2) (v := .int k) rfl (e := (.iload 4, 2, [], .null)) rfl rfl (fun _ _ => rfl) l4 rfl
  have E := E.ld (p := 8) (t := ri_isA) (i := 0) (n := 1) (v := .ref 203) rfl (e := (.aload_n 0, 1, [], .null)) rfl rfl (fun _ _ => rfl) l0 rfl
  have E := E.gi (y := eh_i G 203 6) (p := 11) rfl (x := 32) (m := 3) (w := .null) (t := 2) (i := 6) (u := 538) rfl rfl hV ty rfl rfl
  rcases eh_r3 rfl rfl (E.br (p := 14) (c := 3) (tgt := 78) (a := k) (b := eh_i G 203 6) (st' := []) rfl (e := (.if_icmp .ge 67, 3, [78], .null)) rfl rfl (fun _ _ => rfl) rfl) with ⟨c1, E⟩ | ⟨c1, E⟩
  · skip
    have E := E.ld (p := 79) (t := ri_isI) (i := 3) (n := 1) (v := .int fo) rfl (e := (.iload_n 3, 1, [], .null)) rfl rfl (fun _ _ => rfl) l3 rfl
    obtain ⟨r1, r2⟩ := E.reti rfl (m := 1) (ax := []) (w := .null) rfl
    exact Or.inl ⟨c1, r1, ((congrArg eh_V r2).trans hV), (congrArg eh_N r2)⟩
  · skip
    have E := E.ld (p := 15) (t := ri_isA) (i := 1) (n := 1) (v := .ref 23) rfl (e := (.aload_n 1, 1, [], .null)) rfl rfl (fun _ _ => rfl) l1 rfl
    have E := E.ld (p := 16) (t := ri_isI) (i := 2) (n := 1) (v := .int cu) rfl (e := (.iload_n 2, 1, [], .null)) rfl rfl (fun _ _ => rfl) l2 rfl
    have E := E.ld (p := 17) (t := ri_isA) (i := 0) (n := 1) (v := .ref 203) rfl (e := (.aload_n 0, 1, [], .null)) rfl rfl (fun _ _ => rfl) l0 rfl
    have E := E.gr (n := 205) (p := 20) rfl (x := 29) (m := 3) (w := .null) (t := 2) (i := 5) (u := 537) rfl rfl hV ty rfl
    have E := E.ld (p := 22) (t := ri_isI) (i := 4) (n := 2) (v := .int k) rfl (e := (.iload 4, 2, [], .null)) rfl rfl (fun _ _ => rfl) l4 rfl
    have E := E.ai (p := 23) (z := eh_i G 205 (k).toNatClampNeg) (n := (k).toNatClampNeg) rfl (e := (.iaload, 1, [], .null)) rfl rfl (fun _ _ => rfl) rfl hV ty rfl rfl rfl
    obtain ⟨v1, h2, X, E⟩ := E.cv (p := 26) (as := [.int cu, .int (eh_i G 205 (k).toNatClampNeg)]) (b := 23) (r := []) rfl (x := 76) (m := 3) (w := .null) (j := 33) (n := 2) (t := 4) (u := [951, 836, 835]) rfl rfl rfl
    rcases xb_33w (d := d) X hV ty (D c1) W w8 with ⟨x3, c4, rfl, hV5, hN6⟩
    have c4 : x3 = nI (ht_M c sw P w ku sz ce hi) := c4
    have E : eh_e _ _ 26 lo [.int x3] _ rs h' := E
    have E := E.so (p := 28) (t := ri_isI) (i := 5) (n := 2) rfl (e := (.istore 5, 2, [], .null)) rfl rfl (fun _ _ => rfl) rfl
    have k7_5 : ri_lk (ri_st1 lo 5 (.int x3)) 5 = some (.int x3) := eh_self
    have k7_0 : ri_lk (ri_st1 lo 5 (.int x3)) 0 = some (.ref 203) := eh_keep (by decide) (Or.inl rfl) l0
    have k7_1 : ri_lk (ri_st1 lo 5 (.int x3)) 1 = some (.ref 23) := eh_keep (by decide) (Or.inl rfl) l1
    have k7_2 : ri_lk (ri_st1 lo 5 (.int x3)) 2 = some (.int cu) := eh_keep (by decide) (Or.inl rfl) l2
    have k7_3 : ri_lk (ri_st1 lo 5 (.int x3)) 3 = some (.int fo) := eh_keep (by decide) (Or.inl rfl) l3
    have k7_4 : ri_lk (ri_st1 lo 5 (.int x3)) 4 = some (.int k) := eh_keep (by decide) (Or.inl rfl) l4
    have E := E.pu (p := 29) (lo' := (ri_st1 lo 5 (.int x3))) (st' := [.int 0]) rfl (e := (.iconst 0, 1, [], .null)) rfl rfl (fun _ _ => rfl)
    have E := E.so (p := 31) (t := ri_isI) (i := 6) (n := 2) rfl (e := (.istore 6, 2, [], .null)) rfl rfl (fun _ _ => rfl) rfl
    have k8_6 : ri_lk (ri_st1 (ri_st1 lo 5 (.int x3)) 6 (.int 0)) 6 = some (.int 0) := eh_self
    have k8_0 : ri_lk (ri_st1 (ri_st1 lo 5 (.int x3)) 6 (.int 0)) 0 = some (.ref 203) := eh_keep (by decide) (Or.inl rfl) k7_0
    have k8_1 : ri_lk (ri_st1 (ri_st1 lo 5 (.int x3)) 6 (.int 0)) 1 = some (.ref 23) := eh_keep (by decide) (Or.inl rfl) k7_1
    have k8_2 : ri_lk (ri_st1 (ri_st1 lo 5 (.int x3)) 6 (.int 0)) 2 = some (.int cu) := eh_keep (by decide) (Or.inl rfl) k7_2
    have k8_3 : ri_lk (ri_st1 (ri_st1 lo 5 (.int x3)) 6 (.int 0)) 3 = some (.int fo) := eh_keep (by decide) (Or.inl rfl) k7_3
    have k8_4 : ri_lk (ri_st1 (ri_st1 lo 5 (.int x3)) 6 (.int 0)) 4 = some (.int k) := eh_keep (by decide) (Or.inl rfl) k7_4
    have k8_5 : ri_lk (ri_st1 (ri_st1 lo 5 (.int x3)) 6 (.int 0)) 5 = some (.int x3) := eh_keep (by decide) (Or.inl rfl) k7_5
    exact Or.inr (⟨x3, c1, c4, _, _, E, hV5, hN6, ty, k8_0, k8_1, k8_2, k8_3, k8_4, k8_5, k8_6⟩)
theorem ycu_i {cal : eh_K} {lo : List (Nat × Value)} {h h' : ri_H} {rs : List Value} {G : eh_W} {cu fo k ht li : Int32} (E : eh_e cal md_21 31 lo [] h rs h') (hV : eh_V h = G) (ty : eh_ty tC G) (l0 : ri_lk lo 0 = some (.ref 203)) (l1 : ri_lk lo 1 = some (.ref 23)) (l2 : ri_lk lo 2 = some (.int cu)) (l3 : ri_lk lo 3 = some (.int fo)) (l4 : ri_lk lo 4 = some (.int k)) (l5 : ri_lk lo 5 = some (.int ht)) (l6 : ri_lk lo 6 = some (.int li)) : (¬ (li.toInt < fo.toInt) ∧ ¬ (li = fo) ∧ ∃ hz loz, eh_e cal md_21 5 loz [] hz rs h' ∧ eh_V hz = G ∧ eh_N hz = eh_N h ∧ eh_ty tC G ∧ ri_lk loz 0 = some (.ref 203) ∧ ri_lk loz 1 = some (.ref 23) ∧ ri_lk loz 2 = some (.int cu) ∧ ri_lk loz 3 = some (.int fo) ∧ ri_lk loz 4 = some (.int (k + 1)) ∧ ri_lk loz 5 = some (.int ht) ∧ ri_lk loz 6 = some (.int li)) ∨ (¬ (li.toInt < fo.toInt) ∧ li = fo ∧ ∃ hz loz, eh_e cal md_21 5 loz [] hz rs h' ∧ eh_V hz = eh_u G 206 (fo).toNatClampNeg (.int ht) ∧ eh_N hz = eh_N h ∧ eh_ty tC (eh_u G 206 (fo).toNatClampNeg (.int ht)) ∧ ri_lk loz 0 = some (.ref 203) ∧ ri_lk loz 1 = some (.ref 23) ∧ ri_lk loz 2 = some (.int cu) ∧ ri_lk loz 3 = some (.int (fo + 1)) ∧ ri_lk loz 4 = some (.int (k + 1)) ∧ ri_lk loz 5 = some (.int ht) ∧ ri_lk loz 6 = some (.int li)) ∨ (li.toInt < fo.toInt ∧ (eh_i G 206 (li).toNatClampNeg) = ht ∧ ¬ (li = fo) ∧ ∃ hz loz, eh_e cal md_21 5 loz [] hz rs h' ∧ eh_V hz = G ∧ eh_N hz = eh_N h ∧ eh_ty tC G ∧ ri_lk loz 0 = some (.ref 203) ∧ ri_lk loz 1 = some (.ref 23) ∧ ri_lk loz 2 = some (.int cu) ∧ ri_lk loz 3 = some (.int fo) ∧ ri_lk loz 4 = some (.int (k + 1)) ∧ ri_lk loz 5 = some (.int ht) ∧ ri_lk loz 6 = some (.int li)) ∨ (li.toInt < fo.toInt ∧ (eh_i G 206 (li).toNatClampNeg) = ht ∧ li = fo ∧ ∃ hz loz, eh_e cal md_21 5 loz [] hz rs h' ∧ eh_V hz = eh_u G 206 (fo).toNatClampNeg (.int ht) ∧ eh_N hz = eh_N h ∧ eh_ty tC (eh_u G 206 (fo).toNatClampNeg (.int ht)) ∧ ri_lk loz 0 = some (.ref 203) ∧ ri_lk loz 1 = some (.ref 23) ∧ ri_lk loz 2 = some (.int cu) ∧ ri_lk loz 3 = some (.int (fo + 1)) ∧ ri_lk loz 4 = some (.int (k + 1)) ∧ ri_lk loz 5 = some (.int ht) ∧ ri_lk loz 6 = some (.int li)) ∨ (li.toInt < fo.toInt ∧ ¬ ((eh_i G 206 (li).toNatClampNeg) = ht) ∧ ∃ hz loz, eh_e cal md_21 31 loz [] hz rs h' ∧ eh_V hz = G ∧ eh_N hz = eh_N h ∧ eh_ty tC G ∧ ri_lk loz 0 = some (.ref 203) ∧ ri_lk loz 1 = some (.ref 23) ∧ ri_lk loz 2 = some (.int cu) ∧ ri_lk loz 3 = some (.int fo) ∧ ri_lk loz 4 = some (.int k) ∧ ri_lk loz 5 = some (.int ht) ∧ ri_lk loz 6 = some (.int (li + 1))) := by
  have E := E.ld (p := 33) (t := ri_isI) (i := 6) (n := 2) (v := .int li) rfl (e := (.iload 6, 2, [], .null)) rfl rfl (fun _ _ => rfl) l6 rfl
  have E := E.ld (p := 34) (t := ri_isI) (i := 3) (n := 1) (v := .int fo) rfl (e := (.iload_n 3, 1, [], .null)) rfl rfl (fun _ _ => rfl) l3 rfl
  rcases eh_r3 rfl rfl (E.br (p := 37) (c := 3) (tgt := 55) (a := li) (b := fo) (st' := []) rfl (e := (.if_icmp .ge 21, 3, [55], .null)) rfl rfl (fun _ _ => rfl) rfl) with ⟨c1, E⟩ | ⟨c1, E⟩
  · skip
    have E := E.ld (p := 57) (t := ri_isI) (i := 6) (n := 2) (v := .int li) rfl (e := (.iload 6, 2, [], .null)) rfl rfl (fun _ _ => rfl) l6 rfl
    have E := E.ld (p := 58) (t := ri_isI) (i := 3) (n := 1) (v := .int fo) rfl (e := (.iload_n 3, 1, [], .null)) rfl rfl (fun _ _ => rfl) l3 rfl
    rcases eh_q1 (E.br (p := 61) (c := 1) (tgt := 72) (a := li) (b := fo) (st' := []) rfl (e := (.if_icmp .ne 14, 3, [72], .null)) rfl rfl (fun _ _ => rfl) rfl) with ⟨c2, E⟩ | ⟨c2, E⟩
    · skip
      have E := E.ii (p := 75) (y := k + 1) rfl (i := 4) (n := 1) (m := 3) (ax := []) (w := .null) rfl l4 rfl rfl
      have k3_4 : ri_lk (ri_st1 lo 4 (.int (k + 1))) 4 = some (.int (k + 1)) := eh_self
      have k3_0 : ri_lk (ri_st1 lo 4 (.int (k + 1))) 0 = some (.ref 203) := eh_keep (by decide) (Or.inl rfl) l0
      have k3_1 : ri_lk (ri_st1 lo 4 (.int (k + 1))) 1 = some (.ref 23) := eh_keep (by decide) (Or.inl rfl) l1
      have k3_2 : ri_lk (ri_st1 lo 4 (.int (k + 1))) 2 = some (.int cu) := eh_keep (by decide) (Or.inl rfl) l2
      have k3_3 : ri_lk (ri_st1 lo 4 (.int (k + 1))) 3 = some (.int fo) := eh_keep (by decide) (Or.inl rfl) l3
      have k3_5 : ri_lk (ri_st1 lo 4 (.int (k + 1))) 5 = some (.int ht) := eh_keep (by decide) (Or.inl rfl) l5
      have k3_6 : ri_lk (ri_st1 lo 4 (.int (k + 1))) 6 = some (.int li) := eh_keep (by decide) (Or.inl rfl) l6
      have E := E.pu (p := 5) (lo' := (ri_st1 lo 4 (.int (k + 1)))) (st' := []) rfl (e := (.goto (-70), 3, [5], .null)) rfl rfl (fun _ _ => rfl)
      exact Or.inl ⟨c1, c2, _, _, E, hV, rfl, ty, k3_0, k3_1, k3_2, k3_3, k3_4, k3_5, k3_6⟩
    · skip
      have E := E.ld (p := 62) (t := ri_isA) (i := 0) (n := 1) (v := .ref 203) rfl (e := (.aload_n 0, 1, [], .null)) rfl rfl (fun _ _ => rfl) l0 rfl
      have E := E.gr (n := 206) (p := 65) rfl (x := 35) (m := 3) (w := .null) (t := 2) (i := 7) (u := 539) rfl rfl hV ty rfl
      have E := E.ld (p := 66) (t := ri_isI) (i := 3) (n := 1) (v := .int fo) rfl (e := (.iload_n 3, 1, [], .null)) rfl rfl (fun _ _ => rfl) l3 rfl
      have E := E.ld (p := 68) (t := ri_isI) (i := 5) (n := 2) (v := .int ht) rfl (e := (.iload 5, 2, [], .null)) rfl rfl (fun _ _ => rfl) l5 rfl
      obtain ⟨h4, hV5, hN6, E⟩ := E.aw (gg := ri_g1) (b := true) (p := 69) (n := (fo).toNatClampNeg) rfl (e := (.iastore, 1, [], .null)) rfl rfl (fun _ _ => rfl) rfl hV rfl
      have E := E.ii (p := 72) (y := fo + 1) rfl (i := 3) (n := 1) (m := 3) (ax := []) (w := .null) rfl l3 rfl rfl
      have k7_3 : ri_lk (ri_st1 lo 3 (.int (fo + 1))) 3 = some (.int (fo + 1)) := eh_self
      have k7_0 : ri_lk (ri_st1 lo 3 (.int (fo + 1))) 0 = some (.ref 203) := eh_keep (by decide) (Or.inl rfl) l0
      have k7_1 : ri_lk (ri_st1 lo 3 (.int (fo + 1))) 1 = some (.ref 23) := eh_keep (by decide) (Or.inl rfl) l1
      have k7_2 : ri_lk (ri_st1 lo 3 (.int (fo + 1))) 2 = some (.int cu) := eh_keep (by decide) (Or.inl rfl) l2
      have k7_4 : ri_lk (ri_st1 lo 3 (.int (fo + 1))) 4 = some (.int k) := eh_keep (by decide) (Or.inl rfl) l4
      have k7_5 : ri_lk (ri_st1 lo 3 (.int (fo + 1))) 5 = some (.int ht) := eh_keep (by decide) (Or.inl rfl) l5
      have k7_6 : ri_lk (ri_st1 lo 3 (.int (fo + 1))) 6 = some (.int li) := eh_keep (by decide) (Or.inl rfl) l6
      have E := E.ii (p := 75) (y := k + 1) rfl (i := 4) (n := 1) (m := 3) (ax := []) (w := .null) rfl k7_4 rfl rfl
      have k8_4 : ri_lk (ri_st1 (ri_st1 lo 3 (.int (fo + 1))) 4 (.int (k + 1))) 4 = some (.int (k + 1)) := eh_self
      have k8_0 : ri_lk (ri_st1 (ri_st1 lo 3 (.int (fo + 1))) 4 (.int (k + 1))) 0 = some (.ref 203) := eh_keep (by decide) (Or.inl rfl) k7_0
      have k8_1 : ri_lk (ri_st1 (ri_st1 lo 3 (.int (fo + 1))) 4 (.int (k + 1))) 1 = some (.ref 23) := eh_keep (by decide) (Or.inl rfl) k7_1
      have k8_2 : ri_lk (ri_st1 (ri_st1 lo 3 (.int (fo + 1))) 4 (.int (k + 1))) 2 = some (.int cu) := eh_keep (by decide) (Or.inl rfl) k7_2
      have k8_3 : ri_lk (ri_st1 (ri_st1 lo 3 (.int (fo + 1))) 4 (.int (k + 1))) 3 = some (.int (fo + 1)) := eh_keep (by decide) (Or.inl rfl) k7_3
      have k8_5 : ri_lk (ri_st1 (ri_st1 lo 3 (.int (fo + 1))) 4 (.int (k + 1))) 5 = some (.int ht) := eh_keep (by decide) (Or.inl rfl) k7_5
      have k8_6 : ri_lk (ri_st1 (ri_st1 lo 3 (.int (fo + 1))) 4 (.int (k + 1))) 6 = some (.int li) := eh_keep (by decide) (Or.inl rfl) k7_6
      have E := E.pu (p := 5) (lo' := (ri_st1 (ri_st1 lo 3 (.int (fo + 1))) 4 (.int (k + 1)))) (st' := []) rfl (e := (.goto (-70), 3, [5], .null)) rfl rfl (fun _ _ => rfl)
      exact Or.inr (Or.inl ⟨c1, c2, _, _, E, hV5, hN6, (ty.ui rfl), k8_0, k8_1, k8_2, k8_3, k8_4, k8_5, k8_6⟩)
  · skip
    have E := E.ld (p := 38) (t := ri_isA) (i := 0) (n := 1) (v := .ref 203) rfl (e := (.aload_n 0, 1, [], .null)) rfl rfl (fun _ _ => rfl) l0 rfl
    have E := E.gr (n := 206) (p := 41) rfl (x := 35) (m := 3) (w := .null) (t := 2) (i := 7) (u := 539) rfl rfl hV ty rfl
    have E := E.ld (p := 43) (t := ri_isI) (i := 6) (n := 2) (v := .int li) rfl (e := (.iload 6, 2, [], .null)) rfl rfl (fun _ _ => rfl) l6 rfl
    have E := E.ai (p := 44) (z := eh_i G 206 (li).toNatClampNeg) (n := (li).toNatClampNeg) rfl (e := (.iaload, 1, [], .null)) rfl rfl (fun _ _ => rfl) rfl hV ty rfl rfl rfl
    have E := E.ld (p := 46) (t := ri_isI) (i := 5) (n := 2) (v := .int ht) rfl (e := (.iload 5, 2, [], .null)) rfl rfl (fun _ _ => rfl) l5 rfl
    rcases eh_q0 (E.br (p := 49) (c := 0) (tgt := 55) (a := eh_i G 206 (li).toNatClampNeg) (b := ht) (st' := []) rfl (e := (.if_icmp .eq 9, 3, [55], .null)) rfl rfl (fun _ _ => rfl) rfl) with ⟨c9, E⟩ | ⟨c9, E⟩
    · skip
      have E := E.ld (p := 57) (t := ri_isI) (i := 6) (n := 2) (v := .int li) rfl (e := (.iload 6, 2, [], .null)) rfl rfl (fun _ _ => rfl) l6 rfl
      have E := E.ld (p := 58) (t := ri_isI) (i := 3) (n := 1) (v := .int fo) rfl (e := (.iload_n 3, 1, [], .null)) rfl rfl (fun _ _ => rfl) l3 rfl
      rcases eh_q1 (E.br (p := 61) (c := 1) (tgt := 72) (a := li) (b := fo) (st' := []) rfl (e := (.if_icmp .ne 14, 3, [72], .null)) rfl rfl (fun _ _ => rfl) rfl) with ⟨c10, E⟩ | ⟨c10, E⟩
      · skip
        have E := E.ii (p := 75) (y := k + 1) rfl (i := 4) (n := 1) (m := 3) (ax := []) (w := .null) rfl l4 rfl rfl
        have k11_4 : ri_lk (ri_st1 lo 4 (.int (k + 1))) 4 = some (.int (k + 1)) := eh_self
        have k11_0 : ri_lk (ri_st1 lo 4 (.int (k + 1))) 0 = some (.ref 203) := eh_keep (by decide) (Or.inl rfl) l0
        have k11_1 : ri_lk (ri_st1 lo 4 (.int (k + 1))) 1 = some (.ref 23) := eh_keep (by decide) (Or.inl rfl) l1
        have k11_2 : ri_lk (ri_st1 lo 4 (.int (k + 1))) 2 = some (.int cu) := eh_keep (by decide) (Or.inl rfl) l2
        have k11_3 : ri_lk (ri_st1 lo 4 (.int (k + 1))) 3 = some (.int fo) := eh_keep (by decide) (Or.inl rfl) l3
        have k11_5 : ri_lk (ri_st1 lo 4 (.int (k + 1))) 5 = some (.int ht) := eh_keep (by decide) (Or.inl rfl) l5
        have k11_6 : ri_lk (ri_st1 lo 4 (.int (k + 1))) 6 = some (.int li) := eh_keep (by decide) (Or.inl rfl) l6
        have E := E.pu (p := 5) (lo' := (ri_st1 lo 4 (.int (k + 1)))) (st' := []) rfl (e := (.goto (-70), 3, [5], .null)) rfl rfl (fun _ _ => rfl)
        exact Or.inr (Or.inr (Or.inl ⟨c1, c9, c10, _, _, E, hV, rfl, ty, k11_0, k11_1, k11_2, k11_3, k11_4, k11_5, k11_6⟩))
      · skip
        have E := E.ld (p := 62) (t := ri_isA) (i := 0) (n := 1) (v := .ref 203) rfl (e := (.aload_n 0, 1, [], .null)) rfl rfl (fun _ _ => rfl) l0 rfl
        have E := E.gr (n := 206) (p := 65) rfl (x := 35) (m := 3) (w := .null) (t := 2) (i := 7) (u := 539) rfl rfl hV ty rfl
        have E := E.ld (p := 66) (t := ri_isI) (i := 3) (n := 1) (v := .int fo) rfl (e := (.iload_n 3, 1, [], .null)) rfl rfl (fun _ _ => rfl) l3 rfl
        have E := E.ld (p := 68) (t := ri_isI) (i := 5) (n := 2) (v := .int ht) rfl (e := (.iload 5, 2, [], .null)) rfl rfl (fun _ _ => rfl) l5 rfl
        obtain ⟨h12, hV13, hN14, E⟩ := E.aw (gg := ri_g1) (b := true) (p := 69) (n := (fo).toNatClampNeg) rfl (e := (.iastore, 1, [], .null)) rfl rfl (fun _ _ => rfl) rfl hV rfl
        have E := E.ii (p := 72) (y := fo + 1) rfl (i := 3) (n := 1) (m := 3) (ax := []) (w := .null) rfl l3 rfl rfl
        have k15_3 : ri_lk (ri_st1 lo 3 (.int (fo + 1))) 3 = some (.int (fo + 1)) := eh_self
        have k15_0 : ri_lk (ri_st1 lo 3 (.int (fo + 1))) 0 = some (.ref 203) := eh_keep (by decide) (Or.inl rfl) l0
        have k15_1 : ri_lk (ri_st1 lo 3 (.int (fo + 1))) 1 = some (.ref 23) := eh_keep (by decide) (Or.inl rfl) l1
        have k15_2 : ri_lk (ri_st1 lo 3 (.int (fo + 1))) 2 = some (.int cu) := eh_keep (by decide) (Or.inl rfl) l2
        have k15_4 : ri_lk (ri_st1 lo 3 (.int (fo + 1))) 4 = some (.int k) := eh_keep (by decide) (Or.inl rfl) l4
        have k15_5 : ri_lk (ri_st1 lo 3 (.int (fo + 1))) 5 = some (.int ht) := eh_keep (by decide) (Or.inl rfl) l5
        have k15_6 : ri_lk (ri_st1 lo 3 (.int (fo + 1))) 6 = some (.int li) := eh_keep (by decide) (Or.inl rfl) l6
        have E := E.ii (p := 75) (y := k + 1) rfl (i := 4) (n := 1) (m := 3) (ax := []) (w := .null) rfl k15_4 rfl rfl
        have k16_4 : ri_lk (ri_st1 (ri_st1 lo 3 (.int (fo + 1))) 4 (.int (k + 1))) 4 = some (.int (k + 1)) := eh_self
        have k16_0 : ri_lk (ri_st1 (ri_st1 lo 3 (.int (fo + 1))) 4 (.int (k + 1))) 0 = some (.ref 203) := eh_keep (by decide) (Or.inl rfl) k15_0
        have k16_1 : ri_lk (ri_st1 (ri_st1 lo 3 (.int (fo + 1))) 4 (.int (k + 1))) 1 = some (.ref 23) := eh_keep (by decide) (Or.inl rfl) k15_1
        have k16_2 : ri_lk (ri_st1 (ri_st1 lo 3 (.int (fo + 1))) 4 (.int (k + 1))) 2 = some (.int cu) := eh_keep (by decide) (Or.inl rfl) k15_2
        have k16_3 : ri_lk (ri_st1 (ri_st1 lo 3 (.int (fo + 1))) 4 (.int (k + 1))) 3 = some (.int (fo + 1)) := eh_keep (by decide) (Or.inl rfl) k15_3
        have k16_5 : ri_lk (ri_st1 (ri_st1 lo 3 (.int (fo + 1))) 4 (.int (k + 1))) 5 = some (.int ht) := eh_keep (by decide) (Or.inl rfl) k15_5
        have k16_6 : ri_lk (ri_st1 (ri_st1 lo 3 (.int (fo + 1))) 4 (.int (k + 1))) 6 = some (.int li) := eh_keep (by decide) (Or.inl rfl) k15_6
        have E := E.pu (p := 5) (lo' := (ri_st1 (ri_st1 lo 3 (.int (fo + 1))) 4 (.int (k + 1)))) (st' := []) rfl (e := (.goto (-70), 3, [5], .null)) rfl rfl (fun _ _ => rfl)
        exact Or.inr (Or.inr (Or.inr (Or.inl ⟨c1, c9, c10, _, _, E, hV13, hN14, (ty.ui rfl), k16_0, k16_1, k16_2, k16_3, k16_4, k16_5, k16_6⟩)))
    · skip
      have E := E.ii (p := 52) (y := li + 1) rfl (i := 6) (n := 1) (m := 3) (ax := []) (w := .null) rfl l6 rfl rfl
      have k17_6 : ri_lk (ri_st1 lo 6 (.int (li + 1))) 6 = some (.int (li + 1)) := eh_self
      have k17_0 : ri_lk (ri_st1 lo 6 (.int (li + 1))) 0 = some (.ref 203) := eh_keep (by decide) (Or.inl rfl) l0
      have k17_1 : ri_lk (ri_st1 lo 6 (.int (li + 1))) 1 = some (.ref 23) := eh_keep (by decide) (Or.inl rfl) l1
      have k17_2 : ri_lk (ri_st1 lo 6 (.int (li + 1))) 2 = some (.int cu) := eh_keep (by decide) (Or.inl rfl) l2
      have k17_3 : ri_lk (ri_st1 lo 6 (.int (li + 1))) 3 = some (.int fo) := eh_keep (by decide) (Or.inl rfl) l3
      have k17_4 : ri_lk (ri_st1 lo 6 (.int (li + 1))) 4 = some (.int k) := eh_keep (by decide) (Or.inl rfl) l4
      have k17_5 : ri_lk (ri_st1 lo 6 (.int (li + 1))) 5 = some (.int ht) := eh_keep (by decide) (Or.inl rfl) l5
      have E := E.pu (p := 31) (lo' := (ri_st1 lo 6 (.int (li + 1)))) (st' := []) rfl (e := (.goto (-21), 3, [31], .null)) rfl rfl (fun _ _ => rfl)
      exact Or.inr (Or.inr (Or.inr (Or.inr (⟨c1, c9, _, _, E, hV, rfl, ty, k17_0, k17_1, k17_2, k17_3, k17_4, k17_5, k17_6⟩))))
