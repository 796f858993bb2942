theorem yaa_a {cal : eh_K} {lo : List (Nat × Value)} {h h' : ri_H} {rs : List Value} {G : eh_W} {cu : Int32} (E : eh_e cal md_218 0 lo [] h rs h') (hV : eh_V h = G) (ty : eh_ty tM G) (l0 : ri_lk lo 0 = some (.ref 0)) (l1 : ri_lk lo 1 = some (.int cu)) : ∃ hz loz, eh_e cal md_218 4 loz [] hz rs h' ∧ eh_V hz = G ∧ eh_N hz = eh_N h ∧ eh_ty tM G ∧ ri_lk loz 0 = some (.ref 0) ∧ ri_lk loz 1 = some (.int cu) ∧ ri_lk loz 2 = some (.int 0) ∧ ri_lk loz 3 = some (.int 0) := by
  have E := E.pu (p := 1) (lo' := lo) (st' := [.int 0]) rfl (e := (.iconst 0, 1, [], .null)) rfl rfl (fun _ _ => rfl)
  have E := E.so (p := 2) (t := ri_isI) (i := 2) (n := 1) rfl (e := (.istore_n 2, 1, [], .null)) rfl rfl (fun _ _ => rfl) rfl
  have k1_2 : ri_lk (ri_st1 lo 2 (.int 0)) 2 = some (.int 0) := eh_self
  have k1_0 : ri_lk (ri_st1 lo 2 (.int 0)) 0 = some (.ref 0) := eh_keep (by decide) (Or.inl rfl) l0
  have k1_1 : ri_lk (ri_st1 lo 2 (.int 0)) 1 = some (.int cu) := eh_keep (by decide) (Or.inl rfl) l1
  have E := E.pu (p := 3) (lo' := (ri_st1 lo 2 (.int 0))) (st' := [.int 0]) rfl (e := (.iconst 0, 1, [], .null)) rfl rfl (fun _ _ => rfl)
  have E := E.so (p := 4) (t := ri_isI) (i := 3) (n := 1) rfl (e := (.istore_n 3, 1, [], .null)) rfl rfl (fun _ _ => rfl) rfl
  have k2_3 : ri_lk (ri_st1 (ri_st1 lo 2 (.int 0)) 3 (.int 0)) 3 = some (.int 0) := eh_self
  have k2_0 : ri_lk (ri_st1 (ri_st1 lo 2 (.int 0)) 3 (.int 0)) 0 = some (.ref 0) := eh_keep (by decide) (Or.inl rfl) k1_0
  have k2_1 : ri_lk (ri_st1 (ri_st1 lo 2 (.int 0)) 3 (.int 0)) 1 = some (.int cu) := eh_keep (by decide) (Or.inl rfl) k1_1
  have k2_2 : ri_lk (ri_st1 (ri_st1 lo 2 (.int 0)) 3 (.int 0)) 2 = some (.int 0) := eh_keep (by decide) (Or.inl rfl) k1_2
  exact ⟨_, _, E, hV, rfl, ty, k2_0, k2_1, k2_2, k2_3⟩
theorem yaa_o {d : Nat} {lo : List (Nat × Value)} {h h' : ri_H} {rs : List Value} {G : eh_W} {c sw P w : Nat} {ku sz : Nat → Nat} {ce hi : Nat → Nat → Nat} {cu mn k : Int32} (E : eh_e (ri_calE ri_md (d + 4)) md_218 4 lo [] h rs h') (hV : eh_V h = G) (ty : eh_ty tM G) (l0 : ri_lk lo 0 = some (.ref 0)) (l1 : ri_lk lo 1 = some (.int cu)) (l2 : ri_lk lo 2 = some (.int mn)) (l3 : ri_lk lo 3 = some (.int k)) (D : k.toInt < (1 <<< ((eh_i G 2 4) &&& 31)).toInt → xD c sw P ku sz ce hi cu k G) (hw : eh_i G 2 0 = nI w) (w8 : w ≤ 8) : (¬ (k.toInt < (1 <<< ((eh_i G 2 4) &&& 31)).toInt) ∧ rs = [.int mn] ∧ eh_V h' = G ∧ eh_N h' = eh_N h) ∨ (∃ (x4 : Int32), ∃ (x5 : eh_W), k.toInt < (1 <<< ((eh_i G 2 4) &&& 31)).toInt ∧ ¬ ((eh_i G 10 (k).toNatClampNeg) = 0) ∧ x4 = nI (ht_M c sw P w ku sz ce hi) ∧ eh_fr pMv G x5 ∧ eh_ty tM x5 ∧ ∃ hz loz, eh_e (ri_calE ri_md (d + 4)) md_218 46 loz [] hz rs h' ∧ eh_V hz = eh_u x5 11 (k).toNatClampNeg (.int x4) ∧ eh_N hz = eh_N h ∧ eh_ty tM (eh_u x5 11 (k).toNatClampNeg (.int x4)) ∧ ri_lk loz 0 = some (.ref 0) ∧ ri_lk loz 1 = some (.int cu) ∧ ri_lk loz 2 = some (.int mn) ∧ ri_lk loz 3 = some (.int k) ∧ ri_lk loz 4 = some (.int 1) ∧ ri_lk loz 5 = some (.int 0)) ∨ (k.toInt < (1 <<< ((eh_i G 2 4) &&& 31)).toInt ∧ (eh_i G 10 (k).toNatClampNeg) = 0 ∧ ∃ hz loz, eh_e (ri_calE ri_md (d + 4)) md_218 4 loz [] hz rs h' ∧ eh_V hz = G ∧ eh_N hz = eh_N h ∧ eh_ty tM G ∧ ri_lk loz 0 = some (.ref 0) ∧ ri_lk loz 1 = some (.int cu) ∧ ri_lk loz 2 = some (.int mn) ∧ ri_lk loz 3 = some (.int (k + 1))) := by
  have E := E.ld (p := 5) (t := ri_isI) (i := 3) (n := 1) (v := .int k) rfl (e := (.iload_n 3, 1, [], .null)) rfl rfl (fun _ _ => rfl) l3 rfl
  have E := E.pu (p := 6) (lo' := lo) (st' := [.int 1, .int k]) rfl (e := (.iconst 1, 1, [], .null)) rfl rfl (fun _ _ => rfl)
  have E := E.ld (p := 7) (t := ri_isA) (i := 0) (n := 1) (v := .ref 0) rfl (e := (.aload_n 0, 1, [], .null)) rfl rfl (fun _ _ => rfl) l0 rfl
  have E := E.gr (n := 2) (p := 10) rfl (x := 33) (m := 3) (w := .null) (t := 12) (i := 6) (u := 1330) rfl rfl hV ty rfl
  have E := E.pu (p := 11) (lo' := lo) (st' := [.int 4, .ref 2, .int 1, .int k]) rfl (e := (.iconst 4, 1, [], .null)) rfl rfl (fun _ _ => rfl)
  have E := E.ai (p := 12) (z := eh_i G 2 4) (n := 4) rfl (e := (.iaload, 1, [], .null)) rfl rfl (fun _ _ => rfl) rfl hV ty (by decide) rfl rfl
  have E := E.pu (p := 13) (lo' := lo) (st' := [.int (1 <<< ((eh_i G 2 4) &&& 31)), .int k]) rfl (e := (.ishl, 1, [], .null)) rfl rfl (fun _ _ => rfl)
  rcases eh_r3 rfl rfl (E.br (p := 16) (c := 3) (tgt := 115) (a := k) (b := 1 <<< ((eh_i G 2 4) &&& 31)) (st' := []) rfl (e := (.if_icmp .ge 102, 3, [115], .null)) rfl rfl (fun _ _ => rfl) rfl) with ⟨c1, E⟩ | ⟨c1, E⟩
  · skip
    have E := E.ld (p := 116) (t := ri_isI) (i := 2) (n := 1) (v := .int mn) rfl (e := (.iload_n 2, 1, [], .null)) rfl rfl (fun _ _ => rfl) l2 rfl
    obtain ⟨r1, r2⟩ := E.reti rfl (m := 1) (ax := []) (w := .null) rfl
    exact Or.inl ⟨c1, r1, ((congrArg eh_V r2).trans hV), (congrArg eh_N r2)⟩
  · skip
    have E := E.ld (p := 17) (t := ri_isA) (i := 0) (n := 1) (v := .ref 0) rfl (e := (.aload_n 0, 1, [], .null)) rfl rfl (fun _ _ => rfl) l0 rfl
    have E := E.gr (n := 10) (p := 20) rfl (x := 59) (m := 3) (w := .null) (t := 12) (i := 26) (u := 1350) rfl rfl hV ty rfl
    have E := E.ld (p := 21) (t := ri_isI) (i := 3) (n := 1) (v := .int k) rfl (e := (.iload_n 3, 1, [], .null)) rfl rfl (fun _ _ => rfl) l3 rfl
    have E := E.ai (p := 22) (z := eh_i G 10 (k).toNatClampNeg) (n := (k).toNatClampNeg) rfl (e := (.baload, 1, [], .null)) rfl rfl (fun _ _ => rfl) rfl hV ty rfl rfl rfl
    rcases eh_q1 (E.br (p := 25) (c := 1) (tgt := 28) (a := eh_i G 10 (k).toNatClampNeg) (b := 0) (st' := []) rfl (e := (.ifCond .ne 6, 3, [28], .null)) rfl rfl (fun _ _ => rfl) rfl) with ⟨c2, E⟩ | ⟨c2, E⟩
    · skip
      have E := E.ld (p := 29) (t := ri_isA) (i := 0) (n := 1) (v := .ref 0) rfl (e := (.aload_n 0, 1, [], .null)) rfl rfl (fun _ _ => rfl) l0 rfl
      have E := E.gr (n := 11) (p := 32) rfl (x := 63) (m := 3) (w := .null) (t := 12) (i := 27) (u := 1351) rfl rfl hV ty rfl
      have E := E.ld (p := 33) (t := ri_isI) (i := 3) (n := 1) (v := .int k) rfl (e := (.iload_n 3, 1, [], .null)) rfl rfl (fun _ _ => rfl) l3 rfl
      have E := E.ld (p := 34) (t := ri_isA) (i := 0) (n := 1) (v := .ref 0) rfl (e := (.aload_n 0, 1, [], .null)) rfl rfl (fun _ _ => rfl) l0 rfl
      have E := E.ld (p := 35) (t := ri_isI) (i := 1) (n := 1) (v := .int cu) rfl (e := (.iload_n 1, 1, [], .null)) rfl rfl (fun _ _ => rfl) l1 rfl
      have E := E.ld (p := 36) (t := ri_isI) (i := 3) (n := 1) (v := .int k) rfl (e := (.iload_n 3, 1, [], .null)) rfl rfl (fun _ _ => rfl) l3 rfl
      obtain ⟨v1, h3, X, E⟩ := E.cv (p := 39) (as := [.int cu, .int k]) (b := 0) (r := [.int k, .ref 11]) rfl (x := 323) (m := 3) (w := .null) (j := 192) (n := 2) (t := 12) (u := [1705, 76, 1707]) rfl rfl rfl
      rcases xh_192 (d := d) X hV ty (D c1) hw w8 with ⟨x4, x5, c6, c7, c8, rfl, hV9, hN10⟩
      have c6 : x4 = nI (ht_M c sw P w ku sz ce hi) := c6
      have c7 : eh_fr pMv G x5 := c7
      have c8 : eh_ty tM x5 := c8
      have hV9 : _ = x5 := hV9
      have E : eh_e _ _ 39 lo [.int x4, .int k, .ref 11] _ rs h' := E
      obtain ⟨h11, hV12, hN13, E⟩ := E.aw (gg := ri_g1) (b := true) (p := 40) (n := (k).toNatClampNeg) rfl (e := (.iastore, 1, [], .null)) rfl rfl (fun _ _ => rfl) rfl hV9 rfl
      have E := E.pu (p := 41) (lo' := lo) (st' := [.int 1]) rfl (e := (.iconst 1, 1, [], .null)) rfl rfl (fun _ _ => rfl)
      have E := E.so (p := 43) (t := ri_isI) (i := 4) (n := 2) rfl (e := (.istore 4, 2, [], .null)) rfl rfl (fun _ _ => rfl) rfl
      have k14_4 : ri_lk (ri_st1 lo 4 (.int 1)) 4 = some (.int 1) := eh_self
      have k14_0 : ri_lk (ri_st1 lo 4 (.int 1)) 0 = some (.ref 0) := eh_keep (by decide) (Or.inl rfl) l0
      have k14_1 : ri_lk (ri_st1 lo 4 (.int 1)) 1 = some (.int cu) := eh_keep (by decide) (Or.inl rfl) l1
      have k14_2 : ri_lk (ri_st1 lo 4 (.int 1)) 2 = some (.int mn) := eh_keep (by decide) (Or.inl rfl) l2
      have k14_3 : ri_lk (ri_st1 lo 4 (.int 1)) 3 = some (.int k) := eh_keep (by decide) (Or.inl rfl) l3
      have E := E.pu (p := 44) (lo' := (ri_st1 lo 4 (.int 1))) (st' := [.int 0]) rfl (e := (.iconst 0, 1, [], .null)) rfl rfl (fun _ _ => rfl)
      have E := E.so (p := 46) (t := ri_isI) (i := 5) (n := 2) rfl (e := (.istore 5, 2, [], .null)) rfl rfl (fun _ _ => rfl) rfl
      have k15_5 : ri_lk (ri_st1 (ri_st1 lo 4 (.int 1)) 5 (.int 0)) 5 = some (.int 0) := eh_self
      have k15_0 : ri_lk (ri_st1 (ri_st1 lo 4 (.int 1)) 5 (.int 0)) 0 = some (.ref 0) := eh_keep (by decide) (Or.inl rfl) k14_0
      have k15_1 : ri_lk (ri_st1 (ri_st1 lo 4 (.int 1)) 5 (.int 0)) 1 = some (.int cu) := eh_keep (by decide) (Or.inl rfl) k14_1
      have k15_2 : ri_lk (ri_st1 (ri_st1 lo 4 (.int 1)) 5 (.int 0)) 2 = some (.int mn) := eh_keep (by decide) (Or.inl rfl) k14_2
      have k15_3 : ri_lk (ri_st1 (ri_st1 lo 4 (.int 1)) 5 (.int 0)) 3 = some (.int k) := eh_keep (by decide) (Or.inl rfl) k14_3
      have k15_4 : ri_lk (ri_st1 (ri_st1 lo 4 (.int 1)) 5 (.int 0)) 4 = some (.int 1) := eh_keep (by decide) (Or.inl rfl) k14_4
      exact Or.inr (Or.inl ⟨x4, x5, c1, c2, c6, c7, c8, _, _, E, hV12, (hN13.trans hN10), (c8.ui rfl), k15_0, k15_1, k15_2, k15_3, k15_4, k15_5⟩)
    · skip
      have E := E.pu (p := 109) (lo' := lo) (st' := []) rfl (e := (.goto 84, 3, [109], .null)) rfl rfl (fun _ _ => rfl)
      have E := E.ii (p := 112) (y := k + 1) rfl (i := 3) (n := 1) (m := 3) (ax := []) (w := .null) rfl l3 rfl rfl
      have k16_3 : ri_lk (ri_st1 lo 3 (.int (k + 1))) 3 = some (.int (k + 1)) := eh_self
      have k16_0 : ri_lk (ri_st1 lo 3 (.int (k + 1))) 0 = some (.ref 0) := eh_keep (by decide) (Or.inl rfl) l0
      have k16_1 : ri_lk (ri_st1 lo 3 (.int (k + 1))) 1 = some (.int cu) := eh_keep (by decide) (Or.inl rfl) l1
      have k16_2 : ri_lk (ri_st1 lo 3 (.int (k + 1))) 2 = some (.int mn) := eh_keep (by decide) (Or.inl rfl) l2
      have E := E.pu (p := 4) (lo' := (ri_st1 lo 3 (.int (k + 1)))) (st' := []) rfl (e := (.goto (-108), 3, [4], .null)) rfl rfl (fun _ _ => rfl)
      exact Or.inr (Or.inr (⟨c1, c2, _, _, E, hV, rfl, ty, k16_0, k16_1, k16_2, k16_3⟩))
theorem yaa_i {cal : eh_K} {lo : List (Nat × Value)} {h h' : ri_H} {rs : List Value} {G : eh_W} {cu mn k is i : Int32} (E : eh_e cal md_218 46 lo [] h rs h') (hV : eh_V h = G) (ty : eh_ty tM G) (l0 : ri_lk lo 0 = some (.ref 0)) (l1 : ri_lk lo 1 = some (.int cu)) (l2 : ri_lk lo 2 = some (.int mn)) (l3 : ri_lk lo 3 = some (.int k)) (l4 : ri_lk lo 4 = some (.int is)) (l5 : ri_lk lo 5 = some (.int i)) : (¬ (i.toInt < k.toInt) ∧ is = 0 ∧ ∃ hz loz, eh_e cal md_218 4 loz [] hz rs h' ∧ eh_V hz = G ∧ eh_N hz = eh_N h ∧ eh_ty tM G ∧ ri_lk loz 0 = some (.ref 0) ∧ ri_lk loz 1 = some (.int cu) ∧ ri_lk loz 2 = some (.int (mn + 0)) ∧ ri_lk loz 3 = some (.int (k + 1)) ∧ ri_lk loz 4 = some (.int is) ∧ ri_lk loz 5 = some (.int i)) ∨ (¬ (i.toInt < k.toInt) ∧ ¬ (is = 0) ∧ ∃ hz loz, eh_e cal md_218 4 loz [] hz rs h' ∧ eh_V hz = G ∧ eh_N hz = eh_N h ∧ eh_ty tM G ∧ ri_lk loz 0 = some (.ref 0) ∧ ri_lk loz 1 = some (.int cu) ∧ ri_lk loz 2 = some (.int (mn + 1)) ∧ ri_lk loz 3 = some (.int (k + 1)) ∧ ri_lk loz 4 = some (.int is) ∧ ri_lk loz 5 = some (.int i)) ∨ (i.toInt < k.toInt ∧ is = 0 ∧ ∃ hz loz, eh_e cal md_218 4 loz [] hz rs h' ∧ eh_V hz = G ∧ eh_N hz = eh_N h ∧ eh_ty tM G ∧ ri_lk loz 0 = some (.ref 0) ∧ ri_lk loz 1 = some (.int cu) ∧ ri_lk loz 2 = some (.int (mn + 0)) ∧ ri_lk loz 3 = some (.int (k + 1)) ∧ ri_lk loz 4 = some (.int is) ∧ ri_lk loz 5 = some (.int i)) ∨ (i.toInt < k.toInt ∧ ¬ (is = 0) ∧ (eh_i G 10 (i).toNatClampNeg) = 0 ∧ ∃ hz loz, eh_e cal md_218 46 loz [] hz rs h' ∧ eh_V hz = G ∧ eh_N hz = eh_N h ∧ eh_ty tM G ∧ ri_lk loz 0 = some (.ref 0) ∧ ri_lk loz 1 = some (.int cu) ∧ ri_lk loz 2 = some (.int mn) ∧ ri_lk loz 3 = some (.int k) ∧ ri_lk loz 4 = some (.int 1) ∧ ri_lk loz 5 = some (.int (i + 1))) ∨ (i.toInt < k.toInt ∧ ¬ (is = 0) ∧ ¬ ((eh_i G 10 (i).toNatClampNeg) = 0) ∧ (eh_i G 11 (i).toNatClampNeg) = (eh_i G 11 (k).toNatClampNeg) ∧ ∃ hz loz, eh_e cal md_218 46 loz [] hz rs h' ∧ eh_V hz = G ∧ eh_N hz = eh_N h ∧ eh_ty tM G ∧ ri_lk loz 0 = some (.ref 0) ∧ ri_lk loz 1 = some (.int cu) ∧ ri_lk loz 2 = some (.int mn) ∧ ri_lk loz 3 = some (.int k) ∧ ri_lk loz 4 = some (.int 0) ∧ ri_lk loz 5 = some (.int (i + 1))) ∨ (i.toInt < k.toInt ∧ ¬ (is = 0) ∧ ¬ ((eh_i G 10 (i).toNatClampNeg) = 0) ∧ ¬ ((eh_i G 11 (i).toNatClampNeg) = (eh_i G 11 (k).toNatClampNeg)) ∧ ∃ hz loz, eh_e cal md_218 46 loz [] hz rs h' ∧ eh_V hz = G ∧ eh_N hz = eh_N h ∧ eh_ty tM G ∧ ri_lk loz 0 = some (.ref 0) ∧ ri_lk loz 1 = some (.int cu) ∧ ri_lk loz 2 = some (.int mn) ∧ ri_lk loz 3 = some (.int k) ∧ ri_lk loz 4 = some (.int 1) ∧ ri_lk loz 5 = some (.int (i + 1))) := by
  have E := E.ld (p := 48) (t := ri_isI) (i := 5) (n := 2) (v := .int i) rfl (e := (.iload 5, 2, [], .null)) rfl rfl (fun _ _ => rfl) l5 rfl
  have E := E.ld (p := 49) (t := ri_isI) (i := 3) (n := 1) (v := .int k) rfl (e := (.iload_n 3, 1, [], .null)) rfl rfl (fun _ _ => rfl) l3 rfl
  rcases eh_r3 rfl rfl (E.br (p := 52) (c := 3) (tgt := 96) (a := i) (b := k) (st' := []) rfl (e := (.if_icmp .ge 47, 3, [96], .null)) rfl rfl (fun _ _ => rfl) rfl) with ⟨c1, E⟩ | ⟨c1, E⟩
  · skip
    have E := E.ld (p := 97) (t := ri_isI) (i := 2) (n := 1) (v := .int mn) rfl (e := (.iload_n 2, 1, [], .null)) rfl rfl (fun _ _ => rfl) l2 rfl
    have E := E.ld (p := 99) (t := ri_isI) (i := 4) (n := 2) (v := .int is) rfl (e := (.iload 4, 2, [], .null)) rfl rfl (fun _ _ => rfl) l4 rfl
    rcases eh_q0 (E.br (p := 102) (c := 0) (tgt := 106) (a := is) (b := 0) (st' := [.int mn]) rfl (e := (.ifCond .eq 7, 3, [106], .null)) rfl rfl (fun _ _ => rfl) rfl) with ⟨c2, E⟩ | ⟨c2, E⟩
    · skip
      have E := E.pu (p := 107) (lo' := lo) (st' := [.int 0, .int mn]) rfl (e := (.iconst 0, 1, [], .null)) rfl rfl (fun _ _ => rfl)
      have E := E.pu (p := 108) (lo' := lo) (st' := [.int (mn + 0)]) rfl (e := (.iadd, 1, [], .null)) rfl rfl (fun _ _ => rfl)
      have E := E.so (p := 109) (t := ri_isI) (i := 2) (n := 1) rfl (e := (.istore_n 2, 1, [], .null)) rfl rfl (fun _ _ => rfl) rfl
      have k3_2 : ri_lk (ri_st1 lo 2 (.int (mn + 0))) 2 = some (.int (mn + 0)) := eh_self
      have k3_0 : ri_lk (ri_st1 lo 2 (.int (mn + 0))) 0 = some (.ref 0) := eh_keep (by decide) (Or.inl rfl) l0
      have k3_1 : ri_lk (ri_st1 lo 2 (.int (mn + 0))) 1 = some (.int cu) := eh_keep (by decide) (Or.inl rfl) l1
      have k3_3 : ri_lk (ri_st1 lo 2 (.int (mn + 0))) 3 = some (.int k) := eh_keep (by decide) (Or.inl rfl) l3
      have k3_4 : ri_lk (ri_st1 lo 2 (.int (mn + 0))) 4 = some (.int is) := eh_keep (by decide) (Or.inl rfl) l4
      have k3_5 : ri_lk (ri_st1 lo 2 (.int (mn + 0))) 5 = some (.int i) := eh_keep (by decide) (Or.inl rfl) l5
      have E := E.ii (p := 112) (y := k + 1) rfl (i := 3) (n := 1) (m := 3) (ax := []) (w := .null) rfl k3_3 rfl rfl
      have k4_3 : ri_lk (ri_st1 (ri_st1 lo 2 (.int (mn + 0))) 3 (.int (k + 1))) 3 = some (.int (k + 1)) := eh_self
      have k4_0 : ri_lk (ri_st1 (ri_st1 lo 2 (.int (mn + 0))) 3 (.int (k + 1))) 0 = some (.ref 0) := eh_keep (by decide) (Or.inl rfl) k3_0
      have k4_1 : ri_lk (ri_st1 (ri_st1 lo 2 (.int (mn + 0))) 3 (.int (k + 1))) 1 = some (.int cu) := eh_keep (by decide) (Or.inl rfl) k3_1
      have k4_2 : ri_lk (ri_st1 (ri_st1 lo 2 (.int (mn + 0))) 3 (.int (k + 1))) 2 = some (.int (mn + 0)) := eh_keep (by decide) (Or.inl rfl) k3_2
      have k4_4 : ri_lk (ri_st1 (ri_st1 lo 2 (.int (mn + 0))) 3 (.int (k + 1))) 4 = some (.int is) := eh_keep (by decide) (Or.inl rfl) k3_4
      have k4_5 : ri_lk (ri_st1 (ri_st1 lo 2 (.int (mn + 0))) 3 (.int (k + 1))) 5 = some (.int i) := eh_keep (by decide) (Or.inl rfl) k3_5
      have E := E.pu (p := 4) (lo' := (ri_st1 (ri_st1 lo 2 (.int (mn + 0))) 3 (.int (k + 1)))) (st' := []) rfl (e := (.goto (-108), 3, [4], .null)) rfl rfl (fun _ _ => rfl)
      exact Or.inl ⟨c1, c2, _, _, E, hV, rfl, ty, k4_0, k4_1, k4_2, k4_3, k4_4, k4_5⟩
    · skip
      have E := E.pu (p := 103) (lo' := lo) (st' := [.int 1, .int mn]) rfl (e := (.iconst 1, 1, [], .null)) rfl rfl (fun _ _ => rfl)
      have E := E.pu (p := 107) (lo' := lo) (st' := [.int 1, .int mn]) rfl (e := (.goto 4, 3, [107], .null)) rfl rfl (fun _ _ => rfl)
      have E := E.pu (p := 108) (lo' := lo) (st' := [.int (mn + 1)]) rfl (e := (.iadd, 1, [], .null)) rfl rfl (fun _ _ => rfl)
      have E := E.so (p := 109) (t := ri_isI) (i := 2) (n := 1) rfl (e := (.istore_n 2, 1, [], .null)) rfl rfl (fun _ _ => rfl) rfl
      have k5_2 : ri_lk (ri_st1 lo 2 (.int (mn + 1))) 2 = some (.int (mn + 1)) := eh_self
      have k5_0 : ri_lk (ri_st1 lo 2 (.int (mn + 1))) 0 = some (.ref 0) := eh_keep (by decide) (Or.inl rfl) l0
      have k5_1 : ri_lk (ri_st1 lo 2 (.int (mn + 1))) 1 = some (.int cu) := eh_keep (by decide) (Or.inl rfl) l1
      have k5_3 : ri_lk (ri_st1 lo 2 (.int (mn + 1))) 3 = some (.int k) := eh_keep (by decide) (Or.inl rfl) l3
      have k5_4 : ri_lk (ri_st1 lo 2 (.int (mn + 1))) 4 = some (.int is) := eh_keep (by decide) (Or.inl rfl) l4
      have k5_5 : ri_lk (ri_st1 lo 2 (.int (mn + 1))) 5 = some (.int i) := eh_keep (by decide) (Or.inl rfl) l5
      have E := E.ii (p := 112) (y := k + 1) rfl (i := 3) (n := 1) (m := 3) (ax := []) (w := .null) rfl k5_3 rfl rfl
      have k6_3 : ri_lk (ri_st1 (ri_st1 lo 2 (.int (mn + 1))) 3 (.int (k + 1))) 3 = some (.int (k + 1)) := eh_self
      have k6_0 : ri_lk (ri_st1 (ri_st1 lo 2 (.int (mn + 1))) 3 (.int (k + 1))) 0 = some (.ref 0) := eh_keep (by decide) (Or.inl rfl) k5_0
      have k6_1 : ri_lk (ri_st1 (ri_st1 lo 2 (.int (mn + 1))) 3 (.int (k + 1))) 1 = some (.int cu) := eh_keep (by decide) (Or.inl rfl) k5_1
      have k6_2 : ri_lk (ri_st1 (ri_st1 lo 2 (.int (mn + 1))) 3 (.int (k + 1))) 2 = some (.int (mn + 1)) := eh_keep (by decide) (Or.inl rfl) k5_2
      have k6_4 : ri_lk (ri_st1 (ri_st1 lo 2 (.int (mn + 1))) 3 (.int (k + 1))) 4 = some (.int is) := eh_keep (by decide) (Or.inl rfl) k5_4
      have k6_5 : ri_lk (ri_st1 (ri_st1 lo 2 (.int (mn + 1))) 3 (.int (k + 1))) 5 = some (.int i) := eh_keep (by decide) (Or.inl rfl) k5_5
      have E := E.pu (p := 4) (lo' := (ri_st1 (ri_st1 lo 2 (.int (mn + 1))) 3 (.int (k + 1)))) (st' := []) rfl (e := (.goto (-108), 3, [4], .null)) rfl rfl (fun _ _ => rfl)
      exact Or.inr (Or.inl ⟨c1, c2, _, _, E, hV, rfl, ty, k6_0, k6_1, k6_2, k6_3, k6_4, k6_5⟩)
  · skip
    have E := E.ld (p := 54) (t := ri_isI) (i := 4) (n := 2) (v := .int is) rfl (e := (.iload 4, 2, [], .null)) rfl rfl (fun _ _ => rfl) l4 rfl
    rcases eh_q0 (E.br (p := 57) (c := 0) (tgt := 96) (a := is) (b := 0) (st' := []) rfl (e := (.ifCond .eq 42, 3, [96], .null)) rfl rfl (fun _ _ => rfl) rfl) with ⟨c7, E⟩ | ⟨c7, E⟩
    · skip
      have E := E.ld (p := 97) (t := ri_isI) (i := 2) (n := 1) (v := .int mn) rfl (e := (.iload_n 2, 1, [], .null)) rfl rfl (fun _ _ => rfl) l2 rfl
      have E := E.ld (p := 99) (t := ri_isI) (i := 4) (n := 2) (v := .int is) rfl (e := (.iload 4, 2, [], .null)) rfl rfl (fun _ _ => rfl) l4 rfl
      have E := (eh_q0 (E.br (p := 102) (c := 0) (tgt := 106) (a := is) (b := 0) (st' := [.int mn]) rfl (e := (.ifCond .eq 7, 3, [106], .null)) rfl rfl (fun _ _ => rfl) rfl)).elim (fun y => y.2) (fun y => absurd c7 y.1)
      have E := E.pu (p := 107) (lo' := lo) (st' := [.int 0, .int mn]) rfl (e := (.iconst 0, 1, [], .null)) rfl rfl (fun _ _ => rfl)
      have E := E.pu (p := 108) (lo' := lo) (st' := [.int (mn + 0)]) rfl (e := (.iadd, 1, [], .null)) rfl rfl (fun _ _ => rfl)
      have E := E.so (p := 109) (t := ri_isI) (i := 2) (n := 1) rfl (e := (.istore_n 2, 1, [], .null)) rfl rfl (fun _ _ => rfl) rfl
      have k8_2 : ri_lk (ri_st1 lo 2 (.int (mn + 0))) 2 = some (.int (mn + 0)) := eh_self
      have k8_0 : ri_lk (ri_st1 lo 2 (.int (mn + 0))) 0 = some (.ref 0) := eh_keep (by decide) (Or.inl rfl) l0
      have k8_1 : ri_lk (ri_st1 lo 2 (.int (mn + 0))) 1 = some (.int cu) := eh_keep (by decide) (Or.inl rfl) l1
      have k8_3 : ri_lk (ri_st1 lo 2 (.int (mn + 0))) 3 = some (.int k) := eh_keep (by decide) (Or.inl rfl) l3
      have k8_4 : ri_lk (ri_st1 lo 2 (.int (mn + 0))) 4 = some (.int is) := eh_keep (by decide) (Or.inl rfl) l4
      have k8_5 : ri_lk (ri_st1 lo 2 (.int (mn + 0))) 5 = some (.int i) := eh_keep (by decide) (Or.inl rfl) l5
      have E := E.ii (p := 112) (y := k + 1) rfl (i := 3) (n := 1) (m := 3) (ax := []) (w := .null) rfl k8_3 rfl rfl
      have k9_3 : ri_lk (ri_st1 (ri_st1 lo 2 (.int (mn + 0))) 3 (.int (k + 1))) 3 = some (.int (k + 1)) := eh_self
      have k9_0 : ri_lk (ri_st1 (ri_st1 lo 2 (.int (mn + 0))) 3 (.int (k + 1))) 0 = some (.ref 0) := eh_keep (by decide) (Or.inl rfl) k8_0
      have k9_1 : ri_lk (ri_st1 (ri_st1 lo 2 (.int (mn + 0))) 3 (.int (k + 1))) 1 = some (.int cu) := eh_keep (by decide) (Or.inl rfl) k8_1
      have k9_2 : ri_lk (ri_st1 (ri_st1 lo 2 (.int (mn + 0))) 3 (.int (k + 1))) 2 = some (.int (mn + 0)) := eh_keep (by decide) (Or.inl rfl) k8_2
      have k9_4 : ri_lk (ri_st1 (ri_st1 lo 2 (.int (mn + 0))) 3 (.int (k + 1))) 4 = some (.int is) := eh_keep (by decide) (Or.inl rfl) k8_4
      have k9_5 : ri_lk (ri_st1 (ri_st1 lo 2 (.int (mn + 0))) 3 (.int (k + 1))) 5 = some (.int i) := eh_keep (by decide) (Or.inl rfl) k8_5
      have E := E.pu (p := 4) (lo' := (ri_st1 (ri_st1 lo 2 (.int (mn + 0))) 3 (.int (k + 1)))) (st' := []) rfl (e := (.goto (-108), 3, [4], .null)) rfl rfl (fun _ _ => rfl)
      exact Or.inr (Or.inr (Or.inl ⟨c1, c7, _, _, E, hV, rfl, ty, k9_0, k9_1, k9_2, k9_3, k9_4, k9_5⟩))
    · skip
      have E := E.ld (p := 58) (t := ri_isA) (i := 0) (n := 1) (v := .ref 0) rfl (e := (.aload_n 0, 1, [], .null)) rfl rfl (fun _ _ => rfl) l0 rfl
      have E := E.gr (n := 10) (p := 61) rfl (x := 59) (m := 3) (w := .null) (t := 12) (i := 26) (u := 1350) rfl rfl hV ty rfl
      have E := E.ld (p := 63) (t := ri_isI) (i := 5) (n := 2) (v := .int i) rfl (e := (.iload 5, 2, [], .null)) rfl rfl (fun _ _ => rfl) l5 rfl
      have E := E.ai (p := 64) (z := eh_i G 10 (i).toNatClampNeg) (n := (i).toNatClampNeg) rfl (e := (.baload, 1, [], .null)) rfl rfl (fun _ _ => rfl) rfl hV ty rfl rfl rfl
      rcases eh_q0 (E.br (p := 67) (c := 0) (tgt := 83) (a := eh_i G 10 (i).toNatClampNeg) (b := 0) (st' := []) rfl (e := (.ifCond .eq 19, 3, [83], .null)) rfl rfl (fun _ _ => rfl) rfl) with ⟨c10, E⟩ | ⟨c10, E⟩
      · skip
        have E := E.pu (p := 84) (lo' := lo) (st' := [.int 1]) rfl (e := (.iconst 1, 1, [], .null)) rfl rfl (fun _ _ => rfl)
        have E := E.pu (p := 88) (lo' := lo) (st' := [.int 1]) rfl (e := (.goto 4, 3, [88], .null)) rfl rfl (fun _ _ => rfl)
        have E := E.so (p := 90) (t := ri_isI) (i := 4) (n := 2) rfl (e := (.istore 4, 2, [], .null)) rfl rfl (fun _ _ => rfl) rfl
        have k11_4 : ri_lk (ri_st1 lo 4 (.int 1)) 4 = some (.int 1) := eh_self
        have k11_0 : ri_lk (ri_st1 lo 4 (.int 1)) 0 = some (.ref 0) := eh_keep (by decide) (Or.inl rfl) l0
        have k11_1 : ri_lk (ri_st1 lo 4 (.int 1)) 1 = some (.int cu) := eh_keep (by decide) (Or.inl rfl) l1
        have k11_2 : ri_lk (ri_st1 lo 4 (.int 1)) 2 = some (.int mn) := eh_keep (by decide) (Or.inl rfl) l2
        have k11_3 : ri_lk (ri_st1 lo 4 (.int 1)) 3 = some (.int k) := eh_keep (by decide) (Or.inl rfl) l3
        have k11_5 : ri_lk (ri_st1 lo 4 (.int 1)) 5 = some (.int i) := eh_keep (by decide) (Or.inl rfl) l5
        have E := E.ii (p := 93) (y := i + 1) rfl (i := 5) (n := 1) (m := 3) (ax := []) (w := .null) rfl k11_5 rfl rfl
        have k12_5 : ri_lk (ri_st1 (ri_st1 lo 4 (.int 1)) 5 (.int (i + 1))) 5 = some (.int (i + 1)) := eh_self
        have k12_0 : ri_lk (ri_st1 (ri_st1 lo 4 (.int 1)) 5 (.int (i + 1))) 0 = some (.ref 0) := eh_keep (by decide) (Or.inl rfl) k11_0
        have k12_1 : ri_lk (ri_st1 (ri_st1 lo 4 (.int 1)) 5 (.int (i + 1))) 1 = some (.int cu) := eh_keep (by decide) (Or.inl rfl) k11_1
        have k12_2 : ri_lk (ri_st1 (ri_st1 lo 4 (.int 1)) 5 (.int (i + 1))) 2 = some (.int mn) := eh_keep (by decide) (Or.inl rfl) k11_2
        have k12_3 : ri_lk (ri_st1 (ri_st1 lo 4 (.int 1)) 5 (.int (i + 1))) 3 = some (.int k) := eh_keep (by decide) (Or.inl rfl) k11_3
        have k12_4 : ri_lk (ri_st1 (ri_st1 lo 4 (.int 1)) 5 (.int (i + 1))) 4 = some (.int 1) := eh_keep (by decide) (Or.inl rfl) k11_4
        have E := E.pu (p := 46) (lo' := (ri_st1 (ri_st1 lo 4 (.int 1)) 5 (.int (i + 1)))) (st' := []) rfl (e := (.goto (-47), 3, [46], .null)) rfl rfl (fun _ _ => rfl)
        exact Or.inr (Or.inr (Or.inr (Or.inl ⟨c1, c7, c10, _, _, E, hV, rfl, ty, k12_0, k12_1, k12_2, k12_3, k12_4, k12_5⟩)))
      · skip
        have E := E.ld (p := 68) (t := ri_isA) (i := 0) (n := 1) (v := .ref 0) rfl (e := (.aload_n 0, 1, [], .null)) rfl rfl (fun _ _ => rfl) l0 rfl
        have E := E.gr (n := 11) (p := 71) rfl (x := 63) (m := 3) (w := .null) (t := 12) (i := 27) (u := 1351) rfl rfl hV ty rfl
        have E := E.ld (p := 73) (t := ri_isI) (i := 5) (n := 2) (v := .int i) rfl (e := (.iload 5, 2, [], .null)) rfl rfl (fun _ _ => rfl) l5 rfl
        have E := E.ai (p := 74) (z := eh_i G 11 (i).toNatClampNeg) (n := (i).toNatClampNeg) rfl (e := (.iaload, 1, [], .null)) rfl rfl (fun _ _ => rfl) rfl hV ty rfl rfl rfl
        have E := E.ld (p := 75) (t := ri_isA) (i := 0) (n := 1) (v := .ref 0) rfl (e := (.aload_n 0, 1, [], .null)) rfl rfl (fun _ _ => rfl) l0 rfl
        have E := E.gr (n := 11) (p := 78) rfl (x := 63) (m := 3) (w := .null) (t := 12) (i := 27) (u := 1351) rfl rfl hV ty rfl
        have E := E.ld (p := 79) (t := ri_isI) (i := 3) (n := 1) (v := .int k) rfl (e := (.iload_n 3, 1, [], .null)) rfl rfl (fun _ _ => rfl) l3 rfl
        have E := E.ai (p := 80) (z := eh_i G 11 (k).toNatClampNeg) (n := (k).toNatClampNeg) rfl (e := (.iaload, 1, [], .null)) rfl rfl (fun _ _ => rfl) rfl hV ty rfl rfl rfl
        rcases eh_q0 (E.br (p := 83) (c := 0) (tgt := 87) (a := eh_i G 11 (i).toNatClampNeg) (b := eh_i G 11 (k).toNatClampNeg) (st' := []) rfl (e := (.if_icmp .eq 7, 3, [87], .null)) rfl rfl (fun _ _ => rfl) rfl) with ⟨c13, E⟩ | ⟨c13, E⟩
        · skip
          have E := E.pu (p := 88) (lo' := lo) (st' := [.int 0]) rfl (e := (.iconst 0, 1, [], .null)) rfl rfl (fun _ _ => rfl)
          have E := E.so (p := 90) (t := ri_isI) (i := 4) (n := 2) rfl (e := (.istore 4, 2, [], .null)) rfl rfl (fun _ _ => rfl) rfl
          have k14_4 : ri_lk (ri_st1 lo 4 (.int 0)) 4 = some (.int 0) := eh_self
          have k14_0 : ri_lk (ri_st1 lo 4 (.int 0)) 0 = some (.ref 0) := eh_keep (by decide) (Or.inl rfl) l0
          have k14_1 : ri_lk (ri_st1 lo 4 (.int 0)) 1 = some (.int cu) := eh_keep (by decide) (Or.inl rfl) l1
          have k14_2 : ri_lk (ri_st1 lo 4 (.int 0)) 2 = some (.int mn) := eh_keep (by decide) (Or.inl rfl) l2
          have k14_3 : ri_lk (ri_st1 lo 4 (.int 0)) 3 = some (.int k) := eh_keep (by decide) (Or.inl rfl) l3
          have k14_5 : ri_lk (ri_st1 lo 4 (.int 0)) 5 = some (.int i) := eh_keep (by decide) (Or.inl rfl) l5
          have E := E.ii (p := 93) (y := i + 1) rfl (i := 5) (n := 1) (m := 3) (ax := []) (w := .null) rfl k14_5 rfl rfl
          have k15_5 : ri_lk (ri_st1 (ri_st1 lo 4 (.int 0)) 5 (.int (i + 1))) 5 = some (.int (i + 1)) := eh_self
          have k15_0 : ri_lk (ri_st1 (ri_st1 lo 4 (.int 0)) 5 (.int (i + 1))) 0 = some (.ref 0) := eh_keep (by decide) (Or.inl rfl) k14_0
          have k15_1 : ri_lk (ri_st1 (ri_st1 lo 4 (.int 0)) 5 (.int (i + 1))) 1 = some (.int cu) := eh_keep (by decide) (Or.inl rfl) k14_1
          have k15_2 : ri_lk (ri_st1 (ri_st1 lo 4 (.int 0)) 5 (.int (i + 1))) 2 = some (.int mn) := eh_keep (by decide) (Or.inl rfl) k14_2
          have k15_3 : ri_lk (ri_st1 (ri_st1 lo 4 (.int 0)) 5 (.int (i + 1))) 3 = some (.int k) := eh_keep (by decide) (Or.inl rfl) k14_3
          have k15_4 : ri_lk (ri_st1 (ri_st1 lo 4 (.int 0)) 5 (.int (i + 1))) 4 = some (.int 0) := eh_keep (by decide) (Or.inl rfl) k14_4
          have E := E.pu (p := 46) (lo' := (ri_st1 (ri_st1 lo 4 (.int 0)) 5 (.int (i + 1)))) (st' := []) rfl (e := (.goto (-47), 3, [46], .null)) rfl rfl (fun _ _ => rfl)
          exact Or.inr (Or.inr (Or.inr (Or.inr (Or.inl ⟨c1, c7, c10, c13, _, _, E, hV, rfl, ty, k15_0, k15_1, k15_2, k15_3, k15_4, k15_5⟩))))
        · skip
          have E := E.pu (p := 84) (lo' := lo) (st' := [.int 1]) rfl (e := (.iconst 1, 1, [], .null)) rfl rfl (fun _ _ => rfl)
          have E := E.pu (p := 88) (lo' := lo) (st' := [.int 1]) rfl (e := (.goto 4, 3, [88], .null)) rfl rfl (fun _ _ => rfl)
          have E := E.so (p := 90) (t := ri_isI) (i := 4) (n := 2) rfl (e := (.istore 4, 2, [], .null)) rfl rfl (fun _ _ => rfl) rfl
          have k16_4 : ri_lk (ri_st1 lo 4 (.int 1)) 4 = some (.int 1) := eh_self
          have k16_0 : ri_lk (ri_st1 lo 4 (.int 1)) 0 = some (.ref 0) := eh_keep (by decide) (Or.inl rfl) l0
          have k16_1 : ri_lk (ri_st1 lo 4 (.int 1)) 1 = some (.int cu) := eh_keep (by decide) (Or.inl rfl) l1
          have k16_2 : ri_lk (ri_st1 lo 4 (.int 1)) 2 = some (.int mn) := eh_keep (by decide) (Or.inl rfl) l2
          have k16_3 : ri_lk (ri_st1 lo 4 (.int 1)) 3 = some (.int k) := eh_keep (by decide) (Or.inl rfl) l3
          have k16_5 : ri_lk (ri_st1 lo 4 (.int 1)) 5 = some (.int i) := eh_keep (by decide) (Or.inl rfl) l5
          have E := E.ii (p := 93) (y := i + 1) rfl (i := 5) (n := 1) (m := 3) (ax := []) (w := .null) rfl k16_5 rfl rfl
          have k17_5 : ri_lk (ri_st1 (ri_st1 lo 4 (.int 1)) 5 (.int (i + 1))) 5 = some (.int (i + 1)) := eh_self
          have k17_0 : ri_lk (ri_st1 (ri_st1 lo 4 (.int 1)) 5 (.int (i + 1))) 0 = some (.ref 0) := eh_keep (by decide) (Or.inl rfl) k16_0
          have k17_1 : ri_lk (ri_st1 (ri_st1 lo 4 (.int 1)) 5 (.int (i + 1))) 1 = some (.int cu) := eh_keep (by decide) (Or.inl rfl) k16_1
          have k17_2 : ri_lk (ri_st1 (ri_st1 lo 4 (.int 1)) 5 (.int (i + 1))) 2 = some (.int mn) := eh_keep (by decide) (Or.inl rfl) k16_2
          have k17_3 : ri_lk (ri_st1 (ri_st1 lo 4 (.int 1)) 5 (.int (i + 1))) 3 = some (.int k) := eh_keep (by decide) (Or.inl rfl) k16_3
          have k17_4 : ri_lk (ri_st1 (ri_st1 lo 4 (.int 1)) 5 (.int (i + 1))) 4 = some (.int 1) := eh_keep (by decide) (Or.inl rfl) k16_4
          have E := E.pu (p := 46) (lo' := (ri_st1 (ri_st1 lo 4 (.int 1)) 5 (.int (i + 1)))) (st' := []) rfl (e := (.goto (-47), 3, [46], .null)) rfl rfl (fun _ _ => rfl)
          exact Or.inr (Or.inr (Or.inr (Or.inr (Or.inr (⟨c1, c7, c10, c13, _, _, E, hV, rfl, ty, k17_0, k17_1, k17_2, k17_3, k17_4, k17_5⟩)))))
