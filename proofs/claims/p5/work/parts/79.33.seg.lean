theorem pa_a {cal : eh_K} {lo : List (Nat × Value)} {h h' : ri_H} {rs : List Value} {G : eh_W} {k : Int32} (E : eh_e cal md_130 0 lo [] h rs h') (hV : eh_V h = G) (ty : eh_ty tC G) (l0 : ri_lk lo 0 = some (.ref 0)) (l1 : ri_lk lo 1 = some (.int k)) (l2 : ri_lk lo 2 = some (.int 0)) : ∃ hz loz, eh_e cal md_130 16 loz [] hz rs h' ∧ eh_V hz = G ∧ eh_N hz = eh_N h ∧ eh_ty tC G ∧ ri_lk loz 0 = some (.ref 0) ∧ ri_lk loz 1 = some (.int k) ∧ ri_lk loz 2 = some (.int 0) ∧ ri_lk loz 3 = some (.int 0) ∧ ri_lk loz 4 = some (.int (eh_i G 25 1)) ∧ ri_lk loz 5 = some (.int 0) := by
  have E := E.pu (p := 1) (lo' := lo) (st' := [.int 0]) rfl (e := (.iconst 0, 1, [], .null)) rfl rfl (fun _ _ => rfl)
  have E := E.so (p := 2) (t := ri_isI) (i := 3) (n := 1) rfl (e := (.istore_n 3, 1, [], .null)) rfl rfl (fun _ _ => rfl) rfl
  have k1_3 : ri_lk (ri_st1 lo 3 (.int 0)) 3 = some (.int 0) := eh_self
  have k1_0 : ri_lk (ri_st1 lo 3 (.int 0)) 0 = some (.ref 0) := eh_keep (by decide) (Or.inl rfl) l0
  have k1_1 : ri_lk (ri_st1 lo 3 (.int 0)) 1 = some (.int k) := eh_keep (by decide) (Or.inl rfl) l1
  have k1_2 : ri_lk (ri_st1 lo 3 (.int 0)) 2 = some (.int 0) := eh_keep (by decide) (Or.inl rfl) l2
  have E := E.ld (p := 3) (t := ri_isA) (i := 0) (n := 1) (v := .ref 0) rfl (e := (.aload_n 0, 1, [], .null)) rfl rfl (fun _ _ => rfl) k1_0 rfl
  have E := E.gr (n := 23) (p := 6) rfl (x := 45) (m := 3) (w := .null) (t := 11) (i := 5) (u := 572) rfl rfl hV ty rfl
  have E := E.gr (n := 25) (p := 9) rfl (x := 273) (m := 3) (w := .null) (t := 4) (i := 2) (u := 268) rfl rfl hV ty rfl
  have E := E.pu (p := 10) (lo' := (ri_st1 lo 3 (.int 0))) (st' := [.int 1, .ref 25]) rfl (e := (.iconst 1, 1, [], .null)) rfl rfl (fun _ _ => rfl)
  have E := E.ai (p := 11) (z := eh_i G 25 1) (n := 1) rfl (e := (.iaload, 1, [], .null)) rfl rfl (fun _ _ => rfl) rfl hV ty (by decide) rfl rfl
  have E := E.so (p := 13) (t := ri_isI) (i := 4) (n := 2) rfl (e := (.istore 4, 2, [], .null)) rfl rfl (fun _ _ => rfl) rfl
  have k2_4 : ri_lk (ri_st1 (ri_st1 lo 3 (.int 0)) 4 (.int (eh_i G 25 1))) 4 = some (.int (eh_i G 25 1)) := eh_self
  have k2_0 : ri_lk (ri_st1 (ri_st1 lo 3 (.int 0)) 4 (.int (eh_i G 25 1))) 0 = some (.ref 0) := eh_keep (by decide) (Or.inl rfl) k1_0
  have k2_1 : ri_lk (ri_st1 (ri_st1 lo 3 (.int 0)) 4 (.int (eh_i G 25 1))) 1 = some (.int k) := eh_keep (by decide) (Or.inl rfl) k1_1
  have k2_2 : ri_lk (ri_st1 (ri_st1 lo 3 (.int 0)) 4 (.int (eh_i G 25 1))) 2 = some (.int 0) := eh_keep (by decide) (Or.inl rfl) k1_2
  have k2_3 : ri_lk (ri_st1 (ri_st1 lo 3 (.int 0)) 4 (.int (eh_i G 25 1))) 3 = some (.int 0) := eh_keep (by decide) (Or.inl rfl) k1_3
  have E := E.pu (p := 14) (lo' := (ri_st1 (ri_st1 lo 3 (.int 0)) 4 (.int (eh_i G 25 1)))) (st' := [.int 0]) rfl (e := (.iconst 0, 1, [], .null)) rfl rfl (fun _ _ => rfl)
  have E := E.so (p := 16) (t := ri_isI) (i := 5) (n := 2) rfl (e := (.istore 5, 2, [], .null)) rfl rfl (fun _ _ => rfl) rfl
  have k3_5 : ri_lk (ri_st1 (ri_st1 (ri_st1 lo 3 (.int 0)) 4 (.int (eh_i G 25 1))) 5 (.int 0)) 5 = some (.int 0) := eh_self
  have k3_0 : ri_lk (ri_st1 (ri_st1 (ri_st1 lo 3 (.int 0)) 4 (.int (eh_i G 25 1))) 5 (.int 0)) 0 = some (.ref 0) := eh_keep (by decide) (Or.inl rfl) k2_0
  have k3_1 : ri_lk (ri_st1 (ri_st1 (ri_st1 lo 3 (.int 0)) 4 (.int (eh_i G 25 1))) 5 (.int 0)) 1 = some (.int k) := eh_keep (by decide) (Or.inl rfl) k2_1
  have k3_2 : ri_lk (ri_st1 (ri_st1 (ri_st1 lo 3 (.int 0)) 4 (.int (eh_i G 25 1))) 5 (.int 0)) 2 = some (.int 0) := eh_keep (by decide) (Or.inl rfl) k2_2
  have k3_3 : ri_lk (ri_st1 (ri_st1 (ri_st1 lo 3 (.int 0)) 4 (.int (eh_i G 25 1))) 5 (.int 0)) 3 = some (.int 0) := eh_keep (by decide) (Or.inl rfl) k2_3
  have k3_4 : ri_lk (ri_st1 (ri_st1 (ri_st1 lo 3 (.int 0)) 4 (.int (eh_i G 25 1))) 5 (.int 0)) 4 = some (.int (eh_i G 25 1)) := eh_keep (by decide) (Or.inl rfl) k2_4
  exact ⟨_, _, E, hV, rfl, ty, k3_0, k3_1, k3_2, k3_3, k3_4, k3_5⟩
theorem pa_o {cal : eh_K} {lo : List (Nat × Value)} {h h' : ri_H} {rs : List Value} {G : eh_W} {k n c l : Int32} (E : eh_e cal md_130 16 lo [] h rs h') (hV : eh_V h = G) (ty : eh_ty tC G) (l0 : ri_lk lo 0 = some (.ref 0)) (l1 : ri_lk lo 1 = some (.int k)) (l2 : ri_lk lo 2 = some (.int 0)) (l3 : ri_lk lo 3 = some (.int n)) (l4 : ri_lk lo 4 = some (.int c)) (l5 : ri_lk lo 5 = some (.int l)) : (¬ (l.toInt < c.toInt) ∧ ∃ hz loz, eh_e cal md_130 106 loz [] hz rs h' ∧ eh_V hz = G ∧ eh_N hz = eh_N h ∧ eh_ty tC G ∧ ri_lk loz 0 = some (.ref 0) ∧ ri_lk loz 1 = some (.int k) ∧ ri_lk loz 2 = some (.int 0) ∧ ri_lk loz 3 = some (.int n) ∧ ri_lk loz 4 = some (.int c) ∧ ri_lk loz 5 = some (.int l)) ∨ (l.toInt < c.toInt ∧ ∃ hz loz, eh_e cal md_130 29 loz [] hz rs h' ∧ eh_V hz = G ∧ eh_N hz = eh_N h ∧ eh_ty tC G ∧ ri_lk loz 0 = some (.ref 0) ∧ ri_lk loz 1 = some (.int k) ∧ ri_lk loz 2 = some (.int 0) ∧ ri_lk loz 3 = some (.int n) ∧ ri_lk loz 4 = some (.int c) ∧ ri_lk loz 5 = some (.int l) ∧ ri_lk loz 6 = some (.int (l + 1))) := by
  have E := E.ld (p := 18) (t := ri_isI) (i := 5) (n := 2) (v := .int l) rfl (e := (.iload 5, 2, [], .null)) rfl rfl (fun _ _ => rfl) l5 rfl
  have E := E.ld (p := 20) (t := ri_isI) (i := 4) (n := 2) (v := .int c) rfl (e := (.iload 4, 2, [], .null)) rfl rfl (fun _ _ => rfl) l4 rfl
  rcases eh_r3 rfl rfl (E.br (p := 23) (c := 3) (tgt := 106) (a := l) (b := c) (st' := []) rfl (e := (.if_icmp .ge 86, 3, [106], .null)) rfl rfl (fun _ _ => rfl) rfl) with ⟨c1, E⟩ | ⟨c1, E⟩
  · skip
    exact Or.inl ⟨c1, _, _, E, hV, rfl, ty, l0, l1, l2, l3, l4, l5⟩
  · skip
    have E := E.ld (p := 25) (t := ri_isI) (i := 5) (n := 2) (v := .int l) rfl (e := (.iload 5, 2, [], .null)) rfl rfl (fun _ _ => rfl) l5 rfl
    have E := E.pu (p := 26) (lo' := lo) (st' := [.int 1, .int l]) rfl (e := (.iconst 1, 1, [], .null)) rfl rfl (fun _ _ => rfl)
    have E := E.pu (p := 27) (lo' := lo) (st' := [.int (l + 1)]) rfl (e := (.iadd, 1, [], .null)) rfl rfl (fun _ _ => rfl)
    have E := E.so (p := 29) (t := ri_isI) (i := 6) (n := 2) rfl (e := (.istore 6, 2, [], .null)) rfl rfl (fun _ _ => rfl) rfl
    have k2_6 : ri_lk (ri_st1 lo 6 (.int (l + 1))) 6 = some (.int (l + 1)) := eh_self
    have k2_0 : ri_lk (ri_st1 lo 6 (.int (l + 1))) 0 = some (.ref 0) := eh_keep (by decide) (Or.inl rfl) l0
    have k2_1 : ri_lk (ri_st1 lo 6 (.int (l + 1))) 1 = some (.int k) := eh_keep (by decide) (Or.inl rfl) l1
    have k2_2 : ri_lk (ri_st1 lo 6 (.int (l + 1))) 2 = some (.int 0) := eh_keep (by decide) (Or.inl rfl) l2
    have k2_3 : ri_lk (ri_st1 lo 6 (.int (l + 1))) 3 = some (.int n) := eh_keep (by decide) (Or.inl rfl) l3
    have k2_4 : ri_lk (ri_st1 lo 6 (.int (l + 1))) 4 = some (.int c) := eh_keep (by decide) (Or.inl rfl) l4
    have k2_5 : ri_lk (ri_st1 lo 6 (.int (l + 1))) 5 = some (.int l) := eh_keep (by decide) (Or.inl rfl) l5
    exact Or.inr (⟨c1, _, _, E, hV, rfl, ty, k2_0, k2_1, k2_2, k2_3, k2_4, k2_5, k2_6⟩)
theorem pa_i {cal : eh_K} {lo : List (Nat × Value)} {h h' : ri_H} {rs : List Value} {G : eh_W} {k n c l m : Int32} (E : eh_e cal md_130 29 lo [] h rs h') (hV : eh_V h = G) (ty : eh_ty tC G) (l0 : ri_lk lo 0 = some (.ref 0)) (l1 : ri_lk lo 1 = some (.int k)) (l2 : ri_lk lo 2 = some (.int 0)) (l3 : ri_lk lo 3 = some (.int n)) (l4 : ri_lk lo 4 = some (.int c)) (l5 : ri_lk lo 5 = some (.int l)) (l6 : ri_lk lo 6 = some (.int m)) : (¬ (m.toInt < c.toInt) ∧ ∃ hz loz, eh_e cal md_130 100 loz [] hz rs h' ∧ eh_V hz = G ∧ eh_N hz = eh_N h ∧ eh_ty tC G ∧ ri_lk loz 0 = some (.ref 0) ∧ ri_lk loz 1 = some (.int k) ∧ ri_lk loz 2 = some (.int 0) ∧ ri_lk loz 3 = some (.int n) ∧ ri_lk loz 4 = some (.int c) ∧ ri_lk loz 5 = some (.int l) ∧ ri_lk loz 6 = some (.int m)) ∨ (m.toInt < c.toInt ∧ ¬ ((eh_i G 26 (l).toNatClampNeg) = (eh_i G 26 (m).toNatClampNeg)) ∧ ∃ hz loz, eh_e cal md_130 29 loz [] hz rs h' ∧ eh_V hz = G ∧ eh_N hz = eh_N h ∧ eh_ty tC G ∧ ri_lk loz 0 = some (.ref 0) ∧ ri_lk loz 1 = some (.int k) ∧ ri_lk loz 2 = some (.int 0) ∧ ri_lk loz 3 = some (.int n) ∧ ri_lk loz 4 = some (.int c) ∧ ri_lk loz 5 = some (.int l) ∧ ri_lk loz 6 = some (.int (m + 1))) ∨ (m.toInt < c.toInt ∧ (eh_i G 26 (l).toNatClampNeg) = (eh_i G 26 (m).toNatClampNeg) ∧ ¬ (n = k) ∧ ∃ hz loz, eh_e cal md_130 29 loz [] hz rs h' ∧ eh_V hz = G ∧ eh_N hz = eh_N h ∧ eh_ty tC G ∧ ri_lk loz 0 = some (.ref 0) ∧ ri_lk loz 1 = some (.int k) ∧ ri_lk loz 2 = some (.int 0) ∧ ri_lk loz 3 = some (.int (n + 1)) ∧ ri_lk loz 4 = some (.int c) ∧ ri_lk loz 5 = some (.int l) ∧ ri_lk loz 6 = some (.int (m + 1))) ∨ (m.toInt < c.toInt ∧ (eh_i G 26 (l).toNatClampNeg) = (eh_i G 26 (m).toNatClampNeg) ∧ n = k ∧ rs = [.int ((10 * l) + m)] ∧ eh_V h' = G ∧ eh_N h' = eh_N h) := by
  have E := E.ld (p := 31) (t := ri_isI) (i := 6) (n := 2) (v := .int m) rfl (e := (.iload 6, 2, [], .null)) rfl rfl (fun _ _ => rfl) l6 rfl
  have E := E.ld (p := 33) (t := ri_isI) (i := 4) (n := 2) (v := .int c) rfl (e := (.iload 4, 2, [], .null)) rfl rfl (fun _ _ => rfl) l4 rfl
  rcases eh_r3 rfl rfl (E.br (p := 36) (c := 3) (tgt := 100) (a := m) (b := c) (st' := []) rfl (e := (.if_icmp .ge 67, 3, [100], .null)) rfl rfl (fun _ _ => rfl) rfl) with ⟨c1, E⟩ | ⟨c1, E⟩
  · skip
    exact Or.inl ⟨c1, _, _, E, hV, rfl, ty, l0, l1, l2, l3, l4, l5, l6⟩
  · skip
    have E := E.ld (p := 37) (t := ri_isA) (i := 0) (n := 1) (v := .ref 0) rfl (e := (.aload_n 0, 1, [], .null)) rfl rfl (fun _ _ => rfl) l0 rfl
    have E := E.gr (n := 23) (p := 40) rfl (x := 45) (m := 3) (w := .null) (t := 11) (i := 5) (u := 572) rfl rfl hV ty rfl
    have E := E.gr (n := 26) (p := 43) rfl (x := 157) (m := 3) (w := .null) (t := 4) (i := 3) (u := 271) rfl rfl hV ty rfl
    have E := E.ld (p := 45) (t := ri_isI) (i := 5) (n := 2) (v := .int l) rfl (e := (.iload 5, 2, [], .null)) rfl rfl (fun _ _ => rfl) l5 rfl
    have E := E.ai (p := 46) (z := eh_i G 26 (l).toNatClampNeg) (n := (l).toNatClampNeg) rfl (e := (.iaload, 1, [], .null)) rfl rfl (fun _ _ => rfl) rfl hV ty rfl rfl rfl
    have E := E.ld (p := 47) (t := ri_isA) (i := 0) (n := 1) (v := .ref 0) rfl (e := (.aload_n 0, 1, [], .null)) rfl rfl (fun _ _ => rfl) l0 rfl
    have E := E.gr (n := 23) (p := 50) rfl (x := 45) (m := 3) (w := .null) (t := 11) (i := 5) (u := 572) rfl rfl hV ty rfl
    have E := E.gr (n := 26) (p := 53) rfl (x := 157) (m := 3) (w := .null) (t := 4) (i := 3) (u := 271) rfl rfl hV ty rfl
    have E := E.ld (p := 55) (t := ri_isI) (i := 6) (n := 2) (v := .int m) rfl (e := (.iload 6, 2, [], .null)) rfl rfl (fun _ _ => rfl) l6 rfl
    have E := E.ai (p := 56) (z := eh_i G 26 (m).toNatClampNeg) (n := (m).toNatClampNeg) rfl (e := (.iaload, 1, [], .null)) rfl rfl (fun _ _ => rfl) rfl hV ty rfl rfl rfl
    rcases eh_q1 (E.br (p := 59) (c := 1) (tgt := 94) (a := eh_i G 26 (l).toNatClampNeg) (b := eh_i G 26 (m).toNatClampNeg) (st' := []) rfl (e := (.if_icmp .ne 38, 3, [94], .null)) rfl rfl (fun _ _ => rfl) rfl) with ⟨c2, E⟩ | ⟨c2, E⟩
    · skip
      have E := E.ii (p := 97) (y := m + 1) rfl (i := 6) (n := 1) (m := 3) (ax := []) (w := .null) rfl l6 rfl rfl
      have k3_6 : ri_lk (ri_st1 lo 6 (.int (m + 1))) 6 = some (.int (m + 1)) := eh_self
      have k3_0 : ri_lk (ri_st1 lo 6 (.int (m + 1))) 0 = some (.ref 0) := eh_keep (by decide) (Or.inl rfl) l0
      have k3_1 : ri_lk (ri_st1 lo 6 (.int (m + 1))) 1 = some (.int k) := eh_keep (by decide) (Or.inl rfl) l1
      have k3_2 : ri_lk (ri_st1 lo 6 (.int (m + 1))) 2 = some (.int 0) := eh_keep (by decide) (Or.inl rfl) l2
      have k3_3 : ri_lk (ri_st1 lo 6 (.int (m + 1))) 3 = some (.int n) := eh_keep (by decide) (Or.inl rfl) l3
      have k3_4 : ri_lk (ri_st1 lo 6 (.int (m + 1))) 4 = some (.int c) := eh_keep (by decide) (Or.inl rfl) l4
      have k3_5 : ri_lk (ri_st1 lo 6 (.int (m + 1))) 5 = some (.int l) := eh_keep (by decide) (Or.inl rfl) l5
      have E := E.pu (p := 29) (lo' := (ri_st1 lo 6 (.int (m + 1)))) (st' := []) rfl (e := (.goto (-68), 3, [29], .null)) rfl rfl (fun _ _ => rfl)
      exact Or.inr (Or.inl ⟨c1, c2, _, _, E, hV, rfl, ty, k3_0, k3_1, k3_2, k3_3, k3_4, k3_5, k3_6⟩)
    · skip
      have E := E.ld (p := 60) (t := ri_isI) (i := 2) (n := 1) (v := .int 0) rfl (e := (.iload_n 2, 1, [], .null)) rfl rfl (fun _ _ => rfl) l2 rfl
      have E := E.brt (c := 0) (tgt := 77) (a := 0) (b := 0) (st' := []) rfl (e := (.ifCond .eq 17, 3, [77], .null)) rfl rfl (fun _ _ => rfl) (by decide)
      have E := E.ld (p := 78) (t := ri_isI) (i := 3) (n := 1) (v := .int n) rfl (e := (.iload_n 3, 1, [], .null)) rfl rfl (fun _ _ => rfl) l3 rfl
      have E := E.ld (p := 79) (t := ri_isI) (i := 1) (n := 1) (v := .int k) rfl (e := (.iload_n 1, 1, [], .null)) rfl rfl (fun _ _ => rfl) l1 rfl
      rcases eh_q1 (E.br (p := 82) (c := 1) (tgt := 91) (a := n) (b := k) (st' := []) rfl (e := (.if_icmp .ne 12, 3, [91], .null)) rfl rfl (fun _ _ => rfl) rfl) with ⟨c4, E⟩ | ⟨c4, E⟩
      · skip
        have E := E.ii (p := 94) (y := n + 1) rfl (i := 3) (n := 1) (m := 3) (ax := []) (w := .null) rfl l3 rfl rfl
        have k5_3 : ri_lk (ri_st1 lo 3 (.int (n + 1))) 3 = some (.int (n + 1)) := eh_self
        have k5_0 : ri_lk (ri_st1 lo 3 (.int (n + 1))) 0 = some (.ref 0) := eh_keep (by decide) (Or.inl rfl) l0
        have k5_1 : ri_lk (ri_st1 lo 3 (.int (n + 1))) 1 = some (.int k) := eh_keep (by decide) (Or.inl rfl) l1
        have k5_2 : ri_lk (ri_st1 lo 3 (.int (n + 1))) 2 = some (.int 0) := eh_keep (by decide) (Or.inl rfl) l2
        have k5_4 : ri_lk (ri_st1 lo 3 (.int (n + 1))) 4 = some (.int c) := eh_keep (by decide) (Or.inl rfl) l4
        have k5_5 : ri_lk (ri_st1 lo 3 (.int (n + 1))) 5 = some (.int l) := eh_keep (by decide) (Or.inl rfl) l5
        have k5_6 : ri_lk (ri_st1 lo 3 (.int (n + 1))) 6 = some (.int m) := eh_keep (by decide) (Or.inl rfl) l6
        have E := E.ii (p := 97) (y := m + 1) rfl (i := 6) (n := 1) (m := 3) (ax := []) (w := .null) rfl k5_6 rfl rfl
        have k6_6 : ri_lk (ri_st1 (ri_st1 lo 3 (.int (n + 1))) 6 (.int (m + 1))) 6 = some (.int (m + 1)) := eh_self
        have k6_0 : ri_lk (ri_st1 (ri_st1 lo 3 (.int (n + 1))) 6 (.int (m + 1))) 0 = some (.ref 0) := eh_keep (by decide) (Or.inl rfl) k5_0
        have k6_1 : ri_lk (ri_st1 (ri_st1 lo 3 (.int (n + 1))) 6 (.int (m + 1))) 1 = some (.int k) := eh_keep (by decide) (Or.inl rfl) k5_1
        have k6_2 : ri_lk (ri_st1 (ri_st1 lo 3 (.int (n + 1))) 6 (.int (m + 1))) 2 = some (.int 0) := eh_keep (by decide) (Or.inl rfl) k5_2
        have k6_3 : ri_lk (ri_st1 (ri_st1 lo 3 (.int (n + 1))) 6 (.int (m + 1))) 3 = some (.int (n + 1)) := eh_keep (by decide) (Or.inl rfl) k5_3
        have k6_4 : ri_lk (ri_st1 (ri_st1 lo 3 (.int (n + 1))) 6 (.int (m + 1))) 4 = some (.int c) := eh_keep (by decide) (Or.inl rfl) k5_4
        have k6_5 : ri_lk (ri_st1 (ri_st1 lo 3 (.int (n + 1))) 6 (.int (m + 1))) 5 = some (.int l) := eh_keep (by decide) (Or.inl rfl) k5_5
        have E := E.pu (p := 29) (lo' := (ri_st1 (ri_st1 lo 3 (.int (n + 1))) 6 (.int (m + 1)))) (st' := []) rfl (e := (.goto (-68), 3, [29], .null)) rfl rfl (fun _ _ => rfl)
        exact Or.inr (Or.inr (Or.inl ⟨c1, c2, c4, _, _, E, hV, rfl, ty, k6_0, k6_1, k6_2, k6_3, k6_4, k6_5, k6_6⟩))
      · skip
        have E := E.pu (p := 84) (lo' := lo) (st' := [.int 10]) rfl (e := (.bipush 10, 2, [], .null)) rfl rfl (fun _ _ => rfl)
        have E := E.ld (p := 86) (t := ri_isI) (i := 5) (n := 2) (v := .int l) rfl (e := (.iload 5, 2, [], .null)) rfl rfl (fun _ _ => rfl) l5 rfl
        have E := E.pu (p := 87) (lo' := lo) (st' := [.int (10 * l)]) rfl (e := (.imul, 1, [], .null)) rfl rfl (fun _ _ => rfl)
        have E := E.ld (p := 89) (t := ri_isI) (i := 6) (n := 2) (v := .int m) rfl (e := (.iload 6, 2, [], .null)) rfl rfl (fun _ _ => rfl) l6 rfl
        have E := E.pu (p := 90) (lo' := lo) (st' := [.int ((10 * l) + m)]) rfl (e := (.iadd, 1, [], .null)) rfl rfl (fun _ _ => rfl)
        obtain ⟨r1, r2⟩ := E.reti rfl (m := 1) (ax := []) (w := .null) rfl
        exact Or.inr (Or.inr (Or.inr (⟨c1, c2, c4, r1, ((congrArg eh_V r2).trans hV), (congrArg eh_N r2)⟩)))
theorem pa_x {cal : eh_K} {lo : List (Nat × Value)} {h h' : ri_H} {rs : List Value} {G : eh_W} {k n c l m : Int32} (E : eh_e cal md_130 100 lo [] h rs h') (hV : eh_V h = G) (ty : eh_ty tC G) (l0 : ri_lk lo 0 = some (.ref 0)) (l1 : ri_lk lo 1 = some (.int k)) (l2 : ri_lk lo 2 = some (.int 0)) (l3 : ri_lk lo 3 = some (.int n)) (l4 : ri_lk lo 4 = some (.int c)) (l5 : ri_lk lo 5 = some (.int l)) (l6 : ri_lk lo 6 = some (.int m)) : ∃ hz loz, eh_e cal md_130 16 loz [] hz rs h' ∧ eh_V hz = G ∧ eh_N hz = eh_N h ∧ eh_ty tC G ∧ ri_lk loz 0 = some (.ref 0) ∧ ri_lk loz 1 = some (.int k) ∧ ri_lk loz 2 = some (.int 0) ∧ ri_lk loz 3 = some (.int n) ∧ ri_lk loz 4 = some (.int c) ∧ ri_lk loz 5 = some (.int (l + 1)) ∧ ri_lk loz 6 = some (.int m) := by
  have E := E.ii (p := 103) (y := l + 1) rfl (i := 5) (n := 1) (m := 3) (ax := []) (w := .null) rfl l5 rfl rfl
  have k1_5 : ri_lk (ri_st1 lo 5 (.int (l + 1))) 5 = some (.int (l + 1)) := eh_self
  have k1_0 : ri_lk (ri_st1 lo 5 (.int (l + 1))) 0 = some (.ref 0) := eh_keep (by decide) (Or.inl rfl) l0
  have k1_1 : ri_lk (ri_st1 lo 5 (.int (l + 1))) 1 = some (.int k) := eh_keep (by decide) (Or.inl rfl) l1
  have k1_2 : ri_lk (ri_st1 lo 5 (.int (l + 1))) 2 = some (.int 0) := eh_keep (by decide) (Or.inl rfl) l2
  have k1_3 : ri_lk (ri_st1 lo 5 (.int (l + 1))) 3 = some (.int n) := eh_keep (by decide) (Or.inl rfl) l3
  have k1_4 : ri_lk (ri_st1 lo 5 (.int (l + 1))) 4 = some (.int c) := eh_keep (by decide) (Or.inl rfl) l4
  have k1_6 : ri_lk (ri_st1 lo 5 (.int (l + 1))) 6 = some (.int m) := eh_keep (by decide) (Or.inl rfl) l6
  have E := E.pu (p := 16) (lo' := (ri_st1 lo 5 (.int (l + 1)))) (st' := []) rfl (e := (.goto (-87), 3, [16], .null)) rfl rfl (fun _ _ => rfl)
  exact ⟨_, _, E, hV, rfl, ty, k1_0, k1_1, k1_2, k1_3, k1_4, k1_5, k1_6⟩
theorem pa_z {cal : eh_K} {lo : List (Nat × Value)} {h h' : ri_H} {rs : List Value} {G : eh_W} {k n c l : Int32} (E : eh_e cal md_130 106 lo [] h rs h') (hV : eh_V h = G) (ty : eh_ty tC G) (l0 : ri_lk lo 0 = some (.ref 0)) (l1 : ri_lk lo 1 = some (.int k)) (l2 : ri_lk lo 2 = some (.int 0)) (l3 : ri_lk lo 3 = some (.int n)) (l4 : ri_lk lo 4 = some (.int c)) (l5 : ri_lk lo 5 = some (.int l)) : (¬ (k = (-1)) ∧ rs = [.int (-1)] ∧ eh_V h' = G ∧ eh_N h' = eh_N h) ∨ (k = (-1) ∧ rs = [.int n] ∧ eh_V h' = G ∧ eh_N h' = eh_N h) := by
  have E := E.ld (p := 107) (t := ri_isI) (i := 1) (n := 1) (v := .int k) rfl (e := (.iload_n 1, 1, [], .null)) rfl rfl (fun _ _ => rfl) l1 rfl
  have E := E.pu (p := 108) (lo' := lo) (st' := [.int (-1), .int k]) rfl (e := (.iconst (-1), 1, [], .null)) rfl rfl (fun _ _ => rfl)
  rcases eh_q1 (E.br (p := 111) (c := 1) (tgt := 115) (a := k) (b := (-1)) (st' := []) rfl (e := (.if_icmp .ne 7, 3, [115], .null)) rfl rfl (fun _ _ => rfl) rfl) with ⟨c1, E⟩ | ⟨c1, E⟩
  · skip
    have E := E.pu (p := 116) (lo' := lo) (st' := [.int (-1)]) rfl (e := (.iconst (-1), 1, [], .null)) rfl rfl (fun _ _ => rfl)
    obtain ⟨r1, r2⟩ := E.reti rfl (m := 1) (ax := []) (w := .null) rfl
    exact Or.inl ⟨c1, r1, ((congrArg eh_V r2).trans hV), (congrArg eh_N r2)⟩
  · skip
    have E := E.ld (p := 112) (t := ri_isI) (i := 3) (n := 1) (v := .int n) rfl (e := (.iload_n 3, 1, [], .null)) rfl rfl (fun _ _ => rfl) l3 rfl
    have E := E.pu (p := 116) (lo' := lo) (st' := [.int n]) rfl (e := (.goto 4, 3, [116], .null)) rfl rfl (fun _ _ => rfl)
    obtain ⟨r1, r2⟩ := E.reti rfl (m := 1) (ax := []) (w := .null) rfl
    exact Or.inr (⟨c1, r1, ((congrArg eh_V r2).trans hV), (congrArg eh_N r2)⟩)
theorem ip_226 {d : Nat} {h h' : ri_H} {v : Option Value} {G : eh_W} {l m : Int32} (E : ri_calE ri_md (d + 1) 226 [.ref 0, .int l, .int m, .int 0] h = some (v, h')) (hV : eh_V h = G) (ty : eh_ty tM G) : ((eh_i G 2 (10 + m).toNatClampNeg) = (eh_i G 2 (10 + l).toNatClampNeg) ∧ v = some (.int 1) ∧ eh_V h' = G ∧ eh_N h' = eh_N h) ∨ (¬ ((eh_i G 2 (10 + m).toNatClampNeg) = (eh_i G 2 (10 + l).toNatClampNeg)) ∧ v = some (.int 0) ∧ eh_V h' = G ∧ eh_N h' = eh_N h) := by
  obtain ⟨rs, hrs, E⟩ := eh_in E (q := md_226) rfl
  have E := E.ld (p := 1) (t := ri_isA) (i := 0) (n := 1) (v := .ref 0) rfl (e := (.aload_n 0, 1, [], .null)) rfl rfl (fun _ _ => rfl) rfl rfl
  have E := E.gr (n := 2) (p := 4) rfl (x := 33) (m := 3) (w := .null) (t := 12) (i := 6) (u := 1330) rfl rfl hV ty rfl
  have E := E.pu (p := 6) (lo' := (ri_as 0 [.ref 0, .int l, .int m, .int 0])) (st' := [.int 10, .ref 2]) rfl (e := (.bipush 10, 2, [], .null)) rfl rfl (fun _ _ => rfl)
  have E := E.ld (p := 7) (t := ri_isI) (i := 1) (n := 1) (v := .int l) rfl (e := (.iload_n 1, 1, [], .null)) rfl rfl (fun _ _ => rfl) rfl rfl
  have E := E.pu (p := 8) (lo' := (ri_as 0 [.ref 0, .int l, .int m, .int 0])) (st' := [.int (10 + l), .ref 2]) rfl (e := (.iadd, 1, [], .null)) rfl rfl (fun _ _ => rfl)
  have E := E.ai (p := 9) (z := eh_i G 2 (10 + l).toNatClampNeg) (n := (10 + l).toNatClampNeg) rfl (e := (.iaload, 1, [], .null)) rfl rfl (fun _ _ => rfl) rfl hV ty rfl rfl rfl
  have E := E.so (p := 11) (t := ri_isI) (i := 4) (n := 2) rfl (e := (.istore 4, 2, [], .null)) rfl rfl (fun _ _ => rfl) rfl
  have k1_4 : ri_lk (ri_st1 (ri_as 0 [.ref 0, .int l, .int m, .int 0]) 4 (.int (eh_i G 2 (10 + l).toNatClampNeg))) 4 = some (.int (eh_i G 2 (10 + l).toNatClampNeg)) := eh_self
  have k1_0 : ri_lk (ri_st1 (ri_as 0 [.ref 0, .int l, .int m, .int 0]) 4 (.int (eh_i G 2 (10 + l).toNatClampNeg))) 0 = some (.ref 0) := eh_keep (by decide) (Or.inl rfl) rfl
  have k1_1 : ri_lk (ri_st1 (ri_as 0 [.ref 0, .int l, .int m, .int 0]) 4 (.int (eh_i G 2 (10 + l).toNatClampNeg))) 1 = some (.int l) := eh_keep (by decide) (Or.inl rfl) rfl
  have k1_2 : ri_lk (ri_st1 (ri_as 0 [.ref 0, .int l, .int m, .int 0]) 4 (.int (eh_i G 2 (10 + l).toNatClampNeg))) 2 = some (.int m) := eh_keep (by decide) (Or.inl rfl) rfl
  have k1_3 : ri_lk (ri_st1 (ri_as 0 [.ref 0, .int l, .int m, .int 0]) 4 (.int (eh_i G 2 (10 + l).toNatClampNeg))) 3 = some (.int 0) := eh_keep (by decide) (Or.inl rfl) rfl
  have E := E.ld (p := 12) (t := ri_isA) (i := 0) (n := 1) (v := .ref 0) rfl (e := (.aload_n 0, 1, [], .null)) rfl rfl (fun _ _ => rfl) k1_0 rfl
  have E := E.gr (n := 2) (p := 15) rfl (x := 33) (m := 3) (w := .null) (t := 12) (i := 6) (u := 1330) rfl rfl hV ty rfl
  have E := E.pu (p := 17) (lo' := (ri_st1 (ri_as 0 [.ref 0, .int l, .int m, .int 0]) 4 (.int (eh_i G 2 (10 + l).toNatClampNeg)))) (st' := [.int 10, .ref 2]) rfl (e := (.bipush 10, 2, [], .null)) rfl rfl (fun _ _ => rfl)
  have E := E.ld (p := 18) (t := ri_isI) (i := 2) (n := 1) (v := .int m) rfl (e := (.iload_n 2, 1, [], .null)) rfl rfl (fun _ _ => rfl) k1_2 rfl
  have E := E.pu (p := 19) (lo' := (ri_st1 (ri_as 0 [.ref 0, .int l, .int m, .int 0]) 4 (.int (eh_i G 2 (10 + l).toNatClampNeg)))) (st' := [.int (10 + m), .ref 2]) rfl (e := (.iadd, 1, [], .null)) rfl rfl (fun _ _ => rfl)
  have E := E.ai (p := 20) (z := eh_i G 2 (10 + m).toNatClampNeg) (n := (10 + m).toNatClampNeg) rfl (e := (.iaload, 1, [], .null)) rfl rfl (fun _ _ => rfl) rfl hV ty rfl rfl rfl
  have E := E.ld (p := 22) (t := ri_isI) (i := 4) (n := 2) (v := .int (eh_i G 2 (10 + l).toNatClampNeg)) rfl (e := (.iload 4, 2, [], .null)) rfl rfl (fun _ _ => rfl) k1_4 rfl
  rcases eh_q0 (E.br (p := 25) (c := 0) (tgt := 27) (a := eh_i G 2 (10 + m).toNatClampNeg) (b := eh_i G 2 (10 + l).toNatClampNeg) (st' := []) rfl (e := (.if_icmp .eq 5, 3, [27], .null)) rfl rfl (fun _ _ => rfl) rfl) with ⟨c2, E⟩ | ⟨c2, E⟩
  · skip
    have E := E.ld (p := 28) (t := ri_isI) (i := 3) (n := 1) (v := .int 0) rfl (e := (.iload_n 3, 1, [], .null)) rfl rfl (fun _ _ => rfl) k1_3 rfl
    have E := E.brt (c := 0) (tgt := 71) (a := 0) (b := 0) (st' := []) rfl (e := (.ifCond .eq 43, 3, [71], .null)) rfl rfl (fun _ _ => rfl) (by decide)
    have E := E.pu (p := 72) (lo' := (ri_st1 (ri_as 0 [.ref 0, .int l, .int m, .int 0]) 4 (.int (eh_i G 2 (10 + l).toNatClampNeg)))) (st' := [.int 1]) rfl (e := (.iconst 1, 1, [], .null)) rfl rfl (fun _ _ => rfl)
    have E := E.pu (p := 76) (lo' := (ri_st1 (ri_as 0 [.ref 0, .int l, .int m, .int 0]) 4 (.int (eh_i G 2 (10 + l).toNatClampNeg)))) (st' := [.int 1]) rfl (e := (.goto 4, 3, [76], .null)) rfl rfl (fun _ _ => rfl)
    obtain ⟨r1, r2⟩ := E.reti rfl (m := 1) (ax := []) (w := .null) rfl
    exact Or.inl ⟨c2, (by rw [← hrs, r1]; rfl), ((congrArg eh_V r2).trans hV), (congrArg eh_N r2)⟩
  · skip
    have E := E.pu (p := 26) (lo' := (ri_st1 (ri_as 0 [.ref 0, .int l, .int m, .int 0]) 4 (.int (eh_i G 2 (10 + l).toNatClampNeg)))) (st' := [.int 0]) rfl (e := (.iconst 0, 1, [], .null)) rfl rfl (fun _ _ => rfl)
    obtain ⟨r1, r2⟩ := E.reti rfl (m := 1) (ax := []) (w := .null) rfl
    exact Or.inr (⟨c2, (by rw [← hrs, r1]; rfl), ((congrArg eh_V r2).trans hV), (congrArg eh_N r2)⟩)
theorem pm_a {cal : eh_K} {lo : List (Nat × Value)} {h h' : ri_H} {rs : List Value} {G : eh_W} {k : Int32} (E : eh_e cal md_227 0 lo [] h rs h') (hV : eh_V h = G) (ty : eh_ty tM G) (l0 : ri_lk lo 0 = some (.ref 0)) (l1 : ri_lk lo 1 = some (.int k)) (l2 : ri_lk lo 2 = some (.int 0)) : (¬ (k.toInt < (-1)) ∧ ∃ hz loz, eh_e cal md_227 12 loz [] hz rs h' ∧ eh_V hz = G ∧ eh_N hz = eh_N h ∧ eh_ty tM G ∧ ri_lk loz 0 = some (.ref 0) ∧ ri_lk loz 1 = some (.int k) ∧ ri_lk loz 2 = some (.int 0) ∧ ri_lk loz 3 = some (.int 0) ∧ ri_lk loz 4 = some (.int 0)) ∨ (k.toInt < (-1) ∧ rs = [.int (-1)] ∧ eh_V h' = G ∧ eh_N h' = eh_N h) := by
  have E := E.ld (p := 1) (t := ri_isI) (i := 1) (n := 1) (v := .int k) rfl (e := (.iload_n 1, 1, [], .null)) rfl rfl (fun _ _ => rfl) l1 rfl
  have E := E.pu (p := 2) (lo' := lo) (st' := [.int (-1), .int k]) rfl (e := (.iconst (-1), 1, [], .null)) rfl rfl (fun _ _ => rfl)
  rcases eh_r3 rfl (show ((-1) : Int32).toInt = (-1) by decide) (E.br (p := 5) (c := 3) (tgt := 7) (a := k) (b := (-1)) (st' := []) rfl (e := (.if_icmp .ge 5, 3, [7], .null)) rfl rfl (fun _ _ => rfl) rfl) with ⟨c1, E⟩ | ⟨c1, E⟩
  · skip
    have E := E.pu (p := 8) (lo' := lo) (st' := [.int 0]) rfl (e := (.iconst 0, 1, [], .null)) rfl rfl (fun _ _ => rfl)
    have E := E.so (p := 9) (t := ri_isI) (i := 3) (n := 1) rfl (e := (.istore_n 3, 1, [], .null)) rfl rfl (fun _ _ => rfl) rfl
    have k2_3 : ri_lk (ri_st1 lo 3 (.int 0)) 3 = some (.int 0) := eh_self
    have k2_0 : ri_lk (ri_st1 lo 3 (.int 0)) 0 = some (.ref 0) := eh_keep (by decide) (Or.inl rfl) l0
    have k2_1 : ri_lk (ri_st1 lo 3 (.int 0)) 1 = some (.int k) := eh_keep (by decide) (Or.inl rfl) l1
    have k2_2 : ri_lk (ri_st1 lo 3 (.int 0)) 2 = some (.int 0) := eh_keep (by decide) (Or.inl rfl) l2
    have E := E.pu (p := 10) (lo' := (ri_st1 lo 3 (.int 0))) (st' := [.int 0]) rfl (e := (.iconst 0, 1, [], .null)) rfl rfl (fun _ _ => rfl)
    have E := E.so (p := 12) (t := ri_isI) (i := 4) (n := 2) rfl (e := (.istore 4, 2, [], .null)) rfl rfl (fun _ _ => rfl) rfl
    have k3_4 : ri_lk (ri_st1 (ri_st1 lo 3 (.int 0)) 4 (.int 0)) 4 = some (.int 0) := eh_self
    have k3_0 : ri_lk (ri_st1 (ri_st1 lo 3 (.int 0)) 4 (.int 0)) 0 = some (.ref 0) := eh_keep (by decide) (Or.inl rfl) k2_0
    have k3_1 : ri_lk (ri_st1 (ri_st1 lo 3 (.int 0)) 4 (.int 0)) 1 = some (.int k) := eh_keep (by decide) (Or.inl rfl) k2_1
    have k3_2 : ri_lk (ri_st1 (ri_st1 lo 3 (.int 0)) 4 (.int 0)) 2 = some (.int 0) := eh_keep (by decide) (Or.inl rfl) k2_2
    have k3_3 : ri_lk (ri_st1 (ri_st1 lo 3 (.int 0)) 4 (.int 0)) 3 = some (.int 0) := eh_keep (by decide) (Or.inl rfl) k2_3
    exact Or.inl ⟨c1, _, _, E, hV, rfl, ty, k3_0, k3_1, k3_2, k3_3, k3_4⟩
  · skip
    have E := E.pu (p := 6) (lo' := lo) (st' := [.int (-1)]) rfl (e := (.iconst (-1), 1, [], .null)) rfl rfl (fun _ _ => rfl)
    obtain ⟨r1, r2⟩ := E.reti rfl (m := 1) (ax := []) (w := .null) rfl
    exact Or.inr (⟨c1, r1, ((congrArg eh_V r2).trans hV), (congrArg eh_N r2)⟩)
theorem pm_o {cal : eh_K} {lo : List (Nat × Value)} {h h' : ri_H} {rs : List Value} {G : eh_W} {k n l : Int32} (E : eh_e cal md_227 12 lo [] h rs h') (hV : eh_V h = G) (ty : eh_ty tM G) (l0 : ri_lk lo 0 = some (.ref 0)) (l1 : ri_lk lo 1 = some (.int k)) (l2 : ri_lk lo 2 = some (.int 0)) (l3 : ri_lk lo 3 = some (.int n)) (l4 : ri_lk lo 4 = some (.int l)) : (¬ (l.toInt < (eh_i G 2 4).toInt) ∧ ∃ hz loz, eh_e cal md_227 84 loz [] hz rs h' ∧ eh_V hz = G ∧ eh_N hz = eh_N h ∧ eh_ty tM G ∧ ri_lk loz 0 = some (.ref 0) ∧ ri_lk loz 1 = some (.int k) ∧ ri_lk loz 2 = some (.int 0) ∧ ri_lk loz 3 = some (.int n) ∧ ri_lk loz 4 = some (.int l)) ∨ (l.toInt < (eh_i G 2 4).toInt ∧ ∃ hz loz, eh_e cal md_227 29 loz [] hz rs h' ∧ eh_V hz = G ∧ eh_N hz = eh_N h ∧ eh_ty tM G ∧ ri_lk loz 0 = some (.ref 0) ∧ ri_lk loz 1 = some (.int k) ∧ ri_lk loz 2 = some (.int 0) ∧ ri_lk loz 3 = some (.int n) ∧ ri_lk loz 4 = some (.int l) ∧ ri_lk loz 5 = some (.int (l + 1))) := by
  have E := E.ld (p := 14) (t := ri_isI) (i := 4) (n := 2) (v := .int l) rfl (e := (.iload 4, 2, [], .null)) rfl rfl (fun _ _ => rfl) l4 rfl
  have E := E.ld (p := 15) (t := ri_isA) (i := 0) (n := 1) (v := .ref 0) rfl (e := (.aload_n 0, 1, [], .null)) rfl rfl (fun _ _ => rfl) l0 rfl
  have E := E.gr (n := 2) (p := 18) rfl (x := 33) (m := 3) (w := .null) (t := 12) (i := 6) (u := 1330) rfl rfl hV ty rfl
  have E := E.pu (p := 19) (lo' := lo) (st' := [.int 4, .ref 2, .int l]) rfl (e := (.iconst 4, 1, [], .null)) rfl rfl (fun _ _ => rfl)
  have E := E.ai (p := 20) (z := eh_i G 2 4) (n := 4) rfl (e := (.iaload, 1, [], .null)) rfl rfl (fun _ _ => rfl) rfl hV ty (by decide) rfl rfl
  rcases eh_r3 rfl rfl (E.br (p := 23) (c := 3) (tgt := 84) (a := l) (b := eh_i G 2 4) (st' := []) rfl (e := (.if_icmp .ge 64, 3, [84], .null)) rfl rfl (fun _ _ => rfl) rfl) with ⟨c1, E⟩ | ⟨c1, E⟩
  · skip
    exact Or.inl ⟨c1, _, _, E, hV, rfl, ty, l0, l1, l2, l3, l4⟩
  · skip
    have E := E.ld (p := 25) (t := ri_isI) (i := 4) (n := 2) (v := .int l) rfl (e := (.iload 4, 2, [], .null)) rfl rfl (fun _ _ => rfl) l4 rfl
    have E := E.pu (p := 26) (lo' := lo) (st' := [.int 1, .int l]) rfl (e := (.iconst 1, 1, [], .null)) rfl rfl (fun _ _ => rfl)
    have E := E.pu (p := 27) (lo' := lo) (st' := [.int (l + 1)]) rfl (e := (.iadd, 1, [], .null)) rfl rfl (fun _ _ => rfl)
    have E := E.so (p := 29) (t := ri_isI) (i := 5) (n := 2) rfl (e := (.istore 5, 2, [], .null)) rfl rfl (fun _ _ => rfl) rfl
    have k2_5 : ri_lk (ri_st1 lo 5 (.int (l + 1))) 5 = some (.int (l + 1)) := eh_self
    have k2_0 : ri_lk (ri_st1 lo 5 (.int (l + 1))) 0 = some (.ref 0) := eh_keep (by decide) (Or.inl rfl) l0
    have k2_1 : ri_lk (ri_st1 lo 5 (.int (l + 1))) 1 = some (.int k) := eh_keep (by decide) (Or.inl rfl) l1
    have k2_2 : ri_lk (ri_st1 lo 5 (.int (l + 1))) 2 = some (.int 0) := eh_keep (by decide) (Or.inl rfl) l2
    have k2_3 : ri_lk (ri_st1 lo 5 (.int (l + 1))) 3 = some (.int n) := eh_keep (by decide) (Or.inl rfl) l3
    have k2_4 : ri_lk (ri_st1 lo 5 (.int (l + 1))) 4 = some (.int l) := eh_keep (by decide) (Or.inl rfl) l4
    exact Or.inr (⟨c1, _, _, E, hV, rfl, ty, k2_0, k2_1, k2_2, k2_3, k2_4, k2_5⟩)
theorem pm_i {d : Nat} {lo : List (Nat × Value)} {h h' : ri_H} {rs : List Value} {G : eh_W} {k n l m : Int32} (E : eh_e (ri_calE ri_md (d + 1)) md_227 29 lo [] h rs h') (hV : eh_V h = G) (ty : eh_ty tM G) (l0 : ri_lk lo 0 = some (.ref 0)) (l1 : ri_lk lo 1 = some (.int k)) (l2 : ri_lk lo 2 = some (.int 0)) (l3 : ri_lk lo 3 = some (.int n)) (l4 : ri_lk lo 4 = some (.int l)) (l5 : ri_lk lo 5 = some (.int m)) : (¬ (m.toInt < (eh_i G 2 4).toInt) ∧ ∃ hz loz, eh_e (ri_calE ri_md (d + 1)) md_227 78 loz [] hz rs h' ∧ eh_V hz = G ∧ eh_N hz = eh_N h ∧ eh_ty tM G ∧ ri_lk loz 0 = some (.ref 0) ∧ ri_lk loz 1 = some (.int k) ∧ ri_lk loz 2 = some (.int 0) ∧ ri_lk loz 3 = some (.int n) ∧ ri_lk loz 4 = some (.int l) ∧ ri_lk loz 5 = some (.int m)) ∨ (m.toInt < (eh_i G 2 4).toInt ∧ (eh_i G 2 (10 + m).toNatClampNeg) = (eh_i G 2 (10 + l).toNatClampNeg) ∧ ¬ (n = k) ∧ ∃ hz loz, eh_e (ri_calE ri_md (d + 1)) md_227 29 loz [] hz rs h' ∧ eh_V hz = G ∧ eh_N hz = eh_N h ∧ eh_ty tM G ∧ ri_lk loz 0 = some (.ref 0) ∧ ri_lk loz 1 = some (.int k) ∧ ri_lk loz 2 = some (.int 0) ∧ ri_lk loz 3 = some (.int (n + 1)) ∧ ri_lk loz 4 = some (.int l) ∧ ri_lk loz 5 = some (.int (m + 1))) ∨ (m.toInt < (eh_i G 2 4).toInt ∧ (eh_i G 2 (10 + m).toNatClampNeg) = (eh_i G 2 (10 + l).toNatClampNeg) ∧ n = k ∧ rs = [.int ((10 * l) + m)] ∧ eh_V h' = G ∧ eh_N h' = eh_N h) ∨ (m.toInt < (eh_i G 2 4).toInt ∧ ¬ ((eh_i G 2 (10 + m).toNatClampNeg) = (eh_i G 2 (10 + l).toNatClampNeg)) ∧ ∃ hz loz, eh_e (ri_calE ri_md (d + 1)) md_227 29 loz [] hz rs h' ∧ eh_V hz = G ∧ eh_N hz = eh_N h ∧ eh_ty tM G ∧ ri_lk loz 0 = some (.ref 0) ∧ ri_lk loz 1 = some (.int k) ∧ ri_lk loz 2 = some (.int 0) ∧ ri_lk loz 3 = some (.int n) ∧ ri_lk loz 4 = some (.int l) ∧ ri_lk loz 5 = some (.int (m + 1))) := by
  have E := E.ld (p := 31) (t := ri_isI) (i := 5) (n := 2) (v := .int m) rfl (e := (.iload 5, 2, [], .null)) rfl rfl (fun _ _ => rfl) l5 rfl
  have E := E.ld (p := 32) (t := ri_isA) (i := 0) (n := 1) (v := .ref 0) rfl (e := (.aload_n 0, 1, [], .null)) rfl rfl (fun _ _ => rfl) l0 rfl
  have E := E.gr (n := 2) (p := 35) rfl (x := 33) (m := 3) (w := .null) (t := 12) (i := 6) (u := 1330) rfl rfl hV ty rfl
  have E := E.pu (p := 36) (lo' := lo) (st' := [.int 4, .ref 2, .int m]) rfl (e := (.iconst 4, 1, [], .null)) rfl rfl (fun _ _ => rfl)
  have E := E.ai (p := 37) (z := eh_i G 2 4) (n := 4) rfl (e := (.iaload, 1, [], .null)) rfl rfl (fun _ _ => rfl) rfl hV ty (by decide) rfl rfl
  rcases eh_r3 rfl rfl (E.br (p := 40) (c := 3) (tgt := 78) (a := m) (b := eh_i G 2 4) (st' := []) rfl (e := (.if_icmp .ge 41, 3, [78], .null)) rfl rfl (fun _ _ => rfl) rfl) with ⟨c1, E⟩ | ⟨c1, E⟩
  · skip
    exact Or.inl ⟨c1, _, _, E, hV, rfl, ty, l0, l1, l2, l3, l4, l5⟩
  · skip
    have E := E.ld (p := 41) (t := ri_isA) (i := 0) (n := 1) (v := .ref 0) rfl (e := (.aload_n 0, 1, [], .null)) rfl rfl (fun _ _ => rfl) l0 rfl
    have E := E.ld (p := 43) (t := ri_isI) (i := 4) (n := 2) (v := .int l) rfl (e := (.iload 4, 2, [], .null)) rfl rfl (fun _ _ => rfl) l4 rfl
    have E := E.ld (p := 45) (t := ri_isI) (i := 5) (n := 2) (v := .int m) rfl (e := (.iload 5, 2, [], .null)) rfl rfl (fun _ _ => rfl) l5 rfl
    have E := E.ld (p := 46) (t := ri_isI) (i := 2) (n := 1) (v := .int 0) rfl (e := (.iload_n 2, 1, [], .null)) rfl rfl (fun _ _ => rfl) l2 rfl
    obtain ⟨v1, h2, X, E⟩ := E.cv (p := 49) (as := [.int l, .int m, .int 0]) (b := 0) (r := []) rfl (x := 360) (m := 3) (w := .null) (j := 226) (n := 3) (t := 12) (u := [1773, 83, 1775]) rfl rfl rfl
    rcases ip_226 (d := d) X hV ty with ⟨c3, rfl, hV4, hN5⟩ | ⟨c6, rfl, hV7, hN8⟩
    · skip
      have c3 : (eh_i G 2 (10 + m).toNatClampNeg) = (eh_i G 2 (10 + l).toNatClampNeg) := c3
      have E : eh_e _ _ 49 lo [.int 1] _ rs h' := E
      have E := E.brt (c := 1) (tgt := 55) (a := 1) (b := 0) (st' := []) rfl (e := (.ifCond .ne 6, 3, [55], .null)) rfl rfl (fun _ _ => rfl) (by decide)
      have E := E.ld (p := 56) (t := ri_isI) (i := 3) (n := 1) (v := .int n) rfl (e := (.iload_n 3, 1, [], .null)) rfl rfl (fun _ _ => rfl) l3 rfl
      have E := E.ld (p := 57) (t := ri_isI) (i := 1) (n := 1) (v := .int k) rfl (e := (.iload_n 1, 1, [], .null)) rfl rfl (fun _ _ => rfl) l1 rfl
      rcases eh_q1 (E.br (p := 60) (c := 1) (tgt := 69) (a := n) (b := k) (st' := []) rfl (e := (.if_icmp .ne 12, 3, [69], .null)) rfl rfl (fun _ _ => rfl) rfl) with ⟨c9, E⟩ | ⟨c9, E⟩
      · skip
        have E := E.ii (p := 72) (y := n + 1) rfl (i := 3) (n := 1) (m := 3) (ax := []) (w := .null) rfl l3 rfl rfl
        have k10_3 : ri_lk (ri_st1 lo 3 (.int (n + 1))) 3 = some (.int (n + 1)) := eh_self
        have k10_0 : ri_lk (ri_st1 lo 3 (.int (n + 1))) 0 = some (.ref 0) := eh_keep (by decide) (Or.inl rfl) l0
        have k10_1 : ri_lk (ri_st1 lo 3 (.int (n + 1))) 1 = some (.int k) := eh_keep (by decide) (Or.inl rfl) l1
        have k10_2 : ri_lk (ri_st1 lo 3 (.int (n + 1))) 2 = some (.int 0) := eh_keep (by decide) (Or.inl rfl) l2
        have k10_4 : ri_lk (ri_st1 lo 3 (.int (n + 1))) 4 = some (.int l) := eh_keep (by decide) (Or.inl rfl) l4
        have k10_5 : ri_lk (ri_st1 lo 3 (.int (n + 1))) 5 = some (.int m) := eh_keep (by decide) (Or.inl rfl) l5
        have E := E.ii (p := 75) (y := m + 1) rfl (i := 5) (n := 1) (m := 3) (ax := []) (w := .null) rfl k10_5 rfl rfl
        have k11_5 : ri_lk (ri_st1 (ri_st1 lo 3 (.int (n + 1))) 5 (.int (m + 1))) 5 = some (.int (m + 1)) := eh_self
        have k11_0 : ri_lk (ri_st1 (ri_st1 lo 3 (.int (n + 1))) 5 (.int (m + 1))) 0 = some (.ref 0) := eh_keep (by decide) (Or.inl rfl) k10_0
        have k11_1 : ri_lk (ri_st1 (ri_st1 lo 3 (.int (n + 1))) 5 (.int (m + 1))) 1 = some (.int k) := eh_keep (by decide) (Or.inl rfl) k10_1
        have k11_2 : ri_lk (ri_st1 (ri_st1 lo 3 (.int (n + 1))) 5 (.int (m + 1))) 2 = some (.int 0) := eh_keep (by decide) (Or.inl rfl) k10_2
        have k11_3 : ri_lk (ri_st1 (ri_st1 lo 3 (.int (n + 1))) 5 (.int (m + 1))) 3 = some (.int (n + 1)) := eh_keep (by decide) (Or.inl rfl) k10_3
        have k11_4 : ri_lk (ri_st1 (ri_st1 lo 3 (.int (n + 1))) 5 (.int (m + 1))) 4 = some (.int l) := eh_keep (by decide) (Or.inl rfl) k10_4
        have E := E.pu (p := 29) (lo' := (ri_st1 (ri_st1 lo 3 (.int (n + 1))) 5 (.int (m + 1)))) (st' := []) rfl (e := (.goto (-46), 3, [29], .null)) rfl rfl (fun _ _ => rfl)
        exact Or.inr (Or.inl ⟨c1, c3, c9, _, _, E, hV4, hN5, ty, k11_0, k11_1, k11_2, k11_3, k11_4, k11_5⟩)
      · skip
        have E := E.pu (p := 62) (lo' := lo) (st' := [.int 10]) rfl (e := (.bipush 10, 2, [], .null)) rfl rfl (fun _ _ => rfl)
        have E := E.ld (p := 64) (t := ri_isI) (i := 4) (n := 2) (v := .int l) rfl (e := (.iload 4, 2, [], .null)) rfl rfl (fun _ _ => rfl) l4 rfl
        have E := E.pu (p := 65) (lo' := lo) (st' := [.int (10 * l)]) rfl (e := (.imul, 1, [], .null)) rfl rfl (fun _ _ => rfl)
        have E := E.ld (p := 67) (t := ri_isI) (i := 5) (n := 2) (v := .int m) rfl (e := (.iload 5, 2, [], .null)) rfl rfl (fun _ _ => rfl) l5 rfl
        have E := E.pu (p := 68) (lo' := lo) (st' := [.int ((10 * l) + m)]) rfl (e := (.iadd, 1, [], .null)) rfl rfl (fun _ _ => rfl)
        obtain ⟨r1, r2⟩ := E.reti rfl (m := 1) (ax := []) (w := .null) rfl
        exact Or.inr (Or.inr (Or.inl ⟨c1, c3, c9, r1, ((congrArg eh_V r2).trans hV4), ((congrArg eh_N r2).trans hN5)⟩))
    · skip
      have c6 : ¬ ((eh_i G 2 (10 + m).toNatClampNeg) = (eh_i G 2 (10 + l).toNatClampNeg)) := c6
      have E : eh_e _ _ 49 lo [.int 0] _ rs h' := E
      have E := E.brf (p := 52) (c := 1) (tgt := 55) (a := 0) (b := 0) (st' := []) rfl (e := (.ifCond .ne 6, 3, [55], .null)) rfl rfl (fun _ _ => rfl) (by decide) rfl
      have E := E.pu (p := 72) (lo' := lo) (st' := []) rfl (e := (.goto 20, 3, [72], .null)) rfl rfl (fun _ _ => rfl)
      have E := E.ii (p := 75) (y := m + 1) rfl (i := 5) (n := 1) (m := 3) (ax := []) (w := .null) rfl l5 rfl rfl
      have k12_5 : ri_lk (ri_st1 lo 5 (.int (m + 1))) 5 = some (.int (m + 1)) := eh_self
      have k12_0 : ri_lk (ri_st1 lo 5 (.int (m + 1))) 0 = some (.ref 0) := eh_keep (by decide) (Or.inl rfl) l0
      have k12_1 : ri_lk (ri_st1 lo 5 (.int (m + 1))) 1 = some (.int k) := eh_keep (by decide) (Or.inl rfl) l1
      have k12_2 : ri_lk (ri_st1 lo 5 (.int (m + 1))) 2 = some (.int 0) := eh_keep (by decide) (Or.inl rfl) l2
      have k12_3 : ri_lk (ri_st1 lo 5 (.int (m + 1))) 3 = some (.int n) := eh_keep (by decide) (Or.inl rfl) l3
      have k12_4 : ri_lk (ri_st1 lo 5 (.int (m + 1))) 4 = some (.int l) := eh_keep (by decide) (Or.inl rfl) l4
      have E := E.pu (p := 29) (lo' := (ri_st1 lo 5 (.int (m + 1)))) (st' := []) rfl (e := (.goto (-46), 3, [29], .null)) rfl rfl (fun _ _ => rfl)
      exact Or.inr (Or.inr (Or.inr (⟨c1, c6, _, _, E, hV7, hN8, ty, k12_0, k12_1, k12_2, k12_3, k12_4, k12_5⟩)))
theorem pm_x {cal : eh_K} {lo : List (Nat × Value)} {h h' : ri_H} {rs : List Value} {G : eh_W} {k n l m : Int32} (E : eh_e cal md_227 78 lo [] h rs h') (hV : eh_V h = G) (ty : eh_ty tM G) (l0 : ri_lk lo 0 = some (.ref 0)) (l1 : ri_lk lo 1 = some (.int k)) (l2 : ri_lk lo 2 = some (.int 0)) (l3 : ri_lk lo 3 = some (.int n)) (l4 : ri_lk lo 4 = some (.int l)) (l5 : ri_lk lo 5 = some (.int m)) : ∃ hz loz, eh_e cal md_227 12 loz [] hz rs h' ∧ eh_V hz = G ∧ eh_N hz = eh_N h ∧ eh_ty tM G ∧ ri_lk loz 0 = some (.ref 0) ∧ ri_lk loz 1 = some (.int k) ∧ ri_lk loz 2 = some (.int 0) ∧ ri_lk loz 3 = some (.int n) ∧ ri_lk loz 4 = some (.int (l + 1)) ∧ ri_lk loz 5 = some (.int m) := by
  have E := E.ii (p := 81) (y := l + 1) rfl (i := 4) (n := 1) (m := 3) (ax := []) (w := .null) rfl l4 rfl rfl
  have k1_4 : ri_lk (ri_st1 lo 4 (.int (l + 1))) 4 = some (.int (l + 1)) := eh_self
  have k1_0 : ri_lk (ri_st1 lo 4 (.int (l + 1))) 0 = some (.ref 0) := eh_keep (by decide) (Or.inl rfl) l0
  have k1_1 : ri_lk (ri_st1 lo 4 (.int (l + 1))) 1 = some (.int k) := eh_keep (by decide) (Or.inl rfl) l1
  have k1_2 : ri_lk (ri_st1 lo 4 (.int (l + 1))) 2 = some (.int 0) := eh_keep (by decide) (Or.inl rfl) l2
  have k1_3 : ri_lk (ri_st1 lo 4 (.int (l + 1))) 3 = some (.int n) := eh_keep (by decide) (Or.inl rfl) l3
  have k1_5 : ri_lk (ri_st1 lo 4 (.int (l + 1))) 5 = some (.int m) := eh_keep (by decide) (Or.inl rfl) l5
  have E := E.pu (p := 12) (lo' := (ri_st1 lo 4 (.int (l + 1)))) (st' := []) rfl (e := (.goto (-69), 3, [12], .null)) rfl rfl (fun _ _ => rfl)
  exact ⟨_, _, E, hV, rfl, ty, k1_0, k1_1, k1_2, k1_3, k1_4, k1_5⟩
theorem pm_z {cal : eh_K} {lo : List (Nat × Value)} {h h' : ri_H} {rs : List Value} {G : eh_W} {k n l : Int32} (E : eh_e cal md_227 84 lo [] h rs h') (hV : eh_V h = G) (ty : eh_ty tM G) (l0 : ri_lk lo 0 = some (.ref 0)) (l1 : ri_lk lo 1 = some (.int k)) (l2 : ri_lk lo 2 = some (.int 0)) (l3 : ri_lk lo 3 = some (.int n)) (l4 : ri_lk lo 4 = some (.int l)) : (¬ (k = (-1)) ∧ rs = [.int (-1)] ∧ eh_V h' = G ∧ eh_N h' = eh_N h) ∨ (k = (-1) ∧ rs = [.int n] ∧ eh_V h' = G ∧ eh_N h' = eh_N h) := by
  have E := E.ld (p := 85) (t := ri_isI) (i := 1) (n := 1) (v := .int k) rfl (e := (.iload_n 1, 1, [], .null)) rfl rfl (fun _ _ => rfl) l1 rfl
  have E := E.pu (p := 86) (lo' := lo) (st' := [.int (-1), .int k]) rfl (e := (.iconst (-1), 1, [], .null)) rfl rfl (fun _ _ => rfl)
  rcases eh_q1 (E.br (p := 89) (c := 1) (tgt := 93) (a := k) (b := (-1)) (st' := []) rfl (e := (.if_icmp .ne 7, 3, [93], .null)) rfl rfl (fun _ _ => rfl) rfl) with ⟨c1, E⟩ | ⟨c1, E⟩
  · skip
    have E := E.pu (p := 94) (lo' := lo) (st' := [.int (-1)]) rfl (e := (.iconst (-1), 1, [], .null)) rfl rfl (fun _ _ => rfl)
    obtain ⟨r1, r2⟩ := E.reti rfl (m := 1) (ax := []) (w := .null) rfl
    exact Or.inl ⟨c1, r1, ((congrArg eh_V r2).trans hV), (congrArg eh_N r2)⟩
  · skip
    have E := E.ld (p := 90) (t := ri_isI) (i := 3) (n := 1) (v := .int n) rfl (e := (.iload_n 3, 1, [], .null)) rfl rfl (fun _ _ => rfl) l3 rfl
    have E := E.pu (p := 94) (lo' := lo) (st' := [.int n]) rfl (e := (.goto 4, 3, [94], .null)) rfl rfl (fun _ _ => rfl)
    obtain ⟨r1, r2⟩ := E.reti rfl (m := 1) (ax := []) (w := .null) rfl
    exact Or.inr (⟨c1, r1, ((congrArg eh_V r2).trans hV), (congrArg eh_N r2)⟩)
