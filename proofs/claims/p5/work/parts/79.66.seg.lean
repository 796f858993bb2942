theorem yfs_a {cal : eh_K} {lo : List (Nat × Value)} {h h' : ri_H} {rs : List Value} {G : eh_W} (E : eh_e cal md_17 0 lo [] h rs h') (hV : eh_V h = G) (ty : eh_ty tC G) (l0 : ri_lk lo 0 = some (.ref 203)) (l1 : ri_lk lo 1 = some (.ref 23)) : ∃ hz loz, eh_e cal md_17 7 loz [] hz rs h' ∧ eh_V hz = eh_u G 203 6 (.int 0) ∧ eh_N hz = eh_N h ∧ eh_ty tC (eh_u G 203 6 (.int 0)) ∧ ri_lk loz 0 = some (.ref 203) ∧ ri_lk loz 1 = some (.ref 23) ∧ ri_lk loz 2 = some (.int 0) := by
  have E := E.ld (p := 1) (t := ri_isA) (i := 0) (n := 1) (v := .ref 203) rfl (e := (.aload_n 0, 1, [], .null)) rfl rfl (fun _ _ => rfl) l0 rfl
  have E := E.pu (p := 2) (lo' := lo) (st' := [.int 0, .ref 203]) rfl (e := (.iconst 0, 1, [], .null)) rfl rfl (fun _ _ => rfl)
  obtain ⟨h1, hV2, hN3, E⟩ := E.gp (p := 5) rfl (x := 32) (m := 3) (w := .null) (t := 2) (i := 6) (u := 538) (y := 0) rfl rfl hV
  have E := E.pu (p := 6) (lo' := lo) (st' := [.int 0]) rfl (e := (.iconst 0, 1, [], .null)) rfl rfl (fun _ _ => rfl)
  have E := E.so (p := 7) (t := ri_isI) (i := 2) (n := 1) rfl (e := (.istore_n 2, 1, [], .null)) rfl rfl (fun _ _ => rfl) rfl
  have k4_2 : ri_lk (ri_st1 lo 2 (.int 0)) 2 = some (.int 0) := eh_self
  have k4_0 : ri_lk (ri_st1 lo 2 (.int 0)) 0 = some (.ref 203) := eh_keep (by decide) (Or.inl rfl) l0
  have k4_1 : ri_lk (ri_st1 lo 2 (.int 0)) 1 = some (.ref 23) := eh_keep (by decide) (Or.inl rfl) l1
  exact ⟨_, _, E, hV2, hN3, (ty.ui rfl), k4_0, k4_1, k4_2⟩
theorem yfs_l {d : Nat} {lo : List (Nat × Value)} {h h' : ri_H} {rs : List Value} {G : eh_W} {sw P w : Nat} {ku sz : Nat → Nat} {ce hi : Nat → Nat → Nat} {k : Int32} (E : eh_e (ri_calE ri_md (d + 3)) md_17 7 lo [] h rs h') (hV : eh_V h = G) (ty : eh_ty tC G) (l0 : ri_lk lo 0 = some (.ref 203)) (l1 : ri_lk lo 1 = some (.ref 23)) (l2 : ri_lk lo 2 = some (.int k)) (D : k.toInt < (1 <<< ((eh_i G 25 1) &&& 31)).toInt → xS sw P ku sz ce hi k G) (W : LDw w P sz ce) (w8 : w ≤ 8) : (¬ (k.toInt < (1 <<< ((eh_i G 25 1) &&& 31)).toInt) ∧ rs = [] ∧ eh_V h' = G ∧ eh_N h' = eh_N h) ∨ (k.toInt < (1 <<< ((eh_i G 25 1) &&& 31)).toInt ∧ ¬ ((eh_i G 203 4) = 0) ∧ rs = [] ∧ eh_V h' = G ∧ eh_N h' = eh_N h) ∨ (k.toInt < (1 <<< ((eh_i G 25 1) &&& 31)).toInt ∧ (eh_i G 203 4) = 0 ∧ eX sw G P w ku sz ce hi ∧ ¬ ((eh_i G 203 6).toInt < 256) ∧ ∃ hz loz, eh_e (ri_calE ri_md (d + 3)) md_17 7 loz [] hz rs h' ∧ eh_V hz = G ∧ eh_N hz = eh_N h ∧ eh_ty tC G ∧ ri_lk loz 0 = some (.ref 203) ∧ ri_lk loz 1 = some (.ref 23) ∧ ri_lk loz 2 = some (.int (k + 1))) ∨ (k.toInt < (1 <<< ((eh_i G 25 1) &&& 31)).toInt ∧ (eh_i G 203 4) = 0 ∧ eX sw G P w ku sz ce hi ∧ (eh_i G 203 6).toInt < 256 ∧ ∃ hz loz, eh_e (ri_calE ri_md (d + 3)) md_17 7 loz [] hz rs h' ∧ eh_V hz = eh_u (eh_u G 205 (eh_i G 203 6).toNatClampNeg (.int k)) 203 6 (.int ((eh_i G 203 6) + 1)) ∧ eh_N hz = eh_N h ∧ eh_ty tC (eh_u (eh_u G 205 (eh_i G 203 6).toNatClampNeg (.int k)) 203 6 (.int ((eh_i G 203 6) + 1))) ∧ ri_lk loz 0 = some (.ref 203) ∧ ri_lk loz 1 = some (.ref 23) ∧ ri_lk loz 2 = some (.int (k + 1))) ∨ (k.toInt < (1 <<< ((eh_i G 25 1) &&& 31)).toInt ∧ (eh_i G 203 4) = 0 ∧ ¬ (eX sw G P w ku sz ce hi) ∧ ∃ hz loz, eh_e (ri_calE ri_md (d + 3)) md_17 7 loz [] hz rs h' ∧ eh_V hz = G ∧ eh_N hz = eh_N h ∧ eh_ty tC G ∧ ri_lk loz 0 = some (.ref 203) ∧ ri_lk loz 1 = some (.ref 23) ∧ ri_lk loz 2 = some (.int (k + 1))) := by
  have E := E.ld (p := 8) (t := ri_isI) (i := 2) (n := 1) (v := .int k) rfl (e := (.iload_n 2, 1, [], .null)) rfl rfl (fun _ _ => rfl) l2 rfl
  have E := E.pu (p := 9) (lo' := lo) (st' := [.int 1, .int k]) rfl (e := (.iconst 1, 1, [], .null)) rfl rfl (fun _ _ => rfl)
  have E := E.ld (p := 10) (t := ri_isA) (i := 1) (n := 1) (v := .ref 23) rfl (e := (.aload_n 1, 1, [], .null)) rfl rfl (fun _ _ => rfl) l1 rfl
  have E := E.gr (n := 25) (p := 13) rfl (x := 69) (m := 3) (w := .null) (t := 4) (i := 2) (u := 265) rfl rfl hV ty rfl
  have E := E.pu (p := 14) (lo' := lo) (st' := [.int 1, .ref 25, .int 1, .int k]) rfl (e := (.iconst 1, 1, [], .null)) rfl rfl (fun _ _ => rfl)
  have E := E.ai (p := 15) (z := eh_i G 25 1) (n := 1) rfl (e := (.iaload, 1, [], .null)) rfl rfl (fun _ _ => rfl) rfl hV ty (by decide) rfl rfl
  have E := E.pu (p := 16) (lo' := lo) (st' := [.int (1 <<< ((eh_i G 25 1) &&& 31)), .int k]) rfl (e := (.ishl, 1, [], .null)) rfl rfl (fun _ _ => rfl)
  rcases eh_r3 rfl rfl (E.br (p := 19) (c := 3) (tgt := 71) (a := k) (b := 1 <<< ((eh_i G 25 1) &&& 31)) (st' := []) rfl (e := (.if_icmp .ge 55, 3, [71], .null)) rfl rfl (fun _ _ => rfl) rfl) with ⟨c1, E⟩ | ⟨c1, E⟩
  · skip
    obtain ⟨r1, r2⟩ := E.retv rfl (m := 1) (ax := []) (w := .null) rfl
    exact Or.inl ⟨c1, r1, ((congrArg eh_V r2).trans hV), (congrArg eh_N r2)⟩
  · skip
    have E := E.ld (p := 20) (t := ri_isA) (i := 0) (n := 1) (v := .ref 203) rfl (e := (.aload_n 0, 1, [], .null)) rfl rfl (fun _ _ => rfl) l0 rfl
    have E := E.gi (y := eh_i G 203 4) (p := 23) rfl (x := 25) (m := 3) (w := .null) (t := 2) (i := 4) (u := 536) rfl rfl hV ty rfl rfl
    rcases eh_q1 (E.br (p := 26) (c := 1) (tgt := 71) (a := eh_i G 203 4) (b := 0) (st' := []) rfl (e := (.ifCond .ne 48, 3, [71], .null)) rfl rfl (fun _ _ => rfl) rfl) with ⟨c2, E⟩ | ⟨c2, E⟩
    · skip
      obtain ⟨r1, r2⟩ := E.retv rfl (m := 1) (ax := []) (w := .null) rfl
      exact Or.inr (Or.inl ⟨c1, c2, r1, ((congrArg eh_V r2).trans hV), (congrArg eh_N r2)⟩)
    · skip
      have E := E.ld (p := 27) (t := ri_isA) (i := 0) (n := 1) (v := .ref 203) rfl (e := (.aload_n 0, 1, [], .null)) rfl rfl (fun _ _ => rfl) l0 rfl
      have E := E.ld (p := 28) (t := ri_isA) (i := 1) (n := 1) (v := .ref 23) rfl (e := (.aload_n 1, 1, [], .null)) rfl rfl (fun _ _ => rfl) l1 rfl
      have E := E.ld (p := 29) (t := ri_isI) (i := 2) (n := 1) (v := .int k) rfl (e := (.iload_n 2, 1, [], .null)) rfl rfl (fun _ _ => rfl) l2 rfl
      obtain ⟨v1, h3, X, E⟩ := E.cv (p := 32) (as := [.ref 23, .int k]) (b := 203) (r := []) rfl (x := 72) (m := 3) (w := .null) (j := 18) (n := 2) (t := 2) (u := [947, 15, 949]) rfl rfl rfl
      rcases yex_18 (d := d) X hV ty (D c1) W w8 with ⟨c4, rfl, hV5, hN6⟩ | ⟨c7, rfl, hV8, hN9⟩
      · skip
        have c4 : eX sw G P w ku sz ce hi := c4
        have E : eh_e _ _ 32 lo [.int 1] _ rs h' := E
        have E := E.brf (p := 35) (c := 0) (tgt := 65) (a := 1) (b := 0) (st' := []) rfl (e := (.ifCond .eq 33, 3, [65], .null)) rfl rfl (fun _ _ => rfl) (by decide) rfl
        have E := E.ld (p := 36) (t := ri_isA) (i := 0) (n := 1) (v := .ref 203) rfl (e := (.aload_n 0, 1, [], .null)) rfl rfl (fun _ _ => rfl) l0 rfl
        have E := E.gi (y := eh_i G 203 6) (p := 39) rfl (x := 32) (m := 3) (w := .null) (t := 2) (i := 6) (u := 538) rfl rfl hV5 ty rfl rfl
        have E := E.pu (p := 42) (lo' := lo) (st' := [.int 256, .int (eh_i G 203 6)]) rfl (e := (.sipush 256, 3, [], .null)) rfl rfl (fun _ _ => rfl)
        rcases eh_r3 rfl (show (256 : Int32).toInt = 256 by decide) (E.br (p := 45) (c := 3) (tgt := 65) (a := eh_i G 203 6) (b := 256) (st' := []) rfl (e := (.if_icmp .ge 23, 3, [65], .null)) rfl rfl (fun _ _ => rfl) rfl) with ⟨c10, E⟩ | ⟨c10, E⟩
        · skip
          have E := E.ii (p := 68) (y := k + 1) rfl (i := 2) (n := 1) (m := 3) (ax := []) (w := .null) rfl l2 rfl rfl
          have k11_2 : ri_lk (ri_st1 lo 2 (.int (k + 1))) 2 = some (.int (k + 1)) := eh_self
          have k11_0 : ri_lk (ri_st1 lo 2 (.int (k + 1))) 0 = some (.ref 203) := eh_keep (by decide) (Or.inl rfl) l0
          have k11_1 : ri_lk (ri_st1 lo 2 (.int (k + 1))) 1 = some (.ref 23) := eh_keep (by decide) (Or.inl rfl) l1
          have E := E.pu (p := 7) (lo' := (ri_st1 lo 2 (.int (k + 1)))) (st' := []) rfl (e := (.goto (-61), 3, [7], .null)) rfl rfl (fun _ _ => rfl)
          exact Or.inr (Or.inr (Or.inl ⟨c1, c2, c4, c10, _, _, E, hV5, hN6, ty, k11_0, k11_1, k11_2⟩))
        · skip
          have E := E.ld (p := 46) (t := ri_isA) (i := 0) (n := 1) (v := .ref 203) rfl (e := (.aload_n 0, 1, [], .null)) rfl rfl (fun _ _ => rfl) l0 rfl
          have E := E.gr (n := 205) (p := 49) rfl (x := 29) (m := 3) (w := .null) (t := 2) (i := 5) (u := 537) rfl rfl hV5 ty rfl
          have E := E.ld (p := 50) (t := ri_isA) (i := 0) (n := 1) (v := .ref 203) rfl (e := (.aload_n 0, 1, [], .null)) rfl rfl (fun _ _ => rfl) l0 rfl
          have E := E.gi (y := eh_i G 203 6) (p := 53) rfl (x := 32) (m := 3) (w := .null) (t := 2) (i := 6) (u := 538) rfl rfl hV5 ty rfl rfl
          have E := E.ld (p := 54) (t := ri_isI) (i := 2) (n := 1) (v := .int k) rfl (e := (.iload_n 2, 1, [], .null)) rfl rfl (fun _ _ => rfl) l2 rfl
          obtain ⟨h12, hV13, hN14, E⟩ := E.aw (gg := ri_g1) (b := true) (p := 55) (n := (eh_i G 203 6).toNatClampNeg) rfl (e := (.iastore, 1, [], .null)) rfl rfl (fun _ _ => rfl) rfl hV5 rfl
          have E := E.ld (p := 56) (t := ri_isA) (i := 0) (n := 1) (v := .ref 203) rfl (e := (.aload_n 0, 1, [], .null)) rfl rfl (fun _ _ => rfl) l0 rfl
          have E := E.pu (p := 57) (lo' := lo) (st' := [.ref 203, .ref 203]) rfl (e := (.dup, 1, [], .null)) rfl rfl (fun _ _ => rfl)
          have E := E.gi (y := eh_i G 203 6) (p := 60) rfl (x := 32) (m := 3) (w := .null) (t := 2) (i := 6) (u := 538) rfl rfl hV13 (ty.ui rfl) rfl rfl
          have E := E.pu (p := 61) (lo' := lo) (st' := [.int 1, .int (eh_i G 203 6), .ref 203]) rfl (e := (.iconst 1, 1, [], .null)) rfl rfl (fun _ _ => rfl)
          have E := E.pu (p := 62) (lo' := lo) (st' := [.int ((eh_i G 203 6) + 1), .ref 203]) rfl (e := (.iadd, 1, [], .null)) rfl rfl (fun _ _ => rfl)
          obtain ⟨h15, hV16, hN17, E⟩ := E.gp (p := 65) rfl (x := 32) (m := 3) (w := .null) (t := 2) (i := 6) (u := 538) (y := 0) rfl rfl hV13
          have E := E.ii (p := 68) (y := k + 1) rfl (i := 2) (n := 1) (m := 3) (ax := []) (w := .null) rfl l2 rfl rfl
          have k18_2 : ri_lk (ri_st1 lo 2 (.int (k + 1))) 2 = some (.int (k + 1)) := eh_self
          have k18_0 : ri_lk (ri_st1 lo 2 (.int (k + 1))) 0 = some (.ref 203) := eh_keep (by decide) (Or.inl rfl) l0
          have k18_1 : ri_lk (ri_st1 lo 2 (.int (k + 1))) 1 = some (.ref 23) := eh_keep (by decide) (Or.inl rfl) l1
          have E := E.pu (p := 7) (lo' := (ri_st1 lo 2 (.int (k + 1)))) (st' := []) rfl (e := (.goto (-61), 3, [7], .null)) rfl rfl (fun _ _ => rfl)
          exact Or.inr (Or.inr (Or.inr (Or.inl ⟨c1, c2, c4, c10, _, _, E, hV16, (hN17.trans (hN14.trans hN6)), ((ty.ui rfl).ui rfl), k18_0, k18_1, k18_2⟩)))
      · skip
        have c7 : ¬ (eX sw G P w ku sz ce hi) := c7
        have E : eh_e _ _ 32 lo [.int 0] _ rs h' := E
        have E := E.brt (c := 0) (tgt := 65) (a := 0) (b := 0) (st' := []) rfl (e := (.ifCond .eq 33, 3, [65], .null)) rfl rfl (fun _ _ => rfl) (by decide)
        have E := E.ii (p := 68) (y := k + 1) rfl (i := 2) (n := 1) (m := 3) (ax := []) (w := .null) rfl l2 rfl rfl
        have k19_2 : ri_lk (ri_st1 lo 2 (.int (k + 1))) 2 = some (.int (k + 1)) := eh_self
        have k19_0 : ri_lk (ri_st1 lo 2 (.int (k + 1))) 0 = some (.ref 203) := eh_keep (by decide) (Or.inl rfl) l0
        have k19_1 : ri_lk (ri_st1 lo 2 (.int (k + 1))) 1 = some (.ref 23) := eh_keep (by decide) (Or.inl rfl) l1
        have E := E.pu (p := 7) (lo' := (ri_st1 lo 2 (.int (k + 1)))) (st' := []) rfl (e := (.goto (-61), 3, [7], .null)) rfl rfl (fun _ _ => rfl)
        exact Or.inr (Or.inr (Or.inr (Or.inr (⟨c1, c2, c7, _, _, E, hV8, hN9, ty, k19_0, k19_1, k19_2⟩))))
theorem yjl_a {cal : eh_K} {lo : List (Nat × Value)} {h h' : ri_H} {rs : List Value} {G : eh_W} (E : eh_e cal md_19 0 lo [] h rs h') (hV : eh_V h = G) (ty : eh_ty tC G) (l0 : ri_lk lo 0 = some (.ref 203)) (l1 : ri_lk lo 1 = some (.ref 23)) : ∃ hz loz, eh_e cal md_19 23 loz [] hz rs h' ∧ eh_V hz = eh_u (eh_u G 203 0 (.int ((1 <<< ((eh_i G 25 1) &&& 31)) - 1))) 203 1 (.int ((1 <<< ((eh_i G 25 1) &&& 31)) - 1)) ∧ eh_N hz = eh_N h ∧ eh_ty tC (eh_u (eh_u G 203 0 (.int ((1 <<< ((eh_i G 25 1) &&& 31)) - 1))) 203 1 (.int ((1 <<< ((eh_i G 25 1) &&& 31)) - 1))) ∧ ri_lk loz 0 = some (.ref 203) ∧ ri_lk loz 1 = some (.ref 23) ∧ ri_lk loz 2 = some (.int ((1 <<< ((eh_i G 25 1) &&& 31)) - 1)) ∧ ri_lk loz 3 = some (.int 0) := by
  have E := E.pu (p := 1) (lo' := lo) (st' := [.int 1]) rfl (e := (.iconst 1, 1, [], .null)) rfl rfl (fun _ _ => rfl)
  have E := E.ld (p := 2) (t := ri_isA) (i := 1) (n := 1) (v := .ref 23) rfl (e := (.aload_n 1, 1, [], .null)) rfl rfl (fun _ _ => rfl) l1 rfl
  have E := E.gr (n := 25) (p := 5) rfl (x := 69) (m := 3) (w := .null) (t := 4) (i := 2) (u := 265) rfl rfl hV ty rfl
  have E := E.pu (p := 6) (lo' := lo) (st' := [.int 1, .ref 25, .int 1]) rfl (e := (.iconst 1, 1, [], .null)) rfl rfl (fun _ _ => rfl)
  have E := E.ai (p := 7) (z := eh_i G 25 1) (n := 1) rfl (e := (.iaload, 1, [], .null)) rfl rfl (fun _ _ => rfl) rfl hV ty (by decide) rfl rfl
  have E := E.pu (p := 8) (lo' := lo) (st' := [.int (1 <<< ((eh_i G 25 1) &&& 31))]) rfl (e := (.ishl, 1, [], .null)) rfl rfl (fun _ _ => rfl)
  have E := E.pu (p := 9) (lo' := lo) (st' := [.int 1, .int (1 <<< ((eh_i G 25 1) &&& 31))]) rfl (e := (.iconst 1, 1, [], .null)) rfl rfl (fun _ _ => rfl)
  have E := E.pu (p := 10) (lo' := lo) (st' := [.int ((1 <<< ((eh_i G 25 1) &&& 31)) - 1)]) rfl (e := (.isub, 1, [], .null)) rfl rfl (fun _ _ => rfl)
  have E := E.so (p := 11) (t := ri_isI) (i := 2) (n := 1) rfl (e := (.istore_n 2, 1, [], .null)) rfl rfl (fun _ _ => rfl) rfl
  have k1_2 : ri_lk (ri_st1 lo 2 (.int ((1 <<< ((eh_i G 25 1) &&& 31)) - 1))) 2 = some (.int ((1 <<< ((eh_i G 25 1) &&& 31)) - 1)) := eh_self
  have k1_0 : ri_lk (ri_st1 lo 2 (.int ((1 <<< ((eh_i G 25 1) &&& 31)) - 1))) 0 = some (.ref 203) := eh_keep (by decide) (Or.inl rfl) l0
  have k1_1 : ri_lk (ri_st1 lo 2 (.int ((1 <<< ((eh_i G 25 1) &&& 31)) - 1))) 1 = some (.ref 23) := eh_keep (by decide) (Or.inl rfl) l1
  have E := E.ld (p := 12) (t := ri_isA) (i := 0) (n := 1) (v := .ref 203) rfl (e := (.aload_n 0, 1, [], .null)) rfl rfl (fun _ _ => rfl) k1_0 rfl
  have E := E.ld (p := 13) (t := ri_isI) (i := 2) (n := 1) (v := .int ((1 <<< ((eh_i G 25 1) &&& 31)) - 1)) rfl (e := (.iload_n 2, 1, [], .null)) rfl rfl (fun _ _ => rfl) k1_2 rfl
  obtain ⟨h2, hV3, hN4, E⟩ := E.gp (p := 16) rfl (x := 9) (m := 3) (w := .null) (t := 2) (i := 0) (u := 529) (y := 0) rfl rfl hV
  have E := E.ld (p := 17) (t := ri_isA) (i := 0) (n := 1) (v := .ref 203) rfl (e := (.aload_n 0, 1, [], .null)) rfl rfl (fun _ _ => rfl) k1_0 rfl
  have E := E.ld (p := 18) (t := ri_isI) (i := 2) (n := 1) (v := .int ((1 <<< ((eh_i G 25 1) &&& 31)) - 1)) rfl (e := (.iload_n 2, 1, [], .null)) rfl rfl (fun _ _ => rfl) k1_2 rfl
  obtain ⟨h5, hV6, hN7, E⟩ := E.gp (p := 21) rfl (x := 15) (m := 3) (w := .null) (t := 2) (i := 1) (u := 531) (y := 0) rfl rfl hV3
  have E := E.pu (p := 22) (lo' := (ri_st1 lo 2 (.int ((1 <<< ((eh_i G 25 1) &&& 31)) - 1)))) (st' := [.int 0]) rfl (e := (.iconst 0, 1, [], .null)) rfl rfl (fun _ _ => rfl)
  have E := E.so (p := 23) (t := ri_isI) (i := 3) (n := 1) rfl (e := (.istore_n 3, 1, [], .null)) rfl rfl (fun _ _ => rfl) rfl
  have k8_3 : ri_lk (ri_st1 (ri_st1 lo 2 (.int ((1 <<< ((eh_i G 25 1) &&& 31)) - 1))) 3 (.int 0)) 3 = some (.int 0) := eh_self
  have k8_0 : ri_lk (ri_st1 (ri_st1 lo 2 (.int ((1 <<< ((eh_i G 25 1) &&& 31)) - 1))) 3 (.int 0)) 0 = some (.ref 203) := eh_keep (by decide) (Or.inl rfl) k1_0
  have k8_1 : ri_lk (ri_st1 (ri_st1 lo 2 (.int ((1 <<< ((eh_i G 25 1) &&& 31)) - 1))) 3 (.int 0)) 1 = some (.ref 23) := eh_keep (by decide) (Or.inl rfl) k1_1
  have k8_2 : ri_lk (ri_st1 (ri_st1 lo 2 (.int ((1 <<< ((eh_i G 25 1) &&& 31)) - 1))) 3 (.int 0)) 2 = some (.int ((1 <<< ((eh_i G 25 1) &&& 31)) - 1)) := eh_keep (by decide) (Or.inl rfl) k1_2
  exact ⟨_, _, E, hV6, (hN7.trans hN4), ((ty.ui rfl).ui rfl), k8_0, k8_1, k8_2, k8_3⟩
theorem yjl_l {cal : eh_K} {lo : List (Nat × Value)} {h h' : ri_H} {rs : List Value} {G : eh_W} {al k : Int32} (E : eh_e cal md_19 23 lo [] h rs h') (hV : eh_V h = G) (ty : eh_ty tC G) (l0 : ri_lk lo 0 = some (.ref 203)) (l1 : ri_lk lo 1 = some (.ref 23)) (l2 : ri_lk lo 2 = some (.int al)) (l3 : ri_lk lo 3 = some (.int k)) : (¬ (k.toInt < (eh_i G 203 6).toInt) ∧ rs = [] ∧ eh_V h' = G ∧ eh_N h' = eh_N h) ∨ (k.toInt < (eh_i G 203 6).toInt ∧ ∃ hz loz, eh_e cal md_19 23 loz [] hz rs h' ∧ eh_V hz = eh_u (eh_u G 203 0 (.int ((eh_i G 203 0) &&& (eh_i G 205 (k).toNatClampNeg)))) 203 1 (.int ((eh_i G 203 1) &&& ((eh_i G 205 (k).toNatClampNeg) ^^^ (-1)))) ∧ eh_N hz = eh_N h ∧ eh_ty tC (eh_u (eh_u G 203 0 (.int ((eh_i G 203 0) &&& (eh_i G 205 (k).toNatClampNeg)))) 203 1 (.int ((eh_i G 203 1) &&& ((eh_i G 205 (k).toNatClampNeg) ^^^ (-1))))) ∧ ri_lk loz 0 = some (.ref 203) ∧ ri_lk loz 1 = some (.ref 23) ∧ ri_lk loz 2 = some (.int al) ∧ ri_lk loz 3 = some (.int (k + 1))) := by
  have E := E.ld (p := 24) (t := ri_isI) (i := 3) (n := 1) (v := .int k) rfl (e := (.iload_n 3, 1, [], .null)) rfl rfl (fun _ _ => rfl) l3 rfl
  have E := E.ld (p := 25) (t := ri_isA) (i := 0) (n := 1) (v := .ref 203) rfl (e := (.aload_n 0, 1, [], .null)) rfl rfl (fun _ _ => rfl) l0 rfl
  have E := E.gi (y := eh_i G 203 6) (p := 28) rfl (x := 32) (m := 3) (w := .null) (t := 2) (i := 6) (u := 538) rfl rfl hV ty rfl rfl
  rcases eh_r3 rfl rfl (E.br (p := 31) (c := 3) (tgt := 69) (a := k) (b := eh_i G 203 6) (st' := []) rfl (e := (.if_icmp .ge 41, 3, [69], .null)) rfl rfl (fun _ _ => rfl) rfl) with ⟨c1, E⟩ | ⟨c1, E⟩
  · skip
    obtain ⟨r1, r2⟩ := E.retv rfl (m := 1) (ax := []) (w := .null) rfl
    exact Or.inl ⟨c1, r1, ((congrArg eh_V r2).trans hV), (congrArg eh_N r2)⟩
  · skip
    have E := E.ld (p := 32) (t := ri_isA) (i := 0) (n := 1) (v := .ref 203) rfl (e := (.aload_n 0, 1, [], .null)) rfl rfl (fun _ _ => rfl) l0 rfl
    have E := E.pu (p := 33) (lo' := lo) (st' := [.ref 203, .ref 203]) rfl (e := (.dup, 1, [], .null)) rfl rfl (fun _ _ => rfl)
    have E := E.gi (y := eh_i G 203 0) (p := 36) rfl (x := 9) (m := 3) (w := .null) (t := 2) (i := 0) (u := 529) rfl rfl hV ty rfl rfl
    have E := E.ld (p := 37) (t := ri_isA) (i := 0) (n := 1) (v := .ref 203) rfl (e := (.aload_n 0, 1, [], .null)) rfl rfl (fun _ _ => rfl) l0 rfl
    have E := E.gr (n := 205) (p := 40) rfl (x := 29) (m := 3) (w := .null) (t := 2) (i := 5) (u := 537) rfl rfl hV ty rfl
    have E := E.ld (p := 41) (t := ri_isI) (i := 3) (n := 1) (v := .int k) rfl (e := (.iload_n 3, 1, [], .null)) rfl rfl (fun _ _ => rfl) l3 rfl
    have E := E.ai (p := 42) (z := eh_i G 205 (k).toNatClampNeg) (n := (k).toNatClampNeg) rfl (e := (.iaload, 1, [], .null)) rfl rfl (fun _ _ => rfl) rfl hV ty rfl rfl rfl
    have E := E.pu (p := 43) (lo' := lo) (st' := [.int ((eh_i G 203 0) &&& (eh_i G 205 (k).toNatClampNeg)), .ref 203]) rfl (e := (.iand, 1, [], .null)) rfl rfl (fun _ _ => rfl)
    obtain ⟨h2, hV3, hN4, E⟩ := E.gp (p := 46) rfl (x := 9) (m := 3) (w := .null) (t := 2) (i := 0) (u := 529) (y := 0) rfl rfl hV
    have E := E.ld (p := 47) (t := ri_isA) (i := 0) (n := 1) (v := .ref 203) rfl (e := (.aload_n 0, 1, [], .null)) rfl rfl (fun _ _ => rfl) l0 rfl
    have E := E.pu (p := 48) (lo' := lo) (st' := [.ref 203, .ref 203]) rfl (e := (.dup, 1, [], .null)) rfl rfl (fun _ _ => rfl)
    have E := E.gi (y := eh_i G 203 1) (p := 51) rfl (x := 15) (m := 3) (w := .null) (t := 2) (i := 1) (u := 531) rfl rfl hV3 (ty.ui rfl) rfl rfl
    have E := E.ld (p := 52) (t := ri_isA) (i := 0) (n := 1) (v := .ref 203) rfl (e := (.aload_n 0, 1, [], .null)) rfl rfl (fun _ _ => rfl) l0 rfl
    have E := E.gr (n := 205) (p := 55) rfl (x := 29) (m := 3) (w := .null) (t := 2) (i := 5) (u := 537) rfl rfl hV3 (ty.ui rfl) rfl
    have E := E.ld (p := 56) (t := ri_isI) (i := 3) (n := 1) (v := .int k) rfl (e := (.iload_n 3, 1, [], .null)) rfl rfl (fun _ _ => rfl) l3 rfl
    have E := E.ai (p := 57) (z := eh_i G 205 (k).toNatClampNeg) (n := (k).toNatClampNeg) rfl (e := (.iaload, 1, [], .null)) rfl rfl (fun _ _ => rfl) rfl hV3 (ty.ui rfl) rfl rfl rfl
    have E := E.pu (p := 58) (lo' := lo) (st' := [.int (-1), .int (eh_i G 205 (k).toNatClampNeg), .int (eh_i G 203 1), .ref 203]) rfl (e := (.iconst (-1), 1, [], .null)) rfl rfl (fun _ _ => rfl)
    have E := E.pu (p := 59) (lo' := lo) (st' := [.int ((eh_i G 205 (k).toNatClampNeg) ^^^ (-1)), .int (eh_i G 203 1), .ref 203]) rfl (e := (.ixor, 1, [], .null)) rfl rfl (fun _ _ => rfl)
    have E := E.pu (p := 60) (lo' := lo) (st' := [.int ((eh_i G 203 1) &&& ((eh_i G 205 (k).toNatClampNeg) ^^^ (-1))), .ref 203]) rfl (e := (.iand, 1, [], .null)) rfl rfl (fun _ _ => rfl)
    obtain ⟨h5, hV6, hN7, E⟩ := E.gp (p := 63) rfl (x := 15) (m := 3) (w := .null) (t := 2) (i := 1) (u := 531) (y := 0) rfl rfl hV3
    have E := E.ii (p := 66) (y := k + 1) rfl (i := 3) (n := 1) (m := 3) (ax := []) (w := .null) rfl l3 rfl rfl
    have k8_3 : ri_lk (ri_st1 lo 3 (.int (k + 1))) 3 = some (.int (k + 1)) := eh_self
    have k8_0 : ri_lk (ri_st1 lo 3 (.int (k + 1))) 0 = some (.ref 203) := eh_keep (by decide) (Or.inl rfl) l0
    have k8_1 : ri_lk (ri_st1 lo 3 (.int (k + 1))) 1 = some (.ref 23) := eh_keep (by decide) (Or.inl rfl) l1
    have k8_2 : ri_lk (ri_st1 lo 3 (.int (k + 1))) 2 = some (.int al) := eh_keep (by decide) (Or.inl rfl) l2
    have E := E.pu (p := 23) (lo' := (ri_st1 lo 3 (.int (k + 1)))) (st' := []) rfl (e := (.goto (-43), 3, [23], .null)) rfl rfl (fun _ _ => rfl)
    exact Or.inr (⟨c1, _, _, E, hV6, (hN7.trans hN4), ((ty.ui rfl).ui rfl), k8_0, k8_1, k8_2, k8_3⟩)
