theorem zg_a {cal : eh_K} {lo : List (Nat × Value)} {h h' : ri_H} {rs : List Value} {G : eh_W} {b : Nat → Int32} {n m : Nat} (E : eh_e cal md_1 0 lo [] h rs h') (hV : eh_V h = G) (iv : iS b n m G) (l0 : ri_lk lo 0 = some (.ref 199)) (l1 : ri_lk lo 1 = some (.ref 2)) (l2 : ri_lk lo 2 = some (.ref 23)) : ∃ hz loz, eh_e cal md_1 7 loz [] hz rs h' ∧ eh_V hz = eh_u G 199 3 (.int 0) ∧ eh_N hz = eh_N h ∧ iS b n m (eh_u G 199 3 (.int 0)) ∧ ri_lk loz 0 = some (.ref 199) ∧ ri_lk loz 1 = some (.ref 2) ∧ ri_lk loz 2 = some (.ref 23) ∧ ri_lk loz 3 = some (.int 0) := by
  have E := E.ld (p := 1) (t := ri_isA) (i := 0) (n := 1) (v := .ref 199) rfl (e := (.aload_n 0, 1, [], .null)) rfl rfl (fun _ _ => rfl) l0 rfl
  have E := E.pu (p := 2) (lo' := lo) (st' := [.int 0, .ref 199]) rfl (e := (.iconst 0, 1, [], .null)) rfl rfl (fun _ _ => rfl)
  obtain ⟨h1, hV2, hN3, E⟩ := E.gp (p := 5) rfl (x := 21) (m := 3) (w := .null) (t := 0) (i := 3) (u := 513) (y := 0) rfl rfl hV
  have E := E.pu (p := 6) (lo' := lo) (st' := [.int 0]) rfl (e := (.iconst 0, 1, [], .null)) rfl rfl (fun _ _ => rfl)
  have E := E.so (p := 7) (t := ri_isI) (i := 3) (n := 1) rfl (e := (.istore_n 3, 1, [], .null)) rfl rfl (fun _ _ => rfl) rfl
  have k4_3 : ri_lk (ri_st1 lo 3 (.int 0)) 3 = some (.int 0) := eh_self
  have k4_0 : ri_lk (ri_st1 lo 3 (.int 0)) 0 = some (.ref 199) := eh_keep (by decide) (Or.inl rfl) l0
  have k4_1 : ri_lk (ri_st1 lo 3 (.int 0)) 1 = some (.ref 2) := eh_keep (by decide) (Or.inl rfl) l1
  have k4_2 : ri_lk (ri_st1 lo 3 (.int 0)) 2 = some (.ref 23) := eh_keep (by decide) (Or.inl rfl) l2
  exact ⟨_, _, E, hV2, hN3, (iS_u iv ((iv.1).ui rfl) rfl), k4_0, k4_1, k4_2, k4_3⟩
theorem zg_l {d : Nat} {lo : List (Nat × Value)} {h h' : ri_H} {rs : List Value} {G : eh_W} {b : Nat → Int32} {n m : Nat} {i : Int32} (E : eh_e (ri_calE ri_md (d + 5)) md_1 7 lo [] h rs h') (hV : eh_V h = G) (iv : iS b n m G) (l0 : ri_lk lo 0 = some (.ref 199)) (l1 : ri_lk lo 1 = some (.ref 2)) (l2 : ri_lk lo 2 = some (.ref 23)) (l3 : ri_lk lo 3 = some (.int i)) : (40 < i.toInt ∧ rs = [.int 0] ∧ eh_V h' = G ∧ eh_N h' = eh_N h ∧ iS b n m G) ∨ (∃ (x5 : Int32), ∃ (h3 : ri_H), ¬ (40 < i.toInt) ∧ ¬ ((eh_i G 2 5) = 0) ∧ ri_calE ri_md (d + 5) 2 [.ref 199, .ref 2, .ref 23] h = some (some (.int x5), h3) ∧ iS b n m (eh_V h3) ∧ x5 = 0 ∧ rs = [.int 0] ∧ eh_V h' = (eh_V h3) ∧ eh_N h' = eh_N h ∧ iS b n m (eh_V h3)) ∨ (∃ (x5 : Int32), ∃ (h3 : ri_H), ∃ (x9 : Int32), ∃ (h7 : ri_H), ¬ (40 < i.toInt) ∧ ¬ ((eh_i G 2 5) = 0) ∧ ri_calE ri_md (d + 5) 2 [.ref 199, .ref 2, .ref 23] h = some (some (.int x5), h3) ∧ iS b n m (eh_V h3) ∧ ¬ (x5 = 0) ∧ ri_calE ri_md (d + 5) 82 [.ref 2, .int 59] h3 = some (some (.int x9), h7) ∧ iS b n m (eh_V h7) ∧ ¬ (x9 = 0) ∧ ∃ hz loz, eh_e (ri_calE ri_md (d + 5)) md_1 7 loz [] hz rs h' ∧ eh_V hz = eh_u (eh_V h7) 199 3 (.int ((eh_i (eh_V h7) 199 3) + 1)) ∧ eh_N hz = eh_N h ∧ iS b n m (eh_u (eh_V h7) 199 3 (.int ((eh_i (eh_V h7) 199 3) + 1))) ∧ ri_lk loz 0 = some (.ref 199) ∧ ri_lk loz 1 = some (.ref 2) ∧ ri_lk loz 2 = some (.ref 23) ∧ ri_lk loz 3 = some (.int (i + 1))) ∨ (∃ (x5 : Int32), ∃ (h3 : ri_H), ∃ (x9 : Int32), ∃ (h7 : ri_H), ¬ (40 < i.toInt) ∧ ¬ ((eh_i G 2 5) = 0) ∧ ri_calE ri_md (d + 5) 2 [.ref 199, .ref 2, .ref 23] h = some (some (.int x5), h3) ∧ iS b n m (eh_V h3) ∧ ¬ (x5 = 0) ∧ ri_calE ri_md (d + 5) 82 [.ref 2, .int 59] h3 = some (some (.int x9), h7) ∧ iS b n m (eh_V h7) ∧ x9 = 0 ∧ rs = [.int 0] ∧ eh_V h' = (eh_V h7) ∧ eh_N h' = eh_N h ∧ iS b n m (eh_V h7)) ∨ (¬ (40 < i.toInt) ∧ (eh_i G 2 5) = 0 ∧ rs = [.int 1] ∧ eh_V h' = G ∧ eh_N h' = eh_N h ∧ iS b n m G) := by
  have E := E.ld (p := 8) (t := ri_isI) (i := 3) (n := 1) (v := .int i) rfl (e := (.iload_n 3, 1, [], .null)) rfl rfl (fun _ _ => rfl) l3 rfl
  have E := E.pu (p := 10) (lo' := lo) (st' := [.int 40, .int i]) rfl (e := (.bipush 40, 2, [], .null)) rfl rfl (fun _ _ => rfl)
  rcases eh_r4 rfl (show (40 : Int32).toInt = 40 by decide) (E.br (p := 13) (c := 4) (tgt := 58) (a := i) (b := 40) (st' := []) rfl (e := (.if_icmp .gt 48, 3, [58], .null)) rfl rfl (fun _ _ => rfl) rfl) with ⟨c1, E⟩ | ⟨c1, E⟩
  · skip
    have E := E.pu (p := 59) (lo' := lo) (st' := [.int 0]) rfl (e := (.iconst 0, 1, [], .null)) rfl rfl (fun _ _ => rfl)
    obtain ⟨r1, r2⟩ := E.reti rfl (m := 1) (ax := []) (w := .null) rfl
    exact Or.inl ⟨c1, r1, ((congrArg eh_V r2).trans hV), (congrArg eh_N r2), iv⟩
  · skip
    have E := E.ld (p := 14) (t := ri_isA) (i := 1) (n := 1) (v := .ref 2) rfl (e := (.aload_n 1, 1, [], .null)) rfl rfl (fun _ _ => rfl) l1 rfl
    have E := E.gi (y := eh_i G 2 5) (p := 17) rfl (x := 25) (m := 3) (w := .null) (t := 8) (i := 5) (u := 193) rfl rfl hV (iv.1) rfl rfl
    rcases eh_q1 (E.br (p := 20) (c := 1) (tgt := 22) (a := eh_i G 2 5) (b := 0) (st' := []) rfl (e := (.ifCond .ne 5, 3, [22], .null)) rfl rfl (fun _ _ => rfl) rfl) with ⟨c2, E⟩ | ⟨c2, E⟩
    · skip
      have E := E.ld (p := 23) (t := ri_isA) (i := 0) (n := 1) (v := .ref 199) rfl (e := (.aload_n 0, 1, [], .null)) rfl rfl (fun _ _ => rfl) l0 rfl
      have E := E.ld (p := 24) (t := ri_isA) (i := 1) (n := 1) (v := .ref 2) rfl (e := (.aload_n 1, 1, [], .null)) rfl rfl (fun _ _ => rfl) l1 rfl
      have E := E.ld (p := 25) (t := ri_isA) (i := 2) (n := 1) (v := .ref 23) rfl (e := (.aload_n 2, 1, [], .null)) rfl rfl (fun _ _ => rfl) l2 rfl
      obtain ⟨v1, h3, X, E⟩ := E.cv (p := 28) (as := [.ref 2, .ref 23]) (b := 199) (r := []) rfl (x := 30) (m := 3) (w := .null) (j := 2) (n := 2) (t := 0) (u := [1070, 23, 1072]) rfl rfl rfl
      obtain ⟨x5, rfl, ivk4, hNk4⟩ := ts_2 (d := d) X (by rw [hV]; exact iv)
      have Xk4 := X
      have E : eh_e _ _ 28 lo [.int x5] h3 rs h' := E
      rcases eh_q0 (E.br (p := 31) (c := 0) (tgt := 40) (a := x5) (b := 0) (st' := []) rfl (e := (.ifCond .eq 12, 3, [40], .null)) rfl rfl (fun _ _ => rfl) rfl) with ⟨c6, E⟩ | ⟨c6, E⟩
      · skip
        have E := E.pu (p := 41) (lo' := lo) (st' := [.int 0]) rfl (e := (.iconst 0, 1, [], .null)) rfl rfl (fun _ _ => rfl)
        obtain ⟨r1, r2⟩ := E.reti rfl (m := 1) (ax := []) (w := .null) rfl
        exact Or.inr (Or.inl ⟨x5, h3, c1, c2, Xk4, ivk4, c6, r1, ((congrArg eh_V r2).trans (rfl : eh_V h3 = eh_V h3)), ((congrArg eh_N r2).trans hNk4), ivk4⟩)
      · skip
        have E := E.ld (p := 32) (t := ri_isA) (i := 1) (n := 1) (v := .ref 2) rfl (e := (.aload_n 1, 1, [], .null)) rfl rfl (fun _ _ => rfl) l1 rfl
        have E := E.pu (p := 34) (lo' := lo) (st' := [.int 59, .ref 2]) rfl (e := (.bipush 59, 2, [], .null)) rfl rfl (fun _ _ => rfl)
        obtain ⟨v1, h7, X, E⟩ := E.cv (p := 37) (as := [.int 59]) (b := 2) (r := []) rfl (x := 34) (m := 3) (w := .null) (j := 82) (n := 1) (t := 8) (u := [1091, 737, 736]) rfl rfl rfl
        obtain ⟨x9, rfl, ivk8, hNk8⟩ := ts_82 (d := d + 2) X (by rw [(rfl : eh_V h3 = eh_V h3)]; exact ivk4)
        have Xk8 := X
        have E : eh_e _ _ 37 lo [.int x9] h7 rs h' := E
        rcases eh_q1 (E.br (p := 40) (c := 1) (tgt := 42) (a := x9) (b := 0) (st' := []) rfl (e := (.ifCond .ne 5, 3, [42], .null)) rfl rfl (fun _ _ => rfl) rfl) with ⟨c10, E⟩ | ⟨c10, E⟩
        · skip
          have E := E.ld (p := 43) (t := ri_isA) (i := 0) (n := 1) (v := .ref 199) rfl (e := (.aload_n 0, 1, [], .null)) rfl rfl (fun _ _ => rfl) l0 rfl
          have E := E.pu (p := 44) (lo' := lo) (st' := [.ref 199, .ref 199]) rfl (e := (.dup, 1, [], .null)) rfl rfl (fun _ _ => rfl)
          have E := E.gi (y := eh_i (eh_V h7) 199 3) (p := 47) rfl (x := 21) (m := 3) (w := .null) (t := 0) (i := 3) (u := 513) rfl rfl (rfl : eh_V h7 = eh_V h7) ivk8.1 rfl rfl
          have E := E.pu (p := 48) (lo' := lo) (st' := [.int 1, .int (eh_i (eh_V h7) 199 3), .ref 199]) rfl (e := (.iconst 1, 1, [], .null)) rfl rfl (fun _ _ => rfl)
          have E := E.pu (p := 49) (lo' := lo) (st' := [.int ((eh_i (eh_V h7) 199 3) + 1), .ref 199]) rfl (e := (.iadd, 1, [], .null)) rfl rfl (fun _ _ => rfl)
          obtain ⟨h11, hV12, hN13, E⟩ := E.gp (p := 52) rfl (x := 21) (m := 3) (w := .null) (t := 0) (i := 3) (u := 513) (y := 0) rfl rfl (rfl : eh_V h7 = eh_V h7)
          have E := E.ii (p := 55) (y := i + 1) rfl (i := 3) (n := 1) (m := 3) (ax := []) (w := .null) rfl l3 rfl rfl
          have k14_3 : ri_lk (ri_st1 lo 3 (.int (i + 1))) 3 = some (.int (i + 1)) := eh_self
          have k14_0 : ri_lk (ri_st1 lo 3 (.int (i + 1))) 0 = some (.ref 199) := eh_keep (by decide) (Or.inl rfl) l0
          have k14_1 : ri_lk (ri_st1 lo 3 (.int (i + 1))) 1 = some (.ref 2) := eh_keep (by decide) (Or.inl rfl) l1
          have k14_2 : ri_lk (ri_st1 lo 3 (.int (i + 1))) 2 = some (.ref 23) := eh_keep (by decide) (Or.inl rfl) l2
          have E := E.pu (p := 7) (lo' := (ri_st1 lo 3 (.int (i + 1)))) (st' := []) rfl (e := (.goto (-48), 3, [7], .null)) rfl rfl (fun _ _ => rfl)
          exact Or.inr (Or.inr (Or.inl ⟨x5, h3, x9, h7, c1, c2, Xk4, ivk4, c6, Xk8, ivk8, c10, _, _, E, hV12, (hN13.trans (hNk8.trans hNk4)), (iS_u ivk8 (ivk8.1.ui rfl) rfl), k14_0, k14_1, k14_2, k14_3⟩))
        · skip
          have E := E.pu (p := 41) (lo' := lo) (st' := [.int 0]) rfl (e := (.iconst 0, 1, [], .null)) rfl rfl (fun _ _ => rfl)
          obtain ⟨r1, r2⟩ := E.reti rfl (m := 1) (ax := []) (w := .null) rfl
          exact Or.inr (Or.inr (Or.inr (Or.inl ⟨x5, h3, x9, h7, c1, c2, Xk4, ivk4, c6, Xk8, ivk8, c10, r1, ((congrArg eh_V r2).trans (rfl : eh_V h7 = eh_V h7)), ((congrArg eh_N r2).trans (hNk8.trans hNk4)), ivk8⟩)))
    · skip
      have E := E.pu (p := 21) (lo' := lo) (st' := [.int 1]) rfl (e := (.iconst 1, 1, [], .null)) rfl rfl (fun _ _ => rfl)
      obtain ⟨r1, r2⟩ := E.reti rfl (m := 1) (ax := []) (w := .null) rfl
      exact Or.inr (Or.inr (Or.inr (Or.inr (⟨c1, c2, r1, ((congrArg eh_V r2).trans hV), (congrArg eh_N r2), iv⟩))))
