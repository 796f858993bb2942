theorem nx_i {d : Nat} {lo : List (Nat × Value)} {h h' : ri_H} {rs : List Value} {G : eh_W} (E : eh_e (ri_calE ri_md (d + 1)) md_158 0 lo [] h rs h') (hV : eh_V h = G) (ty : eh_ty tM G) (l0 : ri_lk lo 0 = some (.ref 0)) : (¬ ((eh_i G 0 4).toInt < (eh_i G 0 3).toInt) ∧ ∃ hz loz, eh_e (ri_calE ri_md (d + 1)) md_158 31 loz [] hz rs h' ∧ eh_V hz = G ∧ eh_N hz = eh_N h ∧ eh_ty tM G ∧ ri_lk loz 0 = some (.ref 0)) ∨ ((eh_i G 0 4).toInt < (eh_i G 0 3).toInt ∧ ((eh_i G 1 (eh_i G 0 4).toNatClampNeg) &&& 255) = 32 ∧ ∃ hz loz, eh_e (ri_calE ri_md (d + 1)) md_158 0 loz [] hz rs h' ∧ eh_V hz = eh_u G 0 4 (.int ((eh_i G 0 4) + 1)) ∧ eh_N hz = eh_N h ∧ eh_ty tM (eh_u G 0 4 (.int ((eh_i G 0 4) + 1))) ∧ ri_lk loz 0 = some (.ref 0)) ∨ ((eh_i G 0 4).toInt < (eh_i G 0 3).toInt ∧ ¬ (((eh_i G 1 (eh_i G 0 4).toNatClampNeg) &&& 255) = 32) ∧ ¬ (((eh_i G 1 (eh_i G 0 4).toNatClampNeg) &&& 255) = 10) ∧ ∃ hz loz, eh_e (ri_calE ri_md (d + 1)) md_158 31 loz [] hz rs h' ∧ eh_V hz = G ∧ eh_N hz = eh_N h ∧ eh_ty tM G ∧ ri_lk loz 0 = some (.ref 0)) ∨ ((eh_i G 0 4).toInt < (eh_i G 0 3).toInt ∧ ¬ (((eh_i G 1 (eh_i G 0 4).toNatClampNeg) &&& 255) = 32) ∧ ((eh_i G 1 (eh_i G 0 4).toNatClampNeg) &&& 255) = 10 ∧ ∃ hz loz, eh_e (ri_calE ri_md (d + 1)) md_158 0 loz [] hz rs h' ∧ eh_V hz = eh_u G 0 4 (.int ((eh_i G 0 4) + 1)) ∧ eh_N hz = eh_N h ∧ eh_ty tM (eh_u G 0 4 (.int ((eh_i G 0 4) + 1))) ∧ ri_lk loz 0 = some (.ref 0)) := by
  have E := E.ld (p := 1) (t := ri_isA) (i := 0) (n := 1) (v := .ref 0) rfl (e := (.aload_n 0, 1, [], .null)) rfl rfl (fun _ _ => rfl) l0 rfl
  obtain ⟨v1, h1, X, E⟩ := E.cv (p := 4) (as := []) (b := 0) (r := []) rfl (x := 135) (m := 3) (w := .null) (j := 155) (n := 0) (t := 12) (u := [1482, 36, 1484]) rfl rfl rfl
  rcases sp_155 (d := d) X hV ty with ⟨c2, rfl, hV3, hN4⟩ | ⟨c5, rfl, hV6, hN7⟩
  · skip
    have c2 : ¬ ((eh_i G 0 4).toInt < (eh_i G 0 3).toInt) := c2
    have E : eh_e _ _ 4 lo [.int (-1)] _ rs h' := E
    have E := E.pu (p := 6) (lo' := lo) (st' := [.int 32, .int (-1)]) rfl (e := (.bipush 32, 2, [], .null)) rfl rfl (fun _ _ => rfl)
    have E := E.brf (p := 9) (c := 0) (tgt := 18) (a := (-1)) (b := 32) (st' := []) rfl (e := (.if_icmp .eq 12, 3, [18], .null)) rfl rfl (fun _ _ => rfl) (by decide) rfl
    have E := E.ld (p := 10) (t := ri_isA) (i := 0) (n := 1) (v := .ref 0) rfl (e := (.aload_n 0, 1, [], .null)) rfl rfl (fun _ _ => rfl) l0 rfl
    obtain ⟨v1, h8, X, E⟩ := E.cv (p := 13) (as := []) (b := 0) (r := []) rfl (x := 135) (m := 3) (w := .null) (j := 155) (n := 0) (t := 12) (u := [1482, 36, 1484]) rfl rfl rfl
    rcases sp_155 (d := d) X hV3 ty with ⟨c9, rfl, hV10, hN11⟩ | ⟨c12, rfl, hV13, hN14⟩
    · skip
      have E : eh_e _ _ 13 lo [.int (-1)] _ rs h' := E
      have E := E.pu (p := 15) (lo' := lo) (st' := [.int 10, .int (-1)]) rfl (e := (.bipush 10, 2, [], .null)) rfl rfl (fun _ _ => rfl)
      have E := E.brt (c := 1) (tgt := 31) (a := (-1)) (b := 10) (st' := []) rfl (e := (.if_icmp .ne 16, 3, [31], .null)) rfl rfl (fun _ _ => rfl) (by decide)
      exact Or.inl ⟨c2, _, _, E, hV10, (hN11.trans hN4), ty, l0⟩
    · skip
      exact absurd c12 c2
  · skip
    have c5 : (eh_i G 0 4).toInt < (eh_i G 0 3).toInt := c5
    have E : eh_e _ _ 4 lo [.int ((eh_i G 1 (eh_i G 0 4).toNatClampNeg) &&& 255)] _ rs h' := E
    have E := E.pu (p := 6) (lo' := lo) (st' := [.int 32, .int ((eh_i G 1 (eh_i G 0 4).toNatClampNeg) &&& 255)]) rfl (e := (.bipush 32, 2, [], .null)) rfl rfl (fun _ _ => rfl)
    rcases eh_q0 (E.br (p := 9) (c := 0) (tgt := 18) (a := (eh_i G 1 (eh_i G 0 4).toNatClampNeg) &&& 255) (b := 32) (st' := []) rfl (e := (.if_icmp .eq 12, 3, [18], .null)) rfl rfl (fun _ _ => rfl) rfl) with ⟨c15, E⟩ | ⟨c15, E⟩
    · skip
      have E := E.ld (p := 19) (t := ri_isA) (i := 0) (n := 1) (v := .ref 0) rfl (e := (.aload_n 0, 1, [], .null)) rfl rfl (fun _ _ => rfl) l0 rfl
      have E := E.pu (p := 20) (lo' := lo) (st' := [.ref 0, .ref 0]) rfl (e := (.dup, 1, [], .null)) rfl rfl (fun _ _ => rfl)
      have E := E.gi (y := eh_i G 0 4) (p := 23) rfl (x := 21) (m := 3) (w := .null) (t := 12) (i := 4) (u := 1328) rfl rfl hV6 ty rfl rfl
      have E := E.pu (p := 24) (lo' := lo) (st' := [.int 1, .int (eh_i G 0 4), .ref 0]) rfl (e := (.iconst 1, 1, [], .null)) rfl rfl (fun _ _ => rfl)
      have E := E.pu (p := 25) (lo' := lo) (st' := [.int ((eh_i G 0 4) + 1), .ref 0]) rfl (e := (.iadd, 1, [], .null)) rfl rfl (fun _ _ => rfl)
      obtain ⟨h16, hV17, hN18, E⟩ := E.gp (p := 28) rfl (x := 21) (m := 3) (w := .null) (t := 12) (i := 4) (u := 1328) (y := 0) rfl rfl hV6
      have E := E.pu (p := 0) (lo' := lo) (st' := []) rfl (e := (.goto (-28), 3, [0], .null)) rfl rfl (fun _ _ => rfl)
      exact Or.inr (Or.inl ⟨c5, c15, _, _, E, hV17, (hN18.trans hN7), (ty.ui rfl), l0⟩)
    · skip
      have E := E.ld (p := 10) (t := ri_isA) (i := 0) (n := 1) (v := .ref 0) rfl (e := (.aload_n 0, 1, [], .null)) rfl rfl (fun _ _ => rfl) l0 rfl
      obtain ⟨v1, h19, X, E⟩ := E.cv (p := 13) (as := []) (b := 0) (r := []) rfl (x := 135) (m := 3) (w := .null) (j := 155) (n := 0) (t := 12) (u := [1482, 36, 1484]) rfl rfl rfl
      rcases sp_155 (d := d) X hV6 ty with ⟨c20, rfl, hV21, hN22⟩ | ⟨c23, rfl, hV24, hN25⟩
      · skip
        exact absurd c5 c20
      · skip
        have E : eh_e _ _ 13 lo [.int ((eh_i G 1 (eh_i G 0 4).toNatClampNeg) &&& 255)] _ rs h' := E
        have E := E.pu (p := 15) (lo' := lo) (st' := [.int 10, .int ((eh_i G 1 (eh_i G 0 4).toNatClampNeg) &&& 255)]) rfl (e := (.bipush 10, 2, [], .null)) rfl rfl (fun _ _ => rfl)
        rcases eh_q1 (E.br (p := 18) (c := 1) (tgt := 31) (a := (eh_i G 1 (eh_i G 0 4).toNatClampNeg) &&& 255) (b := 10) (st' := []) rfl (e := (.if_icmp .ne 16, 3, [31], .null)) rfl rfl (fun _ _ => rfl) rfl) with ⟨c26, E⟩ | ⟨c26, E⟩
        · skip
          exact Or.inr (Or.inr (Or.inl ⟨c5, c15, c26, _, _, E, hV24, (hN25.trans hN7), ty, l0⟩))
        · skip
          have E := E.ld (p := 19) (t := ri_isA) (i := 0) (n := 1) (v := .ref 0) rfl (e := (.aload_n 0, 1, [], .null)) rfl rfl (fun _ _ => rfl) l0 rfl
          have E := E.pu (p := 20) (lo' := lo) (st' := [.ref 0, .ref 0]) rfl (e := (.dup, 1, [], .null)) rfl rfl (fun _ _ => rfl)
          have E := E.gi (y := eh_i G 0 4) (p := 23) rfl (x := 21) (m := 3) (w := .null) (t := 12) (i := 4) (u := 1328) rfl rfl hV24 ty rfl rfl
          have E := E.pu (p := 24) (lo' := lo) (st' := [.int 1, .int (eh_i G 0 4), .ref 0]) rfl (e := (.iconst 1, 1, [], .null)) rfl rfl (fun _ _ => rfl)
          have E := E.pu (p := 25) (lo' := lo) (st' := [.int ((eh_i G 0 4) + 1), .ref 0]) rfl (e := (.iadd, 1, [], .null)) rfl rfl (fun _ _ => rfl)
          obtain ⟨h27, hV28, hN29, E⟩ := E.gp (p := 28) rfl (x := 21) (m := 3) (w := .null) (t := 12) (i := 4) (u := 1328) (y := 0) rfl rfl hV24
          have E := E.pu (p := 0) (lo' := lo) (st' := []) rfl (e := (.goto (-28), 3, [0], .null)) rfl rfl (fun _ _ => rfl)
          exact Or.inr (Or.inr (Or.inr (⟨c5, c15, c26, _, _, E, hV28, (hN29.trans (hN25.trans hN7)), (ty.ui rfl), l0⟩)))
theorem nx_b {d : Nat} {lo : List (Nat × Value)} {h h' : ri_H} {rs : List Value} {G : eh_W} (E : eh_e (ri_calE ri_md (d + 1)) md_158 31 lo [] h rs h') (hV : eh_V h = G) (ty : eh_ty tM G) (l0 : ri_lk lo 0 = some (.ref 0)) : (¬ ((eh_i G 0 5).toInt < (eh_i G 0 3).toInt) ∧ ¬ ((eh_i G 0 4).toInt < (eh_i G 0 3).toInt) ∧ rs = [] ∧ eh_V h' = eh_u (eh_u (eh_u G 0 12 (.int (eh_i G 0 4))) 0 13 (.int 0)) 0 11 (.int 0) ∧ eh_N h' = eh_N h) ∨ (¬ ((eh_i G 0 5).toInt < (eh_i G 0 3).toInt) ∧ (eh_i G 0 4).toInt < (eh_i G 0 3).toInt ∧ ¬ (((eh_i G 1 (eh_i G 0 4).toNatClampNeg) &&& 255).toInt < 0) ∧ lx_lt ((eh_i G 1 (eh_i G 0 4).toNatClampNeg) &&& 255) = true ∧ ∃ hz loz, eh_e (ri_calE ri_md (d + 1)) md_158 181 loz [] hz rs h' ∧ eh_V hz = eh_u (eh_u (eh_u (eh_u G 0 12 (.int (eh_i G 0 4))) 0 13 (.int 0)) 0 17 (.long 0)) 0 14 (.int 0) ∧ eh_N hz = eh_N h ∧ eh_ty tM (eh_u (eh_u (eh_u (eh_u G 0 12 (.int (eh_i G 0 4))) 0 13 (.int 0)) 0 17 (.long 0)) 0 14 (.int 0)) ∧ ri_lk loz 0 = some (.ref 0) ∧ ri_lk loz 1 = some (.int ((eh_i G 1 (eh_i G 0 4).toNatClampNeg) &&& 255)) ∧ ri_lk loz 2 = some (.int 1) ∧ ri_lk loz 3 = some (.int 1)) ∨ (¬ ((eh_i G 0 5).toInt < (eh_i G 0 3).toInt) ∧ (eh_i G 0 4).toInt < (eh_i G 0 3).toInt ∧ ¬ (((eh_i G 1 (eh_i G 0 4).toNatClampNeg) &&& 255).toInt < 0) ∧ ¬ (lx_lt ((eh_i G 1 (eh_i G 0 4).toNatClampNeg) &&& 255) = true) ∧ lx_dg ((eh_i G 1 (eh_i G 0 4).toNatClampNeg) &&& 255) = true ∧ ∃ hz loz, eh_e (ri_calE ri_md (d + 1)) md_158 181 loz [] hz rs h' ∧ eh_V hz = eh_u (eh_u (eh_u (eh_u G 0 12 (.int (eh_i G 0 4))) 0 13 (.int 0)) 0 17 (.long 0)) 0 14 (.int 0) ∧ eh_N hz = eh_N h ∧ eh_ty tM (eh_u (eh_u (eh_u (eh_u G 0 12 (.int (eh_i G 0 4))) 0 13 (.int 0)) 0 17 (.long 0)) 0 14 (.int 0)) ∧ ri_lk loz 0 = some (.ref 0) ∧ ri_lk loz 1 = some (.int ((eh_i G 1 (eh_i G 0 4).toNatClampNeg) &&& 255)) ∧ ri_lk loz 2 = some (.int 0) ∧ ri_lk loz 3 = some (.int 1)) ∨ (¬ ((eh_i G 0 5).toInt < (eh_i G 0 3).toInt) ∧ (eh_i G 0 4).toInt < (eh_i G 0 3).toInt ∧ ¬ (((eh_i G 1 (eh_i G 0 4).toNatClampNeg) &&& 255).toInt < 0) ∧ ¬ (lx_lt ((eh_i G 1 (eh_i G 0 4).toNatClampNeg) &&& 255) = true) ∧ ¬ (lx_dg ((eh_i G 1 (eh_i G 0 4).toNatClampNeg) &&& 255) = true) ∧ ((eh_i G 1 (eh_i G 0 4).toNatClampNeg) &&& 255) = 59 ∧ rs = [] ∧ eh_V h' = eh_u (eh_u (eh_u (eh_u (eh_u G 0 12 (.int (eh_i G 0 4))) 0 13 (.int 0)) 0 11 (.int 3)) 0 14 (.int ((eh_i G 1 (eh_i G 0 4).toNatClampNeg) &&& 255))) 0 4 (.int ((eh_i G 0 4) + 1)) ∧ eh_N h' = eh_N h) ∨ (¬ ((eh_i G 0 5).toInt < (eh_i G 0 3).toInt) ∧ (eh_i G 0 4).toInt < (eh_i G 0 3).toInt ∧ ¬ (((eh_i G 1 (eh_i G 0 4).toNatClampNeg) &&& 255).toInt < 0) ∧ ¬ (lx_lt ((eh_i G 1 (eh_i G 0 4).toNatClampNeg) &&& 255) = true) ∧ ¬ (lx_dg ((eh_i G 1 (eh_i G 0 4).toNatClampNeg) &&& 255) = true) ∧ ¬ (((eh_i G 1 (eh_i G 0 4).toNatClampNeg) &&& 255) = 59) ∧ ((eh_i G 1 (eh_i G 0 4).toNatClampNeg) &&& 255) = 40 ∧ rs = [] ∧ eh_V h' = eh_u (eh_u (eh_u (eh_u (eh_u G 0 12 (.int (eh_i G 0 4))) 0 13 (.int 0)) 0 11 (.int 3)) 0 14 (.int ((eh_i G 1 (eh_i G 0 4).toNatClampNeg) &&& 255))) 0 4 (.int ((eh_i G 0 4) + 1)) ∧ eh_N h' = eh_N h) ∨ (¬ ((eh_i G 0 5).toInt < (eh_i G 0 3).toInt) ∧ (eh_i G 0 4).toInt < (eh_i G 0 3).toInt ∧ ¬ (((eh_i G 1 (eh_i G 0 4).toNatClampNeg) &&& 255).toInt < 0) ∧ ¬ (lx_lt ((eh_i G 1 (eh_i G 0 4).toNatClampNeg) &&& 255) = true) ∧ ¬ (lx_dg ((eh_i G 1 (eh_i G 0 4).toNatClampNeg) &&& 255) = true) ∧ ¬ (((eh_i G 1 (eh_i G 0 4).toNatClampNeg) &&& 255) = 59) ∧ ¬ (((eh_i G 1 (eh_i G 0 4).toNatClampNeg) &&& 255) = 40) ∧ ((eh_i G 1 (eh_i G 0 4).toNatClampNeg) &&& 255) = 41 ∧ rs = [] ∧ eh_V h' = eh_u (eh_u (eh_u (eh_u (eh_u G 0 12 (.int (eh_i G 0 4))) 0 13 (.int 0)) 0 11 (.int 3)) 0 14 (.int ((eh_i G 1 (eh_i G 0 4).toNatClampNeg) &&& 255))) 0 4 (.int ((eh_i G 0 4) + 1)) ∧ eh_N h' = eh_N h) ∨ (¬ ((eh_i G 0 5).toInt < (eh_i G 0 3).toInt) ∧ (eh_i G 0 4).toInt < (eh_i G 0 3).toInt ∧ ¬ (((eh_i G 1 (eh_i G 0 4).toNatClampNeg) &&& 255).toInt < 0) ∧ ¬ (lx_lt ((eh_i G 1 (eh_i G 0 4).toNatClampNeg) &&& 255) = true) ∧ ¬ (lx_dg ((eh_i G 1 (eh_i G 0 4).toNatClampNeg) &&& 255) = true) ∧ ¬ (((eh_i G 1 (eh_i G 0 4).toNatClampNeg) &&& 255) = 59) ∧ ¬ (((eh_i G 1 (eh_i G 0 4).toNatClampNeg) &&& 255) = 40) ∧ ¬ (((eh_i G 1 (eh_i G 0 4).toNatClampNeg) &&& 255) = 41) ∧ ((eh_i G 1 (eh_i G 0 4).toNatClampNeg) &&& 255).toInt < 60 ∧ rs = [] ∧ eh_V h' = eh_u (eh_u (eh_u (eh_u (eh_u G 0 12 (.int (eh_i G 0 4))) 0 13 (.int 0)) 0 11 (.int 4)) 0 14 (.int ((eh_i G 1 (eh_i G 0 4).toNatClampNeg) &&& 255))) 0 4 (.int ((eh_i G 0 4) + 1)) ∧ eh_N h' = eh_N h) ∨ (¬ ((eh_i G 0 5).toInt < (eh_i G 0 3).toInt) ∧ (eh_i G 0 4).toInt < (eh_i G 0 3).toInt ∧ ¬ (((eh_i G 1 (eh_i G 0 4).toNatClampNeg) &&& 255).toInt < 0) ∧ ¬ (lx_lt ((eh_i G 1 (eh_i G 0 4).toNatClampNeg) &&& 255) = true) ∧ ¬ (lx_dg ((eh_i G 1 (eh_i G 0 4).toNatClampNeg) &&& 255) = true) ∧ ¬ (((eh_i G 1 (eh_i G 0 4).toNatClampNeg) &&& 255) = 59) ∧ ¬ (((eh_i G 1 (eh_i G 0 4).toNatClampNeg) &&& 255) = 40) ∧ ¬ (((eh_i G 1 (eh_i G 0 4).toNatClampNeg) &&& 255) = 41) ∧ ¬ (((eh_i G 1 (eh_i G 0 4).toNatClampNeg) &&& 255).toInt < 60) ∧ 62 < ((eh_i G 1 (eh_i G 0 4).toNatClampNeg) &&& 255).toInt ∧ rs = [] ∧ eh_V h' = eh_u (eh_u (eh_u (eh_u (eh_u G 0 12 (.int (eh_i G 0 4))) 0 13 (.int 0)) 0 11 (.int 4)) 0 14 (.int ((eh_i G 1 (eh_i G 0 4).toNatClampNeg) &&& 255))) 0 4 (.int ((eh_i G 0 4) + 1)) ∧ eh_N h' = eh_N h) ∨ (¬ ((eh_i G 0 5).toInt < (eh_i G 0 3).toInt) ∧ (eh_i G 0 4).toInt < (eh_i G 0 3).toInt ∧ ¬ (((eh_i G 1 (eh_i G 0 4).toNatClampNeg) &&& 255).toInt < 0) ∧ ¬ (lx_lt ((eh_i G 1 (eh_i G 0 4).toNatClampNeg) &&& 255) = true) ∧ ¬ (lx_dg ((eh_i G 1 (eh_i G 0 4).toNatClampNeg) &&& 255) = true) ∧ ¬ (((eh_i G 1 (eh_i G 0 4).toNatClampNeg) &&& 255) = 59) ∧ ¬ (((eh_i G 1 (eh_i G 0 4).toNatClampNeg) &&& 255) = 40) ∧ ¬ (((eh_i G 1 (eh_i G 0 4).toNatClampNeg) &&& 255) = 41) ∧ ¬ (((eh_i G 1 (eh_i G 0 4).toNatClampNeg) &&& 255).toInt < 60) ∧ ¬ (62 < ((eh_i G 1 (eh_i G 0 4).toNatClampNeg) &&& 255).toInt) ∧ rs = [] ∧ eh_V h' = eh_u (eh_u (eh_u (eh_u (eh_u G 0 12 (.int (eh_i G 0 4))) 0 13 (.int 0)) 0 11 (.int 3)) 0 14 (.int ((eh_i G 1 (eh_i G 0 4).toNatClampNeg) &&& 255))) 0 4 (.int ((eh_i G 0 4) + 1)) ∧ eh_N h' = eh_N h) ∨ (¬ ((eh_i G 0 5).toInt < (eh_i G 0 3).toInt) ∧ (eh_i G 0 4).toInt < (eh_i G 0 3).toInt ∧ ((eh_i G 1 (eh_i G 0 4).toNatClampNeg) &&& 255).toInt < 0 ∧ rs = [] ∧ eh_V h' = eh_u (eh_u (eh_u G 0 12 (.int (eh_i G 0 4))) 0 13 (.int 0)) 0 11 (.int 0) ∧ eh_N h' = eh_N h) ∨ ((eh_i G 0 5).toInt < (eh_i G 0 3).toInt ∧ (eh_i G 0 4).toInt < (eh_i G 0 5).toInt ∧ ¬ ((eh_i G 0 4).toInt < (eh_i G 0 3).toInt) ∧ rs = [] ∧ eh_V h' = eh_u (eh_u (eh_u G 0 12 (.int (eh_i G 0 4))) 0 13 (.int 0)) 0 11 (.int 0) ∧ eh_N h' = eh_N h) ∨ ((eh_i G 0 5).toInt < (eh_i G 0 3).toInt ∧ (eh_i G 0 4).toInt < (eh_i G 0 5).toInt ∧ (eh_i G 0 4).toInt < (eh_i G 0 3).toInt ∧ ¬ (((eh_i G 1 (eh_i G 0 4).toNatClampNeg) &&& 255).toInt < 0) ∧ lx_lt ((eh_i G 1 (eh_i G 0 4).toNatClampNeg) &&& 255) = true ∧ ∃ hz loz, eh_e (ri_calE ri_md (d + 1)) md_158 181 loz [] hz rs h' ∧ eh_V hz = eh_u (eh_u (eh_u (eh_u G 0 12 (.int (eh_i G 0 4))) 0 13 (.int 0)) 0 17 (.long 0)) 0 14 (.int 0) ∧ eh_N hz = eh_N h ∧ eh_ty tM (eh_u (eh_u (eh_u (eh_u G 0 12 (.int (eh_i G 0 4))) 0 13 (.int 0)) 0 17 (.long 0)) 0 14 (.int 0)) ∧ ri_lk loz 0 = some (.ref 0) ∧ ri_lk loz 1 = some (.int ((eh_i G 1 (eh_i G 0 4).toNatClampNeg) &&& 255)) ∧ ri_lk loz 2 = some (.int 1) ∧ ri_lk loz 3 = some (.int 1)) ∨ ((eh_i G 0 5).toInt < (eh_i G 0 3).toInt ∧ (eh_i G 0 4).toInt < (eh_i G 0 5).toInt ∧ (eh_i G 0 4).toInt < (eh_i G 0 3).toInt ∧ ¬ (((eh_i G 1 (eh_i G 0 4).toNatClampNeg) &&& 255).toInt < 0) ∧ ¬ (lx_lt ((eh_i G 1 (eh_i G 0 4).toNatClampNeg) &&& 255) = true) ∧ lx_dg ((eh_i G 1 (eh_i G 0 4).toNatClampNeg) &&& 255) = true ∧ ∃ hz loz, eh_e (ri_calE ri_md (d + 1)) md_158 181 loz [] hz rs h' ∧ eh_V hz = eh_u (eh_u (eh_u (eh_u G 0 12 (.int (eh_i G 0 4))) 0 13 (.int 0)) 0 17 (.long 0)) 0 14 (.int 0) ∧ eh_N hz = eh_N h ∧ eh_ty tM (eh_u (eh_u (eh_u (eh_u G 0 12 (.int (eh_i G 0 4))) 0 13 (.int 0)) 0 17 (.long 0)) 0 14 (.int 0)) ∧ ri_lk loz 0 = some (.ref 0) ∧ ri_lk loz 1 = some (.int ((eh_i G 1 (eh_i G 0 4).toNatClampNeg) &&& 255)) ∧ ri_lk loz 2 = some (.int 0) ∧ ri_lk loz 3 = some (.int 1)) ∨ ((eh_i G 0 5).toInt < (eh_i G 0 3).toInt ∧ (eh_i G 0 4).toInt < (eh_i G 0 5).toInt ∧ (eh_i G 0 4).toInt < (eh_i G 0 3).toInt ∧ ¬ (((eh_i G 1 (eh_i G 0 4).toNatClampNeg) &&& 255).toInt < 0) ∧ ¬ (lx_lt ((eh_i G 1 (eh_i G 0 4).toNatClampNeg) &&& 255) = true) ∧ ¬ (lx_dg ((eh_i G 1 (eh_i G 0 4).toNatClampNeg) &&& 255) = true) ∧ ((eh_i G 1 (eh_i G 0 4).toNatClampNeg) &&& 255) = 59 ∧ rs = [] ∧ eh_V h' = eh_u (eh_u (eh_u (eh_u (eh_u G 0 12 (.int (eh_i G 0 4))) 0 13 (.int 0)) 0 11 (.int 3)) 0 14 (.int ((eh_i G 1 (eh_i G 0 4).toNatClampNeg) &&& 255))) 0 4 (.int ((eh_i G 0 4) + 1)) ∧ eh_N h' = eh_N h) ∨ ((eh_i G 0 5).toInt < (eh_i G 0 3).toInt ∧ (eh_i G 0 4).toInt < (eh_i G 0 5).toInt ∧ (eh_i G 0 4).toInt < (eh_i G 0 3).toInt ∧ ¬ (((eh_i G 1 (eh_i G 0 4).toNatClampNeg) &&& 255).toInt < 0) ∧ ¬ (lx_lt ((eh_i G 1 (eh_i G 0 4).toNatClampNeg) &&& 255) = true) ∧ ¬ (lx_dg ((eh_i G 1 (eh_i G 0 4).toNatClampNeg) &&& 255) = true) ∧ ¬ (((eh_i G 1 (eh_i G 0 4).toNatClampNeg) &&& 255) = 59) ∧ ((eh_i G 1 (eh_i G 0 4).toNatClampNeg) &&& 255) = 40 ∧ rs = [] ∧ eh_V h' = eh_u (eh_u (eh_u (eh_u (eh_u G 0 12 (.int (eh_i G 0 4))) 0 13 (.int 0)) 0 11 (.int 3)) 0 14 (.int ((eh_i G 1 (eh_i G 0 4).toNatClampNeg) &&& 255))) 0 4 (.int ((eh_i G 0 4) + 1)) ∧ eh_N h' = eh_N h) ∨ ((eh_i G 0 5).toInt < (eh_i G 0 3).toInt ∧ (eh_i G 0 4).toInt < (eh_i G 0 5).toInt ∧ (eh_i G 0 4).toInt < (eh_i G 0 3).toInt ∧ ¬ (((eh_i G 1 (eh_i G 0 4).toNatClampNeg) &&& 255).toInt < 0) ∧ ¬ (lx_lt ((eh_i G 1 (eh_i G 0 4).toNatClampNeg) &&& 255) = true) ∧ ¬ (lx_dg ((eh_i G 1 (eh_i G 0 4).toNatClampNeg) &&& 255) = true) ∧ ¬ (((eh_i G 1 (eh_i G 0 4).toNatClampNeg) &&& 255) = 59) ∧ ¬ (((eh_i G 1 (eh_i G 0 4).toNatClampNeg) &&& 255) = 40) ∧ ((eh_i G 1 (eh_i G 0 4).toNatClampNeg) &&& 255) = 41 ∧ rs = [] ∧ eh_V h' = eh_u (eh_u (eh_u (eh_u (eh_u G 0 12 (.int (eh_i G 0 4))) 0 13 (.int 0)) 0 11 (.int 3)) 0 14 (.int ((eh_i G 1 (eh_i G 0 4).toNatClampNeg) &&& 255))) 0 4 (.int ((eh_i G 0 4) + 1)) ∧ eh_N h' = eh_N h) ∨ ((eh_i G 0 5).toInt < (eh_i G 0 3).toInt ∧ (eh_i G 0 4).toInt < (eh_i G 0 5).toInt ∧ (eh_i G 0 4).toInt < (eh_i G 0 3).toInt ∧ ¬ (((eh_i G 1 (eh_i G 0 4).toNatClampNeg) &&& 255).toInt < 0) ∧ ¬ (lx_lt ((eh_i G 1 (eh_i G 0 4).toNatClampNeg) &&& 255) = true) ∧ ¬ (lx_dg ((eh_i G 1 (eh_i G 0 4).toNatClampNeg) &&& 255) = true) ∧ ¬ (((eh_i G 1 (eh_i G 0 4).toNatClampNeg) &&& 255) = 59) ∧ ¬ (((eh_i G 1 (eh_i G 0 4).toNatClampNeg) &&& 255) = 40) ∧ ¬ (((eh_i G 1 (eh_i G 0 4).toNatClampNeg) &&& 255) = 41) ∧ ((eh_i G 1 (eh_i G 0 4).toNatClampNeg) &&& 255).toInt < 60 ∧ rs = [] ∧ eh_V h' = eh_u (eh_u (eh_u (eh_u (eh_u G 0 12 (.int (eh_i G 0 4))) 0 13 (.int 0)) 0 11 (.int 4)) 0 14 (.int ((eh_i G 1 (eh_i G 0 4).toNatClampNeg) &&& 255))) 0 4 (.int ((eh_i G 0 4) + 1)) ∧ eh_N h' = eh_N h) ∨ ((eh_i G 0 5).toInt < (eh_i G 0 3).toInt ∧ (eh_i G 0 4).toInt < (eh_i G 0 5).toInt ∧ (eh_i G 0 4).toInt < (eh_i G 0 3).toInt ∧ ¬ (((eh_i G 1 (eh_i G 0 4).toNatClampNeg) &&& 255).toInt < 0) ∧ ¬ (lx_lt ((eh_i G 1 (eh_i G 0 4).toNatClampNeg) &&& 255) = true) ∧ ¬ (lx_dg ((eh_i G 1 (eh_i G 0 4).toNatClampNeg) &&& 255) = true) ∧ ¬ (((eh_i G 1 (eh_i G 0 4).toNatClampNeg) &&& 255) = 59) ∧ ¬ (((eh_i G 1 (eh_i G 0 4).toNatClampNeg) &&& 255) = 40) ∧ ¬ (((eh_i G 1 (eh_i G 0 4).toNatClampNeg) &&& 255) = 41) ∧ ¬ (((eh_i G 1 (eh_i G 0 4).toNatClampNeg) &&& 255).toInt < 60) ∧ 62 < ((eh_i G 1 (eh_i G 0 4).toNatClampNeg) &&& 255).toInt ∧ rs = [] ∧ eh_V h' = eh_u (eh_u (eh_u (eh_u (eh_u G 0 12 (.int (eh_i G 0 4))) 0 13 (.int 0)) 0 11 (.int 4)) 0 14 (.int ((eh_i G 1 (eh_i G 0 4).toNatClampNeg) &&& 255))) 0 4 (.int ((eh_i G 0 4) + 1)) ∧ eh_N h' = eh_N h) ∨ ((eh_i G 0 5).toInt < (eh_i G 0 3).toInt ∧ (eh_i G 0 4).toInt < (eh_i G 0 5).toInt ∧ (eh_i G 0 4).toInt < (eh_i G 0 3).toInt ∧ ¬ (((eh_i G 1 (eh_i G 0 4).toNatClampNeg) &&& 255).toInt < 0) ∧ ¬ (lx_lt ((eh_i G 1 (eh_i G 0 4).toNatClampNeg) &&& 255) = true) ∧ ¬ (lx_dg ((eh_i G 1 (eh_i G 0 4).toNatClampNeg) &&& 255) = true) ∧ ¬ (((eh_i G 1 (eh_i G 0 4).toNatClampNeg) &&& 255) = 59) ∧ ¬ (((eh_i G 1 (eh_i G 0 4).toNatClampNeg) &&& 255) = 40) ∧ ¬ (((eh_i G 1 (eh_i G 0 4).toNatClampNeg) &&& 255) = 41) ∧ ¬ (((eh_i G 1 (eh_i G 0 4).toNatClampNeg) &&& 255).toInt < 60) ∧ ¬ (62 < ((eh_i G 1 (eh_i G 0 4).toNatClampNeg) &&& 255).toInt) ∧ rs = [] ∧ eh_V h' = eh_u (eh_u (eh_u (eh_u (eh_u G 0 12 (.int (eh_i G 0 4))) 0 13 (.int 0)) 0 11 (.int 3)) 0 14 (.int ((eh_i G 1 (eh_i G 0 4).toNatClampNeg) &&& 255))) 0 4 (.int ((eh_i G 0 4) + 1)) ∧ eh_N h' = eh_N h) ∨ ((eh_i G 0 5).toInt < (eh_i G 0 3).toInt ∧ (eh_i G 0 4).toInt < (eh_i G 0 5).toInt ∧ (eh_i G 0 4).toInt < (eh_i G 0 3).toInt ∧ ((eh_i G 1 (eh_i G 0 4).toNatClampNeg) &&& 255).toInt < 0 ∧ rs = [] ∧ eh_V h' = eh_u (eh_u (eh_u G 0 12 (.int (eh_i G 0 4))) 0 13 (.int 0)) 0 11 (.int 0) ∧ eh_N h' = eh_N h) ∨ ((eh_i G 0 5).toInt < (eh_i G 0 3).toInt ∧ ¬ ((eh_i G 0 4).toInt < (eh_i G 0 5).toInt) ∧ rs = [] ∧ eh_V h' = eh_u (eh_u (eh_u (eh_u G 0 12 (.int (eh_i G 0 4))) 0 13 (.int 0)) 0 12 (.int (eh_i G 0 5))) 0 11 (.int 4) ∧ eh_N h' = eh_N h) := by
  have E := E.ld (p := 32) (t := ri_isA) (i := 0) (n := 1) (v := .ref 0) rfl (e := (.aload_n 0, 1, [], .null)) rfl rfl (fun _ _ => rfl) l0 rfl
  have E := E.ld (p := 33) (t := ri_isA) (i := 0) (n := 1) (v := .ref 0) rfl (e := (.aload_n 0, 1, [], .null)) rfl rfl (fun _ _ => rfl) l0 rfl
  have E := E.gi (y := eh_i G 0 4) (p := 36) rfl (x := 21) (m := 3) (w := .null) (t := 12) (i := 4) (u := 1328) rfl rfl hV ty rfl rfl
  obtain ⟨h1, hV2, hN3, E⟩ := E.gp (p := 39) rfl (x := 139) (m := 3) (w := .null) (t := 12) (i := 12) (u := 1336) (y := 0) rfl rfl hV
  have E := E.ld (p := 40) (t := ri_isA) (i := 0) (n := 1) (v := .ref 0) rfl (e := (.aload_n 0, 1, [], .null)) rfl rfl (fun _ _ => rfl) l0 rfl
  have E := E.pu (p := 41) (lo' := lo) (st' := [.int 0, .ref 0]) rfl (e := (.iconst 0, 1, [], .null)) rfl rfl (fun _ _ => rfl)
  obtain ⟨h4, hV5, hN6, E⟩ := E.gp (p := 44) rfl (x := 142) (m := 3) (w := .null) (t := 12) (i := 13) (u := 1337) (y := 0) rfl rfl hV2
  have E := E.ld (p := 45) (t := ri_isA) (i := 0) (n := 1) (v := .ref 0) rfl (e := (.aload_n 0, 1, [], .null)) rfl rfl (fun _ _ => rfl) l0 rfl
  have E := E.gi (y := eh_i G 0 3) (p := 48) rfl (x := 18) (m := 3) (w := .null) (t := 12) (i := 3) (u := 1327) rfl rfl hV5 ((ty.ui rfl).ui rfl) rfl rfl
  have E := E.ld (p := 49) (t := ri_isA) (i := 0) (n := 1) (v := .ref 0) rfl (e := (.aload_n 0, 1, [], .null)) rfl rfl (fun _ _ => rfl) l0 rfl
  have E := E.gi (y := eh_i G 0 5) (p := 52) rfl (x := 24) (m := 3) (w := .null) (t := 12) (i := 5) (u := 1329) rfl rfl hV5 ((ty.ui rfl).ui rfl) rfl rfl
  rcases eh_r5 rfl rfl (E.br (p := 55) (c := 5) (tgt := 80) (a := eh_i G 0 3) (b := eh_i G 0 5) (st' := []) rfl (e := (.if_icmp .le 28, 3, [80], .null)) rfl rfl (fun _ _ => rfl) rfl) with ⟨c7, E⟩ | ⟨c7, E⟩
  · skip
    have E := E.ld (p := 81) (t := ri_isA) (i := 0) (n := 1) (v := .ref 0) rfl (e := (.aload_n 0, 1, [], .null)) rfl rfl (fun _ _ => rfl) l0 rfl
    obtain ⟨v1, h8, X, E⟩ := E.cv (p := 84) (as := []) (b := 0) (r := []) rfl (x := 135) (m := 3) (w := .null) (j := 155) (n := 0) (t := 12) (u := [1482, 36, 1484]) rfl rfl rfl
    rcases sp_155 (d := d) X hV5 ((ty.ui rfl).ui rfl) with ⟨c9, rfl, hV10, hN11⟩ | ⟨c12, rfl, hV13, hN14⟩
    · skip
      have c9 : ¬ ((eh_i G 0 4).toInt < (eh_i G 0 3).toInt) := c9
      have E : eh_e _ _ 84 lo [.int (-1)] _ rs h' := E
      have E := E.so (p := 85) (t := ri_isI) (i := 1) (n := 1) rfl (e := (.istore_n 1, 1, [], .null)) rfl rfl (fun _ _ => rfl) rfl
      have k15_1 : ri_lk (ri_st1 lo 1 (.int (-1))) 1 = some (.int (-1)) := eh_self
      have k15_0 : ri_lk (ri_st1 lo 1 (.int (-1))) 0 = some (.ref 0) := eh_keep (by decide) (Or.inl rfl) l0
      have E := E.ld (p := 86) (t := ri_isI) (i := 1) (n := 1) (v := .int (-1)) rfl (e := (.iload_n 1, 1, [], .null)) rfl rfl (fun _ _ => rfl) k15_1 rfl
      have E := E.brf (p := 89) (c := 3) (tgt := 95) (a := (-1)) (b := 0) (st' := []) rfl (e := (.ifCond .ge 9, 3, [95], .null)) rfl rfl (fun _ _ => rfl) (by decide) rfl
      have E := E.ld (p := 90) (t := ri_isA) (i := 0) (n := 1) (v := .ref 0) rfl (e := (.aload_n 0, 1, [], .null)) rfl rfl (fun _ _ => rfl) k15_0 rfl
      have E := E.pu (p := 91) (lo' := (ri_st1 lo 1 (.int (-1)))) (st' := [.int 0, .ref 0]) rfl (e := (.iconst 0, 1, [], .null)) rfl rfl (fun _ _ => rfl)
      obtain ⟨h16, hV17, hN18, E⟩ := E.gp (p := 94) rfl (x := 145) (m := 3) (w := .null) (t := 12) (i := 11) (u := 1335) (y := 0) rfl rfl hV10
      obtain ⟨r1, r2⟩ := E.retv rfl (m := 1) (ax := []) (w := .null) rfl
      exact Or.inl ⟨c7, c9, r1, ((congrArg eh_V r2).trans hV17), ((congrArg eh_N r2).trans (hN18.trans (hN11.trans (hN6.trans hN3))))⟩
    · skip
      have c12 : (eh_i G 0 4).toInt < (eh_i G 0 3).toInt := c12
      have E : eh_e _ _ 84 lo [.int ((eh_i G 1 (eh_i G 0 4).toNatClampNeg) &&& 255)] _ rs h' := E
      have E := E.so (p := 85) (t := ri_isI) (i := 1) (n := 1) rfl (e := (.istore_n 1, 1, [], .null)) rfl rfl (fun _ _ => rfl) rfl
      have k19_1 : ri_lk (ri_st1 lo 1 (.int ((eh_i G 1 (eh_i G 0 4).toNatClampNeg) &&& 255))) 1 = some (.int ((eh_i G 1 (eh_i G 0 4).toNatClampNeg) &&& 255)) := eh_self
      have k19_0 : ri_lk (ri_st1 lo 1 (.int ((eh_i G 1 (eh_i G 0 4).toNatClampNeg) &&& 255))) 0 = some (.ref 0) := eh_keep (by decide) (Or.inl rfl) l0
      have E := E.ld (p := 86) (t := ri_isI) (i := 1) (n := 1) (v := .int ((eh_i G 1 (eh_i G 0 4).toNatClampNeg) &&& 255)) rfl (e := (.iload_n 1, 1, [], .null)) rfl rfl (fun _ _ => rfl) k19_1 rfl
      rcases eh_r3 rfl (show (0 : Int32).toInt = 0 by decide) (E.br (p := 89) (c := 3) (tgt := 95) (a := (eh_i G 1 (eh_i G 0 4).toNatClampNeg) &&& 255) (b := 0) (st' := []) rfl (e := (.ifCond .ge 9, 3, [95], .null)) rfl rfl (fun _ _ => rfl) rfl) with ⟨c20, E⟩ | ⟨c20, E⟩
      · skip
        have E := E.ld (p := 96) (t := ri_isI) (i := 1) (n := 1) (v := .int ((eh_i G 1 (eh_i G 0 4).toNatClampNeg) &&& 255)) rfl (e := (.iload_n 1, 1, [], .null)) rfl rfl (fun _ _ => rfl) k19_1 rfl
        obtain ⟨v1, h21, X, E⟩ := E.cs (p := 99) (as := [.int ((eh_i G 1 (eh_i G 0 4).toNatClampNeg) &&& 255)]) (r := []) rfl (x := 148) (m := 3) (w := .null) (j := 156) (n := 1) (t := 0) (u := [1486, 1487]) rfl rfl rfl
        rcases sp_156 (d := d) X hV13 ((ty.ui rfl).ui rfl) with ⟨c22, rfl, hV23, hN24⟩ | ⟨c25, rfl, hV26, hN27⟩
        · skip
          have c22 : lx_lt ((eh_i G 1 (eh_i G 0 4).toNatClampNeg) &&& 255) = true := c22
          have E : eh_e _ _ 99 (ri_st1 lo 1 (.int ((eh_i G 1 (eh_i G 0 4).toNatClampNeg) &&& 255))) [.int 1] _ rs h' := E
          have E := E.brt (c := 1) (tgt := 164) (a := 1) (b := 0) (st' := []) rfl (e := (.ifCond .ne 65, 3, [164], .null)) rfl rfl (fun _ _ => rfl) (by decide)
          have E := E.ld (p := 165) (t := ri_isI) (i := 1) (n := 1) (v := .int ((eh_i G 1 (eh_i G 0 4).toNatClampNeg) &&& 255)) rfl (e := (.iload_n 1, 1, [], .null)) rfl rfl (fun _ _ => rfl) k19_1 rfl
          obtain ⟨v1, h28, X, E⟩ := E.cs (p := 168) (as := [.int ((eh_i G 1 (eh_i G 0 4).toNatClampNeg) &&& 255)]) (r := []) rfl (x := 148) (m := 3) (w := .null) (j := 156) (n := 1) (t := 0) (u := [1486, 1487]) rfl rfl rfl
          rcases sp_156 (d := d) X hV23 ((ty.ui rfl).ui rfl) with ⟨c29, rfl, hV30, hN31⟩ | ⟨c32, rfl, hV33, hN34⟩
          · skip
            have E : eh_e _ _ 168 (ri_st1 lo 1 (.int ((eh_i G 1 (eh_i G 0 4).toNatClampNeg) &&& 255))) [.int 1] _ rs h' := E
            have E := E.so (p := 169) (t := ri_isI) (i := 2) (n := 1) rfl (e := (.istore_n 2, 1, [], .null)) rfl rfl (fun _ _ => rfl) rfl
            have k35_2 : ri_lk (ri_st1 (ri_st1 lo 1 (.int ((eh_i G 1 (eh_i G 0 4).toNatClampNeg) &&& 255))) 2 (.int 1)) 2 = some (.int 1) := eh_self
            have k35_0 : ri_lk (ri_st1 (ri_st1 lo 1 (.int ((eh_i G 1 (eh_i G 0 4).toNatClampNeg) &&& 255))) 2 (.int 1)) 0 = some (.ref 0) := eh_keep (by decide) (Or.inl rfl) k19_0
            have k35_1 : ri_lk (ri_st1 (ri_st1 lo 1 (.int ((eh_i G 1 (eh_i G 0 4).toNatClampNeg) &&& 255))) 2 (.int 1)) 1 = some (.int ((eh_i G 1 (eh_i G 0 4).toNatClampNeg) &&& 255)) := eh_keep (by decide) (Or.inl rfl) k19_1
            have E := E.pu (p := 170) (lo' := (ri_st1 (ri_st1 lo 1 (.int ((eh_i G 1 (eh_i G 0 4).toNatClampNeg) &&& 255))) 2 (.int 1))) (st' := [.int 1]) rfl (e := (.iconst 1, 1, [], .null)) rfl rfl (fun _ _ => rfl)
            have E := E.so (p := 171) (t := ri_isI) (i := 3) (n := 1) rfl (e := (.istore_n 3, 1, [], .null)) rfl rfl (fun _ _ => rfl) rfl
            have k36_3 : ri_lk (ri_st1 (ri_st1 (ri_st1 lo 1 (.int ((eh_i G 1 (eh_i G 0 4).toNatClampNeg) &&& 255))) 2 (.int 1)) 3 (.int 1)) 3 = some (.int 1) := eh_self
            have k36_0 : ri_lk (ri_st1 (ri_st1 (ri_st1 lo 1 (.int ((eh_i G 1 (eh_i G 0 4).toNatClampNeg) &&& 255))) 2 (.int 1)) 3 (.int 1)) 0 = some (.ref 0) := eh_keep (by decide) (Or.inl rfl) k35_0
            have k36_1 : ri_lk (ri_st1 (ri_st1 (ri_st1 lo 1 (.int ((eh_i G 1 (eh_i G 0 4).toNatClampNeg) &&& 255))) 2 (.int 1)) 3 (.int 1)) 1 = some (.int ((eh_i G 1 (eh_i G 0 4).toNatClampNeg) &&& 255)) := eh_keep (by decide) (Or.inl rfl) k35_1
            have k36_2 : ri_lk (ri_st1 (ri_st1 (ri_st1 lo 1 (.int ((eh_i G 1 (eh_i G 0 4).toNatClampNeg) &&& 255))) 2 (.int 1)) 3 (.int 1)) 2 = some (.int 1) := eh_keep (by decide) (Or.inl rfl) k35_2
            have E := E.ld (p := 172) (t := ri_isA) (i := 0) (n := 1) (v := .ref 0) rfl (e := (.aload_n 0, 1, [], .null)) rfl rfl (fun _ _ => rfl) k36_0 rfl
            have E := E.pu (p := 173) (lo' := (ri_st1 (ri_st1 (ri_st1 lo 1 (.int ((eh_i G 1 (eh_i G 0 4).toNatClampNeg) &&& 255))) 2 (.int 1)) 3 (.int 1))) (st' := [.long 0, .ref 0]) rfl (e := (.lconst 0, 1, [], .null)) rfl rfl (fun _ _ => rfl)
            obtain ⟨h37, hV38, hN39, E⟩ := E.gp (p := 176) rfl (x := 158) (m := 3) (w := .null) (t := 12) (i := 17) (u := 1341) (y := 2) rfl rfl hV30
            have E := E.ld (p := 177) (t := ri_isA) (i := 0) (n := 1) (v := .ref 0) rfl (e := (.aload_n 0, 1, [], .null)) rfl rfl (fun _ _ => rfl) k36_0 rfl
            have E := E.pu (p := 178) (lo' := (ri_st1 (ri_st1 (ri_st1 lo 1 (.int ((eh_i G 1 (eh_i G 0 4).toNatClampNeg) &&& 255))) 2 (.int 1)) 3 (.int 1))) (st' := [.int 0, .ref 0]) rfl (e := (.iconst 0, 1, [], .null)) rfl rfl (fun _ _ => rfl)
            obtain ⟨h40, hV41, hN42, E⟩ := E.gp (p := 181) rfl (x := 155) (m := 3) (w := .null) (t := 12) (i := 14) (u := 1338) (y := 0) rfl rfl hV38
            exact Or.inr (Or.inl ⟨c7, c12, c20, c22, _, _, E, hV41, (hN42.trans (hN39.trans (hN31.trans (hN24.trans (hN14.trans (hN6.trans hN3)))))), ((((ty.ui rfl).ui rfl).ul rfl).ui rfl), k36_0, k36_1, k36_2, k36_3⟩)
          · skip
            exact absurd c22 c32
        · skip
          have c25 : ¬ (lx_lt ((eh_i G 1 (eh_i G 0 4).toNatClampNeg) &&& 255) = true) := c25
          have E : eh_e _ _ 99 (ri_st1 lo 1 (.int ((eh_i G 1 (eh_i G 0 4).toNatClampNeg) &&& 255))) [.int 0] _ rs h' := E
          have E := E.brf (p := 102) (c := 1) (tgt := 164) (a := 0) (b := 0) (st' := []) rfl (e := (.ifCond .ne 65, 3, [164], .null)) rfl rfl (fun _ _ => rfl) (by decide) rfl
          have E := E.ld (p := 103) (t := ri_isI) (i := 1) (n := 1) (v := .int ((eh_i G 1 (eh_i G 0 4).toNatClampNeg) &&& 255)) rfl (e := (.iload_n 1, 1, [], .null)) rfl rfl (fun _ _ => rfl) k19_1 rfl
          obtain ⟨v1, h43, X, E⟩ := E.cs (p := 106) (as := [.int ((eh_i G 1 (eh_i G 0 4).toNatClampNeg) &&& 255)]) (r := []) rfl (x := 152) (m := 3) (w := .null) (j := 157) (n := 1) (t := 0) (u := [1489, 1490]) rfl rfl rfl
          rcases sp_157 (d := d) X hV26 ((ty.ui rfl).ui rfl) with ⟨c44, rfl, hV45, hN46⟩ | ⟨c47, rfl, hV48, hN49⟩
          · skip
            have c44 : lx_dg ((eh_i G 1 (eh_i G 0 4).toNatClampNeg) &&& 255) = true := c44
            have E : eh_e _ _ 106 (ri_st1 lo 1 (.int ((eh_i G 1 (eh_i G 0 4).toNatClampNeg) &&& 255))) [.int 1] _ rs h' := E
            have E := E.brt (c := 1) (tgt := 164) (a := 1) (b := 0) (st' := []) rfl (e := (.ifCond .ne 58, 3, [164], .null)) rfl rfl (fun _ _ => rfl) (by decide)
            have E := E.ld (p := 165) (t := ri_isI) (i := 1) (n := 1) (v := .int ((eh_i G 1 (eh_i G 0 4).toNatClampNeg) &&& 255)) rfl (e := (.iload_n 1, 1, [], .null)) rfl rfl (fun _ _ => rfl) k19_1 rfl
            obtain ⟨v1, h50, X, E⟩ := E.cs (p := 168) (as := [.int ((eh_i G 1 (eh_i G 0 4).toNatClampNeg) &&& 255)]) (r := []) rfl (x := 148) (m := 3) (w := .null) (j := 156) (n := 1) (t := 0) (u := [1486, 1487]) rfl rfl rfl
            rcases sp_156 (d := d) X hV45 ((ty.ui rfl).ui rfl) with ⟨c51, rfl, hV52, hN53⟩ | ⟨c54, rfl, hV55, hN56⟩
            · skip
              exact absurd c51 c25
            · skip
              have E : eh_e _ _ 168 (ri_st1 lo 1 (.int ((eh_i G 1 (eh_i G 0 4).toNatClampNeg) &&& 255))) [.int 0] _ rs h' := E
              have E := E.so (p := 169) (t := ri_isI) (i := 2) (n := 1) rfl (e := (.istore_n 2, 1, [], .null)) rfl rfl (fun _ _ => rfl) rfl
              have k57_2 : ri_lk (ri_st1 (ri_st1 lo 1 (.int ((eh_i G 1 (eh_i G 0 4).toNatClampNeg) &&& 255))) 2 (.int 0)) 2 = some (.int 0) := eh_self
              have k57_0 : ri_lk (ri_st1 (ri_st1 lo 1 (.int ((eh_i G 1 (eh_i G 0 4).toNatClampNeg) &&& 255))) 2 (.int 0)) 0 = some (.ref 0) := eh_keep (by decide) (Or.inl rfl) k19_0
              have k57_1 : ri_lk (ri_st1 (ri_st1 lo 1 (.int ((eh_i G 1 (eh_i G 0 4).toNatClampNeg) &&& 255))) 2 (.int 0)) 1 = some (.int ((eh_i G 1 (eh_i G 0 4).toNatClampNeg) &&& 255)) := eh_keep (by decide) (Or.inl rfl) k19_1
              have E := E.pu (p := 170) (lo' := (ri_st1 (ri_st1 lo 1 (.int ((eh_i G 1 (eh_i G 0 4).toNatClampNeg) &&& 255))) 2 (.int 0))) (st' := [.int 1]) rfl (e := (.iconst 1, 1, [], .null)) rfl rfl (fun _ _ => rfl)
              have E := E.so (p := 171) (t := ri_isI) (i := 3) (n := 1) rfl (e := (.istore_n 3, 1, [], .null)) rfl rfl (fun _ _ => rfl) rfl
              have k58_3 : ri_lk (ri_st1 (ri_st1 (ri_st1 lo 1 (.int ((eh_i G 1 (eh_i G 0 4).toNatClampNeg) &&& 255))) 2 (.int 0)) 3 (.int 1)) 3 = some (.int 1) := eh_self
              have k58_0 : ri_lk (ri_st1 (ri_st1 (ri_st1 lo 1 (.int ((eh_i G 1 (eh_i G 0 4).toNatClampNeg) &&& 255))) 2 (.int 0)) 3 (.int 1)) 0 = some (.ref 0) := eh_keep (by decide) (Or.inl rfl) k57_0
              have k58_1 : ri_lk (ri_st1 (ri_st1 (ri_st1 lo 1 (.int ((eh_i G 1 (eh_i G 0 4).toNatClampNeg) &&& 255))) 2 (.int 0)) 3 (.int 1)) 1 = some (.int ((eh_i G 1 (eh_i G 0 4).toNatClampNeg) &&& 255)) := eh_keep (by decide) (Or.inl rfl) k57_1
              have k58_2 : ri_lk (ri_st1 (ri_st1 (ri_st1 lo 1 (.int ((eh_i G 1 (eh_i G 0 4).toNatClampNeg) &&& 255))) 2 (.int 0)) 3 (.int 1)) 2 = some (.int 0) := eh_keep (by decide) (Or.inl rfl) k57_2
              have E := E.ld (p := 172) (t := ri_isA) (i := 0) (n := 1) (v := .ref 0) rfl (e := (.aload_n 0, 1, [], .null)) rfl rfl (fun _ _ => rfl) k58_0 rfl
              have E := E.pu (p := 173) (lo' := (ri_st1 (ri_st1 (ri_st1 lo 1 (.int ((eh_i G 1 (eh_i G 0 4).toNatClampNeg) &&& 255))) 2 (.int 0)) 3 (.int 1))) (st' := [.long 0, .ref 0]) rfl (e := (.lconst 0, 1, [], .null)) rfl rfl (fun _ _ => rfl)
              obtain ⟨h59, hV60, hN61, E⟩ := E.gp (p := 176) rfl (x := 158) (m := 3) (w := .null) (t := 12) (i := 17) (u := 1341) (y := 2) rfl rfl hV55
              have E := E.ld (p := 177) (t := ri_isA) (i := 0) (n := 1) (v := .ref 0) rfl (e := (.aload_n 0, 1, [], .null)) rfl rfl (fun _ _ => rfl) k58_0 rfl
              have E := E.pu (p := 178) (lo' := (ri_st1 (ri_st1 (ri_st1 lo 1 (.int ((eh_i G 1 (eh_i G 0 4).toNatClampNeg) &&& 255))) 2 (.int 0)) 3 (.int 1))) (st' := [.int 0, .ref 0]) rfl (e := (.iconst 0, 1, [], .null)) rfl rfl (fun _ _ => rfl)
              obtain ⟨h62, hV63, hN64, E⟩ := E.gp (p := 181) rfl (x := 155) (m := 3) (w := .null) (t := 12) (i := 14) (u := 1338) (y := 0) rfl rfl hV60
              exact Or.inr (Or.inr (Or.inl ⟨c7, c12, c20, c25, c44, _, _, E, hV63, (hN64.trans (hN61.trans (hN56.trans (hN46.trans (hN27.trans (hN14.trans (hN6.trans hN3))))))), ((((ty.ui rfl).ui rfl).ul rfl).ui rfl), k58_0, k58_1, k58_2, k58_3⟩))
          · skip
            have c47 : ¬ (lx_dg ((eh_i G 1 (eh_i G 0 4).toNatClampNeg) &&& 255) = true) := c47
            have E : eh_e _ _ 106 (ri_st1 lo 1 (.int ((eh_i G 1 (eh_i G 0 4).toNatClampNeg) &&& 255))) [.int 0] _ rs h' := E
            have E := E.brf (p := 109) (c := 1) (tgt := 164) (a := 0) (b := 0) (st' := []) rfl (e := (.ifCond .ne 58, 3, [164], .null)) rfl rfl (fun _ _ => rfl) (by decide) rfl
            have E := E.ld (p := 110) (t := ri_isA) (i := 0) (n := 1) (v := .ref 0) rfl (e := (.aload_n 0, 1, [], .null)) rfl rfl (fun _ _ => rfl) k19_0 rfl
            have E := E.ld (p := 111) (t := ri_isI) (i := 1) (n := 1) (v := .int ((eh_i G 1 (eh_i G 0 4).toNatClampNeg) &&& 255)) rfl (e := (.iload_n 1, 1, [], .null)) rfl rfl (fun _ _ => rfl) k19_1 rfl
            have E := E.pu (p := 113) (lo' := (ri_st1 lo 1 (.int ((eh_i G 1 (eh_i G 0 4).toNatClampNeg) &&& 255)))) (st' := [.int 59, .int ((eh_i G 1 (eh_i G 0 4).toNatClampNeg) &&& 255), .ref 0]) rfl (e := (.bipush 59, 2, [], .null)) rfl rfl (fun _ _ => rfl)
            rcases eh_q0 (E.br (p := 116) (c := 0) (tgt := 140) (a := (eh_i G 1 (eh_i G 0 4).toNatClampNeg) &&& 255) (b := 59) (st' := [.ref 0]) rfl (e := (.if_icmp .eq 27, 3, [140], .null)) rfl rfl (fun _ _ => rfl) rfl) with ⟨c65, E⟩ | ⟨c65, E⟩
            · skip
              have E := E.pu (p := 141) (lo' := (ri_st1 lo 1 (.int ((eh_i G 1 (eh_i G 0 4).toNatClampNeg) &&& 255)))) (st' := [.int 3, .ref 0]) rfl (e := (.iconst 3, 1, [], .null)) rfl rfl (fun _ _ => rfl)
              have E := E.pu (p := 145) (lo' := (ri_st1 lo 1 (.int ((eh_i G 1 (eh_i G 0 4).toNatClampNeg) &&& 255)))) (st' := [.int 3, .ref 0]) rfl (e := (.goto 4, 3, [145], .null)) rfl rfl (fun _ _ => rfl)
              obtain ⟨h66, hV67, hN68, E⟩ := E.gp (p := 148) rfl (x := 145) (m := 3) (w := .null) (t := 12) (i := 11) (u := 1335) (y := 0) rfl rfl hV48
              have E := E.ld (p := 149) (t := ri_isA) (i := 0) (n := 1) (v := .ref 0) rfl (e := (.aload_n 0, 1, [], .null)) rfl rfl (fun _ _ => rfl) k19_0 rfl
              have E := E.ld (p := 150) (t := ri_isI) (i := 1) (n := 1) (v := .int ((eh_i G 1 (eh_i G 0 4).toNatClampNeg) &&& 255)) rfl (e := (.iload_n 1, 1, [], .null)) rfl rfl (fun _ _ => rfl) k19_1 rfl
              obtain ⟨h69, hV70, hN71, E⟩ := E.gp (p := 153) rfl (x := 155) (m := 3) (w := .null) (t := 12) (i := 14) (u := 1338) (y := 0) rfl rfl hV67
              have E := E.ld (p := 154) (t := ri_isA) (i := 0) (n := 1) (v := .ref 0) rfl (e := (.aload_n 0, 1, [], .null)) rfl rfl (fun _ _ => rfl) k19_0 rfl
              have E := E.pu (p := 155) (lo' := (ri_st1 lo 1 (.int ((eh_i G 1 (eh_i G 0 4).toNatClampNeg) &&& 255)))) (st' := [.ref 0, .ref 0]) rfl (e := (.dup, 1, [], .null)) rfl rfl (fun _ _ => rfl)
              have E := E.gi (y := eh_i G 0 4) (p := 158) rfl (x := 21) (m := 3) (w := .null) (t := 12) (i := 4) (u := 1328) rfl rfl hV70 ((((ty.ui rfl).ui rfl).ui rfl).ui rfl) rfl rfl
              have E := E.pu (p := 159) (lo' := (ri_st1 lo 1 (.int ((eh_i G 1 (eh_i G 0 4).toNatClampNeg) &&& 255)))) (st' := [.int 1, .int (eh_i G 0 4), .ref 0]) rfl (e := (.iconst 1, 1, [], .null)) rfl rfl (fun _ _ => rfl)
              have E := E.pu (p := 160) (lo' := (ri_st1 lo 1 (.int ((eh_i G 1 (eh_i G 0 4).toNatClampNeg) &&& 255)))) (st' := [.int ((eh_i G 0 4) + 1), .ref 0]) rfl (e := (.iadd, 1, [], .null)) rfl rfl (fun _ _ => rfl)
              obtain ⟨h72, hV73, hN74, E⟩ := E.gp (p := 163) rfl (x := 21) (m := 3) (w := .null) (t := 12) (i := 4) (u := 1328) (y := 0) rfl rfl hV70
              obtain ⟨r1, r2⟩ := E.retv rfl (m := 1) (ax := []) (w := .null) rfl
              exact Or.inr (Or.inr (Or.inr (Or.inl ⟨c7, c12, c20, c25, c47, c65, r1, ((congrArg eh_V r2).trans hV73), ((congrArg eh_N r2).trans (hN74.trans (hN71.trans (hN68.trans (hN49.trans (hN27.trans (hN14.trans (hN6.trans hN3))))))))⟩)))
            · skip
              have E := E.ld (p := 117) (t := ri_isI) (i := 1) (n := 1) (v := .int ((eh_i G 1 (eh_i G 0 4).toNatClampNeg) &&& 255)) rfl (e := (.iload_n 1, 1, [], .null)) rfl rfl (fun _ _ => rfl) k19_1 rfl
              have E := E.pu (p := 119) (lo' := (ri_st1 lo 1 (.int ((eh_i G 1 (eh_i G 0 4).toNatClampNeg) &&& 255)))) (st' := [.int 40, .int ((eh_i G 1 (eh_i G 0 4).toNatClampNeg) &&& 255), .ref 0]) rfl (e := (.bipush 40, 2, [], .null)) rfl rfl (fun _ _ => rfl)
              rcases eh_q0 (E.br (p := 122) (c := 0) (tgt := 140) (a := (eh_i G 1 (eh_i G 0 4).toNatClampNeg) &&& 255) (b := 40) (st' := [.ref 0]) rfl (e := (.if_icmp .eq 21, 3, [140], .null)) rfl rfl (fun _ _ => rfl) rfl) with ⟨c75, E⟩ | ⟨c75, E⟩
              · skip
                have E := E.pu (p := 141) (lo' := (ri_st1 lo 1 (.int ((eh_i G 1 (eh_i G 0 4).toNatClampNeg) &&& 255)))) (st' := [.int 3, .ref 0]) rfl (e := (.iconst 3, 1, [], .null)) rfl rfl (fun _ _ => rfl)
                have E := E.pu (p := 145) (lo' := (ri_st1 lo 1 (.int ((eh_i G 1 (eh_i G 0 4).toNatClampNeg) &&& 255)))) (st' := [.int 3, .ref 0]) rfl (e := (.goto 4, 3, [145], .null)) rfl rfl (fun _ _ => rfl)
                obtain ⟨h76, hV77, hN78, E⟩ := E.gp (p := 148) rfl (x := 145) (m := 3) (w := .null) (t := 12) (i := 11) (u := 1335) (y := 0) rfl rfl hV48
                have E := E.ld (p := 149) (t := ri_isA) (i := 0) (n := 1) (v := .ref 0) rfl (e := (.aload_n 0, 1, [], .null)) rfl rfl (fun _ _ => rfl) k19_0 rfl
                have E := E.ld (p := 150) (t := ri_isI) (i := 1) (n := 1) (v := .int ((eh_i G 1 (eh_i G 0 4).toNatClampNeg) &&& 255)) rfl (e := (.iload_n 1, 1, [], .null)) rfl rfl (fun _ _ => rfl) k19_1 rfl
                obtain ⟨h79, hV80, hN81, E⟩ := E.gp (p := 153) rfl (x := 155) (m := 3) (w := .null) (t := 12) (i := 14) (u := 1338) (y := 0) rfl rfl hV77
                have E := E.ld (p := 154) (t := ri_isA) (i := 0) (n := 1) (v := .ref 0) rfl (e := (.aload_n 0, 1, [], .null)) rfl rfl (fun _ _ => rfl) k19_0 rfl
                have E := E.pu (p := 155) (lo' := (ri_st1 lo 1 (.int ((eh_i G 1 (eh_i G 0 4).toNatClampNeg) &&& 255)))) (st' := [.ref 0, .ref 0]) rfl (e := (.dup, 1, [], .null)) rfl rfl (fun _ _ => rfl)
                have E := E.gi (y := eh_i G 0 4) (p := 158) rfl (x := 21) (m := 3) (w := .null) (t := 12) (i := 4) (u := 1328) rfl rfl hV80 ((((ty.ui rfl).ui rfl).ui rfl).ui rfl) rfl rfl
                have E := E.pu (p := 159) (lo' := (ri_st1 lo 1 (.int ((eh_i G 1 (eh_i G 0 4).toNatClampNeg) &&& 255)))) (st' := [.int 1, .int (eh_i G 0 4), .ref 0]) rfl (e := (.iconst 1, 1, [], .null)) rfl rfl (fun _ _ => rfl)
                have E := E.pu (p := 160) (lo' := (ri_st1 lo 1 (.int ((eh_i G 1 (eh_i G 0 4).toNatClampNeg) &&& 255)))) (st' := [.int ((eh_i G 0 4) + 1), .ref 0]) rfl (e := (.iadd, 1, [], .null)) rfl rfl (fun _ _ => rfl)
                obtain ⟨h82, hV83, hN84, E⟩ := E.gp (p := 163) rfl (x := 21) (m := 3) (w := .null) (t := 12) (i := 4) (u := 1328) (y := 0) rfl rfl hV80
                obtain ⟨r1, r2⟩ := E.retv rfl (m := 1) (ax := []) (w := .null) rfl
                exact Or.inr (Or.inr (Or.inr (Or.inr (Or.inl ⟨c7, c12, c20, c25, c47, c65, c75, r1, ((congrArg eh_V r2).trans hV83), ((congrArg eh_N r2).trans (hN84.trans (hN81.trans (hN78.trans (hN49.trans (hN27.trans (hN14.trans (hN6.trans hN3))))))))⟩))))
              · skip
                have E := E.ld (p := 123) (t := ri_isI) (i := 1) (n := 1) (v := .int ((eh_i G 1 (eh_i G 0 4).toNatClampNeg) &&& 255)) rfl (e := (.iload_n 1, 1, [], .null)) rfl rfl (fun _ _ => rfl) k19_1 rfl
                have E := E.pu (p := 125) (lo' := (ri_st1 lo 1 (.int ((eh_i G 1 (eh_i G 0 4).toNatClampNeg) &&& 255)))) (st' := [.int 41, .int ((eh_i G 1 (eh_i G 0 4).toNatClampNeg) &&& 255), .ref 0]) rfl (e := (.bipush 41, 2, [], .null)) rfl rfl (fun _ _ => rfl)
                rcases eh_q0 (E.br (p := 128) (c := 0) (tgt := 140) (a := (eh_i G 1 (eh_i G 0 4).toNatClampNeg) &&& 255) (b := 41) (st' := [.ref 0]) rfl (e := (.if_icmp .eq 15, 3, [140], .null)) rfl rfl (fun _ _ => rfl) rfl) with ⟨c85, E⟩ | ⟨c85, E⟩
                · skip
                  have E := E.pu (p := 141) (lo' := (ri_st1 lo 1 (.int ((eh_i G 1 (eh_i G 0 4).toNatClampNeg) &&& 255)))) (st' := [.int 3, .ref 0]) rfl (e := (.iconst 3, 1, [], .null)) rfl rfl (fun _ _ => rfl)
                  have E := E.pu (p := 145) (lo' := (ri_st1 lo 1 (.int ((eh_i G 1 (eh_i G 0 4).toNatClampNeg) &&& 255)))) (st' := [.int 3, .ref 0]) rfl (e := (.goto 4, 3, [145], .null)) rfl rfl (fun _ _ => rfl)
                  obtain ⟨h86, hV87, hN88, E⟩ := E.gp (p := 148) rfl (x := 145) (m := 3) (w := .null) (t := 12) (i := 11) (u := 1335) (y := 0) rfl rfl hV48
                  have E := E.ld (p := 149) (t := ri_isA) (i := 0) (n := 1) (v := .ref 0) rfl (e := (.aload_n 0, 1, [], .null)) rfl rfl (fun _ _ => rfl) k19_0 rfl
                  have E := E.ld (p := 150) (t := ri_isI) (i := 1) (n := 1) (v := .int ((eh_i G 1 (eh_i G 0 4).toNatClampNeg) &&& 255)) rfl (e := (.iload_n 1, 1, [], .null)) rfl rfl (fun _ _ => rfl) k19_1 rfl
                  obtain ⟨h89, hV90, hN91, E⟩ := E.gp (p := 153) rfl (x := 155) (m := 3) (w := .null) (t := 12) (i := 14) (u := 1338) (y := 0) rfl rfl hV87
                  have E := E.ld (p := 154) (t := ri_isA) (i := 0) (n := 1) (v := .ref 0) rfl (e := (.aload_n 0, 1, [], .null)) rfl rfl (fun _ _ => rfl) k19_0 rfl
                  have E := E.pu (p := 155) (lo' := (ri_st1 lo 1 (.int ((eh_i G 1 (eh_i G 0 4).toNatClampNeg) &&& 255)))) (st' := [.ref 0, .ref 0]) rfl (e := (.dup, 1, [], .null)) rfl rfl (fun _ _ => rfl)
                  have E := E.gi (y := eh_i G 0 4) (p := 158) rfl (x := 21) (m := 3) (w := .null) (t := 12) (i := 4) (u := 1328) rfl rfl hV90 ((((ty.ui rfl).ui rfl).ui rfl).ui rfl) rfl rfl
                  have E := E.pu (p := 159) (lo' := (ri_st1 lo 1 (.int ((eh_i G 1 (eh_i G 0 4).toNatClampNeg) &&& 255)))) (st' := [.int 1, .int (eh_i G 0 4), .ref 0]) rfl (e := (.iconst 1, 1, [], .null)) rfl rfl (fun _ _ => rfl)
                  have E := E.pu (p := 160) (lo' := (ri_st1 lo 1 (.int ((eh_i G 1 (eh_i G 0 4).toNatClampNeg) &&& 255)))) (st' := [.int ((eh_i G 0 4) + 1), .ref 0]) rfl (e := (.iadd, 1, [], .null)) rfl rfl (fun _ _ => rfl)
                  obtain ⟨h92, hV93, hN94, E⟩ := E.gp (p := 163) rfl (x := 21) (m := 3) (w := .null) (t := 12) (i := 4) (u := 1328) (y := 0) rfl rfl hV90
                  obtain ⟨r1, r2⟩ := E.retv rfl (m := 1) (ax := []) (w := .null) rfl
                  exact Or.inr (Or.inr (Or.inr (Or.inr (Or.inr (Or.inl ⟨c7, c12, c20, c25, c47, c65, c75, c85, r1, ((congrArg eh_V r2).trans hV93), ((congrArg eh_N r2).trans (hN94.trans (hN91.trans (hN88.trans (hN49.trans (hN27.trans (hN14.trans (hN6.trans hN3))))))))⟩)))))
                · skip
                  have E := E.ld (p := 129) (t := ri_isI) (i := 1) (n := 1) (v := .int ((eh_i G 1 (eh_i G 0 4).toNatClampNeg) &&& 255)) rfl (e := (.iload_n 1, 1, [], .null)) rfl rfl (fun _ _ => rfl) k19_1 rfl
                  have E := E.pu (p := 131) (lo' := (ri_st1 lo 1 (.int ((eh_i G 1 (eh_i G 0 4).toNatClampNeg) &&& 255)))) (st' := [.int 60, .int ((eh_i G 1 (eh_i G 0 4).toNatClampNeg) &&& 255), .ref 0]) rfl (e := (.bipush 60, 2, [], .null)) rfl rfl (fun _ _ => rfl)
                  rcases eh_r2 rfl (show (60 : Int32).toInt = 60 by decide) (E.br (p := 134) (c := 2) (tgt := 144) (a := (eh_i G 1 (eh_i G 0 4).toNatClampNeg) &&& 255) (b := 60) (st' := [.ref 0]) rfl (e := (.if_icmp .lt 13, 3, [144], .null)) rfl rfl (fun _ _ => rfl) rfl) with ⟨c95, E⟩ | ⟨c95, E⟩
                  · skip
                    have E := E.pu (p := 145) (lo' := (ri_st1 lo 1 (.int ((eh_i G 1 (eh_i G 0 4).toNatClampNeg) &&& 255)))) (st' := [.int 4, .ref 0]) rfl (e := (.iconst 4, 1, [], .null)) rfl rfl (fun _ _ => rfl)
                    obtain ⟨h96, hV97, hN98, E⟩ := E.gp (p := 148) rfl (x := 145) (m := 3) (w := .null) (t := 12) (i := 11) (u := 1335) (y := 0) rfl rfl hV48
                    have E := E.ld (p := 149) (t := ri_isA) (i := 0) (n := 1) (v := .ref 0) rfl (e := (.aload_n 0, 1, [], .null)) rfl rfl (fun _ _ => rfl) k19_0 rfl
                    have E := E.ld (p := 150) (t := ri_isI) (i := 1) (n := 1) (v := .int ((eh_i G 1 (eh_i G 0 4).toNatClampNeg) &&& 255)) rfl (e := (.iload_n 1, 1, [], .null)) rfl rfl (fun _ _ => rfl) k19_1 rfl
                    obtain ⟨h99, hV100, hN101, E⟩ := E.gp (p := 153) rfl (x := 155) (m := 3) (w := .null) (t := 12) (i := 14) (u := 1338) (y := 0) rfl rfl hV97
                    have E := E.ld (p := 154) (t := ri_isA) (i := 0) (n := 1) (v := .ref 0) rfl (e := (.aload_n 0, 1, [], .null)) rfl rfl (fun _ _ => rfl) k19_0 rfl
                    have E := E.pu (p := 155) (lo' := (ri_st1 lo 1 (.int ((eh_i G 1 (eh_i G 0 4).toNatClampNeg) &&& 255)))) (st' := [.ref 0, .ref 0]) rfl (e := (.dup, 1, [], .null)) rfl rfl (fun _ _ => rfl)
                    have E := E.gi (y := eh_i G 0 4) (p := 158) rfl (x := 21) (m := 3) (w := .null) (t := 12) (i := 4) (u := 1328) rfl rfl hV100 ((((ty.ui rfl).ui rfl).ui rfl).ui rfl) rfl rfl
                    have E := E.pu (p := 159) (lo' := (ri_st1 lo 1 (.int ((eh_i G 1 (eh_i G 0 4).toNatClampNeg) &&& 255)))) (st' := [.int 1, .int (eh_i G 0 4), .ref 0]) rfl (e := (.iconst 1, 1, [], .null)) rfl rfl (fun _ _ => rfl)
                    have E := E.pu (p := 160) (lo' := (ri_st1 lo 1 (.int ((eh_i G 1 (eh_i G 0 4).toNatClampNeg) &&& 255)))) (st' := [.int ((eh_i G 0 4) + 1), .ref 0]) rfl (e := (.iadd, 1, [], .null)) rfl rfl (fun _ _ => rfl)
                    obtain ⟨h102, hV103, hN104, E⟩ := E.gp (p := 163) rfl (x := 21) (m := 3) (w := .null) (t := 12) (i := 4) (u := 1328) (y := 0) rfl rfl hV100
                    obtain ⟨r1, r2⟩ := E.retv rfl (m := 1) (ax := []) (w := .null) rfl
                    exact Or.inr (Or.inr (Or.inr (Or.inr (Or.inr (Or.inr (Or.inl ⟨c7, c12, c20, c25, c47, c65, c75, c85, c95, r1, ((congrArg eh_V r2).trans hV103), ((congrArg eh_N r2).trans (hN104.trans (hN101.trans (hN98.trans (hN49.trans (hN27.trans (hN14.trans (hN6.trans hN3))))))))⟩))))))
                  · skip
                    have E := E.ld (p := 135) (t := ri_isI) (i := 1) (n := 1) (v := .int ((eh_i G 1 (eh_i G 0 4).toNatClampNeg) &&& 255)) rfl (e := (.iload_n 1, 1, [], .null)) rfl rfl (fun _ _ => rfl) k19_1 rfl
                    have E := E.pu (p := 137) (lo' := (ri_st1 lo 1 (.int ((eh_i G 1 (eh_i G 0 4).toNatClampNeg) &&& 255)))) (st' := [.int 62, .int ((eh_i G 1 (eh_i G 0 4).toNatClampNeg) &&& 255), .ref 0]) rfl (e := (.bipush 62, 2, [], .null)) rfl rfl (fun _ _ => rfl)
                    rcases eh_r4 rfl (show (62 : Int32).toInt = 62 by decide) (E.br (p := 140) (c := 4) (tgt := 144) (a := (eh_i G 1 (eh_i G 0 4).toNatClampNeg) &&& 255) (b := 62) (st' := [.ref 0]) rfl (e := (.if_icmp .gt 7, 3, [144], .null)) rfl rfl (fun _ _ => rfl) rfl) with ⟨c105, E⟩ | ⟨c105, E⟩
                    · skip
                      have E := E.pu (p := 145) (lo' := (ri_st1 lo 1 (.int ((eh_i G 1 (eh_i G 0 4).toNatClampNeg) &&& 255)))) (st' := [.int 4, .ref 0]) rfl (e := (.iconst 4, 1, [], .null)) rfl rfl (fun _ _ => rfl)
                      obtain ⟨h106, hV107, hN108, E⟩ := E.gp (p := 148) rfl (x := 145) (m := 3) (w := .null) (t := 12) (i := 11) (u := 1335) (y := 0) rfl rfl hV48
                      have E := E.ld (p := 149) (t := ri_isA) (i := 0) (n := 1) (v := .ref 0) rfl (e := (.aload_n 0, 1, [], .null)) rfl rfl (fun _ _ => rfl) k19_0 rfl
                      have E := E.ld (p := 150) (t := ri_isI) (i := 1) (n := 1) (v := .int ((eh_i G 1 (eh_i G 0 4).toNatClampNeg) &&& 255)) rfl (e := (.iload_n 1, 1, [], .null)) rfl rfl (fun _ _ => rfl) k19_1 rfl
                      obtain ⟨h109, hV110, hN111, E⟩ := E.gp (p := 153) rfl (x := 155) (m := 3) (w := .null) (t := 12) (i := 14) (u := 1338) (y := 0) rfl rfl hV107
                      have E := E.ld (p := 154) (t := ri_isA) (i := 0) (n := 1) (v := .ref 0) rfl (e := (.aload_n 0, 1, [], .null)) rfl rfl (fun _ _ => rfl) k19_0 rfl
                      have E := E.pu (p := 155) (lo' := (ri_st1 lo 1 (.int ((eh_i G 1 (eh_i G 0 4).toNatClampNeg) &&& 255)))) (st' := [.ref 0, .ref 0]) rfl (e := (.dup, 1, [], .null)) rfl rfl (fun _ _ => rfl)
                      have E := E.gi (y := eh_i G 0 4) (p := 158) rfl (x := 21) (m := 3) (w := .null) (t := 12) (i := 4) (u := 1328) rfl rfl hV110 ((((ty.ui rfl).ui rfl).ui rfl).ui rfl) rfl rfl
                      have E := E.pu (p := 159) (lo' := (ri_st1 lo 1 (.int ((eh_i G 1 (eh_i G 0 4).toNatClampNeg) &&& 255)))) (st' := [.int 1, .int (eh_i G 0 4), .ref 0]) rfl (e := (.iconst 1, 1, [], .null)) rfl rfl (fun _ _ => rfl)
                      have E := E.pu (p := 160) (lo' := (ri_st1 lo 1 (.int ((eh_i G 1 (eh_i G 0 4).toNatClampNeg) &&& 255)))) (st' := [.int ((eh_i G 0 4) + 1), .ref 0]) rfl (e := (.iadd, 1, [], .null)) rfl rfl (fun _ _ => rfl)
                      obtain ⟨h112, hV113, hN114, E⟩ := E.gp (p := 163) rfl (x := 21) (m := 3) (w := .null) (t := 12) (i := 4) (u := 1328) (y := 0) rfl rfl hV110
                      obtain ⟨r1, r2⟩ := E.retv rfl (m := 1) (ax := []) (w := .null) rfl
                      exact Or.inr (Or.inr (Or.inr (Or.inr (Or.inr (Or.inr (Or.inr (Or.inl ⟨c7, c12, c20, c25, c47, c65, c75, c85, c95, c105, r1, ((congrArg eh_V r2).trans hV113), ((congrArg eh_N r2).trans (hN114.trans (hN111.trans (hN108.trans (hN49.trans (hN27.trans (hN14.trans (hN6.trans hN3))))))))⟩)))))))
                    · skip
                      have E := E.pu (p := 141) (lo' := (ri_st1 lo 1 (.int ((eh_i G 1 (eh_i G 0 4).toNatClampNeg) &&& 255)))) (st' := [.int 3, .ref 0]) rfl (e := (.iconst 3, 1, [], .null)) rfl rfl (fun _ _ => rfl)
                      have E := E.pu (p := 145) (lo' := (ri_st1 lo 1 (.int ((eh_i G 1 (eh_i G 0 4).toNatClampNeg) &&& 255)))) (st' := [.int 3, .ref 0]) rfl (e := (.goto 4, 3, [145], .null)) rfl rfl (fun _ _ => rfl)
                      obtain ⟨h115, hV116, hN117, E⟩ := E.gp (p := 148) rfl (x := 145) (m := 3) (w := .null) (t := 12) (i := 11) (u := 1335) (y := 0) rfl rfl hV48
                      have E := E.ld (p := 149) (t := ri_isA) (i := 0) (n := 1) (v := .ref 0) rfl (e := (.aload_n 0, 1, [], .null)) rfl rfl (fun _ _ => rfl) k19_0 rfl
                      have E := E.ld (p := 150) (t := ri_isI) (i := 1) (n := 1) (v := .int ((eh_i G 1 (eh_i G 0 4).toNatClampNeg) &&& 255)) rfl (e := (.iload_n 1, 1, [], .null)) rfl rfl (fun _ _ => rfl) k19_1 rfl
                      obtain ⟨h118, hV119, hN120, E⟩ := E.gp (p := 153) rfl (x := 155) (m := 3) (w := .null) (t := 12) (i := 14) (u := 1338) (y := 0) rfl rfl hV116
                      have E := E.ld (p := 154) (t := ri_isA) (i := 0) (n := 1) (v := .ref 0) rfl (e := (.aload_n 0, 1, [], .null)) rfl rfl (fun _ _ => rfl) k19_0 rfl
                      have E := E.pu (p := 155) (lo' := (ri_st1 lo 1 (.int ((eh_i G 1 (eh_i G 0 4).toNatClampNeg) &&& 255)))) (st' := [.ref 0, .ref 0]) rfl (e := (.dup, 1, [], .null)) rfl rfl (fun _ _ => rfl)
                      have E := E.gi (y := eh_i G 0 4) (p := 158) rfl (x := 21) (m := 3) (w := .null) (t := 12) (i := 4) (u := 1328) rfl rfl hV119 ((((ty.ui rfl).ui rfl).ui rfl).ui rfl) rfl rfl
                      have E := E.pu (p := 159) (lo' := (ri_st1 lo 1 (.int ((eh_i G 1 (eh_i G 0 4).toNatClampNeg) &&& 255)))) (st' := [.int 1, .int (eh_i G 0 4), .ref 0]) rfl (e := (.iconst 1, 1, [], .null)) rfl rfl (fun _ _ => rfl)
                      have E := E.pu (p := 160) (lo' := (ri_st1 lo 1 (.int ((eh_i G 1 (eh_i G 0 4).toNatClampNeg) &&& 255)))) (st' := [.int ((eh_i G 0 4) + 1), .ref 0]) rfl (e := (.iadd, 1, [], .null)) rfl rfl (fun _ _ => rfl)
                      obtain ⟨h121, hV122, hN123, E⟩ := E.gp (p := 163) rfl (x := 21) (m := 3) (w := .null) (t := 12) (i := 4) (u := 1328) (y := 0) rfl rfl hV119
                      obtain ⟨r1, r2⟩ := E.retv rfl (m := 1) (ax := []) (w := .null) rfl
                      exact Or.inr (Or.inr (Or.inr (Or.inr (Or.inr (Or.inr (Or.inr (Or.inr (Or.inl ⟨c7, c12, c20, c25, c47, c65, c75, c85, c95, c105, r1, ((congrArg eh_V r2).trans hV122), ((congrArg eh_N r2).trans (hN123.trans (hN120.trans (hN117.trans (hN49.trans (hN27.trans (hN14.trans (hN6.trans hN3))))))))⟩))))))))
      · skip
        have E := E.ld (p := 90) (t := ri_isA) (i := 0) (n := 1) (v := .ref 0) rfl (e := (.aload_n 0, 1, [], .null)) rfl rfl (fun _ _ => rfl) k19_0 rfl
        have E := E.pu (p := 91) (lo' := (ri_st1 lo 1 (.int ((eh_i G 1 (eh_i G 0 4).toNatClampNeg) &&& 255)))) (st' := [.int 0, .ref 0]) rfl (e := (.iconst 0, 1, [], .null)) rfl rfl (fun _ _ => rfl)
        obtain ⟨h124, hV125, hN126, E⟩ := E.gp (p := 94) rfl (x := 145) (m := 3) (w := .null) (t := 12) (i := 11) (u := 1335) (y := 0) rfl rfl hV13
        obtain ⟨r1, r2⟩ := E.retv rfl (m := 1) (ax := []) (w := .null) rfl
        exact Or.inr (Or.inr (Or.inr (Or.inr (Or.inr (Or.inr (Or.inr (Or.inr (Or.inr (Or.inl ⟨c7, c12, c20, r1, ((congrArg eh_V r2).trans hV125), ((congrArg eh_N r2).trans (hN126.trans (hN14.trans (hN6.trans hN3))))⟩)))))))))
  · skip
    have E := E.ld (p := 56) (t := ri_isA) (i := 0) (n := 1) (v := .ref 0) rfl (e := (.aload_n 0, 1, [], .null)) rfl rfl (fun _ _ => rfl) l0 rfl
    have E := E.gi (y := eh_i G 0 4) (p := 59) rfl (x := 21) (m := 3) (w := .null) (t := 12) (i := 4) (u := 1328) rfl rfl hV5 ((ty.ui rfl).ui rfl) rfl rfl
    have E := E.ld (p := 60) (t := ri_isA) (i := 0) (n := 1) (v := .ref 0) rfl (e := (.aload_n 0, 1, [], .null)) rfl rfl (fun _ _ => rfl) l0 rfl
    have E := E.gi (y := eh_i G 0 5) (p := 63) rfl (x := 24) (m := 3) (w := .null) (t := 12) (i := 5) (u := 1329) rfl rfl hV5 ((ty.ui rfl).ui rfl) rfl rfl
    rcases eh_r2 rfl rfl (E.br (p := 66) (c := 2) (tgt := 80) (a := eh_i G 0 4) (b := eh_i G 0 5) (st' := []) rfl (e := (.if_icmp .lt 17, 3, [80], .null)) rfl rfl (fun _ _ => rfl) rfl) with ⟨c127, E⟩ | ⟨c127, E⟩
    · skip
      have E := E.ld (p := 81) (t := ri_isA) (i := 0) (n := 1) (v := .ref 0) rfl (e := (.aload_n 0, 1, [], .null)) rfl rfl (fun _ _ => rfl) l0 rfl
      obtain ⟨v1, h128, X, E⟩ := E.cv (p := 84) (as := []) (b := 0) (r := []) rfl (x := 135) (m := 3) (w := .null) (j := 155) (n := 0) (t := 12) (u := [1482, 36, 1484]) rfl rfl rfl
      rcases sp_155 (d := d) X hV5 ((ty.ui rfl).ui rfl) with ⟨c129, rfl, hV130, hN131⟩ | ⟨c132, rfl, hV133, hN134⟩
      · skip
        have c129 : ¬ ((eh_i G 0 4).toInt < (eh_i G 0 3).toInt) := c129
        have E : eh_e _ _ 84 lo [.int (-1)] _ rs h' := E
        have E := E.so (p := 85) (t := ri_isI) (i := 1) (n := 1) rfl (e := (.istore_n 1, 1, [], .null)) rfl rfl (fun _ _ => rfl) rfl
        have k135_1 : ri_lk (ri_st1 lo 1 (.int (-1))) 1 = some (.int (-1)) := eh_self
        have k135_0 : ri_lk (ri_st1 lo 1 (.int (-1))) 0 = some (.ref 0) := eh_keep (by decide) (Or.inl rfl) l0
        have E := E.ld (p := 86) (t := ri_isI) (i := 1) (n := 1) (v := .int (-1)) rfl (e := (.iload_n 1, 1, [], .null)) rfl rfl (fun _ _ => rfl) k135_1 rfl
        have E := E.brf (p := 89) (c := 3) (tgt := 95) (a := (-1)) (b := 0) (st' := []) rfl (e := (.ifCond .ge 9, 3, [95], .null)) rfl rfl (fun _ _ => rfl) (by decide) rfl
        have E := E.ld (p := 90) (t := ri_isA) (i := 0) (n := 1) (v := .ref 0) rfl (e := (.aload_n 0, 1, [], .null)) rfl rfl (fun _ _ => rfl) k135_0 rfl
        have E := E.pu (p := 91) (lo' := (ri_st1 lo 1 (.int (-1)))) (st' := [.int 0, .ref 0]) rfl (e := (.iconst 0, 1, [], .null)) rfl rfl (fun _ _ => rfl)
        obtain ⟨h136, hV137, hN138, E⟩ := E.gp (p := 94) rfl (x := 145) (m := 3) (w := .null) (t := 12) (i := 11) (u := 1335) (y := 0) rfl rfl hV130
        obtain ⟨r1, r2⟩ := E.retv rfl (m := 1) (ax := []) (w := .null) rfl
        exact Or.inr (Or.inr (Or.inr (Or.inr (Or.inr (Or.inr (Or.inr (Or.inr (Or.inr (Or.inr (Or.inl ⟨c7, c127, c129, r1, ((congrArg eh_V r2).trans hV137), ((congrArg eh_N r2).trans (hN138.trans (hN131.trans (hN6.trans hN3))))⟩))))))))))
      · skip
        have c132 : (eh_i G 0 4).toInt < (eh_i G 0 3).toInt := c132
        have E : eh_e _ _ 84 lo [.int ((eh_i G 1 (eh_i G 0 4).toNatClampNeg) &&& 255)] _ rs h' := E
        have E := E.so (p := 85) (t := ri_isI) (i := 1) (n := 1) rfl (e := (.istore_n 1, 1, [], .null)) rfl rfl (fun _ _ => rfl) rfl
        have k139_1 : ri_lk (ri_st1 lo 1 (.int ((eh_i G 1 (eh_i G 0 4).toNatClampNeg) &&& 255))) 1 = some (.int ((eh_i G 1 (eh_i G 0 4).toNatClampNeg) &&& 255)) := eh_self
        have k139_0 : ri_lk (ri_st1 lo 1 (.int ((eh_i G 1 (eh_i G 0 4).toNatClampNeg) &&& 255))) 0 = some (.ref 0) := eh_keep (by decide) (Or.inl rfl) l0
        have E := E.ld (p := 86) (t := ri_isI) (i := 1) (n := 1) (v := .int ((eh_i G 1 (eh_i G 0 4).toNatClampNeg) &&& 255)) rfl (e := (.iload_n 1, 1, [], .null)) rfl rfl (fun _ _ => rfl) k139_1 rfl
        rcases eh_r3 rfl (show (0 : Int32).toInt = 0 by decide) (E.br (p := 89) (c := 3) (tgt := 95) (a := (eh_i G 1 (eh_i G 0 4).toNatClampNeg) &&& 255) (b := 0) (st' := []) rfl (e := (.ifCond .ge 9, 3, [95], .null)) rfl rfl (fun _ _ => rfl) rfl) with ⟨c140, E⟩ | ⟨c140, E⟩
        · skip
          have E := E.ld (p := 96) (t := ri_isI) (i := 1) (n := 1) (v := .int ((eh_i G 1 (eh_i G 0 4).toNatClampNeg) &&& 255)) rfl (e := (.iload_n 1, 1, [], .null)) rfl rfl (fun _ _ => rfl) k139_1 rfl
          obtain ⟨v1, h141, X, E⟩ := E.cs (p := 99) (as := [.int ((eh_i G 1 (eh_i G 0 4).toNatClampNeg) &&& 255)]) (r := []) rfl (x := 148) (m := 3) (w := .null) (j := 156) (n := 1) (t := 0) (u := [1486, 1487]) rfl rfl rfl
          rcases sp_156 (d := d) X hV133 ((ty.ui rfl).ui rfl) with ⟨c142, rfl, hV143, hN144⟩ | ⟨c145, rfl, hV146, hN147⟩
          · skip
            have c142 : lx_lt ((eh_i G 1 (eh_i G 0 4).toNatClampNeg) &&& 255) = true := c142
            have E : eh_e _ _ 99 (ri_st1 lo 1 (.int ((eh_i G 1 (eh_i G 0 4).toNatClampNeg) &&& 255))) [.int 1] _ rs h' := E
            have E := E.brt (c := 1) (tgt := 164) (a := 1) (b := 0) (st' := []) rfl (e := (.ifCond .ne 65, 3, [164], .null)) rfl rfl (fun _ _ => rfl) (by decide)
            have E := E.ld (p := 165) (t := ri_isI) (i := 1) (n := 1) (v := .int ((eh_i G 1 (eh_i G 0 4).toNatClampNeg) &&& 255)) rfl (e := (.iload_n 1, 1, [], .null)) rfl rfl (fun _ _ => rfl) k139_1 rfl
            obtain ⟨v1, h148, X, E⟩ := E.cs (p := 168) (as := [.int ((eh_i G 1 (eh_i G 0 4).toNatClampNeg) &&& 255)]) (r := []) rfl (x := 148) (m := 3) (w := .null) (j := 156) (n := 1) (t := 0) (u := [1486, 1487]) rfl rfl rfl
            rcases sp_156 (d := d) X hV143 ((ty.ui rfl).ui rfl) with ⟨c149, rfl, hV150, hN151⟩ | ⟨c152, rfl, hV153, hN154⟩
            · skip
              have E : eh_e _ _ 168 (ri_st1 lo 1 (.int ((eh_i G 1 (eh_i G 0 4).toNatClampNeg) &&& 255))) [.int 1] _ rs h' := E
              have E := E.so (p := 169) (t := ri_isI) (i := 2) (n := 1) rfl (e := (.istore_n 2, 1, [], .null)) rfl rfl (fun _ _ => rfl) rfl
              have k155_2 : ri_lk (ri_st1 (ri_st1 lo 1 (.int ((eh_i G 1 (eh_i G 0 4).toNatClampNeg) &&& 255))) 2 (.int 1)) 2 = some (.int 1) := eh_self
              have k155_0 : ri_lk (ri_st1 (ri_st1 lo 1 (.int ((eh_i G 1 (eh_i G 0 4).toNatClampNeg) &&& 255))) 2 (.int 1)) 0 = some (.ref 0) := eh_keep (by decide) (Or.inl rfl) k139_0
              have k155_1 : ri_lk (ri_st1 (ri_st1 lo 1 (.int ((eh_i G 1 (eh_i G 0 4).toNatClampNeg) &&& 255))) 2 (.int 1)) 1 = some (.int ((eh_i G 1 (eh_i G 0 4).toNatClampNeg) &&& 255)) := eh_keep (by decide) (Or.inl rfl) k139_1
              have E := E.pu (p := 170) (lo' := (ri_st1 (ri_st1 lo 1 (.int ((eh_i G 1 (eh_i G 0 4).toNatClampNeg) &&& 255))) 2 (.int 1))) (st' := [.int 1]) rfl (e := (.iconst 1, 1, [], .null)) rfl rfl (fun _ _ => rfl)
              have E := E.so (p := 171) (t := ri_isI) (i := 3) (n := 1) rfl (e := (.istore_n 3, 1, [], .null)) rfl rfl (fun _ _ => rfl) rfl
              have k156_3 : ri_lk (ri_st1 (ri_st1 (ri_st1 lo 1 (.int ((eh_i G 1 (eh_i G 0 4).toNatClampNeg) &&& 255))) 2 (.int 1)) 3 (.int 1)) 3 = some (.int 1) := eh_self
              have k156_0 : ri_lk (ri_st1 (ri_st1 (ri_st1 lo 1 (.int ((eh_i G 1 (eh_i G 0 4).toNatClampNeg) &&& 255))) 2 (.int 1)) 3 (.int 1)) 0 = some (.ref 0) := eh_keep (by decide) (Or.inl rfl) k155_0
              have k156_1 : ri_lk (ri_st1 (ri_st1 (ri_st1 lo 1 (.int ((eh_i G 1 (eh_i G 0 4).toNatClampNeg) &&& 255))) 2 (.int 1)) 3 (.int 1)) 1 = some (.int ((eh_i G 1 (eh_i G 0 4).toNatClampNeg) &&& 255)) := eh_keep (by decide) (Or.inl rfl) k155_1
              have k156_2 : ri_lk (ri_st1 (ri_st1 (ri_st1 lo 1 (.int ((eh_i G 1 (eh_i G 0 4).toNatClampNeg) &&& 255))) 2 (.int 1)) 3 (.int 1)) 2 = some (.int 1) := eh_keep (by decide) (Or.inl rfl) k155_2
              have E := E.ld (p := 172) (t := ri_isA) (i := 0) (n := 1) (v := .ref 0) rfl (e := (.aload_n 0, 1, [], .null)) rfl rfl (fun _ _ => rfl) k156_0 rfl
              have E := E.pu (p := 173) (lo' := (ri_st1 (ri_st1 (ri_st1 lo 1 (.int ((eh_i G 1 (eh_i G 0 4).toNatClampNeg) &&& 255))) 2 (.int 1)) 3 (.int 1))) (st' := [.long 0, .ref 0]) rfl (e := (.lconst 0, 1, [], .null)) rfl rfl (fun _ _ => rfl)
              obtain ⟨h157, hV158, hN159, E⟩ := E.gp (p := 176) rfl (x := 158) (m := 3) (w := .null) (t := 12) (i := 17) (u := 1341) (y := 2) rfl rfl hV150
              have E := E.ld (p := 177) (t := ri_isA) (i := 0) (n := 1) (v := .ref 0) rfl (e := (.aload_n 0, 1, [], .null)) rfl rfl (fun _ _ => rfl) k156_0 rfl
              have E := E.pu (p := 178) (lo' := (ri_st1 (ri_st1 (ri_st1 lo 1 (.int ((eh_i G 1 (eh_i G 0 4).toNatClampNeg) &&& 255))) 2 (.int 1)) 3 (.int 1))) (st' := [.int 0, .ref 0]) rfl (e := (.iconst 0, 1, [], .null)) rfl rfl (fun _ _ => rfl)
              obtain ⟨h160, hV161, hN162, E⟩ := E.gp (p := 181) rfl (x := 155) (m := 3) (w := .null) (t := 12) (i := 14) (u := 1338) (y := 0) rfl rfl hV158
              exact Or.inr (Or.inr (Or.inr (Or.inr (Or.inr (Or.inr (Or.inr (Or.inr (Or.inr (Or.inr (Or.inr (Or.inl ⟨c7, c127, c132, c140, c142, _, _, E, hV161, (hN162.trans (hN159.trans (hN151.trans (hN144.trans (hN134.trans (hN6.trans hN3)))))), ((((ty.ui rfl).ui rfl).ul rfl).ui rfl), k156_0, k156_1, k156_2, k156_3⟩)))))))))))
            · skip
              exact absurd c142 c152
          · skip
            have c145 : ¬ (lx_lt ((eh_i G 1 (eh_i G 0 4).toNatClampNeg) &&& 255) = true) := c145
            have E : eh_e _ _ 99 (ri_st1 lo 1 (.int ((eh_i G 1 (eh_i G 0 4).toNatClampNeg) &&& 255))) [.int 0] _ rs h' := E
            have E := E.brf (p := 102) (c := 1) (tgt := 164) (a := 0) (b := 0) (st' := []) rfl (e := (.ifCond .ne 65, 3, [164], .null)) rfl rfl (fun _ _ => rfl) (by decide) rfl
            have E := E.ld (p := 103) (t := ri_isI) (i := 1) (n := 1) (v := .int ((eh_i G 1 (eh_i G 0 4).toNatClampNeg) &&& 255)) rfl (e := (.iload_n 1, 1, [], .null)) rfl rfl (fun _ _ => rfl) k139_1 rfl
            obtain ⟨v1, h163, X, E⟩ := E.cs (p := 106) (as := [.int ((eh_i G 1 (eh_i G 0 4).toNatClampNeg) &&& 255)]) (r := []) rfl (x := 152) (m := 3) (w := .null) (j := 157) (n := 1) (t := 0) (u := [1489, 1490]) rfl rfl rfl
            rcases sp_157 (d := d) X hV146 ((ty.ui rfl).ui rfl) with ⟨c164, rfl, hV165, hN166⟩ | ⟨c167, rfl, hV168, hN169⟩
            · skip
              have c164 : lx_dg ((eh_i G 1 (eh_i G 0 4).toNatClampNeg) &&& 255) = true := c164
              have E : eh_e _ _ 106 (ri_st1 lo 1 (.int ((eh_i G 1 (eh_i G 0 4).toNatClampNeg) &&& 255))) [.int 1] _ rs h' := E
              have E := E.brt (c := 1) (tgt := 164) (a := 1) (b := 0) (st' := []) rfl (e := (.ifCond .ne 58, 3, [164], .null)) rfl rfl (fun _ _ => rfl) (by decide)
              have E := E.ld (p := 165) (t := ri_isI) (i := 1) (n := 1) (v := .int ((eh_i G 1 (eh_i G 0 4).toNatClampNeg) &&& 255)) rfl (e := (.iload_n 1, 1, [], .null)) rfl rfl (fun _ _ => rfl) k139_1 rfl
              obtain ⟨v1, h170, X, E⟩ := E.cs (p := 168) (as := [.int ((eh_i G 1 (eh_i G 0 4).toNatClampNeg) &&& 255)]) (r := []) rfl (x := 148) (m := 3) (w := .null) (j := 156) (n := 1) (t := 0) (u := [1486, 1487]) rfl rfl rfl
              rcases sp_156 (d := d) X hV165 ((ty.ui rfl).ui rfl) with ⟨c171, rfl, hV172, hN173⟩ | ⟨c174, rfl, hV175, hN176⟩
              · skip
                exact absurd c171 c145
              · skip
                have E : eh_e _ _ 168 (ri_st1 lo 1 (.int ((eh_i G 1 (eh_i G 0 4).toNatClampNeg) &&& 255))) [.int 0] _ rs h' := E
                have E := E.so (p := 169) (t := ri_isI) (i := 2) (n := 1) rfl (e := (.istore_n 2, 1, [], .null)) rfl rfl (fun _ _ => rfl) rfl
                have k177_2 : ri_lk (ri_st1 (ri_st1 lo 1 (.int ((eh_i G 1 (eh_i G 0 4).toNatClampNeg) &&& 255))) 2 (.int 0)) 2 = some (.int 0) := eh_self
                have k177_0 : ri_lk (ri_st1 (ri_st1 lo 1 (.int ((eh_i G 1 (eh_i G 0 4).toNatClampNeg) &&& 255))) 2 (.int 0)) 0 = some (.ref 0) := eh_keep (by decide) (Or.inl rfl) k139_0
                have k177_1 : ri_lk (ri_st1 (ri_st1 lo 1 (.int ((eh_i G 1 (eh_i G 0 4).toNatClampNeg) &&& 255))) 2 (.int 0)) 1 = some (.int ((eh_i G 1 (eh_i G 0 4).toNatClampNeg) &&& 255)) := eh_keep (by decide) (Or.inl rfl) k139_1
                have E := E.pu (p := 170) (lo' := (ri_st1 (ri_st1 lo 1 (.int ((eh_i G 1 (eh_i G 0 4).toNatClampNeg) &&& 255))) 2 (.int 0))) (st' := [.int 1]) rfl (e := (.iconst 1, 1, [], .null)) rfl rfl (fun _ _ => rfl)
                have E := E.so (p := 171) (t := ri_isI) (i := 3) (n := 1) rfl (e := (.istore_n 3, 1, [], .null)) rfl rfl (fun _ _ => rfl) rfl
                have k178_3 : ri_lk (ri_st1 (ri_st1 (ri_st1 lo 1 (.int ((eh_i G 1 (eh_i G 0 4).toNatClampNeg) &&& 255))) 2 (.int 0)) 3 (.int 1)) 3 = some (.int 1) := eh_self
                have k178_0 : ri_lk (ri_st1 (ri_st1 (ri_st1 lo 1 (.int ((eh_i G 1 (eh_i G 0 4).toNatClampNeg) &&& 255))) 2 (.int 0)) 3 (.int 1)) 0 = some (.ref 0) := eh_keep (by decide) (Or.inl rfl) k177_0
                have k178_1 : ri_lk (ri_st1 (ri_st1 (ri_st1 lo 1 (.int ((eh_i G 1 (eh_i G 0 4).toNatClampNeg) &&& 255))) 2 (.int 0)) 3 (.int 1)) 1 = some (.int ((eh_i G 1 (eh_i G 0 4).toNatClampNeg) &&& 255)) := eh_keep (by decide) (Or.inl rfl) k177_1
                have k178_2 : ri_lk (ri_st1 (ri_st1 (ri_st1 lo 1 (.int ((eh_i G 1 (eh_i G 0 4).toNatClampNeg) &&& 255))) 2 (.int 0)) 3 (.int 1)) 2 = some (.int 0) := eh_keep (by decide) (Or.inl rfl) k177_2
                have E := E.ld (p := 172) (t := ri_isA) (i := 0) (n := 1) (v := .ref 0) rfl (e := (.aload_n 0, 1, [], .null)) rfl rfl (fun _ _ => rfl) k178_0 rfl
                have E := E.pu (p := 173) (lo' := (ri_st1 (ri_st1 (ri_st1 lo 1 (.int ((eh_i G 1 (eh_i G 0 4).toNatClampNeg) &&& 255))) 2 (.int 0)) 3 (.int 1))) (st' := [.long 0, .ref 0]) rfl (e := (.lconst 0, 1, [], .null)) rfl rfl (fun _ _ => rfl)
                obtain ⟨h179, hV180, hN181, E⟩ := E.gp (p := 176) rfl (x := 158) (m := 3) (w := .null) (t := 12) (i := 17) (u := 1341) (y := 2) rfl rfl hV175
                have E := E.ld (p := 177) (t := ri_isA) (i := 0) (n := 1) (v := .ref 0) rfl (e := (.aload_n 0, 1, [], .null)) rfl rfl (fun _ _ => rfl) k178_0 rfl
                have E := E.pu (p := 178) (lo' := (ri_st1 (ri_st1 (ri_st1 lo 1 (.int ((eh_i G 1 (eh_i G 0 4).toNatClampNeg) &&& 255))) 2 (.int 0)) 3 (.int 1))) (st' := [.int 0, .ref 0]) rfl (e := (.iconst 0, 1, [], .null)) rfl rfl (fun _ _ => rfl)
                obtain ⟨h182, hV183, hN184, E⟩ := E.gp (p := 181) rfl (x := 155) (m := 3) (w := .null) (t := 12) (i := 14) (u := 1338) (y := 0) rfl rfl hV180
                exact Or.inr (Or.inr (Or.inr (Or.inr (Or.inr (Or.inr (Or.inr (Or.inr (Or.inr (Or.inr (Or.inr (Or.inr (Or.inl ⟨c7, c127, c132, c140, c145, c164, _, _, E, hV183, (hN184.trans (hN181.trans (hN176.trans (hN166.trans (hN147.trans (hN134.trans (hN6.trans hN3))))))), ((((ty.ui rfl).ui rfl).ul rfl).ui rfl), k178_0, k178_1, k178_2, k178_3⟩))))))))))))
            · skip
              have c167 : ¬ (lx_dg ((eh_i G 1 (eh_i G 0 4).toNatClampNeg) &&& 255) = true) := c167
              have E : eh_e _ _ 106 (ri_st1 lo 1 (.int ((eh_i G 1 (eh_i G 0 4).toNatClampNeg) &&& 255))) [.int 0] _ rs h' := E
              have E := E.brf (p := 109) (c := 1) (tgt := 164) (a := 0) (b := 0) (st' := []) rfl (e := (.ifCond .ne 58, 3, [164], .null)) rfl rfl (fun _ _ => rfl) (by decide) rfl
              have E := E.ld (p := 110) (t := ri_isA) (i := 0) (n := 1) (v := .ref 0) rfl (e := (.aload_n 0, 1, [], .null)) rfl rfl (fun _ _ => rfl) k139_0 rfl
              have E := E.ld (p := 111) (t := ri_isI) (i := 1) (n := 1) (v := .int ((eh_i G 1 (eh_i G 0 4).toNatClampNeg) &&& 255)) rfl (e := (.iload_n 1, 1, [], .null)) rfl rfl (fun _ _ => rfl) k139_1 rfl
              have E := E.pu (p := 113) (lo' := (ri_st1 lo 1 (.int ((eh_i G 1 (eh_i G 0 4).toNatClampNeg) &&& 255)))) (st' := [.int 59, .int ((eh_i G 1 (eh_i G 0 4).toNatClampNeg) &&& 255), .ref 0]) rfl (e := (.bipush 59, 2, [], .null)) rfl rfl (fun _ _ => rfl)
              rcases eh_q0 (E.br (p := 116) (c := 0) (tgt := 140) (a := (eh_i G 1 (eh_i G 0 4).toNatClampNeg) &&& 255) (b := 59) (st' := [.ref 0]) rfl (e := (.if_icmp .eq 27, 3, [140], .null)) rfl rfl (fun _ _ => rfl) rfl) with ⟨c185, E⟩ | ⟨c185, E⟩
              · skip
                have E := E.pu (p := 141) (lo' := (ri_st1 lo 1 (.int ((eh_i G 1 (eh_i G 0 4).toNatClampNeg) &&& 255)))) (st' := [.int 3, .ref 0]) rfl (e := (.iconst 3, 1, [], .null)) rfl rfl (fun _ _ => rfl)
                have E := E.pu (p := 145) (lo' := (ri_st1 lo 1 (.int ((eh_i G 1 (eh_i G 0 4).toNatClampNeg) &&& 255)))) (st' := [.int 3, .ref 0]) rfl (e := (.goto 4, 3, [145], .null)) rfl rfl (fun _ _ => rfl)
                obtain ⟨h186, hV187, hN188, E⟩ := E.gp (p := 148) rfl (x := 145) (m := 3) (w := .null) (t := 12) (i := 11) (u := 1335) (y := 0) rfl rfl hV168
                have E := E.ld (p := 149) (t := ri_isA) (i := 0) (n := 1) (v := .ref 0) rfl (e := (.aload_n 0, 1, [], .null)) rfl rfl (fun _ _ => rfl) k139_0 rfl
                have E := E.ld (p := 150) (t := ri_isI) (i := 1) (n := 1) (v := .int ((eh_i G 1 (eh_i G 0 4).toNatClampNeg) &&& 255)) rfl (e := (.iload_n 1, 1, [], .null)) rfl rfl (fun _ _ => rfl) k139_1 rfl
                obtain ⟨h189, hV190, hN191, E⟩ := E.gp (p := 153) rfl (x := 155) (m := 3) (w := .null) (t := 12) (i := 14) (u := 1338) (y := 0) rfl rfl hV187
                have E := E.ld (p := 154) (t := ri_isA) (i := 0) (n := 1) (v := .ref 0) rfl (e := (.aload_n 0, 1, [], .null)) rfl rfl (fun _ _ => rfl) k139_0 rfl
                have E := E.pu (p := 155) (lo' := (ri_st1 lo 1 (.int ((eh_i G 1 (eh_i G 0 4).toNatClampNeg) &&& 255)))) (st' := [.ref 0, .ref 0]) rfl (e := (.dup, 1, [], .null)) rfl rfl (fun _ _ => rfl)
                have E := E.gi (y := eh_i G 0 4) (p := 158) rfl (x := 21) (m := 3) (w := .null) (t := 12) (i := 4) (u := 1328) rfl rfl hV190 ((((ty.ui rfl).ui rfl).ui rfl).ui rfl) rfl rfl
                have E := E.pu (p := 159) (lo' := (ri_st1 lo 1 (.int ((eh_i G 1 (eh_i G 0 4).toNatClampNeg) &&& 255)))) (st' := [.int 1, .int (eh_i G 0 4), .ref 0]) rfl (e := (.iconst 1, 1, [], .null)) rfl rfl (fun _ _ => rfl)
                have E := E.pu (p := 160) (lo' := (ri_st1 lo 1 (.int ((eh_i G 1 (eh_i G 0 4).toNatClampNeg) &&& 255)))) (st' := [.int ((eh_i G 0 4) + 1), .ref 0]) rfl (e := (.iadd, 1, [], .null)) rfl rfl (fun _ _ => rfl)
                obtain ⟨h192, hV193, hN194, E⟩ := E.gp (p := 163) rfl (x := 21) (m := 3) (w := .null) (t := 12) (i := 4) (u := 1328) (y := 0) rfl rfl hV190
                obtain ⟨r1, r2⟩ := E.retv rfl (m := 1) (ax := []) (w := .null) rfl
                exact Or.inr (Or.inr (Or.inr (Or.inr (Or.inr (Or.inr (Or.inr (Or.inr (Or.inr (Or.inr (Or.inr (Or.inr (Or.inr (Or.inl ⟨c7, c127, c132, c140, c145, c167, c185, r1, ((congrArg eh_V r2).trans hV193), ((congrArg eh_N r2).trans (hN194.trans (hN191.trans (hN188.trans (hN169.trans (hN147.trans (hN134.trans (hN6.trans hN3))))))))⟩)))))))))))))
              · skip
                have E := E.ld (p := 117) (t := ri_isI) (i := 1) (n := 1) (v := .int ((eh_i G 1 (eh_i G 0 4).toNatClampNeg) &&& 255)) rfl (e := (.iload_n 1, 1, [], .null)) rfl rfl (fun _ _ => rfl) k139_1 rfl
                have E := E.pu (p := 119) (lo' := (ri_st1 lo 1 (.int ((eh_i G 1 (eh_i G 0 4).toNatClampNeg) &&& 255)))) (st' := [.int 40, .int ((eh_i G 1 (eh_i G 0 4).toNatClampNeg) &&& 255), .ref 0]) rfl (e := (.bipush 40, 2, [], .null)) rfl rfl (fun _ _ => rfl)
                rcases eh_q0 (E.br (p := 122) (c := 0) (tgt := 140) (a := (eh_i G 1 (eh_i G 0 4).toNatClampNeg) &&& 255) (b := 40) (st' := [.ref 0]) rfl (e := (.if_icmp .eq 21, 3, [140], .null)) rfl rfl (fun _ _ => rfl) rfl) with ⟨c195, E⟩ | ⟨c195, E⟩
                · skip
                  have E := E.pu (p := 141) (lo' := (ri_st1 lo 1 (.int ((eh_i G 1 (eh_i G 0 4).toNatClampNeg) &&& 255)))) (st' := [.int 3, .ref 0]) rfl (e := (.iconst 3, 1, [], .null)) rfl rfl (fun _ _ => rfl)
                  have E := E.pu (p := 145) (lo' := (ri_st1 lo 1 (.int ((eh_i G 1 (eh_i G 0 4).toNatClampNeg) &&& 255)))) (st' := [.int 3, .ref 0]) rfl (e := (.goto 4, 3, [145], .null)) rfl rfl (fun _ _ => rfl)
                  obtain ⟨h196, hV197, hN198, E⟩ := E.gp (p := 148) rfl (x := 145) (m := 3) (w := .null) (t := 12) (i := 11) (u := 1335) (y := 0) rfl rfl hV168
                  have E := E.ld (p := 149) (t := ri_isA) (i := 0) (n := 1) (v := .ref 0) rfl (e := (.aload_n 0, 1, [], .null)) rfl rfl (fun _ _ => rfl) k139_0 rfl
                  have E := E.ld (p := 150) (t := ri_isI) (i := 1) (n := 1) (v := .int ((eh_i G 1 (eh_i G 0 4).toNatClampNeg) &&& 255)) rfl (e := (.iload_n 1, 1, [], .null)) rfl rfl (fun _ _ => rfl) k139_1 rfl
                  obtain ⟨h199, hV200, hN201, E⟩ := E.gp (p := 153) rfl (x := 155) (m := 3) (w := .null) (t := 12) (i := 14) (u := 1338) (y := 0) rfl rfl hV197
                  have E := E.ld (p := 154) (t := ri_isA) (i := 0) (n := 1) (v := .ref 0) rfl (e := (.aload_n 0, 1, [], .null)) rfl rfl (fun _ _ => rfl) k139_0 rfl
                  have E := E.pu (p := 155) (lo' := (ri_st1 lo 1 (.int ((eh_i G 1 (eh_i G 0 4).toNatClampNeg) &&& 255)))) (st' := [.ref 0, .ref 0]) rfl (e := (.dup, 1, [], .null)) rfl rfl (fun _ _ => rfl)
                  have E := E.gi (y := eh_i G 0 4) (p := 158) rfl (x := 21) (m := 3) (w := .null) (t := 12) (i := 4) (u := 1328) rfl rfl hV200 ((((ty.ui rfl).ui rfl).ui rfl).ui rfl) rfl rfl
                  have E := E.pu (p := 159) (lo' := (ri_st1 lo 1 (.int ((eh_i G 1 (eh_i G 0 4).toNatClampNeg) &&& 255)))) (st' := [.int 1, .int (eh_i G 0 4), .ref 0]) rfl (e := (.iconst 1, 1, [], .null)) rfl rfl (fun _ _ => rfl)
                  have E := E.pu (p := 160) (lo' := (ri_st1 lo 1 (.int ((eh_i G 1 (eh_i G 0 4).toNatClampNeg) &&& 255)))) (st' := [.int ((eh_i G 0 4) + 1), .ref 0]) rfl (e := (.iadd, 1, [], .null)) rfl rfl (fun _ _ => rfl)
                  obtain ⟨h202, hV203, hN204, E⟩ := E.gp (p := 163) rfl (x := 21) (m := 3) (w := .null) (t := 12) (i := 4) (u := 1328) (y := 0) rfl rfl hV200
                  obtain ⟨r1, r2⟩ := E.retv rfl (m := 1) (ax := []) (w := .null) rfl
                  exact Or.inr (Or.inr (Or.inr (Or.inr (Or.inr (Or.inr (Or.inr (Or.inr (Or.inr (Or.inr (Or.inr (Or.inr (Or.inr (Or.inr (Or.inl ⟨c7, c127, c132, c140, c145, c167, c185, c195, r1, ((congrArg eh_V r2).trans hV203), ((congrArg eh_N r2).trans (hN204.trans (hN201.trans (hN198.trans (hN169.trans (hN147.trans (hN134.trans (hN6.trans hN3))))))))⟩))))))))))))))
                · skip
                  have E := E.ld (p := 123) (t := ri_isI) (i := 1) (n := 1) (v := .int ((eh_i G 1 (eh_i G 0 4).toNatClampNeg) &&& 255)) rfl (e := (.iload_n 1, 1, [], .null)) rfl rfl (fun _ _ => rfl) k139_1 rfl
                  have E := E.pu (p := 125) (lo' := (ri_st1 lo 1 (.int ((eh_i G 1 (eh_i G 0 4).toNatClampNeg) &&& 255)))) (st' := [.int 41, .int ((eh_i G 1 (eh_i G 0 4).toNatClampNeg) &&& 255), .ref 0]) rfl (e := (.bipush 41, 2, [], .null)) rfl rfl (fun _ _ => rfl)
                  rcases eh_q0 (E.br (p := 128) (c := 0) (tgt := 140) (a := (eh_i G 1 (eh_i G 0 4).toNatClampNeg) &&& 255) (b := 41) (st' := [.ref 0]) rfl (e := (.if_icmp .eq 15, 3, [140], .null)) rfl rfl (fun _ _ => rfl) rfl) with ⟨c205, E⟩ | ⟨c205, E⟩
                  · skip
                    have E := E.pu (p := 141) (lo' := (ri_st1 lo 1 (.int ((eh_i G 1 (eh_i G 0 4).toNatClampNeg) &&& 255)))) (st' := [.int 3, .ref 0]) rfl (e := (.iconst 3, 1, [], .null)) rfl rfl (fun _ _ => rfl)
                    have E := E.pu (p := 145) (lo' := (ri_st1 lo 1 (.int ((eh_i G 1 (eh_i G 0 4).toNatClampNeg) &&& 255)))) (st' := [.int 3, .ref 0]) rfl (e := (.goto 4, 3, [145], .null)) rfl rfl (fun _ _ => rfl)
                    obtain ⟨h206, hV207, hN208, E⟩ := E.gp (p := 148) rfl (x := 145) (m := 3) (w := .null) (t := 12) (i := 11) (u := 1335) (y := 0) rfl rfl hV168
                    have E := E.ld (p := 149) (t := ri_isA) (i := 0) (n := 1) (v := .ref 0) rfl (e := (.aload_n 0, 1, [], .null)) rfl rfl (fun _ _ => rfl) k139_0 rfl
                    have E := E.ld (p := 150) (t := ri_isI) (i := 1) (n := 1) (v := .int ((eh_i G 1 (eh_i G 0 4).toNatClampNeg) &&& 255)) rfl (e := (.iload_n 1, 1, [], .null)) rfl rfl (fun _ _ => rfl) k139_1 rfl
                    obtain ⟨h209, hV210, hN211, E⟩ := E.gp (p := 153) rfl (x := 155) (m := 3) (w := .null) (t := 12) (i := 14) (u := 1338) (y := 0) rfl rfl hV207
                    have E := E.ld (p := 154) (t := ri_isA) (i := 0) (n := 1) (v := .ref 0) rfl (e := (.aload_n 0, 1, [], .null)) rfl rfl (fun _ _ => rfl) k139_0 rfl
                    have E := E.pu (p := 155) (lo' := (ri_st1 lo 1 (.int ((eh_i G 1 (eh_i G 0 4).toNatClampNeg) &&& 255)))) (st' := [.ref 0, .ref 0]) rfl (e := (.dup, 1, [], .null)) rfl rfl (fun _ _ => rfl)
                    have E := E.gi (y := eh_i G 0 4) (p := 158) rfl (x := 21) (m := 3) (w := .null) (t := 12) (i := 4) (u := 1328) rfl rfl hV210 ((((ty.ui rfl).ui rfl).ui rfl).ui rfl) rfl rfl
                    have E := E.pu (p := 159) (lo' := (ri_st1 lo 1 (.int ((eh_i G 1 (eh_i G 0 4).toNatClampNeg) &&& 255)))) (st' := [.int 1, .int (eh_i G 0 4), .ref 0]) rfl (e := (.iconst 1, 1, [], .null)) rfl rfl (fun _ _ => rfl)
                    have E := E.pu (p := 160) (lo' := (ri_st1 lo 1 (.int ((eh_i G 1 (eh_i G 0 4).toNatClampNeg) &&& 255)))) (st' := [.int ((eh_i G 0 4) + 1), .ref 0]) rfl (e := (.iadd, 1, [], .null)) rfl rfl (fun _ _ => rfl)
                    obtain ⟨h212, hV213, hN214, E⟩ := E.gp (p := 163) rfl (x := 21) (m := 3) (w := .null) (t := 12) (i := 4) (u := 1328) (y := 0) rfl rfl hV210
                    obtain ⟨r1, r2⟩ := E.retv rfl (m := 1) (ax := []) (w := .null) rfl
                    exact Or.inr (Or.inr (Or.inr (Or.inr (Or.inr (Or.inr (Or.inr (Or.inr (Or.inr (Or.inr (Or.inr (Or.inr (Or.inr (Or.inr (Or.inr (Or.inl ⟨c7, c127, c132, c140, c145, c167, c185, c195, c205, r1, ((congrArg eh_V r2).trans hV213), ((congrArg eh_N r2).trans (hN214.trans (hN211.trans (hN208.trans (hN169.trans (hN147.trans (hN134.trans (hN6.trans hN3))))))))⟩)))))))))))))))
                  · skip
                    have E := E.ld (p := 129) (t := ri_isI) (i := 1) (n := 1) (v := .int ((eh_i G 1 (eh_i G 0 4).toNatClampNeg) &&& 255)) rfl (e := (.iload_n 1, 1, [], .null)) rfl rfl (fun _ _ => rfl) k139_1 rfl
                    have E := E.pu (p := 131) (lo' := (ri_st1 lo 1 (.int ((eh_i G 1 (eh_i G 0 4).toNatClampNeg) &&& 255)))) (st' := [.int 60, .int ((eh_i G 1 (eh_i G 0 4).toNatClampNeg) &&& 255), .ref 0]) rfl (e := (.bipush 60, 2, [], .null)) rfl rfl (fun _ _ => rfl)
                    rcases eh_r2 rfl (show (60 : Int32).toInt = 60 by decide) (E.br (p := 134) (c := 2) (tgt := 144) (a := (eh_i G 1 (eh_i G 0 4).toNatClampNeg) &&& 255) (b := 60) (st' := [.ref 0]) rfl (e := (.if_icmp .lt 13, 3, [144], .null)) rfl rfl (fun _ _ => rfl) rfl) with ⟨c215, E⟩ | ⟨c215, E⟩
                    · skip
                      have E := E.pu (p := 145) (lo' := (ri_st1 lo 1 (.int ((eh_i G 1 (eh_i G 0 4).toNatClampNeg) &&& 255)))) (st' := [.int 4, .ref 0]) rfl (e := (.iconst 4, 1, [], .null)) rfl rfl (fun _ _ => rfl)
                      obtain ⟨h216, hV217, hN218, E⟩ := E.gp (p := 148) rfl (x := 145) (m := 3) (w := .null) (t := 12) (i := 11) (u := 1335) (y := 0) rfl rfl hV168
                      have E := E.ld (p := 149) (t := ri_isA) (i := 0) (n := 1) (v := .ref 0) rfl (e := (.aload_n 0, 1, [], .null)) rfl rfl (fun _ _ => rfl) k139_0 rfl
                      have E := E.ld (p := 150) (t := ri_isI) (i := 1) (n := 1) (v := .int ((eh_i G 1 (eh_i G 0 4).toNatClampNeg) &&& 255)) rfl (e := (.iload_n 1, 1, [], .null)) rfl rfl (fun _ _ => rfl) k139_1 rfl
                      obtain ⟨h219, hV220, hN221, E⟩ := E.gp (p := 153) rfl (x := 155) (m := 3) (w := .null) (t := 12) (i := 14) (u := 1338) (y := 0) rfl rfl hV217
                      have E := E.ld (p := 154) (t := ri_isA) (i := 0) (n := 1) (v := .ref 0) rfl (e := (.aload_n 0, 1, [], .null)) rfl rfl (fun _ _ => rfl) k139_0 rfl
                      have E := E.pu (p := 155) (lo' := (ri_st1 lo 1 (.int ((eh_i G 1 (eh_i G 0 4).toNatClampNeg) &&& 255)))) (st' := [.ref 0, .ref 0]) rfl (e := (.dup, 1, [], .null)) rfl rfl (fun _ _ => rfl)
                      have E := E.gi (y := eh_i G 0 4) (p := 158) rfl (x := 21) (m := 3) (w := .null) (t := 12) (i := 4) (u := 1328) rfl rfl hV220 ((((ty.ui rfl).ui rfl).ui rfl).ui rfl) rfl rfl
                      have E := E.pu (p := 159) (lo' := (ri_st1 lo 1 (.int ((eh_i G 1 (eh_i G 0 4).toNatClampNeg) &&& 255)))) (st' := [.int 1, .int (eh_i G 0 4), .ref 0]) rfl (e := (.iconst 1, 1, [], .null)) rfl rfl (fun _ _ => rfl)
                      have E := E.pu (p := 160) (lo' := (ri_st1 lo 1 (.int ((eh_i G 1 (eh_i G 0 4).toNatClampNeg) &&& 255)))) (st' := [.int ((eh_i G 0 4) + 1), .ref 0]) rfl (e := (.iadd, 1, [], .null)) rfl rfl (fun _ _ => rfl)
                      obtain ⟨h222, hV223, hN224, E⟩ := E.gp (p := 163) rfl (x := 21) (m := 3) (w := .null) (t := 12) (i := 4) (u := 1328) (y := 0) rfl rfl hV220
                      obtain ⟨r1, r2⟩ := E.retv rfl (m := 1) (ax := []) (w := .null) rfl
                      exact Or.inr (Or.inr (Or.inr (Or.inr (Or.inr (Or.inr (Or.inr (Or.inr (Or.inr (Or.inr (Or.inr (Or.inr (Or.inr (Or.inr (Or.inr (Or.inr (Or.inl ⟨c7, c127, c132, c140, c145, c167, c185, c195, c205, c215, r1, ((congrArg eh_V r2).trans hV223), ((congrArg eh_N r2).trans (hN224.trans (hN221.trans (hN218.trans (hN169.trans (hN147.trans (hN134.trans (hN6.trans hN3))))))))⟩))))))))))))))))
                    · skip
                      have E := E.ld (p := 135) (t := ri_isI) (i := 1) (n := 1) (v := .int ((eh_i G 1 (eh_i G 0 4).toNatClampNeg) &&& 255)) rfl (e := (.iload_n 1, 1, [], .null)) rfl rfl (fun _ _ => rfl) k139_1 rfl
                      have E := E.pu (p := 137) (lo' := (ri_st1 lo 1 (.int ((eh_i G 1 (eh_i G 0 4).toNatClampNeg) &&& 255)))) (st' := [.int 62, .int ((eh_i G 1 (eh_i G 0 4).toNatClampNeg) &&& 255), .ref 0]) rfl (e := (.bipush 62, 2, [], .null)) rfl rfl (fun _ _ => rfl)
                      rcases eh_r4 rfl (show (62 : Int32).toInt = 62 by decide) (E.br (p := 140) (c := 4) (tgt := 144) (a := (eh_i G 1 (eh_i G 0 4).toNatClampNeg) &&& 255) (b := 62) (st' := [.ref 0]) rfl (e := (.if_icmp .gt 7, 3, [144], .null)) rfl rfl (fun _ _ => rfl) rfl) with ⟨c225, E⟩ | ⟨c225, E⟩
                      · skip
                        have E := E.pu (p := 145) (lo' := (ri_st1 lo 1 (.int ((eh_i G 1 (eh_i G 0 4).toNatClampNeg) &&& 255)))) (st' := [.int 4, .ref 0]) rfl (e := (.iconst 4, 1, [], .null)) rfl rfl (fun _ _ => rfl)
                        obtain ⟨h226, hV227, hN228, E⟩ := E.gp (p := 148) rfl (x := 145) (m := 3) (w := .null) (t := 12) (i := 11) (u := 1335) (y := 0) rfl rfl hV168
                        have E := E.ld (p := 149) (t := ri_isA) (i := 0) (n := 1) (v := .ref 0) rfl (e := (.aload_n 0, 1, [], .null)) rfl rfl (fun _ _ => rfl) k139_0 rfl
                        have E := E.ld (p := 150) (t := ri_isI) (i := 1) (n := 1) (v := .int ((eh_i G 1 (eh_i G 0 4).toNatClampNeg) &&& 255)) rfl (e := (.iload_n 1, 1, [], .null)) rfl rfl (fun _ _ => rfl) k139_1 rfl
                        obtain ⟨h229, hV230, hN231, E⟩ := E.gp (p := 153) rfl (x := 155) (m := 3) (w := .null) (t := 12) (i := 14) (u := 1338) (y := 0) rfl rfl hV227
                        have E := E.ld (p := 154) (t := ri_isA) (i := 0) (n := 1) (v := .ref 0) rfl (e := (.aload_n 0, 1, [], .null)) rfl rfl (fun _ _ => rfl) k139_0 rfl
                        have E := E.pu (p := 155) (lo' := (ri_st1 lo 1 (.int ((eh_i G 1 (eh_i G 0 4).toNatClampNeg) &&& 255)))) (st' := [.ref 0, .ref 0]) rfl (e := (.dup, 1, [], .null)) rfl rfl (fun _ _ => rfl)
                        have E := E.gi (y := eh_i G 0 4) (p := 158) rfl (x := 21) (m := 3) (w := .null) (t := 12) (i := 4) (u := 1328) rfl rfl hV230 ((((ty.ui rfl).ui rfl).ui rfl).ui rfl) rfl rfl
                        have E := E.pu (p := 159) (lo' := (ri_st1 lo 1 (.int ((eh_i G 1 (eh_i G 0 4).toNatClampNeg) &&& 255)))) (st' := [.int 1, .int (eh_i G 0 4), .ref 0]) rfl (e := (.iconst 1, 1, [], .null)) rfl rfl (fun _ _ => rfl)
                        have E := E.pu (p := 160) (lo' := (ri_st1 lo 1 (.int ((eh_i G 1 (eh_i G 0 4).toNatClampNeg) &&& 255)))) (st' := [.int ((eh_i G 0 4) + 1), .ref 0]) rfl (e := (.iadd, 1, [], .null)) rfl rfl (fun _ _ => rfl)
                        obtain ⟨h232, hV233, hN234, E⟩ := E.gp (p := 163) rfl (x := 21) (m := 3) (w := .null) (t := 12) (i := 4) (u := 1328) (y := 0) rfl rfl hV230
                        obtain ⟨r1, r2⟩ := E.retv rfl (m := 1) (ax := []) (w := .null) rfl
                        exact Or.inr (Or.inr (Or.inr (Or.inr (Or.inr (Or.inr (Or.inr (Or.inr (Or.inr (Or.inr (Or.inr (Or.inr (Or.inr (Or.inr (Or.inr (Or.inr (Or.inr (Or.inl ⟨c7, c127, c132, c140, c145, c167, c185, c195, c205, c215, c225, r1, ((congrArg eh_V r2).trans hV233), ((congrArg eh_N r2).trans (hN234.trans (hN231.trans (hN228.trans (hN169.trans (hN147.trans (hN134.trans (hN6.trans hN3))))))))⟩)))))))))))))))))
                      · skip
                        have E := E.pu (p := 141) (lo' := (ri_st1 lo 1 (.int ((eh_i G 1 (eh_i G 0 4).toNatClampNeg) &&& 255)))) (st' := [.int 3, .ref 0]) rfl (e := (.iconst 3, 1, [], .null)) rfl rfl (fun _ _ => rfl)
                        have E := E.pu (p := 145) (lo' := (ri_st1 lo 1 (.int ((eh_i G 1 (eh_i G 0 4).toNatClampNeg) &&& 255)))) (st' := [.int 3, .ref 0]) rfl (e := (.goto 4, 3, [145], .null)) rfl rfl (fun _ _ => rfl)
                        obtain ⟨h235, hV236, hN237, E⟩ := E.gp (p := 148) rfl (x := 145) (m := 3) (w := .null) (t := 12) (i := 11) (u := 1335) (y := 0) rfl rfl hV168
                        have E := E.ld (p := 149) (t := ri_isA) (i := 0) (n := 1) (v := .ref 0) rfl (e := (.aload_n 0, 1, [], .null)) rfl rfl (fun _ _ => rfl) k139_0 rfl
                        have E := E.ld (p := 150) (t := ri_isI) (i := 1) (n := 1) (v := .int ((eh_i G 1 (eh_i G 0 4).toNatClampNeg) &&& 255)) rfl (e := (.iload_n 1, 1, [], .null)) rfl rfl (fun _ _ => rfl) k139_1 rfl
                        obtain ⟨h238, hV239, hN240, E⟩ := E.gp (p := 153) rfl (x := 155) (m := 3) (w := .null) (t := 12) (i := 14) (u := 1338) (y := 0) rfl rfl hV236
                        have E := E.ld (p := 154) (t := ri_isA) (i := 0) (n := 1) (v := .ref 0) rfl (e := (.aload_n 0, 1, [], .null)) rfl rfl (fun _ _ => rfl) k139_0 rfl
                        have E := E.pu (p := 155) (lo' := (ri_st1 lo 1 (.int ((eh_i G 1 (eh_i G 0 4).toNatClampNeg) &&& 255)))) (st' := [.ref 0, .ref 0]) rfl (e := (.dup, 1, [], .null)) rfl rfl (fun _ _ => rfl)
                        have E := E.gi (y := eh_i G 0 4) (p := 158) rfl (x := 21) (m := 3) (w := .null) (t := 12) (i := 4) (u := 1328) rfl rfl hV239 ((((ty.ui rfl).ui rfl).ui rfl).ui rfl) rfl rfl
                        have E := E.pu (p := 159) (lo' := (ri_st1 lo 1 (.int ((eh_i G 1 (eh_i G 0 4).toNatClampNeg) &&& 255)))) (st' := [.int 1, .int (eh_i G 0 4), .ref 0]) rfl (e := (.iconst 1, 1, [], .null)) rfl rfl (fun _ _ => rfl)
                        have E := E.pu (p := 160) (lo' := (ri_st1 lo 1 (.int ((eh_i G 1 (eh_i G 0 4).toNatClampNeg) &&& 255)))) (st' := [.int ((eh_i G 0 4) + 1), .ref 0]) rfl (e := (.iadd, 1, [], .null)) rfl rfl (fun _ _ => rfl)
                        obtain ⟨h241, hV242, hN243, E⟩ := E.gp (p := 163) rfl (x := 21) (m := 3) (w := .null) (t := 12) (i := 4) (u := 1328) (y := 0) rfl rfl hV239
                        obtain ⟨r1, r2⟩ := E.retv rfl (m := 1) (ax := []) (w := .null) rfl
                        exact Or.inr (Or.inr (Or.inr (Or.inr (Or.inr (Or.inr (Or.inr (Or.inr (Or.inr (Or.inr (Or.inr (Or.inr (Or.inr (Or.inr (Or.inr (Or.inr (Or.inr (Or.inr (Or.inl ⟨c7, c127, c132, c140, c145, c167, c185, c195, c205, c215, c225, r1, ((congrArg eh_V r2).trans hV242), ((congrArg eh_N r2).trans (hN243.trans (hN240.trans (hN237.trans (hN169.trans (hN147.trans (hN134.trans (hN6.trans hN3))))))))⟩))))))))))))))))))
        · skip
          have E := E.ld (p := 90) (t := ri_isA) (i := 0) (n := 1) (v := .ref 0) rfl (e := (.aload_n 0, 1, [], .null)) rfl rfl (fun _ _ => rfl) k139_0 rfl
          have E := E.pu (p := 91) (lo' := (ri_st1 lo 1 (.int ((eh_i G 1 (eh_i G 0 4).toNatClampNeg) &&& 255)))) (st' := [.int 0, .ref 0]) rfl (e := (.iconst 0, 1, [], .null)) rfl rfl (fun _ _ => rfl)
          obtain ⟨h244, hV245, hN246, E⟩ := E.gp (p := 94) rfl (x := 145) (m := 3) (w := .null) (t := 12) (i := 11) (u := 1335) (y := 0) rfl rfl hV133
          obtain ⟨r1, r2⟩ := E.retv rfl (m := 1) (ax := []) (w := .null) rfl
          exact Or.inr (Or.inr (Or.inr (Or.inr (Or.inr (Or.inr (Or.inr (Or.inr (Or.inr (Or.inr (Or.inr (Or.inr (Or.inr (Or.inr (Or.inr (Or.inr (Or.inr (Or.inr (Or.inr (Or.inl ⟨c7, c127, c132, c140, r1, ((congrArg eh_V r2).trans hV245), ((congrArg eh_N r2).trans (hN246.trans (hN134.trans (hN6.trans hN3))))⟩)))))))))))))))))))
    · skip
      have E := E.ld (p := 67) (t := ri_isA) (i := 0) (n := 1) (v := .ref 0) rfl (e := (.aload_n 0, 1, [], .null)) rfl rfl (fun _ _ => rfl) l0 rfl
      have E := E.ld (p := 68) (t := ri_isA) (i := 0) (n := 1) (v := .ref 0) rfl (e := (.aload_n 0, 1, [], .null)) rfl rfl (fun _ _ => rfl) l0 rfl
      have E := E.gi (y := eh_i G 0 5) (p := 71) rfl (x := 24) (m := 3) (w := .null) (t := 12) (i := 5) (u := 1329) rfl rfl hV5 ((ty.ui rfl).ui rfl) rfl rfl
      obtain ⟨h247, hV248, hN249, E⟩ := E.gp (p := 74) rfl (x := 139) (m := 3) (w := .null) (t := 12) (i := 12) (u := 1336) (y := 0) rfl rfl hV5
      have E := E.ld (p := 75) (t := ri_isA) (i := 0) (n := 1) (v := .ref 0) rfl (e := (.aload_n 0, 1, [], .null)) rfl rfl (fun _ _ => rfl) l0 rfl
      have E := E.pu (p := 76) (lo' := lo) (st' := [.int 4, .ref 0]) rfl (e := (.iconst 4, 1, [], .null)) rfl rfl (fun _ _ => rfl)
      obtain ⟨h250, hV251, hN252, E⟩ := E.gp (p := 79) rfl (x := 145) (m := 3) (w := .null) (t := 12) (i := 11) (u := 1335) (y := 0) rfl rfl hV248
      obtain ⟨r1, r2⟩ := E.retv rfl (m := 1) (ax := []) (w := .null) rfl
      exact Or.inr (Or.inr (Or.inr (Or.inr (Or.inr (Or.inr (Or.inr (Or.inr (Or.inr (Or.inr (Or.inr (Or.inr (Or.inr (Or.inr (Or.inr (Or.inr (Or.inr (Or.inr (Or.inr (Or.inr (⟨c7, c127, r1, ((congrArg eh_V r2).trans hV251), ((congrArg eh_N r2).trans (hN252.trans (hN249.trans (hN6.trans hN3))))⟩))))))))))))))))))))
theorem nx_r {d : Nat} {lo : List (Nat × Value)} {h h' : ri_H} {rs : List Value} {G : eh_W} {cc sm al : Int32} (E : eh_e (ri_calE ri_md (d + 1)) md_158 181 lo [] h rs h') (hV : eh_V h = G) (ty : eh_ty tM G) (l0 : ri_lk lo 0 = some (.ref 0)) (l1 : ri_lk lo 1 = some (.int cc)) (l2 : ri_lk lo 2 = some (.int sm)) (l3 : ri_lk lo 3 = some (.int al)) : (¬ ((eh_i G 0 4).toInt < (eh_i G 0 3).toInt) ∧ lx_lt (-1) = true ∧ al = 0 ∧ ∃ hz loz, eh_e (ri_calE ri_md (d + 1)) md_158 222 loz [] hz rs h' ∧ eh_V hz = G ∧ eh_N hz = eh_N h ∧ eh_ty tM G ∧ ri_lk loz 0 = some (.ref 0) ∧ ri_lk loz 1 = some (.int cc) ∧ ri_lk loz 2 = some (.int sm) ∧ ri_lk loz 3 = some (.int 0)) ∨ (¬ ((eh_i G 0 4).toInt < (eh_i G 0 3).toInt) ∧ lx_lt (-1) = true ∧ ¬ (al = 0) ∧ ¬ ((1 : Int32) = sm) ∧ ∃ hz loz, eh_e (ri_calE ri_md (d + 1)) md_158 222 loz [] hz rs h' ∧ eh_V hz = G ∧ eh_N hz = eh_N h ∧ eh_ty tM G ∧ ri_lk loz 0 = some (.ref 0) ∧ ri_lk loz 1 = some (.int cc) ∧ ri_lk loz 2 = some (.int sm) ∧ ri_lk loz 3 = some (.int 0)) ∨ (¬ ((eh_i G 0 4).toInt < (eh_i G 0 3).toInt) ∧ lx_lt (-1) = true ∧ ¬ (al = 0) ∧ (1 : Int32) = sm ∧ ∃ hz loz, eh_e (ri_calE ri_md (d + 1)) md_158 222 loz [] hz rs h' ∧ eh_V hz = G ∧ eh_N hz = eh_N h ∧ eh_ty tM G ∧ ri_lk loz 0 = some (.ref 0) ∧ ri_lk loz 1 = some (.int cc) ∧ ri_lk loz 2 = some (.int sm) ∧ ri_lk loz 3 = some (.int 1)) ∨ (¬ ((eh_i G 0 4).toInt < (eh_i G 0 3).toInt) ∧ ¬ (lx_lt (-1) = true) ∧ lx_dg (-1) = true ∧ al = 0 ∧ ∃ hz loz, eh_e (ri_calE ri_md (d + 1)) md_158 222 loz [] hz rs h' ∧ eh_V hz = G ∧ eh_N hz = eh_N h ∧ eh_ty tM G ∧ ri_lk loz 0 = some (.ref 0) ∧ ri_lk loz 1 = some (.int cc) ∧ ri_lk loz 2 = some (.int sm) ∧ ri_lk loz 3 = some (.int 0)) ∨ (¬ ((eh_i G 0 4).toInt < (eh_i G 0 3).toInt) ∧ ¬ (lx_lt (-1) = true) ∧ lx_dg (-1) = true ∧ ¬ (al = 0) ∧ ¬ ((0 : Int32) = sm) ∧ ∃ hz loz, eh_e (ri_calE ri_md (d + 1)) md_158 222 loz [] hz rs h' ∧ eh_V hz = G ∧ eh_N hz = eh_N h ∧ eh_ty tM G ∧ ri_lk loz 0 = some (.ref 0) ∧ ri_lk loz 1 = some (.int cc) ∧ ri_lk loz 2 = some (.int sm) ∧ ri_lk loz 3 = some (.int 0)) ∨ (¬ ((eh_i G 0 4).toInt < (eh_i G 0 3).toInt) ∧ ¬ (lx_lt (-1) = true) ∧ lx_dg (-1) = true ∧ ¬ (al = 0) ∧ (0 : Int32) = sm ∧ ∃ hz loz, eh_e (ri_calE ri_md (d + 1)) md_158 222 loz [] hz rs h' ∧ eh_V hz = G ∧ eh_N hz = eh_N h ∧ eh_ty tM G ∧ ri_lk loz 0 = some (.ref 0) ∧ ri_lk loz 1 = some (.int cc) ∧ ri_lk loz 2 = some (.int sm) ∧ ri_lk loz 3 = some (.int 1)) ∨ (¬ ((eh_i G 0 4).toInt < (eh_i G 0 3).toInt) ∧ ¬ (lx_lt (-1) = true) ∧ ¬ (lx_dg (-1) = true) ∧ ∃ hz loz, eh_e (ri_calE ri_md (d + 1)) md_158 298 loz [] hz rs h' ∧ eh_V hz = G ∧ eh_N hz = eh_N h ∧ eh_ty tM G ∧ ri_lk loz 0 = some (.ref 0) ∧ ri_lk loz 1 = some (.int cc) ∧ ri_lk loz 2 = some (.int sm) ∧ ri_lk loz 3 = some (.int al)) ∨ ((eh_i G 0 4).toInt < (eh_i G 0 3).toInt ∧ lx_lt ((eh_i G 1 (eh_i G 0 4).toNatClampNeg) &&& 255) = true ∧ al = 0 ∧ ∃ hz loz, eh_e (ri_calE ri_md (d + 1)) md_158 222 loz [] hz rs h' ∧ eh_V hz = G ∧ eh_N hz = eh_N h ∧ eh_ty tM G ∧ ri_lk loz 0 = some (.ref 0) ∧ ri_lk loz 1 = some (.int cc) ∧ ri_lk loz 2 = some (.int sm) ∧ ri_lk loz 3 = some (.int 0)) ∨ ((eh_i G 0 4).toInt < (eh_i G 0 3).toInt ∧ lx_lt ((eh_i G 1 (eh_i G 0 4).toNatClampNeg) &&& 255) = true ∧ ¬ (al = 0) ∧ ¬ ((1 : Int32) = sm) ∧ ∃ hz loz, eh_e (ri_calE ri_md (d + 1)) md_158 222 loz [] hz rs h' ∧ eh_V hz = G ∧ eh_N hz = eh_N h ∧ eh_ty tM G ∧ ri_lk loz 0 = some (.ref 0) ∧ ri_lk loz 1 = some (.int cc) ∧ ri_lk loz 2 = some (.int sm) ∧ ri_lk loz 3 = some (.int 0)) ∨ ((eh_i G 0 4).toInt < (eh_i G 0 3).toInt ∧ lx_lt ((eh_i G 1 (eh_i G 0 4).toNatClampNeg) &&& 255) = true ∧ ¬ (al = 0) ∧ (1 : Int32) = sm ∧ ∃ hz loz, eh_e (ri_calE ri_md (d + 1)) md_158 222 loz [] hz rs h' ∧ eh_V hz = G ∧ eh_N hz = eh_N h ∧ eh_ty tM G ∧ ri_lk loz 0 = some (.ref 0) ∧ ri_lk loz 1 = some (.int cc) ∧ ri_lk loz 2 = some (.int sm) ∧ ri_lk loz 3 = some (.int 1)) ∨ ((eh_i G 0 4).toInt < (eh_i G 0 3).toInt ∧ ¬ (lx_lt ((eh_i G 1 (eh_i G 0 4).toNatClampNeg) &&& 255) = true) ∧ lx_dg ((eh_i G 1 (eh_i G 0 4).toNatClampNeg) &&& 255) = true ∧ al = 0 ∧ ∃ hz loz, eh_e (ri_calE ri_md (d + 1)) md_158 222 loz [] hz rs h' ∧ eh_V hz = G ∧ eh_N hz = eh_N h ∧ eh_ty tM G ∧ ri_lk loz 0 = some (.ref 0) ∧ ri_lk loz 1 = some (.int cc) ∧ ri_lk loz 2 = some (.int sm) ∧ ri_lk loz 3 = some (.int 0)) ∨ ((eh_i G 0 4).toInt < (eh_i G 0 3).toInt ∧ ¬ (lx_lt ((eh_i G 1 (eh_i G 0 4).toNatClampNeg) &&& 255) = true) ∧ lx_dg ((eh_i G 1 (eh_i G 0 4).toNatClampNeg) &&& 255) = true ∧ ¬ (al = 0) ∧ ¬ ((0 : Int32) = sm) ∧ ∃ hz loz, eh_e (ri_calE ri_md (d + 1)) md_158 222 loz [] hz rs h' ∧ eh_V hz = G ∧ eh_N hz = eh_N h ∧ eh_ty tM G ∧ ri_lk loz 0 = some (.ref 0) ∧ ri_lk loz 1 = some (.int cc) ∧ ri_lk loz 2 = some (.int sm) ∧ ri_lk loz 3 = some (.int 0)) ∨ ((eh_i G 0 4).toInt < (eh_i G 0 3).toInt ∧ ¬ (lx_lt ((eh_i G 1 (eh_i G 0 4).toNatClampNeg) &&& 255) = true) ∧ lx_dg ((eh_i G 1 (eh_i G 0 4).toNatClampNeg) &&& 255) = true ∧ ¬ (al = 0) ∧ (0 : Int32) = sm ∧ ∃ hz loz, eh_e (ri_calE ri_md (d + 1)) md_158 222 loz [] hz rs h' ∧ eh_V hz = G ∧ eh_N hz = eh_N h ∧ eh_ty tM G ∧ ri_lk loz 0 = some (.ref 0) ∧ ri_lk loz 1 = some (.int cc) ∧ ri_lk loz 2 = some (.int sm) ∧ ri_lk loz 3 = some (.int 1)) ∨ ((eh_i G 0 4).toInt < (eh_i G 0 3).toInt ∧ ¬ (lx_lt ((eh_i G 1 (eh_i G 0 4).toNatClampNeg) &&& 255) = true) ∧ ¬ (lx_dg ((eh_i G 1 (eh_i G 0 4).toNatClampNeg) &&& 255) = true) ∧ ∃ hz loz, eh_e (ri_calE ri_md (d + 1)) md_158 298 loz [] hz rs h' ∧ eh_V hz = G ∧ eh_N hz = eh_N h ∧ eh_ty tM G ∧ ri_lk loz 0 = some (.ref 0) ∧ ri_lk loz 1 = some (.int cc) ∧ ri_lk loz 2 = some (.int sm) ∧ ri_lk loz 3 = some (.int al)) := by
  have E := E.ld (p := 182) (t := ri_isA) (i := 0) (n := 1) (v := .ref 0) rfl (e := (.aload_n 0, 1, [], .null)) rfl rfl (fun _ _ => rfl) l0 rfl
  obtain ⟨v1, h1, X, E⟩ := E.cv (p := 185) (as := []) (b := 0) (r := []) rfl (x := 135) (m := 3) (w := .null) (j := 155) (n := 0) (t := 12) (u := [1482, 36, 1484]) rfl rfl rfl
  rcases sp_155 (d := d) X hV ty with ⟨c2, rfl, hV3, hN4⟩ | ⟨c5, rfl, hV6, hN7⟩
  · skip
    have c2 : ¬ ((eh_i G 0 4).toInt < (eh_i G 0 3).toInt) := c2
    have E : eh_e _ _ 185 lo [.int (-1)] _ rs h' := E
    obtain ⟨v1, h8, X, E⟩ := E.cs (p := 188) (as := [.int (-1)]) (r := []) rfl (x := 148) (m := 3) (w := .null) (j := 156) (n := 1) (t := 0) (u := [1486, 1487]) rfl rfl rfl
    rcases sp_156 (d := d) X hV3 ty with ⟨c9, rfl, hV10, hN11⟩ | ⟨c12, rfl, hV13, hN14⟩
    · skip
      have c9 : lx_lt (-1) = true := c9
      have E : eh_e _ _ 188 lo [.int 1] _ rs h' := E
      have E := E.brt (c := 1) (tgt := 201) (a := 1) (b := 0) (st' := []) rfl (e := (.ifCond .ne 13, 3, [201], .null)) rfl rfl (fun _ _ => rfl) (by decide)
      have E := E.ld (p := 202) (t := ri_isI) (i := 3) (n := 1) (v := .int al) rfl (e := (.iload_n 3, 1, [], .null)) rfl rfl (fun _ _ => rfl) l3 rfl
      rcases eh_q0 (E.br (p := 205) (c := 0) (tgt := 220) (a := al) (b := 0) (st' := []) rfl (e := (.ifCond .eq 18, 3, [220], .null)) rfl rfl (fun _ _ => rfl) rfl) with ⟨c15, E⟩ | ⟨c15, E⟩
      · skip
        have E := E.pu (p := 221) (lo' := lo) (st' := [.int 0]) rfl (e := (.iconst 0, 1, [], .null)) rfl rfl (fun _ _ => rfl)
        have E := E.so (p := 222) (t := ri_isI) (i := 3) (n := 1) rfl (e := (.istore_n 3, 1, [], .null)) rfl rfl (fun _ _ => rfl) rfl
        have k16_3 : ri_lk (ri_st1 lo 3 (.int 0)) 3 = some (.int 0) := eh_self
        have k16_0 : ri_lk (ri_st1 lo 3 (.int 0)) 0 = some (.ref 0) := eh_keep (by decide) (Or.inl rfl) l0
        have k16_1 : ri_lk (ri_st1 lo 3 (.int 0)) 1 = some (.int cc) := eh_keep (by decide) (Or.inl rfl) l1
        have k16_2 : ri_lk (ri_st1 lo 3 (.int 0)) 2 = some (.int sm) := eh_keep (by decide) (Or.inl rfl) l2
        exact Or.inl ⟨c2, c9, c15, _, _, E, hV10, (hN11.trans hN4), ty, k16_0, k16_1, k16_2, k16_3⟩
      · skip
        have E := E.ld (p := 206) (t := ri_isA) (i := 0) (n := 1) (v := .ref 0) rfl (e := (.aload_n 0, 1, [], .null)) rfl rfl (fun _ _ => rfl) l0 rfl
        obtain ⟨v1, h17, X, E⟩ := E.cv (p := 209) (as := []) (b := 0) (r := []) rfl (x := 135) (m := 3) (w := .null) (j := 155) (n := 0) (t := 12) (u := [1482, 36, 1484]) rfl rfl rfl
        rcases sp_155 (d := d) X hV10 ty with ⟨c18, rfl, hV19, hN20⟩ | ⟨c21, rfl, hV22, hN23⟩
        · skip
          have E : eh_e _ _ 209 lo [.int (-1)] _ rs h' := E
          obtain ⟨v1, h24, X, E⟩ := E.cs (p := 212) (as := [.int (-1)]) (r := []) rfl (x := 148) (m := 3) (w := .null) (j := 156) (n := 1) (t := 0) (u := [1486, 1487]) rfl rfl rfl
          rcases sp_156 (d := d) X hV19 ty with ⟨c25, rfl, hV26, hN27⟩ | ⟨c28, rfl, hV29, hN30⟩
          · skip
            have E : eh_e _ _ 212 lo [.int 1] _ rs h' := E
            have E := E.ld (p := 213) (t := ri_isI) (i := 2) (n := 1) (v := .int sm) rfl (e := (.iload_n 2, 1, [], .null)) rfl rfl (fun _ _ => rfl) l2 rfl
            rcases eh_q1 (E.br (p := 216) (c := 1) (tgt := 220) (a := 1) (b := sm) (st' := []) rfl (e := (.if_icmp .ne 7, 3, [220], .null)) rfl rfl (fun _ _ => rfl) rfl) with ⟨c31, E⟩ | ⟨c31, E⟩
            · skip
              have E := E.pu (p := 221) (lo' := lo) (st' := [.int 0]) rfl (e := (.iconst 0, 1, [], .null)) rfl rfl (fun _ _ => rfl)
              have E := E.so (p := 222) (t := ri_isI) (i := 3) (n := 1) rfl (e := (.istore_n 3, 1, [], .null)) rfl rfl (fun _ _ => rfl) rfl
              have k32_3 : ri_lk (ri_st1 lo 3 (.int 0)) 3 = some (.int 0) := eh_self
              have k32_0 : ri_lk (ri_st1 lo 3 (.int 0)) 0 = some (.ref 0) := eh_keep (by decide) (Or.inl rfl) l0
              have k32_1 : ri_lk (ri_st1 lo 3 (.int 0)) 1 = some (.int cc) := eh_keep (by decide) (Or.inl rfl) l1
              have k32_2 : ri_lk (ri_st1 lo 3 (.int 0)) 2 = some (.int sm) := eh_keep (by decide) (Or.inl rfl) l2
              exact Or.inr (Or.inl ⟨c2, c9, c15, c31, _, _, E, hV26, (hN27.trans (hN20.trans (hN11.trans hN4))), ty, k32_0, k32_1, k32_2, k32_3⟩)
            · skip
              have E := E.pu (p := 217) (lo' := lo) (st' := [.int 1]) rfl (e := (.iconst 1, 1, [], .null)) rfl rfl (fun _ _ => rfl)
              have E := E.pu (p := 221) (lo' := lo) (st' := [.int 1]) rfl (e := (.goto 4, 3, [221], .null)) rfl rfl (fun _ _ => rfl)
              have E := E.so (p := 222) (t := ri_isI) (i := 3) (n := 1) rfl (e := (.istore_n 3, 1, [], .null)) rfl rfl (fun _ _ => rfl) rfl
              have k33_3 : ri_lk (ri_st1 lo 3 (.int 1)) 3 = some (.int 1) := eh_self
              have k33_0 : ri_lk (ri_st1 lo 3 (.int 1)) 0 = some (.ref 0) := eh_keep (by decide) (Or.inl rfl) l0
              have k33_1 : ri_lk (ri_st1 lo 3 (.int 1)) 1 = some (.int cc) := eh_keep (by decide) (Or.inl rfl) l1
              have k33_2 : ri_lk (ri_st1 lo 3 (.int 1)) 2 = some (.int sm) := eh_keep (by decide) (Or.inl rfl) l2
              exact Or.inr (Or.inr (Or.inl ⟨c2, c9, c15, c31, _, _, E, hV26, (hN27.trans (hN20.trans (hN11.trans hN4))), ty, k33_0, k33_1, k33_2, k33_3⟩))
          · skip
            exact absurd c9 c28
        · skip
          exact absurd c21 c2
    · skip
      have c12 : ¬ (lx_lt (-1) = true) := c12
      have E : eh_e _ _ 188 lo [.int 0] _ rs h' := E
      have E := E.brf (p := 191) (c := 1) (tgt := 201) (a := 0) (b := 0) (st' := []) rfl (e := (.ifCond .ne 13, 3, [201], .null)) rfl rfl (fun _ _ => rfl) (by decide) rfl
      have E := E.ld (p := 192) (t := ri_isA) (i := 0) (n := 1) (v := .ref 0) rfl (e := (.aload_n 0, 1, [], .null)) rfl rfl (fun _ _ => rfl) l0 rfl
      obtain ⟨v1, h34, X, E⟩ := E.cv (p := 195) (as := []) (b := 0) (r := []) rfl (x := 135) (m := 3) (w := .null) (j := 155) (n := 0) (t := 12) (u := [1482, 36, 1484]) rfl rfl rfl
      rcases sp_155 (d := d) X hV13 ty with ⟨c35, rfl, hV36, hN37⟩ | ⟨c38, rfl, hV39, hN40⟩
      · skip
        have E : eh_e _ _ 195 lo [.int (-1)] _ rs h' := E
        obtain ⟨v1, h41, X, E⟩ := E.cs (p := 198) (as := [.int (-1)]) (r := []) rfl (x := 152) (m := 3) (w := .null) (j := 157) (n := 1) (t := 0) (u := [1489, 1490]) rfl rfl rfl
        rcases sp_157 (d := d) X hV36 ty with ⟨c42, rfl, hV43, hN44⟩ | ⟨c45, rfl, hV46, hN47⟩
        · skip
          have c42 : lx_dg (-1) = true := c42
          have E : eh_e _ _ 198 lo [.int 1] _ rs h' := E
          have E := E.brf (p := 201) (c := 0) (tgt := 298) (a := 1) (b := 0) (st' := []) rfl (e := (.ifCond .eq 100, 3, [298], .null)) rfl rfl (fun _ _ => rfl) (by decide) rfl
          have E := E.ld (p := 202) (t := ri_isI) (i := 3) (n := 1) (v := .int al) rfl (e := (.iload_n 3, 1, [], .null)) rfl rfl (fun _ _ => rfl) l3 rfl
          rcases eh_q0 (E.br (p := 205) (c := 0) (tgt := 220) (a := al) (b := 0) (st' := []) rfl (e := (.ifCond .eq 18, 3, [220], .null)) rfl rfl (fun _ _ => rfl) rfl) with ⟨c48, E⟩ | ⟨c48, E⟩
          · skip
            have E := E.pu (p := 221) (lo' := lo) (st' := [.int 0]) rfl (e := (.iconst 0, 1, [], .null)) rfl rfl (fun _ _ => rfl)
            have E := E.so (p := 222) (t := ri_isI) (i := 3) (n := 1) rfl (e := (.istore_n 3, 1, [], .null)) rfl rfl (fun _ _ => rfl) rfl
            have k49_3 : ri_lk (ri_st1 lo 3 (.int 0)) 3 = some (.int 0) := eh_self
            have k49_0 : ri_lk (ri_st1 lo 3 (.int 0)) 0 = some (.ref 0) := eh_keep (by decide) (Or.inl rfl) l0
            have k49_1 : ri_lk (ri_st1 lo 3 (.int 0)) 1 = some (.int cc) := eh_keep (by decide) (Or.inl rfl) l1
            have k49_2 : ri_lk (ri_st1 lo 3 (.int 0)) 2 = some (.int sm) := eh_keep (by decide) (Or.inl rfl) l2
            exact Or.inr (Or.inr (Or.inr (Or.inl ⟨c2, c12, c42, c48, _, _, E, hV43, (hN44.trans (hN37.trans (hN14.trans hN4))), ty, k49_0, k49_1, k49_2, k49_3⟩)))
          · skip
            have E := E.ld (p := 206) (t := ri_isA) (i := 0) (n := 1) (v := .ref 0) rfl (e := (.aload_n 0, 1, [], .null)) rfl rfl (fun _ _ => rfl) l0 rfl
            obtain ⟨v1, h50, X, E⟩ := E.cv (p := 209) (as := []) (b := 0) (r := []) rfl (x := 135) (m := 3) (w := .null) (j := 155) (n := 0) (t := 12) (u := [1482, 36, 1484]) rfl rfl rfl
            rcases sp_155 (d := d) X hV43 ty with ⟨c51, rfl, hV52, hN53⟩ | ⟨c54, rfl, hV55, hN56⟩
            · skip
              have E : eh_e _ _ 209 lo [.int (-1)] _ rs h' := E
              obtain ⟨v1, h57, X, E⟩ := E.cs (p := 212) (as := [.int (-1)]) (r := []) rfl (x := 148) (m := 3) (w := .null) (j := 156) (n := 1) (t := 0) (u := [1486, 1487]) rfl rfl rfl
              rcases sp_156 (d := d) X hV52 ty with ⟨c58, rfl, hV59, hN60⟩ | ⟨c61, rfl, hV62, hN63⟩
              · skip
                exact absurd c58 c12
              · skip
                have E : eh_e _ _ 212 lo [.int 0] _ rs h' := E
                have E := E.ld (p := 213) (t := ri_isI) (i := 2) (n := 1) (v := .int sm) rfl (e := (.iload_n 2, 1, [], .null)) rfl rfl (fun _ _ => rfl) l2 rfl
                rcases eh_q1 (E.br (p := 216) (c := 1) (tgt := 220) (a := 0) (b := sm) (st' := []) rfl (e := (.if_icmp .ne 7, 3, [220], .null)) rfl rfl (fun _ _ => rfl) rfl) with ⟨c64, E⟩ | ⟨c64, E⟩
                · skip
                  have E := E.pu (p := 221) (lo' := lo) (st' := [.int 0]) rfl (e := (.iconst 0, 1, [], .null)) rfl rfl (fun _ _ => rfl)
                  have E := E.so (p := 222) (t := ri_isI) (i := 3) (n := 1) rfl (e := (.istore_n 3, 1, [], .null)) rfl rfl (fun _ _ => rfl) rfl
                  have k65_3 : ri_lk (ri_st1 lo 3 (.int 0)) 3 = some (.int 0) := eh_self
                  have k65_0 : ri_lk (ri_st1 lo 3 (.int 0)) 0 = some (.ref 0) := eh_keep (by decide) (Or.inl rfl) l0
                  have k65_1 : ri_lk (ri_st1 lo 3 (.int 0)) 1 = some (.int cc) := eh_keep (by decide) (Or.inl rfl) l1
                  have k65_2 : ri_lk (ri_st1 lo 3 (.int 0)) 2 = some (.int sm) := eh_keep (by decide) (Or.inl rfl) l2
                  exact Or.inr (Or.inr (Or.inr (Or.inr (Or.inl ⟨c2, c12, c42, c48, c64, _, _, E, hV62, (hN63.trans (hN53.trans (hN44.trans (hN37.trans (hN14.trans hN4))))), ty, k65_0, k65_1, k65_2, k65_3⟩))))
                · skip
                  have E := E.pu (p := 217) (lo' := lo) (st' := [.int 1]) rfl (e := (.iconst 1, 1, [], .null)) rfl rfl (fun _ _ => rfl)
                  have E := E.pu (p := 221) (lo' := lo) (st' := [.int 1]) rfl (e := (.goto 4, 3, [221], .null)) rfl rfl (fun _ _ => rfl)
                  have E := E.so (p := 222) (t := ri_isI) (i := 3) (n := 1) rfl (e := (.istore_n 3, 1, [], .null)) rfl rfl (fun _ _ => rfl) rfl
                  have k66_3 : ri_lk (ri_st1 lo 3 (.int 1)) 3 = some (.int 1) := eh_self
                  have k66_0 : ri_lk (ri_st1 lo 3 (.int 1)) 0 = some (.ref 0) := eh_keep (by decide) (Or.inl rfl) l0
                  have k66_1 : ri_lk (ri_st1 lo 3 (.int 1)) 1 = some (.int cc) := eh_keep (by decide) (Or.inl rfl) l1
                  have k66_2 : ri_lk (ri_st1 lo 3 (.int 1)) 2 = some (.int sm) := eh_keep (by decide) (Or.inl rfl) l2
                  exact Or.inr (Or.inr (Or.inr (Or.inr (Or.inr (Or.inl ⟨c2, c12, c42, c48, c64, _, _, E, hV62, (hN63.trans (hN53.trans (hN44.trans (hN37.trans (hN14.trans hN4))))), ty, k66_0, k66_1, k66_2, k66_3⟩)))))
            · skip
              exact absurd c54 c2
        · skip
          have c45 : ¬ (lx_dg (-1) = true) := c45
          have E : eh_e _ _ 198 lo [.int 0] _ rs h' := E
          have E := E.brt (c := 0) (tgt := 298) (a := 0) (b := 0) (st' := []) rfl (e := (.ifCond .eq 100, 3, [298], .null)) rfl rfl (fun _ _ => rfl) (by decide)
          exact Or.inr (Or.inr (Or.inr (Or.inr (Or.inr (Or.inr (Or.inl ⟨c2, c12, c45, _, _, E, hV46, (hN47.trans (hN37.trans (hN14.trans hN4))), ty, l0, l1, l2, l3⟩))))))
      · skip
        exact absurd c38 c2
  · skip
    have c5 : (eh_i G 0 4).toInt < (eh_i G 0 3).toInt := c5
    have E : eh_e _ _ 185 lo [.int ((eh_i G 1 (eh_i G 0 4).toNatClampNeg) &&& 255)] _ rs h' := E
    obtain ⟨v1, h67, X, E⟩ := E.cs (p := 188) (as := [.int ((eh_i G 1 (eh_i G 0 4).toNatClampNeg) &&& 255)]) (r := []) rfl (x := 148) (m := 3) (w := .null) (j := 156) (n := 1) (t := 0) (u := [1486, 1487]) rfl rfl rfl
    rcases sp_156 (d := d) X hV6 ty with ⟨c68, rfl, hV69, hN70⟩ | ⟨c71, rfl, hV72, hN73⟩
    · skip
      have c68 : lx_lt ((eh_i G 1 (eh_i G 0 4).toNatClampNeg) &&& 255) = true := c68
      have E : eh_e _ _ 188 lo [.int 1] _ rs h' := E
      have E := E.brt (c := 1) (tgt := 201) (a := 1) (b := 0) (st' := []) rfl (e := (.ifCond .ne 13, 3, [201], .null)) rfl rfl (fun _ _ => rfl) (by decide)
      have E := E.ld (p := 202) (t := ri_isI) (i := 3) (n := 1) (v := .int al) rfl (e := (.iload_n 3, 1, [], .null)) rfl rfl (fun _ _ => rfl) l3 rfl
      rcases eh_q0 (E.br (p := 205) (c := 0) (tgt := 220) (a := al) (b := 0) (st' := []) rfl (e := (.ifCond .eq 18, 3, [220], .null)) rfl rfl (fun _ _ => rfl) rfl) with ⟨c74, E⟩ | ⟨c74, E⟩
      · skip
        have E := E.pu (p := 221) (lo' := lo) (st' := [.int 0]) rfl (e := (.iconst 0, 1, [], .null)) rfl rfl (fun _ _ => rfl)
        have E := E.so (p := 222) (t := ri_isI) (i := 3) (n := 1) rfl (e := (.istore_n 3, 1, [], .null)) rfl rfl (fun _ _ => rfl) rfl
        have k75_3 : ri_lk (ri_st1 lo 3 (.int 0)) 3 = some (.int 0) := eh_self
        have k75_0 : ri_lk (ri_st1 lo 3 (.int 0)) 0 = some (.ref 0) := eh_keep (by decide) (Or.inl rfl) l0
        have k75_1 : ri_lk (ri_st1 lo 3 (.int 0)) 1 = some (.int cc) := eh_keep (by decide) (Or.inl rfl) l1
        have k75_2 : ri_lk (ri_st1 lo 3 (.int 0)) 2 = some (.int sm) := eh_keep (by decide) (Or.inl rfl) l2
        exact Or.inr (Or.inr (Or.inr (Or.inr (Or.inr (Or.inr (Or.inr (Or.inl ⟨c5, c68, c74, _, _, E, hV69, (hN70.trans hN7), ty, k75_0, k75_1, k75_2, k75_3⟩)))))))
      · skip
        have E := E.ld (p := 206) (t := ri_isA) (i := 0) (n := 1) (v := .ref 0) rfl (e := (.aload_n 0, 1, [], .null)) rfl rfl (fun _ _ => rfl) l0 rfl
        obtain ⟨v1, h76, X, E⟩ := E.cv (p := 209) (as := []) (b := 0) (r := []) rfl (x := 135) (m := 3) (w := .null) (j := 155) (n := 0) (t := 12) (u := [1482, 36, 1484]) rfl rfl rfl
        rcases sp_155 (d := d) X hV69 ty with ⟨c77, rfl, hV78, hN79⟩ | ⟨c80, rfl, hV81, hN82⟩
        · skip
          exact absurd c5 c77
        · skip
          have E : eh_e _ _ 209 lo [.int ((eh_i G 1 (eh_i G 0 4).toNatClampNeg) &&& 255)] _ rs h' := E
          obtain ⟨v1, h83, X, E⟩ := E.cs (p := 212) (as := [.int ((eh_i G 1 (eh_i G 0 4).toNatClampNeg) &&& 255)]) (r := []) rfl (x := 148) (m := 3) (w := .null) (j := 156) (n := 1) (t := 0) (u := [1486, 1487]) rfl rfl rfl
          rcases sp_156 (d := d) X hV81 ty with ⟨c84, rfl, hV85, hN86⟩ | ⟨c87, rfl, hV88, hN89⟩
          · skip
            have E : eh_e _ _ 212 lo [.int 1] _ rs h' := E
            have E := E.ld (p := 213) (t := ri_isI) (i := 2) (n := 1) (v := .int sm) rfl (e := (.iload_n 2, 1, [], .null)) rfl rfl (fun _ _ => rfl) l2 rfl
            rcases eh_q1 (E.br (p := 216) (c := 1) (tgt := 220) (a := 1) (b := sm) (st' := []) rfl (e := (.if_icmp .ne 7, 3, [220], .null)) rfl rfl (fun _ _ => rfl) rfl) with ⟨c90, E⟩ | ⟨c90, E⟩
            · skip
              have E := E.pu (p := 221) (lo' := lo) (st' := [.int 0]) rfl (e := (.iconst 0, 1, [], .null)) rfl rfl (fun _ _ => rfl)
              have E := E.so (p := 222) (t := ri_isI) (i := 3) (n := 1) rfl (e := (.istore_n 3, 1, [], .null)) rfl rfl (fun _ _ => rfl) rfl
              have k91_3 : ri_lk (ri_st1 lo 3 (.int 0)) 3 = some (.int 0) := eh_self
              have k91_0 : ri_lk (ri_st1 lo 3 (.int 0)) 0 = some (.ref 0) := eh_keep (by decide) (Or.inl rfl) l0
              have k91_1 : ri_lk (ri_st1 lo 3 (.int 0)) 1 = some (.int cc) := eh_keep (by decide) (Or.inl rfl) l1
              have k91_2 : ri_lk (ri_st1 lo 3 (.int 0)) 2 = some (.int sm) := eh_keep (by decide) (Or.inl rfl) l2
              exact Or.inr (Or.inr (Or.inr (Or.inr (Or.inr (Or.inr (Or.inr (Or.inr (Or.inl ⟨c5, c68, c74, c90, _, _, E, hV85, (hN86.trans (hN82.trans (hN70.trans hN7))), ty, k91_0, k91_1, k91_2, k91_3⟩))))))))
            · skip
              have E := E.pu (p := 217) (lo' := lo) (st' := [.int 1]) rfl (e := (.iconst 1, 1, [], .null)) rfl rfl (fun _ _ => rfl)
              have E := E.pu (p := 221) (lo' := lo) (st' := [.int 1]) rfl (e := (.goto 4, 3, [221], .null)) rfl rfl (fun _ _ => rfl)
              have E := E.so (p := 222) (t := ri_isI) (i := 3) (n := 1) rfl (e := (.istore_n 3, 1, [], .null)) rfl rfl (fun _ _ => rfl) rfl
              have k92_3 : ri_lk (ri_st1 lo 3 (.int 1)) 3 = some (.int 1) := eh_self
              have k92_0 : ri_lk (ri_st1 lo 3 (.int 1)) 0 = some (.ref 0) := eh_keep (by decide) (Or.inl rfl) l0
              have k92_1 : ri_lk (ri_st1 lo 3 (.int 1)) 1 = some (.int cc) := eh_keep (by decide) (Or.inl rfl) l1
              have k92_2 : ri_lk (ri_st1 lo 3 (.int 1)) 2 = some (.int sm) := eh_keep (by decide) (Or.inl rfl) l2
              exact Or.inr (Or.inr (Or.inr (Or.inr (Or.inr (Or.inr (Or.inr (Or.inr (Or.inr (Or.inl ⟨c5, c68, c74, c90, _, _, E, hV85, (hN86.trans (hN82.trans (hN70.trans hN7))), ty, k92_0, k92_1, k92_2, k92_3⟩)))))))))
          · skip
            exact absurd c68 c87
    · skip
      have c71 : ¬ (lx_lt ((eh_i G 1 (eh_i G 0 4).toNatClampNeg) &&& 255) = true) := c71
      have E : eh_e _ _ 188 lo [.int 0] _ rs h' := E
      have E := E.brf (p := 191) (c := 1) (tgt := 201) (a := 0) (b := 0) (st' := []) rfl (e := (.ifCond .ne 13, 3, [201], .null)) rfl rfl (fun _ _ => rfl) (by decide) rfl
      have E := E.ld (p := 192) (t := ri_isA) (i := 0) (n := 1) (v := .ref 0) rfl (e := (.aload_n 0, 1, [], .null)) rfl rfl (fun _ _ => rfl) l0 rfl
      obtain ⟨v1, h93, X, E⟩ := E.cv (p := 195) (as := []) (b := 0) (r := []) rfl (x := 135) (m := 3) (w := .null) (j := 155) (n := 0) (t := 12) (u := [1482, 36, 1484]) rfl rfl rfl
      rcases sp_155 (d := d) X hV72 ty with ⟨c94, rfl, hV95, hN96⟩ | ⟨c97, rfl, hV98, hN99⟩
      · skip
        exact absurd c5 c94
      · skip
        have E : eh_e _ _ 195 lo [.int ((eh_i G 1 (eh_i G 0 4).toNatClampNeg) &&& 255)] _ rs h' := E
        obtain ⟨v1, h100, X, E⟩ := E.cs (p := 198) (as := [.int ((eh_i G 1 (eh_i G 0 4).toNatClampNeg) &&& 255)]) (r := []) rfl (x := 152) (m := 3) (w := .null) (j := 157) (n := 1) (t := 0) (u := [1489, 1490]) rfl rfl rfl
        rcases sp_157 (d := d) X hV98 ty with ⟨c101, rfl, hV102, hN103⟩ | ⟨c104, rfl, hV105, hN106⟩
        · skip
          have c101 : lx_dg ((eh_i G 1 (eh_i G 0 4).toNatClampNeg) &&& 255) = true := c101
          have E : eh_e _ _ 198 lo [.int 1] _ rs h' := E
          have E := E.brf (p := 201) (c := 0) (tgt := 298) (a := 1) (b := 0) (st' := []) rfl (e := (.ifCond .eq 100, 3, [298], .null)) rfl rfl (fun _ _ => rfl) (by decide) rfl
          have E := E.ld (p := 202) (t := ri_isI) (i := 3) (n := 1) (v := .int al) rfl (e := (.iload_n 3, 1, [], .null)) rfl rfl (fun _ _ => rfl) l3 rfl
          rcases eh_q0 (E.br (p := 205) (c := 0) (tgt := 220) (a := al) (b := 0) (st' := []) rfl (e := (.ifCond .eq 18, 3, [220], .null)) rfl rfl (fun _ _ => rfl) rfl) with ⟨c107, E⟩ | ⟨c107, E⟩
          · skip
            have E := E.pu (p := 221) (lo' := lo) (st' := [.int 0]) rfl (e := (.iconst 0, 1, [], .null)) rfl rfl (fun _ _ => rfl)
            have E := E.so (p := 222) (t := ri_isI) (i := 3) (n := 1) rfl (e := (.istore_n 3, 1, [], .null)) rfl rfl (fun _ _ => rfl) rfl
            have k108_3 : ri_lk (ri_st1 lo 3 (.int 0)) 3 = some (.int 0) := eh_self
            have k108_0 : ri_lk (ri_st1 lo 3 (.int 0)) 0 = some (.ref 0) := eh_keep (by decide) (Or.inl rfl) l0
            have k108_1 : ri_lk (ri_st1 lo 3 (.int 0)) 1 = some (.int cc) := eh_keep (by decide) (Or.inl rfl) l1
            have k108_2 : ri_lk (ri_st1 lo 3 (.int 0)) 2 = some (.int sm) := eh_keep (by decide) (Or.inl rfl) l2
            exact Or.inr (Or.inr (Or.inr (Or.inr (Or.inr (Or.inr (Or.inr (Or.inr (Or.inr (Or.inr (Or.inl ⟨c5, c71, c101, c107, _, _, E, hV102, (hN103.trans (hN99.trans (hN73.trans hN7))), ty, k108_0, k108_1, k108_2, k108_3⟩))))))))))
          · skip
            have E := E.ld (p := 206) (t := ri_isA) (i := 0) (n := 1) (v := .ref 0) rfl (e := (.aload_n 0, 1, [], .null)) rfl rfl (fun _ _ => rfl) l0 rfl
            obtain ⟨v1, h109, X, E⟩ := E.cv (p := 209) (as := []) (b := 0) (r := []) rfl (x := 135) (m := 3) (w := .null) (j := 155) (n := 0) (t := 12) (u := [1482, 36, 1484]) rfl rfl rfl
            rcases sp_155 (d := d) X hV102 ty with ⟨c110, rfl, hV111, hN112⟩ | ⟨c113, rfl, hV114, hN115⟩
            · skip
              exact absurd c5 c110
            · skip
              have E : eh_e _ _ 209 lo [.int ((eh_i G 1 (eh_i G 0 4).toNatClampNeg) &&& 255)] _ rs h' := E
              obtain ⟨v1, h116, X, E⟩ := E.cs (p := 212) (as := [.int ((eh_i G 1 (eh_i G 0 4).toNatClampNeg) &&& 255)]) (r := []) rfl (x := 148) (m := 3) (w := .null) (j := 156) (n := 1) (t := 0) (u := [1486, 1487]) rfl rfl rfl
              rcases sp_156 (d := d) X hV114 ty with ⟨c117, rfl, hV118, hN119⟩ | ⟨c120, rfl, hV121, hN122⟩
              · skip
                exact absurd c117 c71
              · skip
                have E : eh_e _ _ 212 lo [.int 0] _ rs h' := E
                have E := E.ld (p := 213) (t := ri_isI) (i := 2) (n := 1) (v := .int sm) rfl (e := (.iload_n 2, 1, [], .null)) rfl rfl (fun _ _ => rfl) l2 rfl
                rcases eh_q1 (E.br (p := 216) (c := 1) (tgt := 220) (a := 0) (b := sm) (st' := []) rfl (e := (.if_icmp .ne 7, 3, [220], .null)) rfl rfl (fun _ _ => rfl) rfl) with ⟨c123, E⟩ | ⟨c123, E⟩
                · skip
                  have E := E.pu (p := 221) (lo' := lo) (st' := [.int 0]) rfl (e := (.iconst 0, 1, [], .null)) rfl rfl (fun _ _ => rfl)
                  have E := E.so (p := 222) (t := ri_isI) (i := 3) (n := 1) rfl (e := (.istore_n 3, 1, [], .null)) rfl rfl (fun _ _ => rfl) rfl
                  have k124_3 : ri_lk (ri_st1 lo 3 (.int 0)) 3 = some (.int 0) := eh_self
                  have k124_0 : ri_lk (ri_st1 lo 3 (.int 0)) 0 = some (.ref 0) := eh_keep (by decide) (Or.inl rfl) l0
                  have k124_1 : ri_lk (ri_st1 lo 3 (.int 0)) 1 = some (.int cc) := eh_keep (by decide) (Or.inl rfl) l1
                  have k124_2 : ri_lk (ri_st1 lo 3 (.int 0)) 2 = some (.int sm) := eh_keep (by decide) (Or.inl rfl) l2
                  exact Or.inr (Or.inr (Or.inr (Or.inr (Or.inr (Or.inr (Or.inr (Or.inr (Or.inr (Or.inr (Or.inr (Or.inl ⟨c5, c71, c101, c107, c123, _, _, E, hV121, (hN122.trans (hN115.trans (hN103.trans (hN99.trans (hN73.trans hN7))))), ty, k124_0, k124_1, k124_2, k124_3⟩)))))))))))
                · skip
                  have E := E.pu (p := 217) (lo' := lo) (st' := [.int 1]) rfl (e := (.iconst 1, 1, [], .null)) rfl rfl (fun _ _ => rfl)
                  have E := E.pu (p := 221) (lo' := lo) (st' := [.int 1]) rfl (e := (.goto 4, 3, [221], .null)) rfl rfl (fun _ _ => rfl)
                  have E := E.so (p := 222) (t := ri_isI) (i := 3) (n := 1) rfl (e := (.istore_n 3, 1, [], .null)) rfl rfl (fun _ _ => rfl) rfl
                  have k125_3 : ri_lk (ri_st1 lo 3 (.int 1)) 3 = some (.int 1) := eh_self
                  have k125_0 : ri_lk (ri_st1 lo 3 (.int 1)) 0 = some (.ref 0) := eh_keep (by decide) (Or.inl rfl) l0
                  have k125_1 : ri_lk (ri_st1 lo 3 (.int 1)) 1 = some (.int cc) := eh_keep (by decide) (Or.inl rfl) l1
                  have k125_2 : ri_lk (ri_st1 lo 3 (.int 1)) 2 = some (.int sm) := eh_keep (by decide) (Or.inl rfl) l2
                  exact Or.inr (Or.inr (Or.inr (Or.inr (Or.inr (Or.inr (Or.inr (Or.inr (Or.inr (Or.inr (Or.inr (Or.inr (Or.inl ⟨c5, c71, c101, c107, c123, _, _, E, hV121, (hN122.trans (hN115.trans (hN103.trans (hN99.trans (hN73.trans hN7))))), ty, k125_0, k125_1, k125_2, k125_3⟩))))))))))))
        · skip
          have c104 : ¬ (lx_dg ((eh_i G 1 (eh_i G 0 4).toNatClampNeg) &&& 255) = true) := c104
          have E : eh_e _ _ 198 lo [.int 0] _ rs h' := E
          have E := E.brt (c := 0) (tgt := 298) (a := 0) (b := 0) (st' := []) rfl (e := (.ifCond .eq 100, 3, [298], .null)) rfl rfl (fun _ _ => rfl) (by decide)
          exact Or.inr (Or.inr (Or.inr (Or.inr (Or.inr (Or.inr (Or.inr (Or.inr (Or.inr (Or.inr (Or.inr (Or.inr (Or.inr (⟨c5, c71, c104, _, _, E, hV105, (hN106.trans (hN99.trans (hN73.trans hN7))), ty, l0, l1, l2, l3⟩)))))))))))))
theorem nx_w {d : Nat} {lo : List (Nat × Value)} {h h' : ri_H} {rs : List Value} {G : eh_W} {cc sm al : Int32} (E : eh_e (ri_calE ri_md (d + 1)) md_158 222 lo [] h rs h') (hV : eh_V h = G) (ty : eh_ty tM G) (l0 : ri_lk lo 0 = some (.ref 0)) (l1 : ri_lk lo 1 = some (.int cc)) (l2 : ri_lk lo 2 = some (.int sm)) (l3 : ri_lk lo 3 = some (.int al)) : (¬ ((eh_i G 0 13).toInt < 7) ∧ ¬ ((eh_i G 0 13).toInt < 3) ∧ ∃ hz loz, eh_e (ri_calE ri_md (d + 1)) md_158 181 loz [] hz rs h' ∧ eh_V hz = eh_u (eh_u G 0 13 (.int ((eh_i G 0 13) + 1))) 0 4 (.int ((eh_i G 0 4) + 1)) ∧ eh_N hz = eh_N h ∧ eh_ty tM (eh_u (eh_u G 0 13 (.int ((eh_i G 0 13) + 1))) 0 4 (.int ((eh_i G 0 4) + 1))) ∧ ri_lk loz 0 = some (.ref 0) ∧ ri_lk loz 1 = some (.int cc) ∧ ri_lk loz 2 = some (.int sm) ∧ ri_lk loz 3 = some (.int al)) ∨ (¬ ((eh_i G 0 13).toInt < 7) ∧ (eh_i G 0 13).toInt < 3 ∧ ¬ ((eh_i G 0 4).toInt < (eh_i G 0 3).toInt) ∧ ∃ hz loz, eh_e (ri_calE ri_md (d + 1)) md_158 181 loz [] hz rs h' ∧ eh_V hz = eh_u (eh_u (eh_u G 0 14 (.int (((10 * (eh_i G 0 14)) + (-1)) - 48))) 0 13 (.int ((eh_i G 0 13) + 1))) 0 4 (.int ((eh_i G 0 4) + 1)) ∧ eh_N hz = eh_N h ∧ eh_ty tM (eh_u (eh_u (eh_u G 0 14 (.int (((10 * (eh_i G 0 14)) + (-1)) - 48))) 0 13 (.int ((eh_i G 0 13) + 1))) 0 4 (.int ((eh_i G 0 4) + 1))) ∧ ri_lk loz 0 = some (.ref 0) ∧ ri_lk loz 1 = some (.int cc) ∧ ri_lk loz 2 = some (.int sm) ∧ ri_lk loz 3 = some (.int al)) ∨ (¬ ((eh_i G 0 13).toInt < 7) ∧ (eh_i G 0 13).toInt < 3 ∧ (eh_i G 0 4).toInt < (eh_i G 0 3).toInt ∧ ∃ hz loz, eh_e (ri_calE ri_md (d + 1)) md_158 181 loz [] hz rs h' ∧ eh_V hz = eh_u (eh_u (eh_u G 0 14 (.int (((10 * (eh_i G 0 14)) + ((eh_i G 1 (eh_i G 0 4).toNatClampNeg) &&& 255)) - 48))) 0 13 (.int ((eh_i G 0 13) + 1))) 0 4 (.int ((eh_i G 0 4) + 1)) ∧ eh_N hz = eh_N h ∧ eh_ty tM (eh_u (eh_u (eh_u G 0 14 (.int (((10 * (eh_i G 0 14)) + ((eh_i G 1 (eh_i G 0 4).toNatClampNeg) &&& 255)) - 48))) 0 13 (.int ((eh_i G 0 13) + 1))) 0 4 (.int ((eh_i G 0 4) + 1))) ∧ ri_lk loz 0 = some (.ref 0) ∧ ri_lk loz 1 = some (.int cc) ∧ ri_lk loz 2 = some (.int sm) ∧ ri_lk loz 3 = some (.int al)) ∨ ((eh_i G 0 13).toInt < 7 ∧ ¬ ((eh_i G 0 4).toInt < (eh_i G 0 3).toInt) ∧ ¬ ((eh_i G 0 13).toInt < 3) ∧ ∃ hz loz, eh_e (ri_calE ri_md (d + 1)) md_158 181 loz [] hz rs h' ∧ eh_V hz = eh_u (eh_u (eh_u G 0 17 (.long (((eh_l G 0 17) <<< (Int32.toInt64 8 &&& 63)) ||| (Int32.toInt64 (-1))))) 0 13 (.int ((eh_i G 0 13) + 1))) 0 4 (.int ((eh_i G 0 4) + 1)) ∧ eh_N hz = eh_N h ∧ eh_ty tM (eh_u (eh_u (eh_u G 0 17 (.long (((eh_l G 0 17) <<< (Int32.toInt64 8 &&& 63)) ||| (Int32.toInt64 (-1))))) 0 13 (.int ((eh_i G 0 13) + 1))) 0 4 (.int ((eh_i G 0 4) + 1))) ∧ ri_lk loz 0 = some (.ref 0) ∧ ri_lk loz 1 = some (.int cc) ∧ ri_lk loz 2 = some (.int sm) ∧ ri_lk loz 3 = some (.int al)) ∨ ((eh_i G 0 13).toInt < 7 ∧ ¬ ((eh_i G 0 4).toInt < (eh_i G 0 3).toInt) ∧ (eh_i G 0 13).toInt < 3 ∧ ∃ hz loz, eh_e (ri_calE ri_md (d + 1)) md_158 181 loz [] hz rs h' ∧ eh_V hz = eh_u (eh_u (eh_u (eh_u G 0 17 (.long (((eh_l G 0 17) <<< (Int32.toInt64 8 &&& 63)) ||| (Int32.toInt64 (-1))))) 0 14 (.int (((10 * (eh_i G 0 14)) + (-1)) - 48))) 0 13 (.int ((eh_i G 0 13) + 1))) 0 4 (.int ((eh_i G 0 4) + 1)) ∧ eh_N hz = eh_N h ∧ eh_ty tM (eh_u (eh_u (eh_u (eh_u G 0 17 (.long (((eh_l G 0 17) <<< (Int32.toInt64 8 &&& 63)) ||| (Int32.toInt64 (-1))))) 0 14 (.int (((10 * (eh_i G 0 14)) + (-1)) - 48))) 0 13 (.int ((eh_i G 0 13) + 1))) 0 4 (.int ((eh_i G 0 4) + 1))) ∧ ri_lk loz 0 = some (.ref 0) ∧ ri_lk loz 1 = some (.int cc) ∧ ri_lk loz 2 = some (.int sm) ∧ ri_lk loz 3 = some (.int al)) ∨ ((eh_i G 0 13).toInt < 7 ∧ (eh_i G 0 4).toInt < (eh_i G 0 3).toInt ∧ ¬ ((eh_i G 0 13).toInt < 3) ∧ ∃ hz loz, eh_e (ri_calE ri_md (d + 1)) md_158 181 loz [] hz rs h' ∧ eh_V hz = eh_u (eh_u (eh_u G 0 17 (.long (((eh_l G 0 17) <<< (Int32.toInt64 8 &&& 63)) ||| (Int32.toInt64 ((eh_i G 1 (eh_i G 0 4).toNatClampNeg) &&& 255))))) 0 13 (.int ((eh_i G 0 13) + 1))) 0 4 (.int ((eh_i G 0 4) + 1)) ∧ eh_N hz = eh_N h ∧ eh_ty tM (eh_u (eh_u (eh_u G 0 17 (.long (((eh_l G 0 17) <<< (Int32.toInt64 8 &&& 63)) ||| (Int32.toInt64 ((eh_i G 1 (eh_i G 0 4).toNatClampNeg) &&& 255))))) 0 13 (.int ((eh_i G 0 13) + 1))) 0 4 (.int ((eh_i G 0 4) + 1))) ∧ ri_lk loz 0 = some (.ref 0) ∧ ri_lk loz 1 = some (.int cc) ∧ ri_lk loz 2 = some (.int sm) ∧ ri_lk loz 3 = some (.int al)) ∨ ((eh_i G 0 13).toInt < 7 ∧ (eh_i G 0 4).toInt < (eh_i G 0 3).toInt ∧ (eh_i G 0 13).toInt < 3 ∧ ∃ hz loz, eh_e (ri_calE ri_md (d + 1)) md_158 181 loz [] hz rs h' ∧ eh_V hz = eh_u (eh_u (eh_u (eh_u G 0 17 (.long (((eh_l G 0 17) <<< (Int32.toInt64 8 &&& 63)) ||| (Int32.toInt64 ((eh_i G 1 (eh_i G 0 4).toNatClampNeg) &&& 255))))) 0 14 (.int (((10 * (eh_i G 0 14)) + ((eh_i G 1 (eh_i G 0 4).toNatClampNeg) &&& 255)) - 48))) 0 13 (.int ((eh_i G 0 13) + 1))) 0 4 (.int ((eh_i G 0 4) + 1)) ∧ eh_N hz = eh_N h ∧ eh_ty tM (eh_u (eh_u (eh_u (eh_u G 0 17 (.long (((eh_l G 0 17) <<< (Int32.toInt64 8 &&& 63)) ||| (Int32.toInt64 ((eh_i G 1 (eh_i G 0 4).toNatClampNeg) &&& 255))))) 0 14 (.int (((10 * (eh_i G 0 14)) + ((eh_i G 1 (eh_i G 0 4).toNatClampNeg) &&& 255)) - 48))) 0 13 (.int ((eh_i G 0 13) + 1))) 0 4 (.int ((eh_i G 0 4) + 1))) ∧ ri_lk loz 0 = some (.ref 0) ∧ ri_lk loz 1 = some (.int cc) ∧ ri_lk loz 2 = some (.int sm) ∧ ri_lk loz 3 = some (.int al)) := by
  have E := E.ld (p := 223) (t := ri_isA) (i := 0) (n := 1) (v := .ref 0) rfl (e := (.aload_n 0, 1, [], .null)) rfl rfl (fun _ _ => rfl) l0 rfl
  have E := E.gi (y := eh_i G 0 13) (p := 226) rfl (x := 142) (m := 3) (w := .null) (t := 12) (i := 13) (u := 1337) rfl rfl hV ty rfl rfl
  have E := E.pu (p := 228) (lo' := lo) (st' := [.int 7, .int (eh_i G 0 13)]) rfl (e := (.bipush 7, 2, [], .null)) rfl rfl (fun _ _ => rfl)
  rcases eh_r3 rfl (show (7 : Int32).toInt = 7 by decide) (E.br (p := 231) (c := 3) (tgt := 248) (a := eh_i G 0 13) (b := 7) (st' := []) rfl (e := (.if_icmp .ge 20, 3, [248], .null)) rfl rfl (fun _ _ => rfl) rfl) with ⟨c1, E⟩ | ⟨c1, E⟩
  · skip
    have E := E.ld (p := 249) (t := ri_isA) (i := 0) (n := 1) (v := .ref 0) rfl (e := (.aload_n 0, 1, [], .null)) rfl rfl (fun _ _ => rfl) l0 rfl
    have E := E.gi (y := eh_i G 0 13) (p := 252) rfl (x := 142) (m := 3) (w := .null) (t := 12) (i := 13) (u := 1337) rfl rfl hV ty rfl rfl
    have E := E.pu (p := 253) (lo' := lo) (st' := [.int 3, .int (eh_i G 0 13)]) rfl (e := (.iconst 3, 1, [], .null)) rfl rfl (fun _ _ => rfl)
    rcases eh_r3 rfl (show (3 : Int32).toInt = 3 by decide) (E.br (p := 256) (c := 3) (tgt := 275) (a := eh_i G 0 13) (b := 3) (st' := []) rfl (e := (.if_icmp .ge 22, 3, [275], .null)) rfl rfl (fun _ _ => rfl) rfl) with ⟨c2, E⟩ | ⟨c2, E⟩
    · skip
      have E := E.ld (p := 276) (t := ri_isA) (i := 0) (n := 1) (v := .ref 0) rfl (e := (.aload_n 0, 1, [], .null)) rfl rfl (fun _ _ => rfl) l0 rfl
      have E := E.pu (p := 277) (lo' := lo) (st' := [.ref 0, .ref 0]) rfl (e := (.dup, 1, [], .null)) rfl rfl (fun _ _ => rfl)
      have E := E.gi (y := eh_i G 0 13) (p := 280) rfl (x := 142) (m := 3) (w := .null) (t := 12) (i := 13) (u := 1337) rfl rfl hV ty rfl rfl
      have E := E.pu (p := 281) (lo' := lo) (st' := [.int 1, .int (eh_i G 0 13), .ref 0]) rfl (e := (.iconst 1, 1, [], .null)) rfl rfl (fun _ _ => rfl)
      have E := E.pu (p := 282) (lo' := lo) (st' := [.int ((eh_i G 0 13) + 1), .ref 0]) rfl (e := (.iadd, 1, [], .null)) rfl rfl (fun _ _ => rfl)
      obtain ⟨h3, hV4, hN5, E⟩ := E.gp (p := 285) rfl (x := 142) (m := 3) (w := .null) (t := 12) (i := 13) (u := 1337) (y := 0) rfl rfl hV
      have E := E.ld (p := 286) (t := ri_isA) (i := 0) (n := 1) (v := .ref 0) rfl (e := (.aload_n 0, 1, [], .null)) rfl rfl (fun _ _ => rfl) l0 rfl
      have E := E.pu (p := 287) (lo' := lo) (st' := [.ref 0, .ref 0]) rfl (e := (.dup, 1, [], .null)) rfl rfl (fun _ _ => rfl)
      have E := E.gi (y := eh_i G 0 4) (p := 290) rfl (x := 21) (m := 3) (w := .null) (t := 12) (i := 4) (u := 1328) rfl rfl hV4 (ty.ui rfl) rfl rfl
      have E := E.pu (p := 291) (lo' := lo) (st' := [.int 1, .int (eh_i G 0 4), .ref 0]) rfl (e := (.iconst 1, 1, [], .null)) rfl rfl (fun _ _ => rfl)
      have E := E.pu (p := 292) (lo' := lo) (st' := [.int ((eh_i G 0 4) + 1), .ref 0]) rfl (e := (.iadd, 1, [], .null)) rfl rfl (fun _ _ => rfl)
      obtain ⟨h6, hV7, hN8, E⟩ := E.gp (p := 295) rfl (x := 21) (m := 3) (w := .null) (t := 12) (i := 4) (u := 1328) (y := 0) rfl rfl hV4
      have E := E.pu (p := 181) (lo' := lo) (st' := []) rfl (e := (.goto (-114), 3, [181], .null)) rfl rfl (fun _ _ => rfl)
      exact Or.inl ⟨c1, c2, _, _, E, hV7, (hN8.trans hN5), ((ty.ui rfl).ui rfl), l0, l1, l2, l3⟩
    · skip
      have E := E.ld (p := 257) (t := ri_isA) (i := 0) (n := 1) (v := .ref 0) rfl (e := (.aload_n 0, 1, [], .null)) rfl rfl (fun _ _ => rfl) l0 rfl
      have E := E.pu (p := 259) (lo' := lo) (st' := [.int 10, .ref 0]) rfl (e := (.bipush 10, 2, [], .null)) rfl rfl (fun _ _ => rfl)
      have E := E.ld (p := 260) (t := ri_isA) (i := 0) (n := 1) (v := .ref 0) rfl (e := (.aload_n 0, 1, [], .null)) rfl rfl (fun _ _ => rfl) l0 rfl
      have E := E.gi (y := eh_i G 0 14) (p := 263) rfl (x := 155) (m := 3) (w := .null) (t := 12) (i := 14) (u := 1338) rfl rfl hV ty rfl rfl
      have E := E.pu (p := 264) (lo' := lo) (st' := [.int (10 * (eh_i G 0 14)), .ref 0]) rfl (e := (.imul, 1, [], .null)) rfl rfl (fun _ _ => rfl)
      have E := E.ld (p := 265) (t := ri_isA) (i := 0) (n := 1) (v := .ref 0) rfl (e := (.aload_n 0, 1, [], .null)) rfl rfl (fun _ _ => rfl) l0 rfl
      obtain ⟨v1, h9, X, E⟩ := E.cv (p := 268) (as := []) (b := 0) (r := [.int (10 * (eh_i G 0 14)), .ref 0]) rfl (x := 135) (m := 3) (w := .null) (j := 155) (n := 0) (t := 12) (u := [1482, 36, 1484]) rfl rfl rfl
      rcases sp_155 (d := d) X hV ty with ⟨c10, rfl, hV11, hN12⟩ | ⟨c13, rfl, hV14, hN15⟩
      · skip
        have c10 : ¬ ((eh_i G 0 4).toInt < (eh_i G 0 3).toInt) := c10
        have E : eh_e _ _ 268 lo [.int (-1), .int (10 * (eh_i G 0 14)), .ref 0] _ rs h' := E
        have E := E.pu (p := 269) (lo' := lo) (st' := [.int ((10 * (eh_i G 0 14)) + (-1)), .ref 0]) rfl (e := (.iadd, 1, [], .null)) rfl rfl (fun _ _ => rfl)
        have E := E.pu (p := 271) (lo' := lo) (st' := [.int 48, .int ((10 * (eh_i G 0 14)) + (-1)), .ref 0]) rfl (e := (.bipush 48, 2, [], .null)) rfl rfl (fun _ _ => rfl)
        have E := E.pu (p := 272) (lo' := lo) (st' := [.int (((10 * (eh_i G 0 14)) + (-1)) - 48), .ref 0]) rfl (e := (.isub, 1, [], .null)) rfl rfl (fun _ _ => rfl)
        obtain ⟨h16, hV17, hN18, E⟩ := E.gp (p := 275) rfl (x := 155) (m := 3) (w := .null) (t := 12) (i := 14) (u := 1338) (y := 0) rfl rfl hV11
        have E := E.ld (p := 276) (t := ri_isA) (i := 0) (n := 1) (v := .ref 0) rfl (e := (.aload_n 0, 1, [], .null)) rfl rfl (fun _ _ => rfl) l0 rfl
        have E := E.pu (p := 277) (lo' := lo) (st' := [.ref 0, .ref 0]) rfl (e := (.dup, 1, [], .null)) rfl rfl (fun _ _ => rfl)
        have E := E.gi (y := eh_i G 0 13) (p := 280) rfl (x := 142) (m := 3) (w := .null) (t := 12) (i := 13) (u := 1337) rfl rfl hV17 (ty.ui rfl) rfl rfl
        have E := E.pu (p := 281) (lo' := lo) (st' := [.int 1, .int (eh_i G 0 13), .ref 0]) rfl (e := (.iconst 1, 1, [], .null)) rfl rfl (fun _ _ => rfl)
        have E := E.pu (p := 282) (lo' := lo) (st' := [.int ((eh_i G 0 13) + 1), .ref 0]) rfl (e := (.iadd, 1, [], .null)) rfl rfl (fun _ _ => rfl)
        obtain ⟨h19, hV20, hN21, E⟩ := E.gp (p := 285) rfl (x := 142) (m := 3) (w := .null) (t := 12) (i := 13) (u := 1337) (y := 0) rfl rfl hV17
        have E := E.ld (p := 286) (t := ri_isA) (i := 0) (n := 1) (v := .ref 0) rfl (e := (.aload_n 0, 1, [], .null)) rfl rfl (fun _ _ => rfl) l0 rfl
        have E := E.pu (p := 287) (lo' := lo) (st' := [.ref 0, .ref 0]) rfl (e := (.dup, 1, [], .null)) rfl rfl (fun _ _ => rfl)
        have E := E.gi (y := eh_i G 0 4) (p := 290) rfl (x := 21) (m := 3) (w := .null) (t := 12) (i := 4) (u := 1328) rfl rfl hV20 ((ty.ui rfl).ui rfl) rfl rfl
        have E := E.pu (p := 291) (lo' := lo) (st' := [.int 1, .int (eh_i G 0 4), .ref 0]) rfl (e := (.iconst 1, 1, [], .null)) rfl rfl (fun _ _ => rfl)
        have E := E.pu (p := 292) (lo' := lo) (st' := [.int ((eh_i G 0 4) + 1), .ref 0]) rfl (e := (.iadd, 1, [], .null)) rfl rfl (fun _ _ => rfl)
        obtain ⟨h22, hV23, hN24, E⟩ := E.gp (p := 295) rfl (x := 21) (m := 3) (w := .null) (t := 12) (i := 4) (u := 1328) (y := 0) rfl rfl hV20
        have E := E.pu (p := 181) (lo' := lo) (st' := []) rfl (e := (.goto (-114), 3, [181], .null)) rfl rfl (fun _ _ => rfl)
        exact Or.inr (Or.inl ⟨c1, c2, c10, _, _, E, hV23, (hN24.trans (hN21.trans (hN18.trans hN12))), (((ty.ui rfl).ui rfl).ui rfl), l0, l1, l2, l3⟩)
      · skip
        have c13 : (eh_i G 0 4).toInt < (eh_i G 0 3).toInt := c13
        have E : eh_e _ _ 268 lo [.int ((eh_i G 1 (eh_i G 0 4).toNatClampNeg) &&& 255), .int (10 * (eh_i G 0 14)), .ref 0] _ rs h' := E
        have E := E.pu (p := 269) (lo' := lo) (st' := [.int ((10 * (eh_i G 0 14)) + ((eh_i G 1 (eh_i G 0 4).toNatClampNeg) &&& 255)), .ref 0]) rfl (e := (.iadd, 1, [], .null)) rfl rfl (fun _ _ => rfl)
        have E := E.pu (p := 271) (lo' := lo) (st' := [.int 48, .int ((10 * (eh_i G 0 14)) + ((eh_i G 1 (eh_i G 0 4).toNatClampNeg) &&& 255)), .ref 0]) rfl (e := (.bipush 48, 2, [], .null)) rfl rfl (fun _ _ => rfl)
        have E := E.pu (p := 272) (lo' := lo) (st' := [.int (((10 * (eh_i G 0 14)) + ((eh_i G 1 (eh_i G 0 4).toNatClampNeg) &&& 255)) - 48), .ref 0]) rfl (e := (.isub, 1, [], .null)) rfl rfl (fun _ _ => rfl)
        obtain ⟨h25, hV26, hN27, E⟩ := E.gp (p := 275) rfl (x := 155) (m := 3) (w := .null) (t := 12) (i := 14) (u := 1338) (y := 0) rfl rfl hV14
        have E := E.ld (p := 276) (t := ri_isA) (i := 0) (n := 1) (v := .ref 0) rfl (e := (.aload_n 0, 1, [], .null)) rfl rfl (fun _ _ => rfl) l0 rfl
        have E := E.pu (p := 277) (lo' := lo) (st' := [.ref 0, .ref 0]) rfl (e := (.dup, 1, [], .null)) rfl rfl (fun _ _ => rfl)
        have E := E.gi (y := eh_i G 0 13) (p := 280) rfl (x := 142) (m := 3) (w := .null) (t := 12) (i := 13) (u := 1337) rfl rfl hV26 (ty.ui rfl) rfl rfl
        have E := E.pu (p := 281) (lo' := lo) (st' := [.int 1, .int (eh_i G 0 13), .ref 0]) rfl (e := (.iconst 1, 1, [], .null)) rfl rfl (fun _ _ => rfl)
        have E := E.pu (p := 282) (lo' := lo) (st' := [.int ((eh_i G 0 13) + 1), .ref 0]) rfl (e := (.iadd, 1, [], .null)) rfl rfl (fun _ _ => rfl)
        obtain ⟨h28, hV29, hN30, E⟩ := E.gp (p := 285) rfl (x := 142) (m := 3) (w := .null) (t := 12) (i := 13) (u := 1337) (y := 0) rfl rfl hV26
        have E := E.ld (p := 286) (t := ri_isA) (i := 0) (n := 1) (v := .ref 0) rfl (e := (.aload_n 0, 1, [], .null)) rfl rfl (fun _ _ => rfl) l0 rfl
        have E := E.pu (p := 287) (lo' := lo) (st' := [.ref 0, .ref 0]) rfl (e := (.dup, 1, [], .null)) rfl rfl (fun _ _ => rfl)
        have E := E.gi (y := eh_i G 0 4) (p := 290) rfl (x := 21) (m := 3) (w := .null) (t := 12) (i := 4) (u := 1328) rfl rfl hV29 ((ty.ui rfl).ui rfl) rfl rfl
        have E := E.pu (p := 291) (lo' := lo) (st' := [.int 1, .int (eh_i G 0 4), .ref 0]) rfl (e := (.iconst 1, 1, [], .null)) rfl rfl (fun _ _ => rfl)
        have E := E.pu (p := 292) (lo' := lo) (st' := [.int ((eh_i G 0 4) + 1), .ref 0]) rfl (e := (.iadd, 1, [], .null)) rfl rfl (fun _ _ => rfl)
        obtain ⟨h31, hV32, hN33, E⟩ := E.gp (p := 295) rfl (x := 21) (m := 3) (w := .null) (t := 12) (i := 4) (u := 1328) (y := 0) rfl rfl hV29
        have E := E.pu (p := 181) (lo' := lo) (st' := []) rfl (e := (.goto (-114), 3, [181], .null)) rfl rfl (fun _ _ => rfl)
        exact Or.inr (Or.inr (Or.inl ⟨c1, c2, c13, _, _, E, hV32, (hN33.trans (hN30.trans (hN27.trans hN15))), (((ty.ui rfl).ui rfl).ui rfl), l0, l1, l2, l3⟩))
  · skip
    have E := E.ld (p := 232) (t := ri_isA) (i := 0) (n := 1) (v := .ref 0) rfl (e := (.aload_n 0, 1, [], .null)) rfl rfl (fun _ _ => rfl) l0 rfl
    have E := E.ld (p := 233) (t := ri_isA) (i := 0) (n := 1) (v := .ref 0) rfl (e := (.aload_n 0, 1, [], .null)) rfl rfl (fun _ _ => rfl) l0 rfl
    have E := E.gl (y := eh_l G 0 17) (p := 236) rfl (x := 158) (m := 3) (w := .null) (t := 12) (i := 17) (u := 1341) rfl rfl hV ty rfl rfl
    have E := E.pu (p := 238) (lo' := lo) (st' := [.int 8, .long (eh_l G 0 17), .ref 0]) rfl (e := (.bipush 8, 2, [], .null)) rfl rfl (fun _ _ => rfl)
    have E := E.pu (p := 239) (lo' := lo) (st' := [.long ((eh_l G 0 17) <<< (Int32.toInt64 8 &&& 63)), .ref 0]) rfl (e := (.lshl, 1, [], .null)) rfl rfl (fun _ _ => rfl)
    have E := E.ld (p := 240) (t := ri_isA) (i := 0) (n := 1) (v := .ref 0) rfl (e := (.aload_n 0, 1, [], .null)) rfl rfl (fun _ _ => rfl) l0 rfl
    obtain ⟨v1, h34, X, E⟩ := E.cv (p := 243) (as := []) (b := 0) (r := [.long ((eh_l G 0 17) <<< (Int32.toInt64 8 &&& 63)), .ref 0]) rfl (x := 135) (m := 3) (w := .null) (j := 155) (n := 0) (t := 12) (u := [1482, 36, 1484]) rfl rfl rfl
    rcases sp_155 (d := d) X hV ty with ⟨c35, rfl, hV36, hN37⟩ | ⟨c38, rfl, hV39, hN40⟩
    · skip
      have c35 : ¬ ((eh_i G 0 4).toInt < (eh_i G 0 3).toInt) := c35
      have E : eh_e _ _ 243 lo [.int (-1), .long ((eh_l G 0 17) <<< (Int32.toInt64 8 &&& 63)), .ref 0] _ rs h' := E
      have E := E.pu (p := 244) (lo' := lo) (st' := [.long (Int32.toInt64 (-1)), .long ((eh_l G 0 17) <<< (Int32.toInt64 8 &&& 63)), .ref 0]) rfl (e := (.i2l, 1, [], .null)) rfl rfl (fun _ _ => rfl)
      have E := E.pu (p := 245) (lo' := lo) (st' := [.long (((eh_l G 0 17) <<< (Int32.toInt64 8 &&& 63)) ||| (Int32.toInt64 (-1))), .ref 0]) rfl (e := (.lor, 1, [], .null)) rfl rfl (fun _ _ => rfl)
      obtain ⟨h41, hV42, hN43, E⟩ := E.gp (p := 248) rfl (x := 158) (m := 3) (w := .null) (t := 12) (i := 17) (u := 1341) (y := 2) rfl rfl hV36
      have E := E.ld (p := 249) (t := ri_isA) (i := 0) (n := 1) (v := .ref 0) rfl (e := (.aload_n 0, 1, [], .null)) rfl rfl (fun _ _ => rfl) l0 rfl
      have E := E.gi (y := eh_i G 0 13) (p := 252) rfl (x := 142) (m := 3) (w := .null) (t := 12) (i := 13) (u := 1337) rfl rfl hV42 (ty.ul rfl) rfl rfl
      have E := E.pu (p := 253) (lo' := lo) (st' := [.int 3, .int (eh_i G 0 13)]) rfl (e := (.iconst 3, 1, [], .null)) rfl rfl (fun _ _ => rfl)
      rcases eh_r3 rfl (show (3 : Int32).toInt = 3 by decide) (E.br (p := 256) (c := 3) (tgt := 275) (a := eh_i G 0 13) (b := 3) (st' := []) rfl (e := (.if_icmp .ge 22, 3, [275], .null)) rfl rfl (fun _ _ => rfl) rfl) with ⟨c44, E⟩ | ⟨c44, E⟩
      · skip
        have E := E.ld (p := 276) (t := ri_isA) (i := 0) (n := 1) (v := .ref 0) rfl (e := (.aload_n 0, 1, [], .null)) rfl rfl (fun _ _ => rfl) l0 rfl
        have E := E.pu (p := 277) (lo' := lo) (st' := [.ref 0, .ref 0]) rfl (e := (.dup, 1, [], .null)) rfl rfl (fun _ _ => rfl)
        have E := E.gi (y := eh_i G 0 13) (p := 280) rfl (x := 142) (m := 3) (w := .null) (t := 12) (i := 13) (u := 1337) rfl rfl hV42 (ty.ul rfl) rfl rfl
        have E := E.pu (p := 281) (lo' := lo) (st' := [.int 1, .int (eh_i G 0 13), .ref 0]) rfl (e := (.iconst 1, 1, [], .null)) rfl rfl (fun _ _ => rfl)
        have E := E.pu (p := 282) (lo' := lo) (st' := [.int ((eh_i G 0 13) + 1), .ref 0]) rfl (e := (.iadd, 1, [], .null)) rfl rfl (fun _ _ => rfl)
        obtain ⟨h45, hV46, hN47, E⟩ := E.gp (p := 285) rfl (x := 142) (m := 3) (w := .null) (t := 12) (i := 13) (u := 1337) (y := 0) rfl rfl hV42
        have E := E.ld (p := 286) (t := ri_isA) (i := 0) (n := 1) (v := .ref 0) rfl (e := (.aload_n 0, 1, [], .null)) rfl rfl (fun _ _ => rfl) l0 rfl
        have E := E.pu (p := 287) (lo' := lo) (st' := [.ref 0, .ref 0]) rfl (e := (.dup, 1, [], .null)) rfl rfl (fun _ _ => rfl)
        have E := E.gi (y := eh_i G 0 4) (p := 290) rfl (x := 21) (m := 3) (w := .null) (t := 12) (i := 4) (u := 1328) rfl rfl hV46 ((ty.ul rfl).ui rfl) rfl rfl
        have E := E.pu (p := 291) (lo' := lo) (st' := [.int 1, .int (eh_i G 0 4), .ref 0]) rfl (e := (.iconst 1, 1, [], .null)) rfl rfl (fun _ _ => rfl)
        have E := E.pu (p := 292) (lo' := lo) (st' := [.int ((eh_i G 0 4) + 1), .ref 0]) rfl (e := (.iadd, 1, [], .null)) rfl rfl (fun _ _ => rfl)
        obtain ⟨h48, hV49, hN50, E⟩ := E.gp (p := 295) rfl (x := 21) (m := 3) (w := .null) (t := 12) (i := 4) (u := 1328) (y := 0) rfl rfl hV46
        have E := E.pu (p := 181) (lo' := lo) (st' := []) rfl (e := (.goto (-114), 3, [181], .null)) rfl rfl (fun _ _ => rfl)
        exact Or.inr (Or.inr (Or.inr (Or.inl ⟨c1, c35, c44, _, _, E, hV49, (hN50.trans (hN47.trans (hN43.trans hN37))), (((ty.ul rfl).ui rfl).ui rfl), l0, l1, l2, l3⟩)))
      · skip
        have E := E.ld (p := 257) (t := ri_isA) (i := 0) (n := 1) (v := .ref 0) rfl (e := (.aload_n 0, 1, [], .null)) rfl rfl (fun _ _ => rfl) l0 rfl
        have E := E.pu (p := 259) (lo' := lo) (st' := [.int 10, .ref 0]) rfl (e := (.bipush 10, 2, [], .null)) rfl rfl (fun _ _ => rfl)
        have E := E.ld (p := 260) (t := ri_isA) (i := 0) (n := 1) (v := .ref 0) rfl (e := (.aload_n 0, 1, [], .null)) rfl rfl (fun _ _ => rfl) l0 rfl
        have E := E.gi (y := eh_i G 0 14) (p := 263) rfl (x := 155) (m := 3) (w := .null) (t := 12) (i := 14) (u := 1338) rfl rfl hV42 (ty.ul rfl) rfl rfl
        have E := E.pu (p := 264) (lo' := lo) (st' := [.int (10 * (eh_i G 0 14)), .ref 0]) rfl (e := (.imul, 1, [], .null)) rfl rfl (fun _ _ => rfl)
        have E := E.ld (p := 265) (t := ri_isA) (i := 0) (n := 1) (v := .ref 0) rfl (e := (.aload_n 0, 1, [], .null)) rfl rfl (fun _ _ => rfl) l0 rfl
        obtain ⟨v1, h51, X, E⟩ := E.cv (p := 268) (as := []) (b := 0) (r := [.int (10 * (eh_i G 0 14)), .ref 0]) rfl (x := 135) (m := 3) (w := .null) (j := 155) (n := 0) (t := 12) (u := [1482, 36, 1484]) rfl rfl rfl
        rcases sp_155 (d := d) X hV42 (ty.ul rfl) with ⟨c52, rfl, hV53, hN54⟩ | ⟨c55, rfl, hV56, hN57⟩
        · skip
          have E : eh_e _ _ 268 lo [.int (-1), .int (10 * (eh_i G 0 14)), .ref 0] _ rs h' := E
          have E := E.pu (p := 269) (lo' := lo) (st' := [.int ((10 * (eh_i G 0 14)) + (-1)), .ref 0]) rfl (e := (.iadd, 1, [], .null)) rfl rfl (fun _ _ => rfl)
          have E := E.pu (p := 271) (lo' := lo) (st' := [.int 48, .int ((10 * (eh_i G 0 14)) + (-1)), .ref 0]) rfl (e := (.bipush 48, 2, [], .null)) rfl rfl (fun _ _ => rfl)
          have E := E.pu (p := 272) (lo' := lo) (st' := [.int (((10 * (eh_i G 0 14)) + (-1)) - 48), .ref 0]) rfl (e := (.isub, 1, [], .null)) rfl rfl (fun _ _ => rfl)
          obtain ⟨h58, hV59, hN60, E⟩ := E.gp (p := 275) rfl (x := 155) (m := 3) (w := .null) (t := 12) (i := 14) (u := 1338) (y := 0) rfl rfl hV53
          have E := E.ld (p := 276) (t := ri_isA) (i := 0) (n := 1) (v := .ref 0) rfl (e := (.aload_n 0, 1, [], .null)) rfl rfl (fun _ _ => rfl) l0 rfl
          have E := E.pu (p := 277) (lo' := lo) (st' := [.ref 0, .ref 0]) rfl (e := (.dup, 1, [], .null)) rfl rfl (fun _ _ => rfl)
          have E := E.gi (y := eh_i G 0 13) (p := 280) rfl (x := 142) (m := 3) (w := .null) (t := 12) (i := 13) (u := 1337) rfl rfl hV59 ((ty.ul rfl).ui rfl) rfl rfl
          have E := E.pu (p := 281) (lo' := lo) (st' := [.int 1, .int (eh_i G 0 13), .ref 0]) rfl (e := (.iconst 1, 1, [], .null)) rfl rfl (fun _ _ => rfl)
          have E := E.pu (p := 282) (lo' := lo) (st' := [.int ((eh_i G 0 13) + 1), .ref 0]) rfl (e := (.iadd, 1, [], .null)) rfl rfl (fun _ _ => rfl)
          obtain ⟨h61, hV62, hN63, E⟩ := E.gp (p := 285) rfl (x := 142) (m := 3) (w := .null) (t := 12) (i := 13) (u := 1337) (y := 0) rfl rfl hV59
          have E := E.ld (p := 286) (t := ri_isA) (i := 0) (n := 1) (v := .ref 0) rfl (e := (.aload_n 0, 1, [], .null)) rfl rfl (fun _ _ => rfl) l0 rfl
          have E := E.pu (p := 287) (lo' := lo) (st' := [.ref 0, .ref 0]) rfl (e := (.dup, 1, [], .null)) rfl rfl (fun _ _ => rfl)
          have E := E.gi (y := eh_i G 0 4) (p := 290) rfl (x := 21) (m := 3) (w := .null) (t := 12) (i := 4) (u := 1328) rfl rfl hV62 (((ty.ul rfl).ui rfl).ui rfl) rfl rfl
          have E := E.pu (p := 291) (lo' := lo) (st' := [.int 1, .int (eh_i G 0 4), .ref 0]) rfl (e := (.iconst 1, 1, [], .null)) rfl rfl (fun _ _ => rfl)
          have E := E.pu (p := 292) (lo' := lo) (st' := [.int ((eh_i G 0 4) + 1), .ref 0]) rfl (e := (.iadd, 1, [], .null)) rfl rfl (fun _ _ => rfl)
          obtain ⟨h64, hV65, hN66, E⟩ := E.gp (p := 295) rfl (x := 21) (m := 3) (w := .null) (t := 12) (i := 4) (u := 1328) (y := 0) rfl rfl hV62
          have E := E.pu (p := 181) (lo' := lo) (st' := []) rfl (e := (.goto (-114), 3, [181], .null)) rfl rfl (fun _ _ => rfl)
          exact Or.inr (Or.inr (Or.inr (Or.inr (Or.inl ⟨c1, c35, c44, _, _, E, hV65, (hN66.trans (hN63.trans (hN60.trans (hN54.trans (hN43.trans hN37))))), ((((ty.ul rfl).ui rfl).ui rfl).ui rfl), l0, l1, l2, l3⟩))))
        · skip
          exact absurd c55 c35
    · skip
      have c38 : (eh_i G 0 4).toInt < (eh_i G 0 3).toInt := c38
      have E : eh_e _ _ 243 lo [.int ((eh_i G 1 (eh_i G 0 4).toNatClampNeg) &&& 255), .long ((eh_l G 0 17) <<< (Int32.toInt64 8 &&& 63)), .ref 0] _ rs h' := E
      have E := E.pu (p := 244) (lo' := lo) (st' := [.long (Int32.toInt64 ((eh_i G 1 (eh_i G 0 4).toNatClampNeg) &&& 255)), .long ((eh_l G 0 17) <<< (Int32.toInt64 8 &&& 63)), .ref 0]) rfl (e := (.i2l, 1, [], .null)) rfl rfl (fun _ _ => rfl)
      have E := E.pu (p := 245) (lo' := lo) (st' := [.long (((eh_l G 0 17) <<< (Int32.toInt64 8 &&& 63)) ||| (Int32.toInt64 ((eh_i G 1 (eh_i G 0 4).toNatClampNeg) &&& 255))), .ref 0]) rfl (e := (.lor, 1, [], .null)) rfl rfl (fun _ _ => rfl)
      obtain ⟨h67, hV68, hN69, E⟩ := E.gp (p := 248) rfl (x := 158) (m := 3) (w := .null) (t := 12) (i := 17) (u := 1341) (y := 2) rfl rfl hV39
      have E := E.ld (p := 249) (t := ri_isA) (i := 0) (n := 1) (v := .ref 0) rfl (e := (.aload_n 0, 1, [], .null)) rfl rfl (fun _ _ => rfl) l0 rfl
      have E := E.gi (y := eh_i G 0 13) (p := 252) rfl (x := 142) (m := 3) (w := .null) (t := 12) (i := 13) (u := 1337) rfl rfl hV68 (ty.ul rfl) rfl rfl
      have E := E.pu (p := 253) (lo' := lo) (st' := [.int 3, .int (eh_i G 0 13)]) rfl (e := (.iconst 3, 1, [], .null)) rfl rfl (fun _ _ => rfl)
      rcases eh_r3 rfl (show (3 : Int32).toInt = 3 by decide) (E.br (p := 256) (c := 3) (tgt := 275) (a := eh_i G 0 13) (b := 3) (st' := []) rfl (e := (.if_icmp .ge 22, 3, [275], .null)) rfl rfl (fun _ _ => rfl) rfl) with ⟨c70, E⟩ | ⟨c70, E⟩
      · skip
        have E := E.ld (p := 276) (t := ri_isA) (i := 0) (n := 1) (v := .ref 0) rfl (e := (.aload_n 0, 1, [], .null)) rfl rfl (fun _ _ => rfl) l0 rfl
        have E := E.pu (p := 277) (lo' := lo) (st' := [.ref 0, .ref 0]) rfl (e := (.dup, 1, [], .null)) rfl rfl (fun _ _ => rfl)
        have E := E.gi (y := eh_i G 0 13) (p := 280) rfl (x := 142) (m := 3) (w := .null) (t := 12) (i := 13) (u := 1337) rfl rfl hV68 (ty.ul rfl) rfl rfl
        have E := E.pu (p := 281) (lo' := lo) (st' := [.int 1, .int (eh_i G 0 13), .ref 0]) rfl (e := (.iconst 1, 1, [], .null)) rfl rfl (fun _ _ => rfl)
        have E := E.pu (p := 282) (lo' := lo) (st' := [.int ((eh_i G 0 13) + 1), .ref 0]) rfl (e := (.iadd, 1, [], .null)) rfl rfl (fun _ _ => rfl)
        obtain ⟨h71, hV72, hN73, E⟩ := E.gp (p := 285) rfl (x := 142) (m := 3) (w := .null) (t := 12) (i := 13) (u := 1337) (y := 0) rfl rfl hV68
        have E := E.ld (p := 286) (t := ri_isA) (i := 0) (n := 1) (v := .ref 0) rfl (e := (.aload_n 0, 1, [], .null)) rfl rfl (fun _ _ => rfl) l0 rfl
        have E := E.pu (p := 287) (lo' := lo) (st' := [.ref 0, .ref 0]) rfl (e := (.dup, 1, [], .null)) rfl rfl (fun _ _ => rfl)
        have E := E.gi (y := eh_i G 0 4) (p := 290) rfl (x := 21) (m := 3) (w := .null) (t := 12) (i := 4) (u := 1328) rfl rfl hV72 ((ty.ul rfl).ui rfl) rfl rfl
        have E := E.pu (p := 291) (lo' := lo) (st' := [.int 1, .int (eh_i G 0 4), .ref 0]) rfl (e := (.iconst 1, 1, [], .null)) rfl rfl (fun _ _ => rfl)
        have E := E.pu (p := 292) (lo' := lo) (st' := [.int ((eh_i G 0 4) + 1), .ref 0]) rfl (e := (.iadd, 1, [], .null)) rfl rfl (fun _ _ => rfl)
        obtain ⟨h74, hV75, hN76, E⟩ := E.gp (p := 295) rfl (x := 21) (m := 3) (w := .null) (t := 12) (i := 4) (u := 1328) (y := 0) rfl rfl hV72
        have E := E.pu (p := 181) (lo' := lo) (st' := []) rfl (e := (.goto (-114), 3, [181], .null)) rfl rfl (fun _ _ => rfl)
        exact Or.inr (Or.inr (Or.inr (Or.inr (Or.inr (Or.inl ⟨c1, c38, c70, _, _, E, hV75, (hN76.trans (hN73.trans (hN69.trans hN40))), (((ty.ul rfl).ui rfl).ui rfl), l0, l1, l2, l3⟩)))))
      · skip
        have E := E.ld (p := 257) (t := ri_isA) (i := 0) (n := 1) (v := .ref 0) rfl (e := (.aload_n 0, 1, [], .null)) rfl rfl (fun _ _ => rfl) l0 rfl
        have E := E.pu (p := 259) (lo' := lo) (st' := [.int 10, .ref 0]) rfl (e := (.bipush 10, 2, [], .null)) rfl rfl (fun _ _ => rfl)
        have E := E.ld (p := 260) (t := ri_isA) (i := 0) (n := 1) (v := .ref 0) rfl (e := (.aload_n 0, 1, [], .null)) rfl rfl (fun _ _ => rfl) l0 rfl
        have E := E.gi (y := eh_i G 0 14) (p := 263) rfl (x := 155) (m := 3) (w := .null) (t := 12) (i := 14) (u := 1338) rfl rfl hV68 (ty.ul rfl) rfl rfl
        have E := E.pu (p := 264) (lo' := lo) (st' := [.int (10 * (eh_i G 0 14)), .ref 0]) rfl (e := (.imul, 1, [], .null)) rfl rfl (fun _ _ => rfl)
        have E := E.ld (p := 265) (t := ri_isA) (i := 0) (n := 1) (v := .ref 0) rfl (e := (.aload_n 0, 1, [], .null)) rfl rfl (fun _ _ => rfl) l0 rfl
        obtain ⟨v1, h77, X, E⟩ := E.cv (p := 268) (as := []) (b := 0) (r := [.int (10 * (eh_i G 0 14)), .ref 0]) rfl (x := 135) (m := 3) (w := .null) (j := 155) (n := 0) (t := 12) (u := [1482, 36, 1484]) rfl rfl rfl
        rcases sp_155 (d := d) X hV68 (ty.ul rfl) with ⟨c78, rfl, hV79, hN80⟩ | ⟨c81, rfl, hV82, hN83⟩
        · skip
          exact absurd c38 c78
        · skip
          have E : eh_e _ _ 268 lo [.int ((eh_i G 1 (eh_i G 0 4).toNatClampNeg) &&& 255), .int (10 * (eh_i G 0 14)), .ref 0] _ rs h' := E
          have E := E.pu (p := 269) (lo' := lo) (st' := [.int ((10 * (eh_i G 0 14)) + ((eh_i G 1 (eh_i G 0 4).toNatClampNeg) &&& 255)), .ref 0]) rfl (e := (.iadd, 1, [], .null)) rfl rfl (fun _ _ => rfl)
          have E := E.pu (p := 271) (lo' := lo) (st' := [.int 48, .int ((10 * (eh_i G 0 14)) + ((eh_i G 1 (eh_i G 0 4).toNatClampNeg) &&& 255)), .ref 0]) rfl (e := (.bipush 48, 2, [], .null)) rfl rfl (fun _ _ => rfl)
          have E := E.pu (p := 272) (lo' := lo) (st' := [.int (((10 * (eh_i G 0 14)) + ((eh_i G 1 (eh_i G 0 4).toNatClampNeg) &&& 255)) - 48), .ref 0]) rfl (e := (.isub, 1, [], .null)) rfl rfl (fun _ _ => rfl)
          obtain ⟨h84, hV85, hN86, E⟩ := E.gp (p := 275) rfl (x := 155) (m := 3) (w := .null) (t := 12) (i := 14) (u := 1338) (y := 0) rfl rfl hV82
          have E := E.ld (p := 276) (t := ri_isA) (i := 0) (n := 1) (v := .ref 0) rfl (e := (.aload_n 0, 1, [], .null)) rfl rfl (fun _ _ => rfl) l0 rfl
          have E := E.pu (p := 277) (lo' := lo) (st' := [.ref 0, .ref 0]) rfl (e := (.dup, 1, [], .null)) rfl rfl (fun _ _ => rfl)
          have E := E.gi (y := eh_i G 0 13) (p := 280) rfl (x := 142) (m := 3) (w := .null) (t := 12) (i := 13) (u := 1337) rfl rfl hV85 ((ty.ul rfl).ui rfl) rfl rfl
          have E := E.pu (p := 281) (lo' := lo) (st' := [.int 1, .int (eh_i G 0 13), .ref 0]) rfl (e := (.iconst 1, 1, [], .null)) rfl rfl (fun _ _ => rfl)
          have E := E.pu (p := 282) (lo' := lo) (st' := [.int ((eh_i G 0 13) + 1), .ref 0]) rfl (e := (.iadd, 1, [], .null)) rfl rfl (fun _ _ => rfl)
          obtain ⟨h87, hV88, hN89, E⟩ := E.gp (p := 285) rfl (x := 142) (m := 3) (w := .null) (t := 12) (i := 13) (u := 1337) (y := 0) rfl rfl hV85
          have E := E.ld (p := 286) (t := ri_isA) (i := 0) (n := 1) (v := .ref 0) rfl (e := (.aload_n 0, 1, [], .null)) rfl rfl (fun _ _ => rfl) l0 rfl
          have E := E.pu (p := 287) (lo' := lo) (st' := [.ref 0, .ref 0]) rfl (e := (.dup, 1, [], .null)) rfl rfl (fun _ _ => rfl)
          have E := E.gi (y := eh_i G 0 4) (p := 290) rfl (x := 21) (m := 3) (w := .null) (t := 12) (i := 4) (u := 1328) rfl rfl hV88 (((ty.ul rfl).ui rfl).ui rfl) rfl rfl
          have E := E.pu (p := 291) (lo' := lo) (st' := [.int 1, .int (eh_i G 0 4), .ref 0]) rfl (e := (.iconst 1, 1, [], .null)) rfl rfl (fun _ _ => rfl)
          have E := E.pu (p := 292) (lo' := lo) (st' := [.int ((eh_i G 0 4) + 1), .ref 0]) rfl (e := (.iadd, 1, [], .null)) rfl rfl (fun _ _ => rfl)
          obtain ⟨h90, hV91, hN92, E⟩ := E.gp (p := 295) rfl (x := 21) (m := 3) (w := .null) (t := 12) (i := 4) (u := 1328) (y := 0) rfl rfl hV88
          have E := E.pu (p := 181) (lo' := lo) (st' := []) rfl (e := (.goto (-114), 3, [181], .null)) rfl rfl (fun _ _ => rfl)
          exact Or.inr (Or.inr (Or.inr (Or.inr (Or.inr (Or.inr (⟨c1, c38, c70, _, _, E, hV91, (hN92.trans (hN89.trans (hN86.trans (hN83.trans (hN69.trans hN40))))), ((((ty.ul rfl).ui rfl).ui rfl).ui rfl), l0, l1, l2, l3⟩))))))
theorem nx_z {cal : eh_K} {lo : List (Nat × Value)} {h h' : ri_H} {rs : List Value} {G : eh_W} {cc sm al : Int32} (E : eh_e cal md_158 298 lo [] h rs h') (hV : eh_V h = G) (ty : eh_ty tM G) (l0 : ri_lk lo 0 = some (.ref 0)) (l1 : ri_lk lo 1 = some (.int cc)) (l2 : ri_lk lo 2 = some (.int sm)) (l3 : ri_lk lo 3 = some (.int al)) : (al = 0 ∧ rs = [] ∧ eh_V h' = eh_u G 0 11 (.int 4) ∧ eh_N h' = eh_N h) ∨ (¬ (al = 0) ∧ sm = 0 ∧ ¬ (3 < (eh_i G 0 13).toInt) ∧ rs = [] ∧ eh_V h' = eh_u G 0 11 (.int 2) ∧ eh_N h' = eh_N h) ∨ (¬ (al = 0) ∧ sm = 0 ∧ 3 < (eh_i G 0 13).toInt ∧ rs = [] ∧ eh_V h' = eh_u G 0 11 (.int 4) ∧ eh_N h' = eh_N h) ∨ (¬ (al = 0) ∧ ¬ (sm = 0) ∧ ¬ (7 < (eh_i G 0 13).toInt) ∧ rs = [] ∧ eh_V h' = eh_u G 0 11 (.int 1) ∧ eh_N h' = eh_N h) ∨ (¬ (al = 0) ∧ ¬ (sm = 0) ∧ 7 < (eh_i G 0 13).toInt ∧ rs = [] ∧ eh_V h' = eh_u G 0 11 (.int 4) ∧ eh_N h' = eh_N h) := by
  have E := E.ld (p := 299) (t := ri_isA) (i := 0) (n := 1) (v := .ref 0) rfl (e := (.aload_n 0, 1, [], .null)) rfl rfl (fun _ _ => rfl) l0 rfl
  have E := E.ld (p := 300) (t := ri_isI) (i := 3) (n := 1) (v := .int al) rfl (e := (.iload_n 3, 1, [], .null)) rfl rfl (fun _ _ => rfl) l3 rfl
  rcases eh_q0 (E.br (p := 303) (c := 0) (tgt := 320) (a := al) (b := 0) (st' := [.ref 0]) rfl (e := (.ifCond .eq 20, 3, [320], .null)) rfl rfl (fun _ _ => rfl) rfl) with ⟨c1, E⟩ | ⟨c1, E⟩
  · skip
    have E := E.pu (p := 321) (lo' := lo) (st' := [.int 4, .ref 0]) rfl (e := (.iconst 4, 1, [], .null)) rfl rfl (fun _ _ => rfl)
    have E := E.pu (p := 333) (lo' := lo) (st' := [.int 4, .ref 0]) rfl (e := (.goto 12, 3, [333], .null)) rfl rfl (fun _ _ => rfl)
    obtain ⟨h2, hV3, hN4, E⟩ := E.gp (p := 336) rfl (x := 145) (m := 3) (w := .null) (t := 12) (i := 11) (u := 1335) (y := 0) rfl rfl hV
    obtain ⟨r1, r2⟩ := E.retv rfl (m := 1) (ax := []) (w := .null) rfl
    exact Or.inl ⟨c1, r1, ((congrArg eh_V r2).trans hV3), ((congrArg eh_N r2).trans hN4)⟩
  · skip
    have E := E.ld (p := 304) (t := ri_isA) (i := 0) (n := 1) (v := .ref 0) rfl (e := (.aload_n 0, 1, [], .null)) rfl rfl (fun _ _ => rfl) l0 rfl
    have E := E.gi (y := eh_i G 0 13) (p := 307) rfl (x := 142) (m := 3) (w := .null) (t := 12) (i := 13) (u := 1337) rfl rfl hV ty rfl rfl
    have E := E.ld (p := 308) (t := ri_isI) (i := 2) (n := 1) (v := .int sm) rfl (e := (.iload_n 2, 1, [], .null)) rfl rfl (fun _ _ => rfl) l2 rfl
    rcases eh_q0 (E.br (p := 311) (c := 0) (tgt := 316) (a := sm) (b := 0) (st' := [.int (eh_i G 0 13), .ref 0]) rfl (e := (.ifCond .eq 8, 3, [316], .null)) rfl rfl (fun _ _ => rfl) rfl) with ⟨c5, E⟩ | ⟨c5, E⟩
    · skip
      have E := E.pu (p := 317) (lo' := lo) (st' := [.int 3, .int (eh_i G 0 13), .ref 0]) rfl (e := (.iconst 3, 1, [], .null)) rfl rfl (fun _ _ => rfl)
      rcases eh_r5 rfl (show (3 : Int32).toInt = 3 by decide) (E.br (p := 320) (c := 5) (tgt := 324) (a := eh_i G 0 13) (b := 3) (st' := [.ref 0]) rfl (e := (.if_icmp .le 7, 3, [324], .null)) rfl rfl (fun _ _ => rfl) rfl) with ⟨c6, E⟩ | ⟨c6, E⟩
      · skip
        have E := E.ld (p := 325) (t := ri_isI) (i := 2) (n := 1) (v := .int sm) rfl (e := (.iload_n 2, 1, [], .null)) rfl rfl (fun _ _ => rfl) l2 rfl
        have E := (eh_q0 (E.br (p := 328) (c := 0) (tgt := 332) (a := sm) (b := 0) (st' := [.ref 0]) rfl (e := (.ifCond .eq 7, 3, [332], .null)) rfl rfl (fun _ _ => rfl) rfl)).elim (fun y => y.2) (fun y => absurd c5 y.1)
        have E := E.pu (p := 333) (lo' := lo) (st' := [.int 2, .ref 0]) rfl (e := (.iconst 2, 1, [], .null)) rfl rfl (fun _ _ => rfl)
        obtain ⟨h7, hV8, hN9, E⟩ := E.gp (p := 336) rfl (x := 145) (m := 3) (w := .null) (t := 12) (i := 11) (u := 1335) (y := 0) rfl rfl hV
        obtain ⟨r1, r2⟩ := E.retv rfl (m := 1) (ax := []) (w := .null) rfl
        exact Or.inr (Or.inl ⟨c1, c5, c6, r1, ((congrArg eh_V r2).trans hV8), ((congrArg eh_N r2).trans hN9)⟩)
      · skip
        have E := E.pu (p := 321) (lo' := lo) (st' := [.int 4, .ref 0]) rfl (e := (.iconst 4, 1, [], .null)) rfl rfl (fun _ _ => rfl)
        have E := E.pu (p := 333) (lo' := lo) (st' := [.int 4, .ref 0]) rfl (e := (.goto 12, 3, [333], .null)) rfl rfl (fun _ _ => rfl)
        obtain ⟨h10, hV11, hN12, E⟩ := E.gp (p := 336) rfl (x := 145) (m := 3) (w := .null) (t := 12) (i := 11) (u := 1335) (y := 0) rfl rfl hV
        obtain ⟨r1, r2⟩ := E.retv rfl (m := 1) (ax := []) (w := .null) rfl
        exact Or.inr (Or.inr (Or.inl ⟨c1, c5, c6, r1, ((congrArg eh_V r2).trans hV11), ((congrArg eh_N r2).trans hN12)⟩))
    · skip
      have E := E.pu (p := 313) (lo' := lo) (st' := [.int 7, .int (eh_i G 0 13), .ref 0]) rfl (e := (.bipush 7, 2, [], .null)) rfl rfl (fun _ _ => rfl)
      have E := E.pu (p := 317) (lo' := lo) (st' := [.int 7, .int (eh_i G 0 13), .ref 0]) rfl (e := (.goto 4, 3, [317], .null)) rfl rfl (fun _ _ => rfl)
      rcases eh_r5 rfl (show (7 : Int32).toInt = 7 by decide) (E.br (p := 320) (c := 5) (tgt := 324) (a := eh_i G 0 13) (b := 7) (st' := [.ref 0]) rfl (e := (.if_icmp .le 7, 3, [324], .null)) rfl rfl (fun _ _ => rfl) rfl) with ⟨c13, E⟩ | ⟨c13, E⟩
      · skip
        have E := E.ld (p := 325) (t := ri_isI) (i := 2) (n := 1) (v := .int sm) rfl (e := (.iload_n 2, 1, [], .null)) rfl rfl (fun _ _ => rfl) l2 rfl
        have E := (eh_q0 (E.br (p := 328) (c := 0) (tgt := 332) (a := sm) (b := 0) (st' := [.ref 0]) rfl (e := (.ifCond .eq 7, 3, [332], .null)) rfl rfl (fun _ _ => rfl) rfl)).elim (fun y => absurd y.1 c5) (fun y => y.2)
        have E := E.pu (p := 329) (lo' := lo) (st' := [.int 1, .ref 0]) rfl (e := (.iconst 1, 1, [], .null)) rfl rfl (fun _ _ => rfl)
        have E := E.pu (p := 333) (lo' := lo) (st' := [.int 1, .ref 0]) rfl (e := (.goto 4, 3, [333], .null)) rfl rfl (fun _ _ => rfl)
        obtain ⟨h14, hV15, hN16, E⟩ := E.gp (p := 336) rfl (x := 145) (m := 3) (w := .null) (t := 12) (i := 11) (u := 1335) (y := 0) rfl rfl hV
        obtain ⟨r1, r2⟩ := E.retv rfl (m := 1) (ax := []) (w := .null) rfl
        exact Or.inr (Or.inr (Or.inr (Or.inl ⟨c1, c5, c13, r1, ((congrArg eh_V r2).trans hV15), ((congrArg eh_N r2).trans hN16)⟩)))
      · skip
        have E := E.pu (p := 321) (lo' := lo) (st' := [.int 4, .ref 0]) rfl (e := (.iconst 4, 1, [], .null)) rfl rfl (fun _ _ => rfl)
        have E := E.pu (p := 333) (lo' := lo) (st' := [.int 4, .ref 0]) rfl (e := (.goto 12, 3, [333], .null)) rfl rfl (fun _ _ => rfl)
        obtain ⟨h17, hV18, hN19, E⟩ := E.gp (p := 336) rfl (x := 145) (m := 3) (w := .null) (t := 12) (i := 11) (u := 1335) (y := 0) rfl rfl hV
        obtain ⟨r1, r2⟩ := E.retv rfl (m := 1) (ax := []) (w := .null) rfl
        exact Or.inr (Or.inr (Or.inr (Or.inr (⟨c1, c5, c13, r1, ((congrArg eh_V r2).trans hV18), ((congrArg eh_N r2).trans hN19)⟩))))
