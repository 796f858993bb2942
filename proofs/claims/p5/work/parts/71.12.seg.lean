theorem ad_y {cal : eh_K} {lo : List (Nat × Value)} {h h' : ri_H} {rs : List Value} {G : eh_W} {s : Int32} (E : eh_e cal md_74 61 lo [] h rs h') (hV : eh_V h = G) (ty : eh_ty tC G) (l0 : ri_lk lo 0 = some (.ref 2)) (l1 : ri_lk lo 1 = some (.int s)) : (s.toInt < (eh_i G 2 4).toInt ∧ ¬ ((eh_i G 2 3).toInt < (eh_i G 2 2).toInt) ∧ rs = [] ∧ eh_V h' = eh_u (eh_u (eh_u G 2 6 (.int s)) 2 7 (.int (-1))) 2 5 (.int 0) ∧ eh_N h' = eh_N h) ∨ (s.toInt < (eh_i G 2 4).toInt ∧ (eh_i G 2 3).toInt < (eh_i G 2 2).toInt ∧ rs = [] ∧ eh_V h' = eh_u (eh_u (eh_u G 2 6 (.int s)) 2 7 (.int (-1))) 2 5 (.int 1) ∧ eh_N h' = eh_N h) ∨ (¬ (s.toInt < (eh_i G 2 4).toInt) ∧ (eh_i G 2 4).toInt < s.toInt ∧ ∃ hz loz, eh_e cal md_74 107 loz [] hz rs h' ∧ eh_V hz = eh_u (eh_u G 2 6 (.int (eh_i G 2 4))) 2 7 (.int (-1)) ∧ eh_N hz = eh_N h ∧ eh_ty tC (eh_u (eh_u G 2 6 (.int (eh_i G 2 4))) 2 7 (.int (-1))) ∧ ri_lk loz 0 = some (.ref 2) ∧ ri_lk loz 1 = some (.int s)) ∨ (¬ (s.toInt < (eh_i G 2 4).toInt) ∧ ¬ ((eh_i G 2 4).toInt < s.toInt) ∧ ¬ ((eh_i G 2 3).toInt < (eh_i G 2 2).toInt) ∧ rs = [] ∧ eh_V h' = eh_u (eh_u (eh_u G 2 6 (.int (eh_i G 2 4))) 2 7 (.int (-1))) 2 5 (.int 0) ∧ eh_N h' = eh_N h) ∨ (¬ (s.toInt < (eh_i G 2 4).toInt) ∧ ¬ ((eh_i G 2 4).toInt < s.toInt) ∧ (eh_i G 2 3).toInt < (eh_i G 2 2).toInt ∧ rs = [] ∧ eh_V h' = eh_u (eh_u (eh_u G 2 6 (.int (eh_i G 2 4))) 2 7 (.int (-1))) 2 5 (.int 1) ∧ eh_N h' = eh_N h) := by
  have E := E.ld (p := 62) (t := ri_isA) (i := 0) (n := 1) (v := .ref 2) rfl (e := (.aload_n 0, 1, [], .null)) rfl rfl (fun _ _ => rfl) l0 rfl
  have E := E.ld (p := 63) (t := ri_isA) (i := 0) (n := 1) (v := .ref 2) rfl (e := (.aload_n 0, 1, [], .null)) rfl rfl (fun _ _ => rfl) l0 rfl
  have E := E.gi (y := eh_i G 2 4) (p := 66) rfl (x := 22) (m := 3) (w := .null) (t := 8) (i := 4) (u := 191) rfl rfl hV ty rfl rfl
  have E := E.ld (p := 67) (t := ri_isI) (i := 1) (n := 1) (v := .int s) rfl (e := (.iload_n 1, 1, [], .null)) rfl rfl (fun _ _ => rfl) l1 rfl
  rcases eh_rm rfl rfl (E.mn (p := 70) rfl (x := 61) (m := 3) (w := .null) (u := 643) rfl rfl) with ⟨c1, E⟩ | ⟨c1, E⟩
  · skip
    obtain ⟨h2, hV3, hN4, E⟩ := E.gp (p := 73) rfl (x := 28) (m := 3) (w := .null) (t := 8) (i := 6) (u := 196) (y := 0) rfl rfl hV
    have E := E.ld (p := 74) (t := ri_isA) (i := 0) (n := 1) (v := .ref 2) rfl (e := (.aload_n 0, 1, [], .null)) rfl rfl (fun _ _ => rfl) l0 rfl
    have E := E.pu (p := 75) (lo' := lo) (st' := [.int (-1), .ref 2]) rfl (e := (.iconst (-1), 1, [], .null)) rfl rfl (fun _ _ => rfl)
    obtain ⟨h5, hV6, hN7, E⟩ := E.gp (p := 78) rfl (x := 31) (m := 3) (w := .null) (t := 8) (i := 7) (u := 197) (y := 0) rfl rfl hV3
    have E := E.ld (p := 79) (t := ri_isA) (i := 0) (n := 1) (v := .ref 2) rfl (e := (.aload_n 0, 1, [], .null)) rfl rfl (fun _ _ => rfl) l0 rfl
    have E := E.gi (y := eh_i G 2 4) (p := 82) rfl (x := 22) (m := 3) (w := .null) (t := 8) (i := 4) (u := 191) rfl rfl hV6 ((ty.ui rfl).ui rfl) rfl rfl
    have E := E.ld (p := 83) (t := ri_isI) (i := 1) (n := 1) (v := .int s) rfl (e := (.iload_n 1, 1, [], .null)) rfl rfl (fun _ _ => rfl) l1 rfl
    have E := (eh_r2 rfl rfl (E.br (p := 86) (c := 2) (tgt := 107) (a := eh_i G 2 4) (b := s) (st' := []) rfl (e := (.if_icmp .lt 24, 3, [107], .null)) rfl rfl (fun _ _ => rfl) rfl)).elim (fun y => absurd y.1 (by omega)) (fun y => y.2)
    have E := E.ld (p := 87) (t := ri_isA) (i := 0) (n := 1) (v := .ref 2) rfl (e := (.aload_n 0, 1, [], .null)) rfl rfl (fun _ _ => rfl) l0 rfl
    have E := E.ld (p := 88) (t := ri_isA) (i := 0) (n := 1) (v := .ref 2) rfl (e := (.aload_n 0, 1, [], .null)) rfl rfl (fun _ _ => rfl) l0 rfl
    have E := E.gi (y := eh_i G 2 2) (p := 91) rfl (x := 15) (m := 3) (w := .null) (t := 8) (i := 2) (u := 189) rfl rfl hV6 ((ty.ui rfl).ui rfl) rfl rfl
    have E := E.ld (p := 92) (t := ri_isA) (i := 0) (n := 1) (v := .ref 2) rfl (e := (.aload_n 0, 1, [], .null)) rfl rfl (fun _ _ => rfl) l0 rfl
    have E := E.gi (y := eh_i G 2 3) (p := 95) rfl (x := 19) (m := 3) (w := .null) (t := 8) (i := 3) (u := 190) rfl rfl hV6 ((ty.ui rfl).ui rfl) rfl rfl
    rcases eh_r5 rfl rfl (E.br (p := 98) (c := 5) (tgt := 102) (a := eh_i G 2 2) (b := eh_i G 2 3) (st' := [.ref 2]) rfl (e := (.if_icmp .le 7, 3, [102], .null)) rfl rfl (fun _ _ => rfl) rfl) with ⟨c8, E⟩ | ⟨c8, E⟩
    · skip
      have E := E.pu (p := 103) (lo' := lo) (st' := [.int 0, .ref 2]) rfl (e := (.iconst 0, 1, [], .null)) rfl rfl (fun _ _ => rfl)
      obtain ⟨h9, hV10, hN11, E⟩ := E.gp (p := 106) rfl (x := 25) (m := 3) (w := .null) (t := 8) (i := 5) (u := 192) (y := 0) rfl rfl hV6
      obtain ⟨r1, r2⟩ := E.retv rfl (m := 1) (ax := []) (w := .null) rfl
      exact Or.inl ⟨c1, c8, r1, ((congrArg eh_V r2).trans hV10), ((congrArg eh_N r2).trans (hN11.trans (hN7.trans hN4)))⟩
    · skip
      have E := E.pu (p := 99) (lo' := lo) (st' := [.int 1, .ref 2]) rfl (e := (.iconst 1, 1, [], .null)) rfl rfl (fun _ _ => rfl)
      have E := E.pu (p := 103) (lo' := lo) (st' := [.int 1, .ref 2]) rfl (e := (.goto 4, 3, [103], .null)) rfl rfl (fun _ _ => rfl)
      obtain ⟨h12, hV13, hN14, E⟩ := E.gp (p := 106) rfl (x := 25) (m := 3) (w := .null) (t := 8) (i := 5) (u := 192) (y := 0) rfl rfl hV6
      obtain ⟨r1, r2⟩ := E.retv rfl (m := 1) (ax := []) (w := .null) rfl
      exact Or.inr (Or.inl ⟨c1, c8, r1, ((congrArg eh_V r2).trans hV13), ((congrArg eh_N r2).trans (hN14.trans (hN7.trans hN4)))⟩)
  · skip
    obtain ⟨h15, hV16, hN17, E⟩ := E.gp (p := 73) rfl (x := 28) (m := 3) (w := .null) (t := 8) (i := 6) (u := 196) (y := 0) rfl rfl hV
    have E := E.ld (p := 74) (t := ri_isA) (i := 0) (n := 1) (v := .ref 2) rfl (e := (.aload_n 0, 1, [], .null)) rfl rfl (fun _ _ => rfl) l0 rfl
    have E := E.pu (p := 75) (lo' := lo) (st' := [.int (-1), .ref 2]) rfl (e := (.iconst (-1), 1, [], .null)) rfl rfl (fun _ _ => rfl)
    obtain ⟨h18, hV19, hN20, E⟩ := E.gp (p := 78) rfl (x := 31) (m := 3) (w := .null) (t := 8) (i := 7) (u := 197) (y := 0) rfl rfl hV16
    have E := E.ld (p := 79) (t := ri_isA) (i := 0) (n := 1) (v := .ref 2) rfl (e := (.aload_n 0, 1, [], .null)) rfl rfl (fun _ _ => rfl) l0 rfl
    have E := E.gi (y := eh_i G 2 4) (p := 82) rfl (x := 22) (m := 3) (w := .null) (t := 8) (i := 4) (u := 191) rfl rfl hV19 ((ty.ui rfl).ui rfl) rfl rfl
    have E := E.ld (p := 83) (t := ri_isI) (i := 1) (n := 1) (v := .int s) rfl (e := (.iload_n 1, 1, [], .null)) rfl rfl (fun _ _ => rfl) l1 rfl
    rcases eh_r2 rfl rfl (E.br (p := 86) (c := 2) (tgt := 107) (a := eh_i G 2 4) (b := s) (st' := []) rfl (e := (.if_icmp .lt 24, 3, [107], .null)) rfl rfl (fun _ _ => rfl) rfl) with ⟨c21, E⟩ | ⟨c21, E⟩
    · skip
      exact Or.inr (Or.inr (Or.inl ⟨c1, c21, _, _, E, hV19, (hN20.trans hN17), ((ty.ui rfl).ui rfl), l0, l1⟩))
    · skip
      have E := E.ld (p := 87) (t := ri_isA) (i := 0) (n := 1) (v := .ref 2) rfl (e := (.aload_n 0, 1, [], .null)) rfl rfl (fun _ _ => rfl) l0 rfl
      have E := E.ld (p := 88) (t := ri_isA) (i := 0) (n := 1) (v := .ref 2) rfl (e := (.aload_n 0, 1, [], .null)) rfl rfl (fun _ _ => rfl) l0 rfl
      have E := E.gi (y := eh_i G 2 2) (p := 91) rfl (x := 15) (m := 3) (w := .null) (t := 8) (i := 2) (u := 189) rfl rfl hV19 ((ty.ui rfl).ui rfl) rfl rfl
      have E := E.ld (p := 92) (t := ri_isA) (i := 0) (n := 1) (v := .ref 2) rfl (e := (.aload_n 0, 1, [], .null)) rfl rfl (fun _ _ => rfl) l0 rfl
      have E := E.gi (y := eh_i G 2 3) (p := 95) rfl (x := 19) (m := 3) (w := .null) (t := 8) (i := 3) (u := 190) rfl rfl hV19 ((ty.ui rfl).ui rfl) rfl rfl
      rcases eh_r5 rfl rfl (E.br (p := 98) (c := 5) (tgt := 102) (a := eh_i G 2 2) (b := eh_i G 2 3) (st' := [.ref 2]) rfl (e := (.if_icmp .le 7, 3, [102], .null)) rfl rfl (fun _ _ => rfl) rfl) with ⟨c22, E⟩ | ⟨c22, E⟩
      · skip
        have E := E.pu (p := 103) (lo' := lo) (st' := [.int 0, .ref 2]) rfl (e := (.iconst 0, 1, [], .null)) rfl rfl (fun _ _ => rfl)
        obtain ⟨h23, hV24, hN25, E⟩ := E.gp (p := 106) rfl (x := 25) (m := 3) (w := .null) (t := 8) (i := 5) (u := 192) (y := 0) rfl rfl hV19
        obtain ⟨r1, r2⟩ := E.retv rfl (m := 1) (ax := []) (w := .null) rfl
        exact Or.inr (Or.inr (Or.inr (Or.inl ⟨c1, c21, c22, r1, ((congrArg eh_V r2).trans hV24), ((congrArg eh_N r2).trans (hN25.trans (hN20.trans hN17)))⟩)))
      · skip
        have E := E.pu (p := 99) (lo' := lo) (st' := [.int 1, .ref 2]) rfl (e := (.iconst 1, 1, [], .null)) rfl rfl (fun _ _ => rfl)
        have E := E.pu (p := 103) (lo' := lo) (st' := [.int 1, .ref 2]) rfl (e := (.goto 4, 3, [103], .null)) rfl rfl (fun _ _ => rfl)
        obtain ⟨h26, hV27, hN28, E⟩ := E.gp (p := 106) rfl (x := 25) (m := 3) (w := .null) (t := 8) (i := 5) (u := 192) (y := 0) rfl rfl hV19
        obtain ⟨r1, r2⟩ := E.retv rfl (m := 1) (ax := []) (w := .null) rfl
        exact Or.inr (Or.inr (Or.inr (Or.inr (⟨c1, c21, c22, r1, ((congrArg eh_V r2).trans hV27), ((congrArg eh_N r2).trans (hN28.trans (hN20.trans hN17)))⟩))))
theorem ad_x {d : Nat} {lo : List (Nat × Value)} {h h' : ri_H} {rs : List Value} {G : eh_W} {s : Int32} (E : eh_e (ri_calE ri_md (d + 1)) md_74 111 lo [] h rs h') (hV : eh_V h = G) (ty : eh_ty tC G) (l0 : ri_lk lo 0 = some (.ref 2)) (l1 : ri_lk lo 1 = some (.int s)) : (¬ ((eh_i G 2 4) = (eh_i G 2 6)) ∧ ¬ ((eh_i G 2 5) = 3) ∧ rs = [] ∧ eh_V h' = G ∧ eh_N h' = eh_N h) ∨ (∃ (x4 : Int32), ¬ ((eh_i G 2 4) = (eh_i G 2 6)) ∧ (eh_i G 2 5) = 3 ∧ lx_k G (eh_l G 2 8) x4 ∧ ¬ (x4 = (-1)) ∧ rs = [] ∧ eh_V h' = eh_u (eh_u G 2 7 (.int x4)) 2 5 (.int 2) ∧ eh_N h' = eh_N h) ∨ (∃ (x4 : Int32), ¬ ((eh_i G 2 4) = (eh_i G 2 6)) ∧ (eh_i G 2 5) = 3 ∧ lx_k G (eh_l G 2 8) x4 ∧ x4 = (-1) ∧ rs = [] ∧ eh_V h' = eh_u (eh_u G 2 7 (.int x4)) 2 5 (.int 3) ∧ eh_N h' = eh_N h) ∨ ((eh_i G 2 4) = (eh_i G 2 6) ∧ lx_sg (eh_i G 1 (eh_i G 2 4).toNatClampNeg) ∧ rs = [] ∧ eh_V h' = eh_u (eh_u (eh_u G 2 7 (.int (eh_i G 1 (eh_i G 2 4).toNatClampNeg))) 2 5 (.int 5)) 2 4 (.int ((eh_i G 2 4) + 1)) ∧ eh_N h' = eh_N h) ∨ ((eh_i G 2 4) = (eh_i G 2 6) ∧ ¬ (lx_sg (eh_i G 1 (eh_i G 2 4).toNatClampNeg)) ∧ rs = [] ∧ eh_V h' = eh_u (eh_u (eh_u G 2 7 (.int (eh_i G 1 (eh_i G 2 4).toNatClampNeg))) 2 5 (.int 1)) 2 4 (.int ((eh_i G 2 4) + 1)) ∧ eh_N h' = eh_N h) := by
  have E := E.ld (p := 112) (t := ri_isA) (i := 0) (n := 1) (v := .ref 2) rfl (e := (.aload_n 0, 1, [], .null)) rfl rfl (fun _ _ => rfl) l0 rfl
  have E := E.gi (y := eh_i G 2 4) (p := 115) rfl (x := 22) (m := 3) (w := .null) (t := 8) (i := 4) (u := 191) rfl rfl hV ty rfl rfl
  have E := E.ld (p := 116) (t := ri_isA) (i := 0) (n := 1) (v := .ref 2) rfl (e := (.aload_n 0, 1, [], .null)) rfl rfl (fun _ _ => rfl) l0 rfl
  have E := E.gi (y := eh_i G 2 6) (p := 119) rfl (x := 28) (m := 3) (w := .null) (t := 8) (i := 6) (u := 196) rfl rfl hV ty rfl rfl
  rcases eh_q1 (E.br (p := 122) (c := 1) (tgt := 167) (a := eh_i G 2 4) (b := eh_i G 2 6) (st' := []) rfl (e := (.if_icmp .ne 48, 3, [167], .null)) rfl rfl (fun _ _ => rfl) rfl) with ⟨c1, E⟩ | ⟨c1, E⟩
  · skip
    have E := E.ld (p := 168) (t := ri_isA) (i := 0) (n := 1) (v := .ref 2) rfl (e := (.aload_n 0, 1, [], .null)) rfl rfl (fun _ _ => rfl) l0 rfl
    have E := E.gi (y := eh_i G 2 5) (p := 171) rfl (x := 25) (m := 3) (w := .null) (t := 8) (i := 5) (u := 192) rfl rfl hV ty rfl rfl
    have E := E.pu (p := 172) (lo' := lo) (st' := [.int 3, .int (eh_i G 2 5)]) rfl (e := (.iconst 3, 1, [], .null)) rfl rfl (fun _ _ => rfl)
    rcases eh_q1 (E.br (p := 175) (c := 1) (tgt := 204) (a := eh_i G 2 5) (b := 3) (st' := []) rfl (e := (.if_icmp .ne 32, 3, [204], .null)) rfl rfl (fun _ _ => rfl) rfl) with ⟨c2, E⟩ | ⟨c2, E⟩
    · skip
      obtain ⟨r1, r2⟩ := E.retv rfl (m := 1) (ax := []) (w := .null) rfl
      exact Or.inl ⟨c1, c2, r1, ((congrArg eh_V r2).trans hV), (congrArg eh_N r2)⟩
    · skip
      have E := E.ld (p := 176) (t := ri_isA) (i := 0) (n := 1) (v := .ref 2) rfl (e := (.aload_n 0, 1, [], .null)) rfl rfl (fun _ _ => rfl) l0 rfl
      have E := E.ld (p := 177) (t := ri_isA) (i := 0) (n := 1) (v := .ref 2) rfl (e := (.aload_n 0, 1, [], .null)) rfl rfl (fun _ _ => rfl) l0 rfl
      have E := E.ld (p := 178) (t := ri_isA) (i := 0) (n := 1) (v := .ref 2) rfl (e := (.aload_n 0, 1, [], .null)) rfl rfl (fun _ _ => rfl) l0 rfl
      have E := E.gl (y := eh_l G 2 8) (p := 181) rfl (x := 34) (m := 3) (w := .null) (t := 8) (i := 8) (u := 201) rfl rfl hV ty rfl rfl
      obtain ⟨v1, h3, X, E⟩ := E.cv (p := 184) (as := [.long (eh_l G 2 8)]) (b := 2) (r := [.ref 2]) rfl (x := 77) (m := 3) (w := .null) (j := 76) (n := 1) (t := 8) (u := [657, 3, 659]) rfl rfl rfl
      rcases sp_76 (d := d) X hV ty with ⟨x4, c5, rfl, hV6, hN7⟩
      have c5 : lx_k G (eh_l G 2 8) x4 := c5
      have E : eh_e _ _ 184 lo [.int x4, .ref 2] _ rs h' := E
      obtain ⟨h8, hV9, hN10, E⟩ := E.gp (p := 187) rfl (x := 31) (m := 3) (w := .null) (t := 8) (i := 7) (u := 197) (y := 0) rfl rfl hV6
      have E := E.ld (p := 188) (t := ri_isA) (i := 0) (n := 1) (v := .ref 2) rfl (e := (.aload_n 0, 1, [], .null)) rfl rfl (fun _ _ => rfl) l0 rfl
      have E := E.ld (p := 189) (t := ri_isA) (i := 0) (n := 1) (v := .ref 2) rfl (e := (.aload_n 0, 1, [], .null)) rfl rfl (fun _ _ => rfl) l0 rfl
      have E := E.gi (y := x4) (p := 192) rfl (x := 31) (m := 3) (w := .null) (t := 8) (i := 7) (u := 197) rfl rfl hV9 (ty.ui rfl) rfl rfl
      have E := E.pu (p := 193) (lo' := lo) (st' := [.int (-1), .int x4, .ref 2]) rfl (e := (.iconst (-1), 1, [], .null)) rfl rfl (fun _ _ => rfl)
      rcases eh_q1 (E.br (p := 196) (c := 1) (tgt := 200) (a := x4) (b := (-1)) (st' := [.ref 2]) rfl (e := (.if_icmp .ne 7, 3, [200], .null)) rfl rfl (fun _ _ => rfl) rfl) with ⟨c11, E⟩ | ⟨c11, E⟩
      · skip
        have E := E.pu (p := 201) (lo' := lo) (st' := [.int 2, .ref 2]) rfl (e := (.iconst 2, 1, [], .null)) rfl rfl (fun _ _ => rfl)
        obtain ⟨h12, hV13, hN14, E⟩ := E.gp (p := 204) rfl (x := 25) (m := 3) (w := .null) (t := 8) (i := 5) (u := 192) (y := 0) rfl rfl hV9
        obtain ⟨r1, r2⟩ := E.retv rfl (m := 1) (ax := []) (w := .null) rfl
        exact Or.inr (Or.inl ⟨x4, c1, c2, c5, c11, r1, ((congrArg eh_V r2).trans hV13), ((congrArg eh_N r2).trans (hN14.trans (hN10.trans hN7)))⟩)
      · skip
        have E := E.pu (p := 197) (lo' := lo) (st' := [.int 3, .ref 2]) rfl (e := (.iconst 3, 1, [], .null)) rfl rfl (fun _ _ => rfl)
        have E := E.pu (p := 201) (lo' := lo) (st' := [.int 3, .ref 2]) rfl (e := (.goto 4, 3, [201], .null)) rfl rfl (fun _ _ => rfl)
        obtain ⟨h15, hV16, hN17, E⟩ := E.gp (p := 204) rfl (x := 25) (m := 3) (w := .null) (t := 8) (i := 5) (u := 192) (y := 0) rfl rfl hV9
        obtain ⟨r1, r2⟩ := E.retv rfl (m := 1) (ax := []) (w := .null) rfl
        exact Or.inr (Or.inr (Or.inl ⟨x4, c1, c2, c5, c11, r1, ((congrArg eh_V r2).trans hV16), ((congrArg eh_N r2).trans (hN17.trans (hN10.trans hN7)))⟩))
  · skip
    have E := E.ld (p := 123) (t := ri_isA) (i := 0) (n := 1) (v := .ref 2) rfl (e := (.aload_n 0, 1, [], .null)) rfl rfl (fun _ _ => rfl) l0 rfl
    have E := E.ld (p := 124) (t := ri_isA) (i := 0) (n := 1) (v := .ref 2) rfl (e := (.aload_n 0, 1, [], .null)) rfl rfl (fun _ _ => rfl) l0 rfl
    have E := E.gr (n := 1) (p := 127) rfl (x := 44) (m := 3) (w := .null) (t := 8) (i := 0) (u := 187) rfl rfl hV ty rfl
    have E := E.ld (p := 128) (t := ri_isA) (i := 0) (n := 1) (v := .ref 2) rfl (e := (.aload_n 0, 1, [], .null)) rfl rfl (fun _ _ => rfl) l0 rfl
    have E := E.gi (y := eh_i G 2 4) (p := 131) rfl (x := 22) (m := 3) (w := .null) (t := 8) (i := 4) (u := 191) rfl rfl hV ty rfl rfl
    have E := E.ai (p := 132) (z := eh_i G 1 (eh_i G 2 4).toNatClampNeg) (n := (eh_i G 2 4).toNatClampNeg) rfl (e := (.baload, 1, [], .null)) rfl rfl (fun _ _ => rfl) rfl hV ty rfl rfl rfl
    obtain ⟨h18, hV19, hN20, E⟩ := E.gp (p := 135) rfl (x := 31) (m := 3) (w := .null) (t := 8) (i := 7) (u := 197) (y := 0) rfl rfl hV
    have E := E.ld (p := 136) (t := ri_isA) (i := 0) (n := 1) (v := .ref 2) rfl (e := (.aload_n 0, 1, [], .null)) rfl rfl (fun _ _ => rfl) l0 rfl
    have E := E.ld (p := 137) (t := ri_isA) (i := 0) (n := 1) (v := .ref 2) rfl (e := (.aload_n 0, 1, [], .null)) rfl rfl (fun _ _ => rfl) l0 rfl
    have E := E.gi (y := eh_i G 1 (eh_i G 2 4).toNatClampNeg) (p := 140) rfl (x := 31) (m := 3) (w := .null) (t := 8) (i := 7) (u := 197) rfl rfl hV19 (ty.ui rfl) rfl rfl
    obtain ⟨v1, h21, X, E⟩ := E.cs (p := 143) (as := [.int (eh_i G 1 (eh_i G 2 4).toNatClampNeg)]) (r := [.ref 2]) rfl (x := 73) (m := 3) (w := .null) (j := 77) (n := 1) (t := 0) (u := [654, 655]) rfl rfl rfl
    rcases sp_77 (d := d) X hV19 (ty.ui rfl) with ⟨c22, rfl, hV23, hN24⟩ | ⟨c25, rfl, hV26, hN27⟩
    · skip
      have c22 : lx_sg (eh_i G 1 (eh_i G 2 4).toNatClampNeg) := c22
      have E : eh_e _ _ 143 lo [.int 1, .ref 2] _ rs h' := E
      have E := E.brf (p := 146) (c := 0) (tgt := 150) (a := 1) (b := 0) (st' := [.ref 2]) rfl (e := (.ifCond .eq 7, 3, [150], .null)) rfl rfl (fun _ _ => rfl) (by decide) rfl
      have E := E.pu (p := 147) (lo' := lo) (st' := [.int 5, .ref 2]) rfl (e := (.iconst 5, 1, [], .null)) rfl rfl (fun _ _ => rfl)
      have E := E.pu (p := 151) (lo' := lo) (st' := [.int 5, .ref 2]) rfl (e := (.goto 4, 3, [151], .null)) rfl rfl (fun _ _ => rfl)
      obtain ⟨h28, hV29, hN30, E⟩ := E.gp (p := 154) rfl (x := 25) (m := 3) (w := .null) (t := 8) (i := 5) (u := 192) (y := 0) rfl rfl hV23
      have E := E.ld (p := 155) (t := ri_isA) (i := 0) (n := 1) (v := .ref 2) rfl (e := (.aload_n 0, 1, [], .null)) rfl rfl (fun _ _ => rfl) l0 rfl
      have E := E.pu (p := 156) (lo' := lo) (st' := [.ref 2, .ref 2]) rfl (e := (.dup, 1, [], .null)) rfl rfl (fun _ _ => rfl)
      have E := E.gi (y := eh_i G 2 4) (p := 159) rfl (x := 22) (m := 3) (w := .null) (t := 8) (i := 4) (u := 191) rfl rfl hV29 ((ty.ui rfl).ui rfl) rfl rfl
      have E := E.pu (p := 160) (lo' := lo) (st' := [.int 1, .int (eh_i G 2 4), .ref 2]) rfl (e := (.iconst 1, 1, [], .null)) rfl rfl (fun _ _ => rfl)
      have E := E.pu (p := 161) (lo' := lo) (st' := [.int ((eh_i G 2 4) + 1), .ref 2]) rfl (e := (.iadd, 1, [], .null)) rfl rfl (fun _ _ => rfl)
      obtain ⟨h31, hV32, hN33, E⟩ := E.gp (p := 164) rfl (x := 22) (m := 3) (w := .null) (t := 8) (i := 4) (u := 191) (y := 0) rfl rfl hV29
      have E := E.pu (p := 204) (lo' := lo) (st' := []) rfl (e := (.goto 40, 3, [204], .null)) rfl rfl (fun _ _ => rfl)
      obtain ⟨r1, r2⟩ := E.retv rfl (m := 1) (ax := []) (w := .null) rfl
      exact Or.inr (Or.inr (Or.inr (Or.inl ⟨c1, c22, r1, ((congrArg eh_V r2).trans hV32), ((congrArg eh_N r2).trans (hN33.trans (hN30.trans (hN24.trans hN20))))⟩)))
    · skip
      have c25 : ¬ (lx_sg (eh_i G 1 (eh_i G 2 4).toNatClampNeg)) := c25
      have E : eh_e _ _ 143 lo [.int 0, .ref 2] _ rs h' := E
      have E := E.brt (c := 0) (tgt := 150) (a := 0) (b := 0) (st' := [.ref 2]) rfl (e := (.ifCond .eq 7, 3, [150], .null)) rfl rfl (fun _ _ => rfl) (by decide)
      have E := E.pu (p := 151) (lo' := lo) (st' := [.int 1, .ref 2]) rfl (e := (.iconst 1, 1, [], .null)) rfl rfl (fun _ _ => rfl)
      obtain ⟨h34, hV35, hN36, E⟩ := E.gp (p := 154) rfl (x := 25) (m := 3) (w := .null) (t := 8) (i := 5) (u := 192) (y := 0) rfl rfl hV26
      have E := E.ld (p := 155) (t := ri_isA) (i := 0) (n := 1) (v := .ref 2) rfl (e := (.aload_n 0, 1, [], .null)) rfl rfl (fun _ _ => rfl) l0 rfl
      have E := E.pu (p := 156) (lo' := lo) (st' := [.ref 2, .ref 2]) rfl (e := (.dup, 1, [], .null)) rfl rfl (fun _ _ => rfl)
      have E := E.gi (y := eh_i G 2 4) (p := 159) rfl (x := 22) (m := 3) (w := .null) (t := 8) (i := 4) (u := 191) rfl rfl hV35 ((ty.ui rfl).ui rfl) rfl rfl
      have E := E.pu (p := 160) (lo' := lo) (st' := [.int 1, .int (eh_i G 2 4), .ref 2]) rfl (e := (.iconst 1, 1, [], .null)) rfl rfl (fun _ _ => rfl)
      have E := E.pu (p := 161) (lo' := lo) (st' := [.int ((eh_i G 2 4) + 1), .ref 2]) rfl (e := (.iadd, 1, [], .null)) rfl rfl (fun _ _ => rfl)
      obtain ⟨h37, hV38, hN39, E⟩ := E.gp (p := 164) rfl (x := 22) (m := 3) (w := .null) (t := 8) (i := 4) (u := 191) (y := 0) rfl rfl hV35
      have E := E.pu (p := 204) (lo' := lo) (st' := []) rfl (e := (.goto 40, 3, [204], .null)) rfl rfl (fun _ _ => rfl)
      obtain ⟨r1, r2⟩ := E.retv rfl (m := 1) (ax := []) (w := .null) rfl
      exact Or.inr (Or.inr (Or.inr (Or.inr (⟨c1, c25, r1, ((congrArg eh_V r2).trans hV38), ((congrArg eh_N r2).trans (hN39.trans (hN36.trans (hN27.trans hN20))))⟩))))
