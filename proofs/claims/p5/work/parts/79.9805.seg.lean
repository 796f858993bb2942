theorem zk_a {d : Nat} {lo : List (Nat × Value)} {h h' : ri_H} {rs : List Value} {G : eh_W} {li : Int32} (E : eh_e (ri_calE ri_md (d + 1)) md_240 0 lo [] h rs h') (hV : eh_V h = G) (ty : eh_ty tM G) (l0 : ri_lk lo 0 = some (.ref 0)) (l1 : ri_lk lo 1 = some (.int li)) : (li.toInt < 0 ∧ rs = [.int (-1000)] ∧ eh_V h' = eh_u G 0 0 (.int 0) ∧ eh_N h' = eh_N h) ∨ (¬ (li.toInt < 0) ∧ 1 < li.toInt ∧ rs = [.int (-1000)] ∧ eh_V h' = eh_u G 0 0 (.int 0) ∧ eh_N h' = eh_N h) ∨ (¬ (li.toInt < 0) ∧ ¬ (1 < li.toInt) ∧ ∃ hz loz, eh_e (ri_calE ri_md (d + 1)) md_240 35 loz [] hz rs h' ∧ eh_V hz = eh_u (eh_u (eh_u (eh_u (eh_u (eh_u (eh_u G 0 0 (.int 0)) 0 3 (.int (eh_i G 0 2))) 0 2 (.int 0)) 0 4 (.int 0)) 0 5 (.int 400)) 0 15 (.int 0)) 0 35 (.int 0) ∧ eh_N hz = eh_N h ∧ eh_ty tM (eh_u (eh_u (eh_u (eh_u (eh_u (eh_u (eh_u G 0 0 (.int 0)) 0 3 (.int (eh_i G 0 2))) 0 2 (.int 0)) 0 4 (.int 0)) 0 5 (.int 400)) 0 15 (.int 0)) 0 35 (.int 0)) ∧ ri_lk loz 0 = some (.ref 0) ∧ ri_lk loz 1 = some (.int li)) := by
  have E := E.ld (p := 1) (t := ri_isA) (i := 0) (n := 1) (v := .ref 0) rfl (e := (.aload_n 0, 1, [], .null)) rfl rfl (fun _ _ => rfl) l0 rfl
  have E := E.pu (p := 2) (lo' := lo) (st' := [.int 0, .ref 0]) rfl (e := (.iconst 0, 1, [], .null)) rfl rfl (fun _ _ => rfl)
  obtain ⟨h1, hV2, hN3, E⟩ := E.gp (p := 5) rfl (x := 1) (m := 3) (w := .null) (t := 12) (i := 0) (u := 1324) (y := 0) rfl rfl hV
  have E := E.ld (p := 6) (t := ri_isI) (i := 1) (n := 1) (v := .int li) rfl (e := (.iload_n 1, 1, [], .null)) rfl rfl (fun _ _ => rfl) l1 rfl
  have E := E.pu (p := 7) (lo' := lo) (st' := [.int 0, .int li]) rfl (e := (.iconst 0, 1, [], .null)) rfl rfl (fun _ _ => rfl)
  have E := E.pu (p := 8) (lo' := lo) (st' := [.int 1, .int 0, .int li]) rfl (e := (.iconst 1, 1, [], .null)) rfl rfl (fun _ _ => rfl)
  obtain ⟨v1, h4, X, E⟩ := E.cs (p := 11) (as := [.int li, .int 0, .int 1]) (r := []) rfl (x := 177) (m := 3) (w := .null) (j := 149) (n := 3) (t := 0) (u := [1519, 1520]) rfl rfl rfl
  rcases sp_149 (d := d) X hV2 (ty.ui rfl) with ⟨c5, rfl, hV6, hN7⟩ | ⟨c8, c9, rfl, hV10, hN11⟩ | ⟨c12, c13, rfl, hV14, hN15⟩
  · skip
    have c5 : li.toInt < 0 := c5
    have E : eh_e _ _ 11 lo [.int 0] _ rs h' := E
    have E := E.brf (p := 14) (c := 1) (tgt := 18) (a := 0) (b := 0) (st' := []) rfl (e := (.ifCond .ne 7, 3, [18], .null)) rfl rfl (fun _ _ => rfl) (by decide) rfl
    have E := E.pu (p := 17) (lo' := lo) (st' := [.int (-1000)]) rfl (e := (.sipush (-1000), 3, [], .null)) rfl rfl (fun _ _ => rfl)
    obtain ⟨r1, r2⟩ := E.reti rfl (m := 1) (ax := []) (w := .null) rfl
    exact Or.inl ⟨c5, r1, ((congrArg eh_V r2).trans hV6), ((congrArg eh_N r2).trans (hN7.trans hN3))⟩
  · skip
    have c8 : ¬ (li.toInt < 0) := c8
    have c9 : 1 < li.toInt := c9
    have E : eh_e _ _ 11 lo [.int 0] _ rs h' := E
    have E := E.brf (p := 14) (c := 1) (tgt := 18) (a := 0) (b := 0) (st' := []) rfl (e := (.ifCond .ne 7, 3, [18], .null)) rfl rfl (fun _ _ => rfl) (by decide) rfl
    have E := E.pu (p := 17) (lo' := lo) (st' := [.int (-1000)]) rfl (e := (.sipush (-1000), 3, [], .null)) rfl rfl (fun _ _ => rfl)
    obtain ⟨r1, r2⟩ := E.reti rfl (m := 1) (ax := []) (w := .null) rfl
    exact Or.inr (Or.inl ⟨c8, c9, r1, ((congrArg eh_V r2).trans hV10), ((congrArg eh_N r2).trans (hN11.trans hN3))⟩)
  · skip
    have c12 : ¬ (li.toInt < 0) := c12
    have c13 : ¬ (1 < li.toInt) := c13
    have E : eh_e _ _ 11 lo [.int 1] _ rs h' := E
    have E := E.brt (c := 1) (tgt := 18) (a := 1) (b := 0) (st' := []) rfl (e := (.ifCond .ne 7, 3, [18], .null)) rfl rfl (fun _ _ => rfl) (by decide)
    have E := E.ld (p := 19) (t := ri_isA) (i := 0) (n := 1) (v := .ref 0) rfl (e := (.aload_n 0, 1, [], .null)) rfl rfl (fun _ _ => rfl) l0 rfl
    have E := E.pu (p := 22) (lo' := lo) (st' := [.int 400, .ref 0]) rfl (e := (.sipush 400, 3, [], .null)) rfl rfl (fun _ _ => rfl)
    obtain ⟨v1, h16, X, E⟩ := E.cv (p := 25) (as := [.int 400]) (b := 0) (r := []) rfl (x := 221) (m := 3) (w := .null) (j := 148) (n := 1) (t := 12) (u := [1474, 34, 1476]) rfl rfl rfl
    rcases sp_148 (d := d) X hV14 (ty.ui rfl) with ⟨rfl, hV17, hN18⟩
    have hV17 : _ = eh_u (eh_u (eh_u (eh_u (eh_u G 0 0 (.int 0)) 0 3 (.int (eh_i G 0 2))) 0 2 (.int 0)) 0 4 (.int 0)) 0 5 (.int 400) := hV17
    have E : eh_e _ _ 25 lo [] _ rs h' := E
    have E := E.ld (p := 26) (t := ri_isA) (i := 0) (n := 1) (v := .ref 0) rfl (e := (.aload_n 0, 1, [], .null)) rfl rfl (fun _ _ => rfl) l0 rfl
    have E := E.pu (p := 27) (lo' := lo) (st' := [.int 0, .ref 0]) rfl (e := (.iconst 0, 1, [], .null)) rfl rfl (fun _ _ => rfl)
    obtain ⟨h19, hV20, hN21, E⟩ := E.gp (p := 30) rfl (x := 162) (m := 3) (w := .null) (t := 12) (i := 15) (u := 1339) (y := 0) rfl rfl hV17
    have E := E.ld (p := 31) (t := ri_isA) (i := 0) (n := 1) (v := .ref 0) rfl (e := (.aload_n 0, 1, [], .null)) rfl rfl (fun _ _ => rfl) l0 rfl
    have E := E.pu (p := 32) (lo' := lo) (st' := [.int 0, .ref 0]) rfl (e := (.iconst 0, 1, [], .null)) rfl rfl (fun _ _ => rfl)
    obtain ⟨h22, hV23, hN24, E⟩ := E.gp (p := 35) rfl (x := 384) (m := 3) (w := .null) (t := 12) (i := 35) (u := 1359) (y := 0) rfl rfl hV20
    exact Or.inr (Or.inr (⟨c12, c13, _, _, E, hV23, (hN24.trans (hN21.trans (hN18.trans (hN15.trans hN3)))), (((((((ty.ui rfl).ui rfl).ui rfl).ui rfl).ui rfl).ui rfl).ui rfl), l0, l1⟩))
theorem zk_b {d : Nat} {lo : List (Nat × Value)} {h h' : ri_H} {rs : List Value} {G : eh_W} {b : Nat → Int32} {n m : Nat} {li : Int32} (E : eh_e (ri_calE ri_md (d + 2)) md_240 35 lo [] h rs h') (hV : eh_V h = G) (iv : iT b n m G) (l0 : ri_lk lo 0 = some (.ref 0)) (l1 : ri_lk lo 1 = some (.int li)) : ∃ (h1 : ri_H), ri_calE ri_md (d + 2) 158 [.ref 0] h = some (none, h1) ∧ iT b n m (eh_V h1) ∧ ∃ hz loz, eh_e (ri_calE ri_md (d + 2)) md_240 39 loz [] hz rs h' ∧ eh_V hz = (eh_V h1) ∧ eh_N hz = eh_N h ∧ iT b n m (eh_V h1) ∧ ri_lk loz 0 = some (.ref 0) ∧ ri_lk loz 1 = some (.int li) := by
  have E := E.ld (p := 36) (t := ri_isA) (i := 0) (n := 1) (v := .ref 0) rfl (e := (.aload_n 0, 1, [], .null)) rfl rfl (fun _ _ => rfl) l0 rfl
  obtain ⟨v1, h1, X, E⟩ := E.cv (p := 39) (as := []) (b := 0) (r := []) rfl (x := 174) (m := 3) (w := .null) (j := 158) (n := 0) (t := 12) (u := [1478, 35, 1480]) rfl rfl rfl
  obtain ⟨rfl, ivk2, hNk2⟩ := ts_158 (d := d) X (by rw [hV]; exact iv)
  have Xk2 := X
  have E : eh_e _ _ 39 lo [] h1 rs h' := E
  exact ⟨h1, Xk2, ivk2, _, _, E, (rfl : eh_V h1 = eh_V h1), hNk2, ivk2, l0, l1⟩
theorem zk_l {d : Nat} {lo : List (Nat × Value)} {h h' : ri_H} {rs : List Value} {G : eh_W} {b : Nat → Int32} {n m : Nat} {li : Int32} (E : eh_e (ri_calE ri_md (d + 4)) md_240 39 lo [] h rs h') (hV : eh_V h = G) (iv : iT b n m G) (l0 : ri_lk lo 0 = some (.ref 0)) (l1 : ri_lk lo 1 = some (.int li)) : ((eh_i G 0 11) = 0 ∧ ∃ hz loz, eh_e (ri_calE ri_md (d + 4)) md_240 83 loz [] hz rs h' ∧ eh_V hz = G ∧ eh_N hz = eh_N h ∧ iT b n m G ∧ ri_lk loz 0 = some (.ref 0) ∧ ri_lk loz 1 = some (.int li)) ∨ (∃ (x4 : Int32), ∃ (h2 : ri_H), ¬ ((eh_i G 0 11) = 0) ∧ ri_calE ri_md (d + 4) 238 [.ref 0] h = some (some (.int x4), h2) ∧ iT b n m (eh_V h2) ∧ x4 = 0 ∧ rs = [.int ((-2) - (eh_i (eh_V h2) 0 16))] ∧ eh_V h' = (eh_V h2) ∧ eh_N h' = eh_N h ∧ iT b n m (eh_V h2)) ∨ (∃ (x4 : Int32), ∃ (h2 : ri_H), ∃ (x8 : Int32), ∃ (h6 : ri_H), ¬ ((eh_i G 0 11) = 0) ∧ ri_calE ri_md (d + 4) 238 [.ref 0] h = some (some (.int x4), h2) ∧ iT b n m (eh_V h2) ∧ ¬ (x4 = 0) ∧ ri_calE ri_md (d + 4) 162 [.ref 0, .int 59] h2 = some (some (.int x8), h6) ∧ iT b n m (eh_V h6) ∧ ¬ (x8 = 0) ∧ ∃ hz loz, eh_e (ri_calE ri_md (d + 4)) md_240 39 loz [] hz rs h' ∧ eh_V hz = eh_u (eh_V h6) 0 35 (.int ((eh_i (eh_V h6) 0 35) + 1)) ∧ eh_N hz = eh_N h ∧ iT b n m (eh_u (eh_V h6) 0 35 (.int ((eh_i (eh_V h6) 0 35) + 1))) ∧ ri_lk loz 0 = some (.ref 0) ∧ ri_lk loz 1 = some (.int li)) ∨ (∃ (x4 : Int32), ∃ (h2 : ri_H), ∃ (x8 : Int32), ∃ (h6 : ri_H), ¬ ((eh_i G 0 11) = 0) ∧ ri_calE ri_md (d + 4) 238 [.ref 0] h = some (some (.int x4), h2) ∧ iT b n m (eh_V h2) ∧ ¬ (x4 = 0) ∧ ri_calE ri_md (d + 4) 162 [.ref 0, .int 59] h2 = some (some (.int x8), h6) ∧ iT b n m (eh_V h6) ∧ x8 = 0 ∧ rs = [.int ((-2) - (eh_i (eh_V h6) 0 16))] ∧ eh_V h' = (eh_V h6) ∧ eh_N h' = eh_N h ∧ iT b n m (eh_V h6)) := by
  have E := E.ld (p := 40) (t := ri_isA) (i := 0) (n := 1) (v := .ref 0) rfl (e := (.aload_n 0, 1, [], .null)) rfl rfl (fun _ _ => rfl) l0 rfl
  have E := E.gi (y := eh_i G 0 11) (p := 43) rfl (x := 145) (m := 3) (w := .null) (t := 12) (i := 11) (u := 1335) rfl rfl hV (iv.1) rfl rfl
  rcases eh_q0 (E.br (p := 46) (c := 0) (tgt := 83) (a := eh_i G 0 11) (b := 0) (st' := []) rfl (e := (.ifCond .eq 40, 3, [83], .null)) rfl rfl (fun _ _ => rfl) rfl) with ⟨c1, E⟩ | ⟨c1, E⟩
  · skip
    exact Or.inl ⟨c1, _, _, E, hV, rfl, iv, l0, l1⟩
  · skip
    have E := E.ld (p := 47) (t := ri_isA) (i := 0) (n := 1) (v := .ref 0) rfl (e := (.aload_n 0, 1, [], .null)) rfl rfl (fun _ _ => rfl) l0 rfl
    obtain ⟨v1, h2, X, E⟩ := E.cv (p := 50) (as := []) (b := 0) (r := []) rfl (x := 387) (m := 3) (w := .null) (j := 238) (n := 0) (t := 12) (u := [1826, 88, 1828]) rfl rfl rfl
    obtain ⟨x4, rfl, ivk3, hNk3⟩ := ts_238 (d := d) X (by rw [hV]; exact iv)
    have Xk3 := X
    have E : eh_e _ _ 50 lo [.int x4] h2 rs h' := E
    rcases eh_q0 (E.br (p := 53) (c := 0) (tgt := 62) (a := x4) (b := 0) (st' := []) rfl (e := (.ifCond .eq 12, 3, [62], .null)) rfl rfl (fun _ _ => rfl) rfl) with ⟨c5, E⟩ | ⟨c5, E⟩
    · skip
      have E := E.pu (p := 64) (lo' := lo) (st' := [.int (-2)]) rfl (e := (.bipush (-2), 2, [], .null)) rfl rfl (fun _ _ => rfl)
      have E := E.ld (p := 65) (t := ri_isA) (i := 0) (n := 1) (v := .ref 0) rfl (e := (.aload_n 0, 1, [], .null)) rfl rfl (fun _ _ => rfl) l0 rfl
      have E := E.gi (y := eh_i (eh_V h2) 0 16) (p := 68) rfl (x := 165) (m := 3) (w := .null) (t := 12) (i := 16) (u := 1340) rfl rfl (rfl : eh_V h2 = eh_V h2) ivk3.1 rfl rfl
      have E := E.pu (p := 69) (lo' := lo) (st' := [.int ((-2) - (eh_i (eh_V h2) 0 16))]) rfl (e := (.isub, 1, [], .null)) rfl rfl (fun _ _ => rfl)
      obtain ⟨r1, r2⟩ := E.reti rfl (m := 1) (ax := []) (w := .null) rfl
      exact Or.inr (Or.inl ⟨x4, h2, c1, Xk3, ivk3, c5, r1, ((congrArg eh_V r2).trans (rfl : eh_V h2 = eh_V h2)), ((congrArg eh_N r2).trans hNk3), ivk3⟩)
    · skip
      have E := E.ld (p := 54) (t := ri_isA) (i := 0) (n := 1) (v := .ref 0) rfl (e := (.aload_n 0, 1, [], .null)) rfl rfl (fun _ _ => rfl) l0 rfl
      have E := E.pu (p := 56) (lo' := lo) (st' := [.int 59, .ref 0]) rfl (e := (.bipush 59, 2, [], .null)) rfl rfl (fun _ _ => rfl)
      obtain ⟨v1, h6, X, E⟩ := E.cv (p := 59) (as := [.int 59]) (b := 0) (r := []) rfl (x := 230) (m := 3) (w := .null) (j := 162) (n := 1) (t := 12) (u := [1546, 49, 1548]) rfl rfl rfl
      obtain ⟨x8, rfl, ivk7, hNk7⟩ := ts_162 (d := d + 1) X (by rw [(rfl : eh_V h2 = eh_V h2)]; exact ivk3)
      have Xk7 := X
      have E : eh_e _ _ 59 lo [.int x8] h6 rs h' := E
      rcases eh_q1 (E.br (p := 62) (c := 1) (tgt := 70) (a := x8) (b := 0) (st' := []) rfl (e := (.ifCond .ne 11, 3, [70], .null)) rfl rfl (fun _ _ => rfl) rfl) with ⟨c9, E⟩ | ⟨c9, E⟩
      · skip
        have E := E.ld (p := 71) (t := ri_isA) (i := 0) (n := 1) (v := .ref 0) rfl (e := (.aload_n 0, 1, [], .null)) rfl rfl (fun _ _ => rfl) l0 rfl
        have E := E.pu (p := 72) (lo' := lo) (st' := [.ref 0, .ref 0]) rfl (e := (.dup, 1, [], .null)) rfl rfl (fun _ _ => rfl)
        have E := E.gi (y := eh_i (eh_V h6) 0 35) (p := 75) rfl (x := 384) (m := 3) (w := .null) (t := 12) (i := 35) (u := 1359) rfl rfl (rfl : eh_V h6 = eh_V h6) ivk7.1 rfl rfl
        have E := E.pu (p := 76) (lo' := lo) (st' := [.int 1, .int (eh_i (eh_V h6) 0 35), .ref 0]) rfl (e := (.iconst 1, 1, [], .null)) rfl rfl (fun _ _ => rfl)
        have E := E.pu (p := 77) (lo' := lo) (st' := [.int ((eh_i (eh_V h6) 0 35) + 1), .ref 0]) rfl (e := (.iadd, 1, [], .null)) rfl rfl (fun _ _ => rfl)
        obtain ⟨h10, hV11, hN12, E⟩ := E.gp (p := 80) rfl (x := 384) (m := 3) (w := .null) (t := 12) (i := 35) (u := 1359) (y := 0) rfl rfl (rfl : eh_V h6 = eh_V h6)
        have E := E.pu (p := 39) (lo' := lo) (st' := []) rfl (e := (.goto (-41), 3, [39], .null)) rfl rfl (fun _ _ => rfl)
        exact Or.inr (Or.inr (Or.inl ⟨x4, h2, x8, h6, c1, Xk3, ivk3, c5, Xk7, ivk7, c9, _, _, E, hV11, (hN12.trans (hNk7.trans hNk3)), (iT_u ivk7 (ivk7.1.ui rfl) rfl), l0, l1⟩))
      · skip
        have E := E.pu (p := 64) (lo' := lo) (st' := [.int (-2)]) rfl (e := (.bipush (-2), 2, [], .null)) rfl rfl (fun _ _ => rfl)
        have E := E.ld (p := 65) (t := ri_isA) (i := 0) (n := 1) (v := .ref 0) rfl (e := (.aload_n 0, 1, [], .null)) rfl rfl (fun _ _ => rfl) l0 rfl
        have E := E.gi (y := eh_i (eh_V h6) 0 16) (p := 68) rfl (x := 165) (m := 3) (w := .null) (t := 12) (i := 16) (u := 1340) rfl rfl (rfl : eh_V h6 = eh_V h6) ivk7.1 rfl rfl
        have E := E.pu (p := 69) (lo' := lo) (st' := [.int ((-2) - (eh_i (eh_V h6) 0 16))]) rfl (e := (.isub, 1, [], .null)) rfl rfl (fun _ _ => rfl)
        obtain ⟨r1, r2⟩ := E.reti rfl (m := 1) (ax := []) (w := .null) rfl
        exact Or.inr (Or.inr (Or.inr (⟨x4, h2, x8, h6, c1, Xk3, ivk3, c5, Xk7, ivk7, c9, r1, ((congrArg eh_V r2).trans (rfl : eh_V h6 = eh_V h6)), ((congrArg eh_N r2).trans (hNk7.trans hNk3)), ivk7⟩)))
