theorem zt_h {d : Nat} {lo : List (Nat × Value)} {h h' : ri_H} {rs : List Value} {G : eh_W} {b : Nat → Int32} {n m : Nat} (E : eh_e (ri_calE ri_md (d + 4)) md_248 48 lo [] h rs h') (hV : eh_V h = G) (iv : iT b n m G) (l0 : ri_lk lo 0 = some (.ref 0)) (l1 : ri_lk lo 1 = some (.int 1)) : (∃ (x4 : Int32), ∃ (h2 : ri_H), (eh_i G 0 43) = 0 ∧ ri_calE ri_md (d + 4) 246 [.ref 0] h = some (some (.int x4), h2) ∧ iT b n m (eh_V h2) ∧ ¬ (x4 = 0) ∧ ∃ hz loz, eh_e (ri_calE ri_md (d + 4)) md_248 48 loz [] hz rs h' ∧ eh_V hz = (eh_V h2) ∧ eh_N hz = eh_N h ∧ iT b n m (eh_V h2) ∧ ri_lk loz 0 = some (.ref 0) ∧ ri_lk loz 1 = some (.int 1)) ∨ (∃ (x4 : Int32), ∃ (h2 : ri_H), (eh_i G 0 43) = 0 ∧ ri_calE ri_md (d + 4) 246 [.ref 0] h = some (some (.int x4), h2) ∧ iT b n m (eh_V h2) ∧ x4 = 0 ∧ rs = [.int ((-1) - (eh_i (eh_V h2) 0 16))] ∧ eh_V h' = (eh_V h2) ∧ eh_N h' = eh_N h ∧ iT b n m (eh_V h2)) ∨ (∃ (x9 : Int32), ∃ (h7 : ri_H), ¬ ((eh_i G 0 43) = 0) ∧ ¬ ((eh_i G 0 11) = 0) ∧ ri_calE ri_md (d + 4) 247 [.ref 0] h = some (some (.int x9), h7) ∧ iT b n m (eh_V h7) ∧ ¬ (x9 = 0) ∧ ∃ hz loz, eh_e (ri_calE ri_md (d + 4)) md_248 48 loz [] hz rs h' ∧ eh_V hz = (eh_V h7) ∧ eh_N hz = eh_N h ∧ iT b n m (eh_V h7) ∧ ri_lk loz 0 = some (.ref 0) ∧ ri_lk loz 1 = some (.int 1)) ∨ (∃ (x9 : Int32), ∃ (h7 : ri_H), ¬ ((eh_i G 0 43) = 0) ∧ ¬ ((eh_i G 0 11) = 0) ∧ ri_calE ri_md (d + 4) 247 [.ref 0] h = some (some (.int x9), h7) ∧ iT b n m (eh_V h7) ∧ x9 = 0 ∧ rs = [.int ((-1) - (eh_i (eh_V h7) 0 16))] ∧ eh_V h' = (eh_V h7) ∧ eh_N h' = eh_N h ∧ iT b n m (eh_V h7)) ∨ (∃ (h11 : ri_H), ∃ (h13 : ri_H), ¬ ((eh_i G 0 43) = 0) ∧ (eh_i G 0 11) = 0 ∧ ri_calE ri_md (d + 4) 244 [.ref 0] h = some (none, h11) ∧ iT b n m (eh_V h11) ∧ ri_calE ri_md (d + 4) 243 [.ref 0, .int 22] h11 = some (none, h13) ∧ iT b n m (eh_V h13) ∧ ¬ (0 < (eh_i (eh_V h13) 0 41).toInt) ∧ ∃ hz loz, eh_e (ri_calE ri_md (d + 4)) md_248 48 loz [] hz rs h' ∧ eh_V hz = (eh_V h13) ∧ eh_N hz = eh_N h ∧ iT b n m (eh_V h13) ∧ ri_lk loz 0 = some (.ref 0) ∧ ri_lk loz 1 = some (.int 0)) ∨ (∃ (h11 : ri_H), ∃ (h13 : ri_H), ¬ ((eh_i G 0 43) = 0) ∧ (eh_i G 0 11) = 0 ∧ ri_calE ri_md (d + 4) 244 [.ref 0] h = some (none, h11) ∧ iT b n m (eh_V h11) ∧ ri_calE ri_md (d + 4) 243 [.ref 0, .int 22] h11 = some (none, h13) ∧ iT b n m (eh_V h13) ∧ 0 < (eh_i (eh_V h13) 0 41).toInt ∧ rs = [.int ((-1) - (eh_i (eh_V h13) 0 12))] ∧ eh_V h' = eh_u (eh_u (eh_V h13) 0 15 (.int 1)) 0 16 (.int (eh_i (eh_V h13) 0 12)) ∧ eh_N h' = eh_N h ∧ iT b n m (eh_u (eh_u (eh_V h13) 0 15 (.int 1)) 0 16 (.int (eh_i (eh_V h13) 0 12)))) := by
  have E := E.ld (p := 49) (t := ri_isI) (i := 1) (n := 1) (v := .int 1) rfl (e := (.iload_n 1, 1, [], .null)) rfl rfl (fun _ _ => rfl) l1 rfl
  have E := E.brf (p := 52) (c := 0) (tgt := 132) (a := 1) (b := 0) (st' := []) rfl (e := (.ifCond .eq 83, 3, [132], .null)) rfl rfl (fun _ _ => rfl) (by decide) rfl
  have E := E.ld (p := 53) (t := ri_isA) (i := 0) (n := 1) (v := .ref 0) rfl (e := (.aload_n 0, 1, [], .null)) rfl rfl (fun _ _ => rfl) l0 rfl
  have E := E.gi (y := eh_i G 0 43) (p := 56) rfl (x := 416) (m := 3) (w := .null) (t := 12) (i := 43) (u := 1367) rfl rfl hV (iv.1) rfl rfl
  rcases eh_q0 (E.br (p := 59) (c := 0) (tgt := 101) (a := eh_i G 0 43) (b := 0) (st' := []) rfl (e := (.ifCond .eq 45, 3, [101], .null)) rfl rfl (fun _ _ => rfl) rfl) with ⟨c1, E⟩ | ⟨c1, E⟩
  · skip
    have E := E.ld (p := 102) (t := ri_isA) (i := 0) (n := 1) (v := .ref 0) rfl (e := (.aload_n 0, 1, [], .null)) rfl rfl (fun _ _ => rfl) l0 rfl
    have E := E.gi (y := eh_i G 0 43) (p := 105) rfl (x := 416) (m := 3) (w := .null) (t := 12) (i := 43) (u := 1367) rfl rfl hV (iv.1) rfl rfl
    have E := (eh_q0 (E.br (p := 108) (c := 0) (tgt := 118) (a := eh_i G 0 43) (b := 0) (st' := []) rfl (e := (.ifCond .eq 13, 3, [118], .null)) rfl rfl (fun _ _ => rfl) rfl)).elim (fun y => y.2) (fun y => absurd c1 y.1)
    have E := E.ld (p := 119) (t := ri_isA) (i := 0) (n := 1) (v := .ref 0) rfl (e := (.aload_n 0, 1, [], .null)) rfl rfl (fun _ _ => rfl) l0 rfl
    obtain ⟨v1, h2, X, E⟩ := E.cv (p := 122) (as := []) (b := 0) (r := []) rfl (x := 428) (m := 3) (w := .null) (j := 246) (n := 0) (t := 12) (u := [1858, 94, 1860]) rfl rfl rfl
    obtain ⟨x4, rfl, ivk3, hNk3⟩ := ts_246 (d := d) X (by rw [hV]; exact iv)
    have Xk3 := X
    have E : eh_e _ _ 122 lo [.int x4] h2 rs h' := E
    rcases eh_q1 (E.br (p := 125) (c := 1) (tgt := 48) (a := x4) (b := 0) (st' := []) rfl (e := (.ifCond .ne (-74), 3, [48], .null)) rfl rfl (fun _ _ => rfl) rfl) with ⟨c5, E⟩ | ⟨c5, E⟩
    · skip
      exact Or.inl ⟨x4, h2, c1, Xk3, ivk3, c5, _, _, E, (rfl : eh_V h2 = eh_V h2), hNk3, ivk3, l0, l1⟩
    · skip
      have E := E.pu (p := 126) (lo' := lo) (st' := [.int (-1)]) rfl (e := (.iconst (-1), 1, [], .null)) rfl rfl (fun _ _ => rfl)
      have E := E.ld (p := 127) (t := ri_isA) (i := 0) (n := 1) (v := .ref 0) rfl (e := (.aload_n 0, 1, [], .null)) rfl rfl (fun _ _ => rfl) l0 rfl
      have E := E.gi (y := eh_i (eh_V h2) 0 16) (p := 130) rfl (x := 165) (m := 3) (w := .null) (t := 12) (i := 16) (u := 1340) rfl rfl (rfl : eh_V h2 = eh_V h2) ivk3.1 rfl rfl
      have E := E.pu (p := 131) (lo' := lo) (st' := [.int ((-1) - (eh_i (eh_V h2) 0 16))]) rfl (e := (.isub, 1, [], .null)) rfl rfl (fun _ _ => rfl)
      obtain ⟨r1, r2⟩ := E.reti rfl (m := 1) (ax := []) (w := .null) rfl
      exact Or.inr (Or.inl ⟨x4, h2, c1, Xk3, ivk3, c5, r1, ((congrArg eh_V r2).trans (rfl : eh_V h2 = eh_V h2)), ((congrArg eh_N r2).trans hNk3), ivk3⟩)
  · skip
    have E := E.ld (p := 60) (t := ri_isA) (i := 0) (n := 1) (v := .ref 0) rfl (e := (.aload_n 0, 1, [], .null)) rfl rfl (fun _ _ => rfl) l0 rfl
    have E := E.gi (y := eh_i G 0 11) (p := 63) rfl (x := 145) (m := 3) (w := .null) (t := 12) (i := 11) (u := 1335) rfl rfl hV (iv.1) rfl rfl
    rcases eh_q1 (E.br (p := 66) (c := 1) (tgt := 101) (a := eh_i G 0 11) (b := 0) (st' := []) rfl (e := (.ifCond .ne 38, 3, [101], .null)) rfl rfl (fun _ _ => rfl) rfl) with ⟨c6, E⟩ | ⟨c6, E⟩
    · skip
      have E := E.ld (p := 102) (t := ri_isA) (i := 0) (n := 1) (v := .ref 0) rfl (e := (.aload_n 0, 1, [], .null)) rfl rfl (fun _ _ => rfl) l0 rfl
      have E := E.gi (y := eh_i G 0 43) (p := 105) rfl (x := 416) (m := 3) (w := .null) (t := 12) (i := 43) (u := 1367) rfl rfl hV (iv.1) rfl rfl
      have E := (eh_q0 (E.br (p := 108) (c := 0) (tgt := 118) (a := eh_i G 0 43) (b := 0) (st' := []) rfl (e := (.ifCond .eq 13, 3, [118], .null)) rfl rfl (fun _ _ => rfl) rfl)).elim (fun y => absurd y.1 c1) (fun y => y.2)
      have E := E.ld (p := 109) (t := ri_isA) (i := 0) (n := 1) (v := .ref 0) rfl (e := (.aload_n 0, 1, [], .null)) rfl rfl (fun _ _ => rfl) l0 rfl
      obtain ⟨v1, h7, X, E⟩ := E.cv (p := 112) (as := []) (b := 0) (r := []) rfl (x := 425) (m := 3) (w := .null) (j := 247) (n := 0) (t := 12) (u := [1854, 93, 1856]) rfl rfl rfl
      obtain ⟨x9, rfl, ivk8, hNk8⟩ := ts_247 (d := d) X (by rw [hV]; exact iv)
      have Xk8 := X
      have E : eh_e _ _ 112 lo [.int x9] h7 rs h' := E
      rcases eh_q1 (E.br (p := 115) (c := 1) (tgt := 48) (a := x9) (b := 0) (st' := []) rfl (e := (.ifCond .ne (-64), 3, [48], .null)) rfl rfl (fun _ _ => rfl) rfl) with ⟨c10, E⟩ | ⟨c10, E⟩
      · skip
        exact Or.inr (Or.inr (Or.inl ⟨x9, h7, c1, c6, Xk8, ivk8, c10, _, _, E, (rfl : eh_V h7 = eh_V h7), hNk8, ivk8, l0, l1⟩))
      · skip
        have E := E.pu (p := 125) (lo' := lo) (st' := []) rfl (e := (.goto 10, 3, [125], .null)) rfl rfl (fun _ _ => rfl)
        have E := E.pu (p := 126) (lo' := lo) (st' := [.int (-1)]) rfl (e := (.iconst (-1), 1, [], .null)) rfl rfl (fun _ _ => rfl)
        have E := E.ld (p := 127) (t := ri_isA) (i := 0) (n := 1) (v := .ref 0) rfl (e := (.aload_n 0, 1, [], .null)) rfl rfl (fun _ _ => rfl) l0 rfl
        have E := E.gi (y := eh_i (eh_V h7) 0 16) (p := 130) rfl (x := 165) (m := 3) (w := .null) (t := 12) (i := 16) (u := 1340) rfl rfl (rfl : eh_V h7 = eh_V h7) ivk8.1 rfl rfl
        have E := E.pu (p := 131) (lo' := lo) (st' := [.int ((-1) - (eh_i (eh_V h7) 0 16))]) rfl (e := (.isub, 1, [], .null)) rfl rfl (fun _ _ => rfl)
        obtain ⟨r1, r2⟩ := E.reti rfl (m := 1) (ax := []) (w := .null) rfl
        exact Or.inr (Or.inr (Or.inr (Or.inl ⟨x9, h7, c1, c6, Xk8, ivk8, c10, r1, ((congrArg eh_V r2).trans (rfl : eh_V h7 = eh_V h7)), ((congrArg eh_N r2).trans hNk8), ivk8⟩)))
    · skip
      have E := E.ld (p := 67) (t := ri_isA) (i := 0) (n := 1) (v := .ref 0) rfl (e := (.aload_n 0, 1, [], .null)) rfl rfl (fun _ _ => rfl) l0 rfl
      obtain ⟨v1, h11, X, E⟩ := E.cv (p := 70) (as := []) (b := 0) (r := []) rfl (x := 419) (m := 3) (w := .null) (j := 244) (n := 0) (t := 12) (u := [1842, 90, 1844]) rfl rfl rfl
      obtain ⟨rfl, ivk12, hNk12⟩ := ts_244 (d := d + 2) X (by rw [hV]; exact iv)
      have Xk12 := X
      have E : eh_e _ _ 70 lo [] h11 rs h' := E
      have E := E.ld (p := 71) (t := ri_isA) (i := 0) (n := 1) (v := .ref 0) rfl (e := (.aload_n 0, 1, [], .null)) rfl rfl (fun _ _ => rfl) l0 rfl
      have E := E.pu (p := 73) (lo' := lo) (st' := [.int 22, .ref 0]) rfl (e := (.bipush 22, 2, [], .null)) rfl rfl (fun _ _ => rfl)
      obtain ⟨v1, h13, X, E⟩ := E.cv (p := 76) (as := [.int 22]) (b := 0) (r := []) rfl (x := 422) (m := 3) (w := .null) (j := 243) (n := 1) (t := 12) (u := [1850, 92, 1852]) rfl rfl rfl
      obtain ⟨rfl, ivk14, hNk14⟩ := ts_243 (d := d + 2) X (by rw [(rfl : eh_V h11 = eh_V h11)]; exact ivk12)
      have Xk14 := X
      have E : eh_e _ _ 76 lo [] h13 rs h' := E
      have E := E.ld (p := 77) (t := ri_isA) (i := 0) (n := 1) (v := .ref 0) rfl (e := (.aload_n 0, 1, [], .null)) rfl rfl (fun _ _ => rfl) l0 rfl
      have E := E.gi (y := eh_i (eh_V h13) 0 41) (p := 80) rfl (x := 400) (m := 3) (w := .null) (t := 12) (i := 41) (u := 1365) rfl rfl (rfl : eh_V h13 = eh_V h13) ivk14.1 rfl rfl
      rcases eh_r5 rfl (show (0 : Int32).toInt = 0 by decide) (E.br (p := 83) (c := 5) (tgt := 96) (a := eh_i (eh_V h13) 0 41) (b := 0) (st' := []) rfl (e := (.ifCond .le 16, 3, [96], .null)) rfl rfl (fun _ _ => rfl) rfl) with ⟨c15, E⟩ | ⟨c15, E⟩
      · skip
        have E := E.pu (p := 97) (lo' := lo) (st' := [.int 0]) rfl (e := (.iconst 0, 1, [], .null)) rfl rfl (fun _ _ => rfl)
        have E := E.so (p := 98) (t := ri_isI) (i := 1) (n := 1) rfl (e := (.istore_n 1, 1, [], .null)) rfl rfl (fun _ _ => rfl) rfl
        have k16_1 : ri_lk (ri_st1 lo 1 (.int 0)) 1 = some (.int 0) := eh_self
        have k16_0 : ri_lk (ri_st1 lo 1 (.int 0)) 0 = some (.ref 0) := eh_keep (by decide) (Or.inl rfl) l0
        have E := E.pu (p := 48) (lo' := (ri_st1 lo 1 (.int 0))) (st' := []) rfl (e := (.goto (-50), 3, [48], .null)) rfl rfl (fun _ _ => rfl)
        exact Or.inr (Or.inr (Or.inr (Or.inr (Or.inl ⟨h11, h13, c1, c6, Xk12, ivk12, Xk14, ivk14, c15, _, _, E, (rfl : eh_V h13 = eh_V h13), (hNk14.trans hNk12), ivk14, k16_0, k16_1⟩))))
      · skip
        have E := E.ld (p := 84) (t := ri_isA) (i := 0) (n := 1) (v := .ref 0) rfl (e := (.aload_n 0, 1, [], .null)) rfl rfl (fun _ _ => rfl) l0 rfl
        have E := E.pu (p := 85) (lo' := lo) (st' := [.int 1, .ref 0]) rfl (e := (.iconst 1, 1, [], .null)) rfl rfl (fun _ _ => rfl)
        obtain ⟨v1, h17, X, E⟩ := E.cv (p := 88) (as := [.int 1]) (b := 0) (r := []) rfl (x := 171) (m := 3) (w := .null) (j := 159) (n := 1) (t := 12) (u := [1507, 40, 1509]) rfl rfl rfl
        rcases sp_159 (d := d + 3) X (rfl : eh_V h13 = eh_V h13) ivk14.1 with ⟨rfl, hV18, hN19⟩
        have hV18 : _ = eh_u (eh_u (eh_V h13) 0 15 (.int 1)) 0 16 (.int (eh_i (eh_V h13) 0 12)) := hV18
        have E : eh_e _ _ 88 lo [.int 0] _ rs h' := E
        have E := E.pu (p := 89) (lo' := lo) (st' := []) rfl (e := (.pop, 1, [], .null)) rfl rfl (fun _ _ => rfl)
        have E := E.pu (p := 90) (lo' := lo) (st' := [.int (-1)]) rfl (e := (.iconst (-1), 1, [], .null)) rfl rfl (fun _ _ => rfl)
        have E := E.ld (p := 91) (t := ri_isA) (i := 0) (n := 1) (v := .ref 0) rfl (e := (.aload_n 0, 1, [], .null)) rfl rfl (fun _ _ => rfl) l0 rfl
        have E := E.gi (y := eh_i (eh_V h13) 0 12) (p := 94) rfl (x := 165) (m := 3) (w := .null) (t := 12) (i := 16) (u := 1340) rfl rfl hV18 ((ivk14.1.ui rfl).ui rfl) rfl rfl
        have E := E.pu (p := 95) (lo' := lo) (st' := [.int ((-1) - (eh_i (eh_V h13) 0 12))]) rfl (e := (.isub, 1, [], .null)) rfl rfl (fun _ _ => rfl)
        obtain ⟨r1, r2⟩ := E.reti rfl (m := 1) (ax := []) (w := .null) rfl
        exact Or.inr (Or.inr (Or.inr (Or.inr (Or.inr (⟨h11, h13, c1, c6, Xk12, ivk12, Xk14, ivk14, c15, r1, ((congrArg eh_V r2).trans hV18), ((congrArg eh_N r2).trans (hN19.trans (hNk14.trans hNk12))), (iT_u (iT_u ivk14 (ivk14.1.ui rfl) rfl) ((ivk14.1.ui rfl).ui rfl) rfl)⟩)))))
theorem zt_e {cal : eh_K} {lo : List (Nat × Value)} {h h' : ri_H} {rs : List Value} {G : eh_W} {b : Nat → Int32} {n m : Nat} (E : eh_e cal md_248 48 lo [] h rs h') (hV : eh_V h = G) (iv : iT b n m G) (l0 : ri_lk lo 0 = some (.ref 0)) (l1 : ri_lk lo 1 = some (.int 0)) : ∃ hz loz, eh_e cal md_248 146 loz [] hz rs h' ∧ eh_V hz = eh_u G 2 174 (.int (eh_i G 0 39)) ∧ eh_N hz = eh_N h ∧ iT b n m (eh_u G 2 174 (.int (eh_i G 0 39))) ∧ ri_lk loz 0 = some (.ref 0) ∧ ri_lk loz 1 = some (.int 0) ∧ ri_lk loz 2 = some (.int 0) := by
  have E := E.ld (p := 49) (t := ri_isI) (i := 1) (n := 1) (v := .int 0) rfl (e := (.iload_n 1, 1, [], .null)) rfl rfl (fun _ _ => rfl) l1 rfl
  have E := E.brt (c := 0) (tgt := 132) (a := 0) (b := 0) (st' := []) rfl (e := (.ifCond .eq 83, 3, [132], .null)) rfl rfl (fun _ _ => rfl) (by decide)
  have E := E.ld (p := 133) (t := ri_isA) (i := 0) (n := 1) (v := .ref 0) rfl (e := (.aload_n 0, 1, [], .null)) rfl rfl (fun _ _ => rfl) l0 rfl
  have E := E.gr (n := 2) (p := 136) rfl (x := 33) (m := 3) (w := .null) (t := 12) (i := 6) (u := 1330) rfl rfl hV (iv.1) rfl
  have E := E.pu (p := 139) (lo' := lo) (st' := [.int 174, .ref 2]) rfl (e := (.sipush 174, 3, [], .null)) rfl rfl (fun _ _ => rfl)
  have E := E.ld (p := 140) (t := ri_isA) (i := 0) (n := 1) (v := .ref 0) rfl (e := (.aload_n 0, 1, [], .null)) rfl rfl (fun _ _ => rfl) l0 rfl
  have E := E.gi (y := eh_i G 0 39) (p := 143) rfl (x := 397) (m := 3) (w := .null) (t := 12) (i := 39) (u := 1363) rfl rfl hV (iv.1) rfl rfl
  obtain ⟨h1, hV2, hN3, E⟩ := E.aw (gg := ri_g1) (b := true) (p := 144) (n := 174) rfl (e := (.iastore, 1, [], .null)) rfl rfl (fun _ _ => rfl) rfl hV (by decide)
  have E := E.pu (p := 145) (lo' := lo) (st' := [.int 0]) rfl (e := (.iconst 0, 1, [], .null)) rfl rfl (fun _ _ => rfl)
  have E := E.so (p := 146) (t := ri_isI) (i := 2) (n := 1) rfl (e := (.istore_n 2, 1, [], .null)) rfl rfl (fun _ _ => rfl) rfl
  have k4_2 : ri_lk (ri_st1 lo 2 (.int 0)) 2 = some (.int 0) := eh_self
  have k4_0 : ri_lk (ri_st1 lo 2 (.int 0)) 0 = some (.ref 0) := eh_keep (by decide) (Or.inl rfl) l0
  have k4_1 : ri_lk (ri_st1 lo 2 (.int 0)) 1 = some (.int 0) := eh_keep (by decide) (Or.inl rfl) l1
  exact ⟨_, _, E, hV2, hN3, (iT_u iv ((iv.1).ui rfl) rfl), k4_0, k4_1, k4_2⟩
theorem zt_f {cal : eh_K} {lo : List (Nat × Value)} {h h' : ri_H} {rs : List Value} {G : eh_W} {b : Nat → Int32} {n m : Nat} {k : Int32} (E : eh_e cal md_248 146 lo [] h rs h') (hV : eh_V h = G) (iv : iT b n m G) (l0 : ri_lk lo 0 = some (.ref 0)) (l1 : ri_lk lo 1 = some (.int 0)) (l2 : ri_lk lo 2 = some (.int k)) : (¬ (k.toInt < (3 * (eh_i G 0 39)).toInt) ∧ rs = [.int (eh_i G 0 40)] ∧ eh_V h' = G ∧ eh_N h' = eh_N h ∧ iT b n m G) ∨ (k.toInt < (3 * (eh_i G 0 39)).toInt ∧ ∃ hz loz, eh_e cal md_248 146 loz [] hz rs h' ∧ eh_V hz = eh_u G 2 (175 + k).toNatClampNeg (.int (eh_i G 4 (k).toNatClampNeg)) ∧ eh_N hz = eh_N h ∧ iT b n m (eh_u G 2 (175 + k).toNatClampNeg (.int (eh_i G 4 (k).toNatClampNeg))) ∧ ri_lk loz 0 = some (.ref 0) ∧ ri_lk loz 1 = some (.int 0) ∧ ri_lk loz 2 = some (.int (k + 1))) := by
  have E := E.ld (p := 147) (t := ri_isI) (i := 2) (n := 1) (v := .int k) rfl (e := (.iload_n 2, 1, [], .null)) rfl rfl (fun _ _ => rfl) l2 rfl
  have E := E.pu (p := 148) (lo' := lo) (st' := [.int 3, .int k]) rfl (e := (.iconst 3, 1, [], .null)) rfl rfl (fun _ _ => rfl)
  have E := E.ld (p := 149) (t := ri_isA) (i := 0) (n := 1) (v := .ref 0) rfl (e := (.aload_n 0, 1, [], .null)) rfl rfl (fun _ _ => rfl) l0 rfl
  have E := E.gi (y := eh_i G 0 39) (p := 152) rfl (x := 397) (m := 3) (w := .null) (t := 12) (i := 39) (u := 1363) rfl rfl hV (iv.1) rfl rfl
  have E := E.pu (p := 153) (lo' := lo) (st' := [.int (3 * (eh_i G 0 39)), .int k]) rfl (e := (.imul, 1, [], .null)) rfl rfl (fun _ _ => rfl)
  rcases eh_r3 rfl rfl (E.br (p := 156) (c := 3) (tgt := 178) (a := k) (b := 3 * (eh_i G 0 39)) (st' := []) rfl (e := (.if_icmp .ge 25, 3, [178], .null)) rfl rfl (fun _ _ => rfl) rfl) with ⟨c1, E⟩ | ⟨c1, E⟩
  · skip
    have E := E.ld (p := 179) (t := ri_isA) (i := 0) (n := 1) (v := .ref 0) rfl (e := (.aload_n 0, 1, [], .null)) rfl rfl (fun _ _ => rfl) l0 rfl
    have E := E.gi (y := eh_i G 0 40) (p := 182) rfl (x := 413) (m := 3) (w := .null) (t := 12) (i := 40) (u := 1364) rfl rfl hV (iv.1) rfl rfl
    obtain ⟨r1, r2⟩ := E.reti rfl (m := 1) (ax := []) (w := .null) rfl
    exact Or.inl ⟨c1, r1, ((congrArg eh_V r2).trans hV), (congrArg eh_N r2), iv⟩
  · skip
    have E := E.ld (p := 157) (t := ri_isA) (i := 0) (n := 1) (v := .ref 0) rfl (e := (.aload_n 0, 1, [], .null)) rfl rfl (fun _ _ => rfl) l0 rfl
    have E := E.gr (n := 2) (p := 160) rfl (x := 33) (m := 3) (w := .null) (t := 12) (i := 6) (u := 1330) rfl rfl hV (iv.1) rfl
    have E := E.pu (p := 163) (lo' := lo) (st' := [.int 175, .ref 2]) rfl (e := (.sipush 175, 3, [], .null)) rfl rfl (fun _ _ => rfl)
    have E := E.ld (p := 164) (t := ri_isI) (i := 2) (n := 1) (v := .int k) rfl (e := (.iload_n 2, 1, [], .null)) rfl rfl (fun _ _ => rfl) l2 rfl
    have E := E.pu (p := 165) (lo' := lo) (st' := [.int (175 + k), .ref 2]) rfl (e := (.iadd, 1, [], .null)) rfl rfl (fun _ _ => rfl)
    have E := E.ld (p := 166) (t := ri_isA) (i := 0) (n := 1) (v := .ref 0) rfl (e := (.aload_n 0, 1, [], .null)) rfl rfl (fun _ _ => rfl) l0 rfl
    have E := E.gr (n := 4) (p := 169) rfl (x := 40) (m := 3) (w := .null) (t := 12) (i := 8) (u := 1332) rfl rfl hV (iv.1) rfl
    have E := E.ld (p := 170) (t := ri_isI) (i := 2) (n := 1) (v := .int k) rfl (e := (.iload_n 2, 1, [], .null)) rfl rfl (fun _ _ => rfl) l2 rfl
    have E := E.ai (p := 171) (z := eh_i G 4 (k).toNatClampNeg) (n := (k).toNatClampNeg) rfl (e := (.iaload, 1, [], .null)) rfl rfl (fun _ _ => rfl) rfl hV (iv.1) rfl rfl rfl
    obtain ⟨h2, hV3, hN4, E⟩ := E.aw (gg := ri_g1) (b := true) (p := 172) (n := (175 + k).toNatClampNeg) rfl (e := (.iastore, 1, [], .null)) rfl rfl (fun _ _ => rfl) rfl hV rfl
    have E := E.ii (p := 175) (y := k + 1) rfl (i := 2) (n := 1) (m := 3) (ax := []) (w := .null) rfl l2 rfl rfl
    have k5_2 : ri_lk (ri_st1 lo 2 (.int (k + 1))) 2 = some (.int (k + 1)) := eh_self
    have k5_0 : ri_lk (ri_st1 lo 2 (.int (k + 1))) 0 = some (.ref 0) := eh_keep (by decide) (Or.inl rfl) l0
    have k5_1 : ri_lk (ri_st1 lo 2 (.int (k + 1))) 1 = some (.int 0) := eh_keep (by decide) (Or.inl rfl) l1
    have E := E.pu (p := 146) (lo' := (ri_st1 lo 2 (.int (k + 1)))) (st' := []) rfl (e := (.goto (-29), 3, [146], .null)) rfl rfl (fun _ _ => rfl)
    exact Or.inr (⟨c1, _, _, E, hV3, hN4, (iT_u iv ((iv.1).ui rfl) rfl), k5_0, k5_1, k5_2⟩)
