theorem sp_167 {d : Nat} {h h' : ri_H} {v : Option Value} {G : eh_W} {b : Nat → Int32} {n m : Nat} {to : Int32} (E : ri_calE ri_md (d + 3) 167 [.ref 0, .int to] h = some (v, h')) (hV : eh_V h = G) (iv : iM b n m G) : (∃ (x9 : Int32), nm_M G ∧ fd_M G 24 (eh_i G 3 3) x9 ∧ ¬ (x9.toInt < 0) ∧ v = some (.int 0) ∧ eh_V h' = eh_u (eh_u G 0 15 (.int 3)) 0 16 (.int (eh_i G 0 12)) ∧ eh_N h' = eh_N h ∧ iM b n m (eh_u (eh_u G 0 15 (.int 3)) 0 16 (.int (eh_i G 0 12)))) ∨ (∃ (x9 : Int32), ∃ (x18 : Int32), nm_M G ∧ fd_M G 24 (eh_i G 3 3) x9 ∧ x9.toInt < 0 ∧ fd_M G 30 (eh_i G 3 4) x18 ∧ ¬ (x18.toInt < 0) ∧ v = some (.int 0) ∧ eh_V h' = eh_u (eh_u G 0 15 (.int 3)) 0 16 (.int (eh_i G 0 12)) ∧ eh_N h' = eh_N h ∧ iM b n m (eh_u (eh_u G 0 15 (.int 3)) 0 16 (.int (eh_i G 0 12)))) ∨ (∃ (x9 : Int32), ∃ (x18 : Int32), ∃ (x27 : Int32), nm_M G ∧ fd_M G 24 (eh_i G 3 3) x9 ∧ x9.toInt < 0 ∧ fd_M G 30 (eh_i G 3 4) x18 ∧ x18.toInt < 0 ∧ fd_M G 38 (eh_i G 3 5) x27 ∧ ¬ (x27.toInt < 0) ∧ v = some (.int 0) ∧ eh_V h' = eh_u (eh_u G 0 15 (.int 3)) 0 16 (.int (eh_i G 0 12)) ∧ eh_N h' = eh_N h ∧ iM b n m (eh_u (eh_u G 0 15 (.int 3)) 0 16 (.int (eh_i G 0 12)))) ∨ (∃ (x9 : Int32), ∃ (x18 : Int32), ∃ (x27 : Int32), ∃ (x36 : Int32), ∃ (h41 : ri_H), ∃ (h44 : ri_H), nm_M G ∧ fd_M G 24 (eh_i G 3 3) x9 ∧ x9.toInt < 0 ∧ fd_M G 30 (eh_i G 3 4) x18 ∧ x18.toInt < 0 ∧ fd_M G 38 (eh_i G 3 5) x27 ∧ x27.toInt < 0 ∧ fd_M G 42 (eh_i G 3 6) x36 ∧ x36.toInt < 0 ∧ eh_V h41 = eh_u G 5 (to).toNatClampNeg (.long (eh_l G 0 17)) ∧ ri_calE ri_md (d + 2) 158 [.ref 0] h41 = some (none, h44) ∧ iM b n m (eh_V h44) ∧ v = some (.int 1) ∧ eh_V h' = (eh_V h44) ∧ eh_N h' = eh_N h ∧ iM b n m (eh_V h44)) ∨ (∃ (x9 : Int32), ∃ (x18 : Int32), ∃ (x27 : Int32), ∃ (x36 : Int32), nm_M G ∧ fd_M G 24 (eh_i G 3 3) x9 ∧ x9.toInt < 0 ∧ fd_M G 30 (eh_i G 3 4) x18 ∧ x18.toInt < 0 ∧ fd_M G 38 (eh_i G 3 5) x27 ∧ x27.toInt < 0 ∧ fd_M G 42 (eh_i G 3 6) x36 ∧ ¬ (x36.toInt < 0) ∧ v = some (.int 0) ∧ eh_V h' = eh_u (eh_u G 0 15 (.int 3)) 0 16 (.int (eh_i G 0 12)) ∧ eh_N h' = eh_N h ∧ iM b n m (eh_u (eh_u G 0 15 (.int 3)) 0 16 (.int (eh_i G 0 12)))) ∨ (¬ (nm_M G) ∧ v = some (.int 0) ∧ eh_V h' = eh_u (eh_u G 0 15 (.int 1)) 0 16 (.int (eh_i G 0 12)) ∧ eh_N h' = eh_N h ∧ iM b n m (eh_u (eh_u G 0 15 (.int 1)) 0 16 (.int (eh_i G 0 12)))) := by
  obtain ⟨rs, hrs, E⟩ := eh_in E (q := md_167) rfl
  have E := E.ld (p := 1) (t := ri_isA) (i := 0) (n := 1) (v := .ref 0) rfl (e := (.aload_n 0, 1, [], .null)) rfl rfl (fun _ _ => rfl) rfl rfl
  obtain ⟨v1, h1, X, E⟩ := E.cv (p := 4) (as := []) (b := 0) (r := []) rfl (x := 188) (m := 3) (w := .null) (j := 163) (n := 0) (t := 12) (u := [1526, 44, 1528]) rfl rfl rfl
  rcases sp_163 (d := d + 1) X hV (iv.1) with ⟨c2, rfl, hV3, hN4⟩ | ⟨c5, rfl, hV6, hN7⟩
  · skip
    have c2 : nm_M G := c2
    have E : eh_e _ _ 4 (ri_as 0 [.ref 0, .int to]) [.int 1] _ rs h' := E
    have E := E.brt (c := 1) (tgt := 13) (a := 1) (b := 0) (st' := []) rfl (e := (.ifCond .ne 9, 3, [13], .null)) rfl rfl (fun _ _ => rfl) (by decide)
    have E := E.ld (p := 14) (t := ri_isA) (i := 0) (n := 1) (v := .ref 0) rfl (e := (.aload_n 0, 1, [], .null)) rfl rfl (fun _ _ => rfl) rfl rfl
    have E := E.pu (p := 16) (lo' := (ri_as 0 [.ref 0, .int to])) (st' := [.int 24, .ref 0]) rfl (e := (.bipush 24, 2, [], .null)) rfl rfl (fun _ _ => rfl)
    have E := E.ld (p := 17) (t := ri_isA) (i := 0) (n := 1) (v := .ref 0) rfl (e := (.aload_n 0, 1, [], .null)) rfl rfl (fun _ _ => rfl) rfl rfl
    have E := E.gr (n := 3) (p := 20) rfl (x := 37) (m := 3) (w := .null) (t := 12) (i := 7) (u := 1331) rfl rfl hV3 (iv.1) rfl
    have E := E.pu (p := 21) (lo' := (ri_as 0 [.ref 0, .int to])) (st' := [.int 3, .ref 3, .int 24, .ref 0]) rfl (e := (.iconst 3, 1, [], .null)) rfl rfl (fun _ _ => rfl)
    have E := E.ai (p := 22) (z := eh_i G 3 3) (n := 3) rfl (e := (.iaload, 1, [], .null)) rfl rfl (fun _ _ => rfl) rfl hV3 (iv.1) (by decide) rfl rfl
    obtain ⟨v1, h8, X, E⟩ := E.cv (p := 25) (as := [.int 24, .int (eh_i G 3 3)]) (b := 0) (r := []) rfl (x := 192) (m := 3) (w := .null) (j := 166) (n := 2) (t := 12) (u := [1530, 45, 1532]) rfl rfl rfl
    rcases sp_166 (d := d + 1) X hV3 (iv.1) with ⟨x9, c10, rfl, hV11, hN12⟩
    have c10 : fd_M G 24 (eh_i G 3 3) x9 := c10
    have E : eh_e _ _ 25 (ri_as 0 [.ref 0, .int to]) [.int x9] _ rs h' := E
    rcases eh_r3 rfl (show (0 : Int32).toInt = 0 by decide) (E.br (p := 28) (c := 3) (tgt := 74) (a := x9) (b := 0) (st' := []) rfl (e := (.ifCond .ge 49, 3, [74], .null)) rfl rfl (fun _ _ => rfl) rfl) with ⟨c13, E⟩ | ⟨c13, E⟩
    · skip
      have E := E.ld (p := 75) (t := ri_isA) (i := 0) (n := 1) (v := .ref 0) rfl (e := (.aload_n 0, 1, [], .null)) rfl rfl (fun _ _ => rfl) rfl rfl
      have E := E.pu (p := 76) (lo' := (ri_as 0 [.ref 0, .int to])) (st' := [.int 3, .ref 0]) rfl (e := (.iconst 3, 1, [], .null)) rfl rfl (fun _ _ => rfl)
      obtain ⟨v1, h14, X, E⟩ := E.cv (p := 79) (as := [.int 3]) (b := 0) (r := []) rfl (x := 171) (m := 3) (w := .null) (j := 159) (n := 1) (t := 12) (u := [1507, 40, 1509]) rfl rfl rfl
      rcases sp_159 (d := d + 1) X hV11 (iv.1) with ⟨rfl, hV15, hN16⟩
      have hV15 : _ = eh_u (eh_u G 0 15 (.int 3)) 0 16 (.int (eh_i G 0 12)) := hV15
      have E : eh_e _ _ 79 (ri_as 0 [.ref 0, .int to]) [.int 0] _ rs h' := E
      obtain ⟨r1, r2⟩ := E.reti rfl (m := 1) (ax := []) (w := .null) rfl
      exact Or.inl ⟨x9, c2, c10, c13, (by rw [← hrs, r1]; rfl), ((congrArg eh_V r2).trans hV15), ((congrArg eh_N r2).trans (hN16.trans (hN12.trans hN4))), (iM_u (iM_u iv ((iv.1).ui rfl) rfl) (((iv.1).ui rfl).ui rfl) rfl)⟩
    · skip
      have E := E.ld (p := 29) (t := ri_isA) (i := 0) (n := 1) (v := .ref 0) rfl (e := (.aload_n 0, 1, [], .null)) rfl rfl (fun _ _ => rfl) rfl rfl
      have E := E.pu (p := 31) (lo' := (ri_as 0 [.ref 0, .int to])) (st' := [.int 30, .ref 0]) rfl (e := (.bipush 30, 2, [], .null)) rfl rfl (fun _ _ => rfl)
      have E := E.ld (p := 32) (t := ri_isA) (i := 0) (n := 1) (v := .ref 0) rfl (e := (.aload_n 0, 1, [], .null)) rfl rfl (fun _ _ => rfl) rfl rfl
      have E := E.gr (n := 3) (p := 35) rfl (x := 37) (m := 3) (w := .null) (t := 12) (i := 7) (u := 1331) rfl rfl hV11 (iv.1) rfl
      have E := E.pu (p := 36) (lo' := (ri_as 0 [.ref 0, .int to])) (st' := [.int 4, .ref 3, .int 30, .ref 0]) rfl (e := (.iconst 4, 1, [], .null)) rfl rfl (fun _ _ => rfl)
      have E := E.ai (p := 37) (z := eh_i G 3 4) (n := 4) rfl (e := (.iaload, 1, [], .null)) rfl rfl (fun _ _ => rfl) rfl hV11 (iv.1) (by decide) rfl rfl
      obtain ⟨v1, h17, X, E⟩ := E.cv (p := 40) (as := [.int 30, .int (eh_i G 3 4)]) (b := 0) (r := []) rfl (x := 192) (m := 3) (w := .null) (j := 166) (n := 2) (t := 12) (u := [1530, 45, 1532]) rfl rfl rfl
      rcases sp_166 (d := d + 1) X hV11 (iv.1) with ⟨x18, c19, rfl, hV20, hN21⟩
      have c19 : fd_M G 30 (eh_i G 3 4) x18 := c19
      have E : eh_e _ _ 40 (ri_as 0 [.ref 0, .int to]) [.int x18] _ rs h' := E
      rcases eh_r3 rfl (show (0 : Int32).toInt = 0 by decide) (E.br (p := 43) (c := 3) (tgt := 74) (a := x18) (b := 0) (st' := []) rfl (e := (.ifCond .ge 34, 3, [74], .null)) rfl rfl (fun _ _ => rfl) rfl) with ⟨c22, E⟩ | ⟨c22, E⟩
      · skip
        have E := E.ld (p := 75) (t := ri_isA) (i := 0) (n := 1) (v := .ref 0) rfl (e := (.aload_n 0, 1, [], .null)) rfl rfl (fun _ _ => rfl) rfl rfl
        have E := E.pu (p := 76) (lo' := (ri_as 0 [.ref 0, .int to])) (st' := [.int 3, .ref 0]) rfl (e := (.iconst 3, 1, [], .null)) rfl rfl (fun _ _ => rfl)
        obtain ⟨v1, h23, X, E⟩ := E.cv (p := 79) (as := [.int 3]) (b := 0) (r := []) rfl (x := 171) (m := 3) (w := .null) (j := 159) (n := 1) (t := 12) (u := [1507, 40, 1509]) rfl rfl rfl
        rcases sp_159 (d := d + 1) X hV20 (iv.1) with ⟨rfl, hV24, hN25⟩
        have hV24 : _ = eh_u (eh_u G 0 15 (.int 3)) 0 16 (.int (eh_i G 0 12)) := hV24
        have E : eh_e _ _ 79 (ri_as 0 [.ref 0, .int to]) [.int 0] _ rs h' := E
        obtain ⟨r1, r2⟩ := E.reti rfl (m := 1) (ax := []) (w := .null) rfl
        exact Or.inr (Or.inl ⟨x9, x18, c2, c10, c13, c19, c22, (by rw [← hrs, r1]; rfl), ((congrArg eh_V r2).trans hV24), ((congrArg eh_N r2).trans (hN25.trans (hN21.trans (hN12.trans hN4)))), (iM_u (iM_u iv ((iv.1).ui rfl) rfl) (((iv.1).ui rfl).ui rfl) rfl)⟩)
      · skip
        have E := E.ld (p := 44) (t := ri_isA) (i := 0) (n := 1) (v := .ref 0) rfl (e := (.aload_n 0, 1, [], .null)) rfl rfl (fun _ _ => rfl) rfl rfl
        have E := E.pu (p := 46) (lo' := (ri_as 0 [.ref 0, .int to])) (st' := [.int 38, .ref 0]) rfl (e := (.bipush 38, 2, [], .null)) rfl rfl (fun _ _ => rfl)
        have E := E.ld (p := 47) (t := ri_isA) (i := 0) (n := 1) (v := .ref 0) rfl (e := (.aload_n 0, 1, [], .null)) rfl rfl (fun _ _ => rfl) rfl rfl
        have E := E.gr (n := 3) (p := 50) rfl (x := 37) (m := 3) (w := .null) (t := 12) (i := 7) (u := 1331) rfl rfl hV20 (iv.1) rfl
        have E := E.pu (p := 51) (lo' := (ri_as 0 [.ref 0, .int to])) (st' := [.int 5, .ref 3, .int 38, .ref 0]) rfl (e := (.iconst 5, 1, [], .null)) rfl rfl (fun _ _ => rfl)
        have E := E.ai (p := 52) (z := eh_i G 3 5) (n := 5) rfl (e := (.iaload, 1, [], .null)) rfl rfl (fun _ _ => rfl) rfl hV20 (iv.1) (by decide) rfl rfl
        obtain ⟨v1, h26, X, E⟩ := E.cv (p := 55) (as := [.int 38, .int (eh_i G 3 5)]) (b := 0) (r := []) rfl (x := 192) (m := 3) (w := .null) (j := 166) (n := 2) (t := 12) (u := [1530, 45, 1532]) rfl rfl rfl
        rcases sp_166 (d := d + 1) X hV20 (iv.1) with ⟨x27, c28, rfl, hV29, hN30⟩
        have c28 : fd_M G 38 (eh_i G 3 5) x27 := c28
        have E : eh_e _ _ 55 (ri_as 0 [.ref 0, .int to]) [.int x27] _ rs h' := E
        rcases eh_r3 rfl (show (0 : Int32).toInt = 0 by decide) (E.br (p := 58) (c := 3) (tgt := 74) (a := x27) (b := 0) (st' := []) rfl (e := (.ifCond .ge 19, 3, [74], .null)) rfl rfl (fun _ _ => rfl) rfl) with ⟨c31, E⟩ | ⟨c31, E⟩
        · skip
          have E := E.ld (p := 75) (t := ri_isA) (i := 0) (n := 1) (v := .ref 0) rfl (e := (.aload_n 0, 1, [], .null)) rfl rfl (fun _ _ => rfl) rfl rfl
          have E := E.pu (p := 76) (lo' := (ri_as 0 [.ref 0, .int to])) (st' := [.int 3, .ref 0]) rfl (e := (.iconst 3, 1, [], .null)) rfl rfl (fun _ _ => rfl)
          obtain ⟨v1, h32, X, E⟩ := E.cv (p := 79) (as := [.int 3]) (b := 0) (r := []) rfl (x := 171) (m := 3) (w := .null) (j := 159) (n := 1) (t := 12) (u := [1507, 40, 1509]) rfl rfl rfl
          rcases sp_159 (d := d + 1) X hV29 (iv.1) with ⟨rfl, hV33, hN34⟩
          have hV33 : _ = eh_u (eh_u G 0 15 (.int 3)) 0 16 (.int (eh_i G 0 12)) := hV33
          have E : eh_e _ _ 79 (ri_as 0 [.ref 0, .int to]) [.int 0] _ rs h' := E
          obtain ⟨r1, r2⟩ := E.reti rfl (m := 1) (ax := []) (w := .null) rfl
          exact Or.inr (Or.inr (Or.inl ⟨x9, x18, x27, c2, c10, c13, c19, c22, c28, c31, (by rw [← hrs, r1]; rfl), ((congrArg eh_V r2).trans hV33), ((congrArg eh_N r2).trans (hN34.trans (hN30.trans (hN21.trans (hN12.trans hN4))))), (iM_u (iM_u iv ((iv.1).ui rfl) rfl) (((iv.1).ui rfl).ui rfl) rfl)⟩))
        · skip
          have E := E.ld (p := 59) (t := ri_isA) (i := 0) (n := 1) (v := .ref 0) rfl (e := (.aload_n 0, 1, [], .null)) rfl rfl (fun _ _ => rfl) rfl rfl
          have E := E.pu (p := 61) (lo' := (ri_as 0 [.ref 0, .int to])) (st' := [.int 42, .ref 0]) rfl (e := (.bipush 42, 2, [], .null)) rfl rfl (fun _ _ => rfl)
          have E := E.ld (p := 62) (t := ri_isA) (i := 0) (n := 1) (v := .ref 0) rfl (e := (.aload_n 0, 1, [], .null)) rfl rfl (fun _ _ => rfl) rfl rfl
          have E := E.gr (n := 3) (p := 65) rfl (x := 37) (m := 3) (w := .null) (t := 12) (i := 7) (u := 1331) rfl rfl hV29 (iv.1) rfl
          have E := E.pu (p := 67) (lo' := (ri_as 0 [.ref 0, .int to])) (st' := [.int 6, .ref 3, .int 42, .ref 0]) rfl (e := (.bipush 6, 2, [], .null)) rfl rfl (fun _ _ => rfl)
          have E := E.ai (p := 68) (z := eh_i G 3 6) (n := 6) rfl (e := (.iaload, 1, [], .null)) rfl rfl (fun _ _ => rfl) rfl hV29 (iv.1) (by decide) rfl rfl
          obtain ⟨v1, h35, X, E⟩ := E.cv (p := 71) (as := [.int 42, .int (eh_i G 3 6)]) (b := 0) (r := []) rfl (x := 192) (m := 3) (w := .null) (j := 166) (n := 2) (t := 12) (u := [1530, 45, 1532]) rfl rfl rfl
          rcases sp_166 (d := d + 1) X hV29 (iv.1) with ⟨x36, c37, rfl, hV38, hN39⟩
          have c37 : fd_M G 42 (eh_i G 3 6) x36 := c37
          have E : eh_e _ _ 71 (ri_as 0 [.ref 0, .int to]) [.int x36] _ rs h' := E
          rcases eh_r2 rfl (show (0 : Int32).toInt = 0 by decide) (E.br (p := 74) (c := 2) (tgt := 80) (a := x36) (b := 0) (st' := []) rfl (e := (.ifCond .lt 9, 3, [80], .null)) rfl rfl (fun _ _ => rfl) rfl) with ⟨c40, E⟩ | ⟨c40, E⟩
          · skip
            have E := E.ld (p := 81) (t := ri_isA) (i := 0) (n := 1) (v := .ref 0) rfl (e := (.aload_n 0, 1, [], .null)) rfl rfl (fun _ _ => rfl) rfl rfl
            have E := E.gr (n := 5) (p := 84) rfl (x := 43) (m := 3) (w := .null) (t := 12) (i := 9) (u := 1333) rfl rfl hV38 (iv.1) rfl
            have E := E.ld (p := 85) (t := ri_isI) (i := 1) (n := 1) (v := .int to) rfl (e := (.iload_n 1, 1, [], .null)) rfl rfl (fun _ _ => rfl) rfl rfl
            have E := E.ld (p := 86) (t := ri_isA) (i := 0) (n := 1) (v := .ref 0) rfl (e := (.aload_n 0, 1, [], .null)) rfl rfl (fun _ _ => rfl) rfl rfl
            have E := E.gl (y := eh_l G 0 17) (p := 89) rfl (x := 158) (m := 3) (w := .null) (t := 12) (i := 17) (u := 1341) rfl rfl hV38 (iv.1) rfl rfl
            obtain ⟨h41, hV42, hN43, E⟩ := E.aw (gg := ri_g3) (b := true) (p := 90) (n := (to).toNatClampNeg) rfl (e := (.lastore, 1, [], .null)) rfl rfl (fun _ _ => rfl) rfl hV38 rfl
            have E := E.ld (p := 91) (t := ri_isA) (i := 0) (n := 1) (v := .ref 0) rfl (e := (.aload_n 0, 1, [], .null)) rfl rfl (fun _ _ => rfl) rfl rfl
            obtain ⟨v1, h44, X, E⟩ := E.cv (p := 94) (as := []) (b := 0) (r := []) rfl (x := 174) (m := 3) (w := .null) (j := 158) (n := 0) (t := 12) (u := [1478, 35, 1480]) rfl rfl rfl
            obtain ⟨rfl, ivk45, hNk45⟩ := tp_158 (d := d) X (by rw [hV42]; exact (iM_u iv ((iv.1).ul rfl) rfl))
            have Xk45 := X
            have E : eh_e _ _ 94 (ri_as 0 [.ref 0, .int to]) [] h44 rs h' := E
            have E := E.pu (p := 95) (lo' := (ri_as 0 [.ref 0, .int to])) (st' := [.int 1]) rfl (e := (.iconst 1, 1, [], .null)) rfl rfl (fun _ _ => rfl)
            obtain ⟨r1, r2⟩ := E.reti rfl (m := 1) (ax := []) (w := .null) rfl
            exact Or.inr (Or.inr (Or.inr (Or.inl ⟨x9, x18, x27, x36, h41, h44, c2, c10, c13, c19, c22, c28, c31, c37, c40, hV42, Xk45, ivk45, (by rw [← hrs, r1]; rfl), ((congrArg eh_V r2).trans (rfl : eh_V h44 = eh_V h44)), ((congrArg eh_N r2).trans (hNk45.trans (hN43.trans (hN39.trans (hN30.trans (hN21.trans (hN12.trans hN4))))))), ivk45⟩)))
          · skip
            have E := E.ld (p := 75) (t := ri_isA) (i := 0) (n := 1) (v := .ref 0) rfl (e := (.aload_n 0, 1, [], .null)) rfl rfl (fun _ _ => rfl) rfl rfl
            have E := E.pu (p := 76) (lo' := (ri_as 0 [.ref 0, .int to])) (st' := [.int 3, .ref 0]) rfl (e := (.iconst 3, 1, [], .null)) rfl rfl (fun _ _ => rfl)
            obtain ⟨v1, h46, X, E⟩ := E.cv (p := 79) (as := [.int 3]) (b := 0) (r := []) rfl (x := 171) (m := 3) (w := .null) (j := 159) (n := 1) (t := 12) (u := [1507, 40, 1509]) rfl rfl rfl
            rcases sp_159 (d := d + 1) X hV38 (iv.1) with ⟨rfl, hV47, hN48⟩
            have hV47 : _ = eh_u (eh_u G 0 15 (.int 3)) 0 16 (.int (eh_i G 0 12)) := hV47
            have E : eh_e _ _ 79 (ri_as 0 [.ref 0, .int to]) [.int 0] _ rs h' := E
            obtain ⟨r1, r2⟩ := E.reti rfl (m := 1) (ax := []) (w := .null) rfl
            exact Or.inr (Or.inr (Or.inr (Or.inr (Or.inl ⟨x9, x18, x27, x36, c2, c10, c13, c19, c22, c28, c31, c37, c40, (by rw [← hrs, r1]; rfl), ((congrArg eh_V r2).trans hV47), ((congrArg eh_N r2).trans (hN48.trans (hN39.trans (hN30.trans (hN21.trans (hN12.trans hN4)))))), (iM_u (iM_u iv ((iv.1).ui rfl) rfl) (((iv.1).ui rfl).ui rfl) rfl)⟩))))
  · skip
    have c5 : ¬ (nm_M G) := c5
    have E : eh_e _ _ 4 (ri_as 0 [.ref 0, .int to]) [.int 0] _ rs h' := E
    have E := E.brf (p := 7) (c := 1) (tgt := 13) (a := 0) (b := 0) (st' := []) rfl (e := (.ifCond .ne 9, 3, [13], .null)) rfl rfl (fun _ _ => rfl) (by decide) rfl
    have E := E.ld (p := 8) (t := ri_isA) (i := 0) (n := 1) (v := .ref 0) rfl (e := (.aload_n 0, 1, [], .null)) rfl rfl (fun _ _ => rfl) rfl rfl
    have E := E.pu (p := 9) (lo' := (ri_as 0 [.ref 0, .int to])) (st' := [.int 1, .ref 0]) rfl (e := (.iconst 1, 1, [], .null)) rfl rfl (fun _ _ => rfl)
    obtain ⟨v1, h49, X, E⟩ := E.cv (p := 12) (as := [.int 1]) (b := 0) (r := []) rfl (x := 171) (m := 3) (w := .null) (j := 159) (n := 1) (t := 12) (u := [1507, 40, 1509]) rfl rfl rfl
    rcases sp_159 (d := d + 1) X hV6 (iv.1) with ⟨rfl, hV50, hN51⟩
    have hV50 : _ = eh_u (eh_u G 0 15 (.int 1)) 0 16 (.int (eh_i G 0 12)) := hV50
    have E : eh_e _ _ 12 (ri_as 0 [.ref 0, .int to]) [.int 0] _ rs h' := E
    obtain ⟨r1, r2⟩ := E.reti rfl (m := 1) (ax := []) (w := .null) rfl
    exact Or.inr (Or.inr (Or.inr (Or.inr (Or.inr (⟨c5, (by rw [← hrs, r1]; rfl), ((congrArg eh_V r2).trans hV50), ((congrArg eh_N r2).trans (hN51.trans hN7)), (iM_u (iM_u iv ((iv.1).ui rfl) rfl) (((iv.1).ui rfl).ui rfl) rfl)⟩)))))
theorem tp_167 {d : Nat} {h h' : ri_H} {v : Option Value} {b : Nat → Int32} {n m : Nat} {to : Int32} (E : ri_calE ri_md (d + 3) 167 [.ref 0, .int to] h = some (v, h')) (iv : iM b n m (eh_V h)) : ∃ x : Int32, v = some (.int x) ∧ iM b n m (eh_V h') ∧ eh_N h' = eh_N h := by
  rcases sp_167 E rfl iv with ⟨_, _, _, _, r1, r2, r3, r4⟩ | ⟨_, _, _, _, _, _, _, r1, r2, r3, r4⟩ | ⟨_, _, _, _, _, _, _, _, _, _, r1, r2, r3, r4⟩ | ⟨_, _, _, _, _, _, _, _, _, _, _, _, _, _, _, _, _, _, r1, r2, r3, r4⟩ | ⟨_, _, _, _, _, _, _, _, _, _, _, _, _, r1, r2, r3, r4⟩ | ⟨_, r1, r2, r3, r4⟩
  · exact ⟨_, r1, by rw [r2]; exact r4, r3⟩
  · exact ⟨_, r1, by rw [r2]; exact r4, r3⟩
  · exact ⟨_, r1, by rw [r2]; exact r4, r3⟩
  · exact ⟨_, r1, by rw [r2]; exact r4, r3⟩
  · exact ⟨_, r1, by rw [r2]; exact r4, r3⟩
  · exact ⟨_, r1, by rw [r2]; exact r4, r3⟩
theorem sp_168 {d : Nat} {h h' : ri_H} {v : Option Value} {G : eh_W} {b : Nat → Int32} {n m : Nat} {fr ma : Int32} (E : ri_calE ri_md (d + 2) 168 [.ref 0, .int fr, .int ma] h = some (v, h')) (hV : eh_V h = G) (iv : iM b n m G) : (∃ (x9 : Int32), nm_M G ∧ fd_M G fr ma x9 ∧ ¬ (x9.toInt < 0) ∧ v = some (.int 1) ∧ eh_V h' = eh_u G 0 18 (.int x9) ∧ eh_N h' = eh_N h ∧ iM b n m (eh_u G 0 18 (.int x9))) ∨ (∃ (x9 : Int32), nm_M G ∧ fd_M G fr ma x9 ∧ x9.toInt < 0 ∧ v = some (.int 0) ∧ eh_V h' = eh_u (eh_u (eh_u G 0 18 (.int x9)) 0 15 (.int 3)) 0 16 (.int (eh_i G 0 12)) ∧ eh_N h' = eh_N h ∧ iM b n m (eh_u (eh_u (eh_u G 0 18 (.int x9)) 0 15 (.int 3)) 0 16 (.int (eh_i G 0 12)))) ∨ (¬ (nm_M G) ∧ v = some (.int 0) ∧ eh_V h' = eh_u (eh_u G 0 15 (.int 1)) 0 16 (.int (eh_i G 0 12)) ∧ eh_N h' = eh_N h ∧ iM b n m (eh_u (eh_u G 0 15 (.int 1)) 0 16 (.int (eh_i G 0 12)))) := by
  obtain ⟨rs, hrs, E⟩ := eh_in E (q := md_168) rfl
  have E := E.ld (p := 1) (t := ri_isA) (i := 0) (n := 1) (v := .ref 0) rfl (e := (.aload_n 0, 1, [], .null)) rfl rfl (fun _ _ => rfl) rfl rfl
  obtain ⟨v1, h1, X, E⟩ := E.cv (p := 4) (as := []) (b := 0) (r := []) rfl (x := 188) (m := 3) (w := .null) (j := 163) (n := 0) (t := 12) (u := [1526, 44, 1528]) rfl rfl rfl
  rcases sp_163 (d := d) X hV (iv.1) with ⟨c2, rfl, hV3, hN4⟩ | ⟨c5, rfl, hV6, hN7⟩
  · skip
    have c2 : nm_M G := c2
    have E : eh_e _ _ 4 (ri_as 0 [.ref 0, .int fr, .int ma]) [.int 1] _ rs h' := E
    have E := E.brt (c := 1) (tgt := 13) (a := 1) (b := 0) (st' := []) rfl (e := (.ifCond .ne 9, 3, [13], .null)) rfl rfl (fun _ _ => rfl) (by decide)
    have E := E.ld (p := 14) (t := ri_isA) (i := 0) (n := 1) (v := .ref 0) rfl (e := (.aload_n 0, 1, [], .null)) rfl rfl (fun _ _ => rfl) rfl rfl
    have E := E.ld (p := 15) (t := ri_isA) (i := 0) (n := 1) (v := .ref 0) rfl (e := (.aload_n 0, 1, [], .null)) rfl rfl (fun _ _ => rfl) rfl rfl
    have E := E.ld (p := 16) (t := ri_isI) (i := 1) (n := 1) (v := .int fr) rfl (e := (.iload_n 1, 1, [], .null)) rfl rfl (fun _ _ => rfl) rfl rfl
    have E := E.ld (p := 17) (t := ri_isI) (i := 2) (n := 1) (v := .int ma) rfl (e := (.iload_n 2, 1, [], .null)) rfl rfl (fun _ _ => rfl) rfl rfl
    obtain ⟨v1, h8, X, E⟩ := E.cv (p := 20) (as := [.int fr, .int ma]) (b := 0) (r := [.ref 0]) rfl (x := 192) (m := 3) (w := .null) (j := 166) (n := 2) (t := 12) (u := [1530, 45, 1532]) rfl rfl rfl
    rcases sp_166 (d := d) X hV3 (iv.1) with ⟨x9, c10, rfl, hV11, hN12⟩
    have c10 : fd_M G fr ma x9 := c10
    have E : eh_e _ _ 20 (ri_as 0 [.ref 0, .int fr, .int ma]) [.int x9, .ref 0] _ rs h' := E
    obtain ⟨h13, hV14, hN15, E⟩ := E.gp (p := 23) rfl (x := 181) (m := 3) (w := .null) (t := 12) (i := 18) (u := 1342) (y := 0) rfl rfl hV11
    have E := E.ld (p := 24) (t := ri_isA) (i := 0) (n := 1) (v := .ref 0) rfl (e := (.aload_n 0, 1, [], .null)) rfl rfl (fun _ _ => rfl) rfl rfl
    have E := E.gi (y := x9) (p := 27) rfl (x := 181) (m := 3) (w := .null) (t := 12) (i := 18) (u := 1342) rfl rfl hV14 ((iv.1).ui rfl) rfl rfl
    rcases eh_r3 rfl (show (0 : Int32).toInt = 0 by decide) (E.br (p := 30) (c := 3) (tgt := 38) (a := x9) (b := 0) (st' := []) rfl (e := (.ifCond .ge 11, 3, [38], .null)) rfl rfl (fun _ _ => rfl) rfl) with ⟨c16, E⟩ | ⟨c16, E⟩
    · skip
      have E := E.pu (p := 39) (lo' := (ri_as 0 [.ref 0, .int fr, .int ma])) (st' := [.int 1]) rfl (e := (.iconst 1, 1, [], .null)) rfl rfl (fun _ _ => rfl)
      have E := E.pu (p := 43) (lo' := (ri_as 0 [.ref 0, .int fr, .int ma])) (st' := [.int 1]) rfl (e := (.goto 4, 3, [43], .null)) rfl rfl (fun _ _ => rfl)
      obtain ⟨r1, r2⟩ := E.reti rfl (m := 1) (ax := []) (w := .null) rfl
      exact Or.inl ⟨x9, c2, c10, c16, (by rw [← hrs, r1]; rfl), ((congrArg eh_V r2).trans hV14), ((congrArg eh_N r2).trans (hN15.trans (hN12.trans hN4))), (iM_u iv ((iv.1).ui rfl) rfl)⟩
    · skip
      have E := E.ld (p := 31) (t := ri_isA) (i := 0) (n := 1) (v := .ref 0) rfl (e := (.aload_n 0, 1, [], .null)) rfl rfl (fun _ _ => rfl) rfl rfl
      have E := E.pu (p := 32) (lo' := (ri_as 0 [.ref 0, .int fr, .int ma])) (st' := [.int 3, .ref 0]) rfl (e := (.iconst 3, 1, [], .null)) rfl rfl (fun _ _ => rfl)
      obtain ⟨v1, h17, X, E⟩ := E.cv (p := 35) (as := [.int 3]) (b := 0) (r := []) rfl (x := 171) (m := 3) (w := .null) (j := 159) (n := 1) (t := 12) (u := [1507, 40, 1509]) rfl rfl rfl
      rcases sp_159 (d := d) X hV14 ((iv.1).ui rfl) with ⟨rfl, hV18, hN19⟩
      have hV18 : _ = eh_u (eh_u (eh_u G 0 18 (.int x9)) 0 15 (.int 3)) 0 16 (.int (eh_i G 0 12)) := hV18
      have E : eh_e _ _ 35 (ri_as 0 [.ref 0, .int fr, .int ma]) [.int 0] _ rs h' := E
      have E := E.brt (c := 0) (tgt := 42) (a := 0) (b := 0) (st' := []) rfl (e := (.ifCond .eq 7, 3, [42], .null)) rfl rfl (fun _ _ => rfl) (by decide)
      have E := E.pu (p := 43) (lo' := (ri_as 0 [.ref 0, .int fr, .int ma])) (st' := [.int 0]) rfl (e := (.iconst 0, 1, [], .null)) rfl rfl (fun _ _ => rfl)
      obtain ⟨r1, r2⟩ := E.reti rfl (m := 1) (ax := []) (w := .null) rfl
      exact Or.inr (Or.inl ⟨x9, c2, c10, c16, (by rw [← hrs, r1]; rfl), ((congrArg eh_V r2).trans hV18), ((congrArg eh_N r2).trans (hN19.trans (hN15.trans (hN12.trans hN4)))), (iM_u (iM_u (iM_u iv ((iv.1).ui rfl) rfl) (((iv.1).ui rfl).ui rfl) rfl) ((((iv.1).ui rfl).ui rfl).ui rfl) rfl)⟩)
  · skip
    have c5 : ¬ (nm_M G) := c5
    have E : eh_e _ _ 4 (ri_as 0 [.ref 0, .int fr, .int ma]) [.int 0] _ rs h' := E
    have E := E.brf (p := 7) (c := 1) (tgt := 13) (a := 0) (b := 0) (st' := []) rfl (e := (.ifCond .ne 9, 3, [13], .null)) rfl rfl (fun _ _ => rfl) (by decide) rfl
    have E := E.ld (p := 8) (t := ri_isA) (i := 0) (n := 1) (v := .ref 0) rfl (e := (.aload_n 0, 1, [], .null)) rfl rfl (fun _ _ => rfl) rfl rfl
    have E := E.pu (p := 9) (lo' := (ri_as 0 [.ref 0, .int fr, .int ma])) (st' := [.int 1, .ref 0]) rfl (e := (.iconst 1, 1, [], .null)) rfl rfl (fun _ _ => rfl)
    obtain ⟨v1, h20, X, E⟩ := E.cv (p := 12) (as := [.int 1]) (b := 0) (r := []) rfl (x := 171) (m := 3) (w := .null) (j := 159) (n := 1) (t := 12) (u := [1507, 40, 1509]) rfl rfl rfl
    rcases sp_159 (d := d) X hV6 (iv.1) with ⟨rfl, hV21, hN22⟩
    have hV21 : _ = eh_u (eh_u G 0 15 (.int 1)) 0 16 (.int (eh_i G 0 12)) := hV21
    have E : eh_e _ _ 12 (ri_as 0 [.ref 0, .int fr, .int ma]) [.int 0] _ rs h' := E
    obtain ⟨r1, r2⟩ := E.reti rfl (m := 1) (ax := []) (w := .null) rfl
    exact Or.inr (Or.inr (⟨c5, (by rw [← hrs, r1]; rfl), ((congrArg eh_V r2).trans hV21), ((congrArg eh_N r2).trans (hN22.trans hN7)), (iM_u (iM_u iv ((iv.1).ui rfl) rfl) (((iv.1).ui rfl).ui rfl) rfl)⟩))
theorem tp_168 {d : Nat} {h h' : ri_H} {v : Option Value} {b : Nat → Int32} {n m : Nat} {fr : Int32} {ma : Int32} (E : ri_calE ri_md (d + 2) 168 [.ref 0, .int fr, .int ma] h = some (v, h')) (iv : iM b n m (eh_V h)) : ∃ x : Int32, v = some (.int x) ∧ iM b n m (eh_V h') ∧ eh_N h' = eh_N h := by
  rcases sp_168 E rfl iv with ⟨_, _, _, _, r1, r2, r3, r4⟩ | ⟨_, _, _, _, r1, r2, r3, r4⟩ | ⟨_, r1, r2, r3, r4⟩
  · exact ⟨_, r1, by rw [r2]; exact r4, r3⟩
  · exact ⟨_, r1, by rw [r2]; exact r4, r3⟩
  · exact ⟨_, r1, by rw [r2]; exact r4, r3⟩
theorem ml_a {d : Nat} {lo : List (Nat × Value)} {h h' : ri_H} {rs : List Value} {G : eh_W} {b : Nat → Int32} {n m : Nat} (E : eh_e (ri_calE ri_md (d + 3)) md_171 0 lo [] h rs h') (hV : eh_V h = G) (iv : iM b n m G) (l0 : ri_lk lo 0 = some (.ref 0)) : (∃ (h3 : ri_H), ∃ (h6 : ri_H), ∃ (x10 : Int32), ∃ (h8 : ri_H), ¬ ((eh_i G 3 4) = 8) ∧ eh_V h3 = eh_u G 0 20 (.int ((eh_i G 0 20) ||| 1)) ∧ ri_calE ri_md (d + 3) 158 [.ref 0] h3 = some (none, h6) ∧ iM b n m (eh_V h6) ∧ ri_calE ri_md (d + 3) 167 [.ref 0, .int (30 + (eh_i G 3 4))] h6 = some (some (.int x10), h8) ∧ iM b n m (eh_V h8) ∧ x10 = 0 ∧ rs = [.int 0] ∧ eh_V h' = (eh_V h8) ∧ eh_N h' = eh_N h ∧ iM b n m (eh_V h8)) ∨ (∃ (h3 : ri_H), ∃ (h6 : ri_H), ∃ (x10 : Int32), ∃ (h8 : ri_H), ∃ (x14 : Int32), ∃ (h12 : ri_H), ∃ (h16 : ri_H), ∃ (h19 : ri_H), ¬ ((eh_i G 3 4) = 8) ∧ eh_V h3 = eh_u G 0 20 (.int ((eh_i G 0 20) ||| 1)) ∧ ri_calE ri_md (d + 3) 158 [.ref 0] h3 = some (none, h6) ∧ iM b n m (eh_V h6) ∧ ri_calE ri_md (d + 3) 167 [.ref 0, .int (30 + (eh_i G 3 4))] h6 = some (some (.int x10), h8) ∧ iM b n m (eh_V h8) ∧ ¬ (x10 = 0) ∧ ri_calE ri_md (d + 3) 168 [.ref 0, .int 24, .int (eh_i (eh_V h8) 3 3)] h8 = some (some (.int x14), h12) ∧ iM b n m (eh_V h12) ∧ ¬ (x14 = 0) ∧ eh_V h16 = eh_u (eh_V h12) 3 (10 + (eh_i G 3 4)).toNatClampNeg (.int (eh_i (eh_V h12) 0 18)) ∧ ri_calE ri_md (d + 3) 158 [.ref 0] h16 = some (none, h19) ∧ iM b n m (eh_V h19) ∧ ∃ hz loz, eh_e (ri_calE ri_md (d + 3)) md_171 80 loz [] hz rs h' ∧ eh_V hz = (eh_V h19) ∧ eh_N hz = eh_N h ∧ iM b n m (eh_V h19) ∧ ri_lk loz 0 = some (.ref 0) ∧ ri_lk loz 1 = some (.int (eh_i G 3 4)) ∧ ri_lk loz 2 = some (.int 0)) ∨ (∃ (h3 : ri_H), ∃ (h6 : ri_H), ∃ (x10 : Int32), ∃ (h8 : ri_H), ∃ (x14 : Int32), ∃ (h12 : ri_H), ¬ ((eh_i G 3 4) = 8) ∧ eh_V h3 = eh_u G 0 20 (.int ((eh_i G 0 20) ||| 1)) ∧ ri_calE ri_md (d + 3) 158 [.ref 0] h3 = some (none, h6) ∧ iM b n m (eh_V h6) ∧ ri_calE ri_md (d + 3) 167 [.ref 0, .int (30 + (eh_i G 3 4))] h6 = some (some (.int x10), h8) ∧ iM b n m (eh_V h8) ∧ ¬ (x10 = 0) ∧ ri_calE ri_md (d + 3) 168 [.ref 0, .int 24, .int (eh_i (eh_V h8) 3 3)] h8 = some (some (.int x14), h12) ∧ iM b n m (eh_V h12) ∧ x14 = 0 ∧ rs = [.int 0] ∧ eh_V h' = (eh_V h12) ∧ eh_N h' = eh_N h ∧ iM b n m (eh_V h12)) ∨ ((eh_i G 3 4) = 8 ∧ rs = [.int 0] ∧ eh_V h' = eh_u (eh_u G 0 15 (.int 4)) 0 16 (.int (eh_i G 0 12)) ∧ eh_N h' = eh_N h ∧ iM b n m (eh_u (eh_u G 0 15 (.int 4)) 0 16 (.int (eh_i G 0 12)))) := by
  have E := E.ld (p := 1) (t := ri_isA) (i := 0) (n := 1) (v := .ref 0) rfl (e := (.aload_n 0, 1, [], .null)) rfl rfl (fun _ _ => rfl) l0 rfl
  have E := E.gr (n := 3) (p := 4) rfl (x := 37) (m := 3) (w := .null) (t := 12) (i := 7) (u := 1331) rfl rfl hV (iv.1) rfl
  have E := E.pu (p := 5) (lo' := lo) (st' := [.int 4, .ref 3]) rfl (e := (.iconst 4, 1, [], .null)) rfl rfl (fun _ _ => rfl)
  have E := E.ai (p := 6) (z := eh_i G 3 4) (n := 4) rfl (e := (.iaload, 1, [], .null)) rfl rfl (fun _ _ => rfl) rfl hV (iv.1) (by decide) rfl rfl
  have E := E.so (p := 7) (t := ri_isI) (i := 1) (n := 1) rfl (e := (.istore_n 1, 1, [], .null)) rfl rfl (fun _ _ => rfl) rfl
  have k1_1 : ri_lk (ri_st1 lo 1 (.int (eh_i G 3 4))) 1 = some (.int (eh_i G 3 4)) := eh_self
  have k1_0 : ri_lk (ri_st1 lo 1 (.int (eh_i G 3 4))) 0 = some (.ref 0) := eh_keep (by decide) (Or.inl rfl) l0
  have E := E.ld (p := 8) (t := ri_isI) (i := 1) (n := 1) (v := .int (eh_i G 3 4)) rfl (e := (.iload_n 1, 1, [], .null)) rfl rfl (fun _ _ => rfl) k1_1 rfl
  have E := E.pu (p := 10) (lo' := (ri_st1 lo 1 (.int (eh_i G 3 4)))) (st' := [.int 8, .int (eh_i G 3 4)]) rfl (e := (.bipush 8, 2, [], .null)) rfl rfl (fun _ _ => rfl)
  rcases eh_q1 (E.br (p := 13) (c := 1) (tgt := 19) (a := eh_i G 3 4) (b := 8) (st' := []) rfl (e := (.if_icmp .ne 9, 3, [19], .null)) rfl rfl (fun _ _ => rfl) rfl) with ⟨c2, E⟩ | ⟨c2, E⟩
  · skip
    have E := E.ld (p := 20) (t := ri_isA) (i := 0) (n := 1) (v := .ref 0) rfl (e := (.aload_n 0, 1, [], .null)) rfl rfl (fun _ _ => rfl) k1_0 rfl
    have E := E.pu (p := 21) (lo' := (ri_st1 lo 1 (.int (eh_i G 3 4)))) (st' := [.ref 0, .ref 0]) rfl (e := (.dup, 1, [], .null)) rfl rfl (fun _ _ => rfl)
    have E := E.gi (y := eh_i G 0 20) (p := 24) rfl (x := 196) (m := 3) (w := .null) (t := 12) (i := 20) (u := 1344) rfl rfl hV (iv.1) rfl rfl
    have E := E.pu (p := 25) (lo' := (ri_st1 lo 1 (.int (eh_i G 3 4)))) (st' := [.int 1, .int (eh_i G 0 20), .ref 0]) rfl (e := (.iconst 1, 1, [], .null)) rfl rfl (fun _ _ => rfl)
    have E := E.pu (p := 26) (lo' := (ri_st1 lo 1 (.int (eh_i G 3 4)))) (st' := [.int ((eh_i G 0 20) ||| 1), .ref 0]) rfl (e := (.ior, 1, [], .null)) rfl rfl (fun _ _ => rfl)
    obtain ⟨h3, hV4, hN5, E⟩ := E.gp (p := 29) rfl (x := 196) (m := 3) (w := .null) (t := 12) (i := 20) (u := 1344) (y := 0) rfl rfl hV
    have E := E.ld (p := 30) (t := ri_isA) (i := 0) (n := 1) (v := .ref 0) rfl (e := (.aload_n 0, 1, [], .null)) rfl rfl (fun _ _ => rfl) k1_0 rfl
    obtain ⟨v1, h6, X, E⟩ := E.cv (p := 33) (as := []) (b := 0) (r := []) rfl (x := 174) (m := 3) (w := .null) (j := 158) (n := 0) (t := 12) (u := [1478, 35, 1480]) rfl rfl rfl
    obtain ⟨rfl, ivk7, hNk7⟩ := tp_158 (d := d + 1) X (by rw [hV4]; exact (iM_u iv ((iv.1).ui rfl) rfl))
    have Xk7 := X
    have E : eh_e _ _ 33 (ri_st1 lo 1 (.int (eh_i G 3 4))) [] h6 rs h' := E
    have E := E.ld (p := 34) (t := ri_isA) (i := 0) (n := 1) (v := .ref 0) rfl (e := (.aload_n 0, 1, [], .null)) rfl rfl (fun _ _ => rfl) k1_0 rfl
    have E := E.pu (p := 36) (lo' := (ri_st1 lo 1 (.int (eh_i G 3 4)))) (st' := [.int 30, .ref 0]) rfl (e := (.bipush 30, 2, [], .null)) rfl rfl (fun _ _ => rfl)
    have E := E.ld (p := 37) (t := ri_isI) (i := 1) (n := 1) (v := .int (eh_i G 3 4)) rfl (e := (.iload_n 1, 1, [], .null)) rfl rfl (fun _ _ => rfl) k1_1 rfl
    have E := E.pu (p := 38) (lo' := (ri_st1 lo 1 (.int (eh_i G 3 4)))) (st' := [.int (30 + (eh_i G 3 4)), .ref 0]) rfl (e := (.iadd, 1, [], .null)) rfl rfl (fun _ _ => rfl)
    obtain ⟨v1, h8, X, E⟩ := E.cv (p := 41) (as := [.int (30 + (eh_i G 3 4))]) (b := 0) (r := []) rfl (x := 212) (m := 3) (w := .null) (j := 167) (n := 1) (t := 12) (u := [1522, 43, 1524]) rfl rfl rfl
    obtain ⟨x10, rfl, ivk9, hNk9⟩ := tp_167 (d := d) X (by rw [(rfl : eh_V h6 = eh_V h6)]; exact ivk7)
    have Xk9 := X
    have E : eh_e _ _ 41 (ri_st1 lo 1 (.int (eh_i G 3 4))) [.int x10] h8 rs h' := E
    rcases eh_q0 (E.br (p := 44) (c := 0) (tgt := 59) (a := x10) (b := 0) (st' := []) rfl (e := (.ifCond .eq 18, 3, [59], .null)) rfl rfl (fun _ _ => rfl) rfl) with ⟨c11, E⟩ | ⟨c11, E⟩
    · skip
      have E := E.pu (p := 60) (lo' := (ri_st1 lo 1 (.int (eh_i G 3 4)))) (st' := [.int 0]) rfl (e := (.iconst 0, 1, [], .null)) rfl rfl (fun _ _ => rfl)
      obtain ⟨r1, r2⟩ := E.reti rfl (m := 1) (ax := []) (w := .null) rfl
      exact Or.inl ⟨h3, h6, x10, h8, c2, hV4, Xk7, ivk7, Xk9, ivk9, c11, r1, ((congrArg eh_V r2).trans (rfl : eh_V h8 = eh_V h8)), ((congrArg eh_N r2).trans (hNk9.trans (hNk7.trans hN5))), ivk9⟩
    · skip
      have E := E.ld (p := 45) (t := ri_isA) (i := 0) (n := 1) (v := .ref 0) rfl (e := (.aload_n 0, 1, [], .null)) rfl rfl (fun _ _ => rfl) k1_0 rfl
      have E := E.pu (p := 47) (lo' := (ri_st1 lo 1 (.int (eh_i G 3 4)))) (st' := [.int 24, .ref 0]) rfl (e := (.bipush 24, 2, [], .null)) rfl rfl (fun _ _ => rfl)
      have E := E.ld (p := 48) (t := ri_isA) (i := 0) (n := 1) (v := .ref 0) rfl (e := (.aload_n 0, 1, [], .null)) rfl rfl (fun _ _ => rfl) k1_0 rfl
      have E := E.gr (n := 3) (p := 51) rfl (x := 37) (m := 3) (w := .null) (t := 12) (i := 7) (u := 1331) rfl rfl (rfl : eh_V h8 = eh_V h8) ivk9.1 rfl
      have E := E.pu (p := 52) (lo' := (ri_st1 lo 1 (.int (eh_i G 3 4)))) (st' := [.int 3, .ref 3, .int 24, .ref 0]) rfl (e := (.iconst 3, 1, [], .null)) rfl rfl (fun _ _ => rfl)
      have E := E.ai (p := 53) (z := eh_i (eh_V h8) 3 3) (n := 3) rfl (e := (.iaload, 1, [], .null)) rfl rfl (fun _ _ => rfl) rfl (rfl : eh_V h8 = eh_V h8) ivk9.1 (by decide) rfl rfl
      obtain ⟨v1, h12, X, E⟩ := E.cv (p := 56) (as := [.int 24, .int (eh_i (eh_V h8) 3 3)]) (b := 0) (r := []) rfl (x := 218) (m := 3) (w := .null) (j := 168) (n := 2) (t := 12) (u := [1538, 47, 1540]) rfl rfl rfl
      obtain ⟨x14, rfl, ivk13, hNk13⟩ := tp_168 (d := d + 1) X (by rw [(rfl : eh_V h8 = eh_V h8)]; exact ivk9)
      have Xk13 := X
      have E : eh_e _ _ 56 (ri_st1 lo 1 (.int (eh_i G 3 4))) [.int x14] h12 rs h' := E
      rcases eh_q1 (E.br (p := 59) (c := 1) (tgt := 61) (a := x14) (b := 0) (st' := []) rfl (e := (.ifCond .ne 5, 3, [61], .null)) rfl rfl (fun _ _ => rfl) rfl) with ⟨c15, E⟩ | ⟨c15, E⟩
      · skip
        have E := E.ld (p := 62) (t := ri_isA) (i := 0) (n := 1) (v := .ref 0) rfl (e := (.aload_n 0, 1, [], .null)) rfl rfl (fun _ _ => rfl) k1_0 rfl
        have E := E.gr (n := 3) (p := 65) rfl (x := 37) (m := 3) (w := .null) (t := 12) (i := 7) (u := 1331) rfl rfl (rfl : eh_V h12 = eh_V h12) ivk13.1 rfl
        have E := E.pu (p := 67) (lo' := (ri_st1 lo 1 (.int (eh_i G 3 4)))) (st' := [.int 10, .ref 3]) rfl (e := (.bipush 10, 2, [], .null)) rfl rfl (fun _ _ => rfl)
        have E := E.ld (p := 68) (t := ri_isI) (i := 1) (n := 1) (v := .int (eh_i G 3 4)) rfl (e := (.iload_n 1, 1, [], .null)) rfl rfl (fun _ _ => rfl) k1_1 rfl
        have E := E.pu (p := 69) (lo' := (ri_st1 lo 1 (.int (eh_i G 3 4)))) (st' := [.int (10 + (eh_i G 3 4)), .ref 3]) rfl (e := (.iadd, 1, [], .null)) rfl rfl (fun _ _ => rfl)
        have E := E.ld (p := 70) (t := ri_isA) (i := 0) (n := 1) (v := .ref 0) rfl (e := (.aload_n 0, 1, [], .null)) rfl rfl (fun _ _ => rfl) k1_0 rfl
        have E := E.gi (y := eh_i (eh_V h12) 0 18) (p := 73) rfl (x := 181) (m := 3) (w := .null) (t := 12) (i := 18) (u := 1342) rfl rfl (rfl : eh_V h12 = eh_V h12) ivk13.1 rfl rfl
        obtain ⟨h16, hV17, hN18, E⟩ := E.aw (gg := ri_g1) (b := true) (p := 74) (n := (10 + (eh_i G 3 4)).toNatClampNeg) rfl (e := (.iastore, 1, [], .null)) rfl rfl (fun _ _ => rfl) rfl (rfl : eh_V h12 = eh_V h12) rfl
        have E := E.ld (p := 75) (t := ri_isA) (i := 0) (n := 1) (v := .ref 0) rfl (e := (.aload_n 0, 1, [], .null)) rfl rfl (fun _ _ => rfl) k1_0 rfl
        obtain ⟨v1, h19, X, E⟩ := E.cv (p := 78) (as := []) (b := 0) (r := []) rfl (x := 174) (m := 3) (w := .null) (j := 158) (n := 0) (t := 12) (u := [1478, 35, 1480]) rfl rfl rfl
        obtain ⟨rfl, ivk20, hNk20⟩ := tp_158 (d := d + 1) X (by rw [hV17]; exact (iM_u ivk13 (ivk13.1.ui rfl) rfl))
        have Xk20 := X
        have E : eh_e _ _ 78 (ri_st1 lo 1 (.int (eh_i G 3 4))) [] h19 rs h' := E
        have E := E.pu (p := 79) (lo' := (ri_st1 lo 1 (.int (eh_i G 3 4)))) (st' := [.int 0]) rfl (e := (.iconst 0, 1, [], .null)) rfl rfl (fun _ _ => rfl)
        have E := E.so (p := 80) (t := ri_isI) (i := 2) (n := 1) rfl (e := (.istore_n 2, 1, [], .null)) rfl rfl (fun _ _ => rfl) rfl
        have k21_2 : ri_lk (ri_st1 (ri_st1 lo 1 (.int (eh_i G 3 4))) 2 (.int 0)) 2 = some (.int 0) := eh_self
        have k21_0 : ri_lk (ri_st1 (ri_st1 lo 1 (.int (eh_i G 3 4))) 2 (.int 0)) 0 = some (.ref 0) := eh_keep (by decide) (Or.inl rfl) k1_0
        have k21_1 : ri_lk (ri_st1 (ri_st1 lo 1 (.int (eh_i G 3 4))) 2 (.int 0)) 1 = some (.int (eh_i G 3 4)) := eh_keep (by decide) (Or.inl rfl) k1_1
        exact Or.inr (Or.inl ⟨h3, h6, x10, h8, x14, h12, h16, h19, c2, hV4, Xk7, ivk7, Xk9, ivk9, c11, Xk13, ivk13, c15, hV17, Xk20, ivk20, _, _, E, (rfl : eh_V h19 = eh_V h19), (hNk20.trans (hN18.trans (hNk13.trans (hNk9.trans (hNk7.trans hN5))))), ivk20, k21_0, k21_1, k21_2⟩)
      · skip
        have E := E.pu (p := 60) (lo' := (ri_st1 lo 1 (.int (eh_i G 3 4)))) (st' := [.int 0]) rfl (e := (.iconst 0, 1, [], .null)) rfl rfl (fun _ _ => rfl)
        obtain ⟨r1, r2⟩ := E.reti rfl (m := 1) (ax := []) (w := .null) rfl
        exact Or.inr (Or.inr (Or.inl ⟨h3, h6, x10, h8, x14, h12, c2, hV4, Xk7, ivk7, Xk9, ivk9, c11, Xk13, ivk13, c15, r1, ((congrArg eh_V r2).trans (rfl : eh_V h12 = eh_V h12)), ((congrArg eh_N r2).trans (hNk13.trans (hNk9.trans (hNk7.trans hN5)))), ivk13⟩))
  · skip
    have E := E.ld (p := 14) (t := ri_isA) (i := 0) (n := 1) (v := .ref 0) rfl (e := (.aload_n 0, 1, [], .null)) rfl rfl (fun _ _ => rfl) k1_0 rfl
    have E := E.pu (p := 15) (lo' := (ri_st1 lo 1 (.int (eh_i G 3 4)))) (st' := [.int 4, .ref 0]) rfl (e := (.iconst 4, 1, [], .null)) rfl rfl (fun _ _ => rfl)
    obtain ⟨v1, h22, X, E⟩ := E.cv (p := 18) (as := [.int 4]) (b := 0) (r := []) rfl (x := 171) (m := 3) (w := .null) (j := 159) (n := 1) (t := 12) (u := [1507, 40, 1509]) rfl rfl rfl
    rcases sp_159 (d := d + 2) X hV (iv.1) with ⟨rfl, hV23, hN24⟩
    have hV23 : _ = eh_u (eh_u G 0 15 (.int 4)) 0 16 (.int (eh_i G 0 12)) := hV23
    have E : eh_e _ _ 18 (ri_st1 lo 1 (.int (eh_i G 3 4))) [.int 0] _ rs h' := E
    obtain ⟨r1, r2⟩ := E.reti rfl (m := 1) (ax := []) (w := .null) rfl
    exact Or.inr (Or.inr (Or.inr (⟨c2, r1, ((congrArg eh_V r2).trans hV23), ((congrArg eh_N r2).trans hN24), (iM_u (iM_u iv ((iv.1).ui rfl) rfl) (((iv.1).ui rfl).ui rfl) rfl)⟩)))
theorem ml_i {d : Nat} {lo : List (Nat × Value)} {h h' : ri_H} {rs : List Value} {G : eh_W} {b : Nat → Int32} {n m : Nat} {k i : Int32} (E : eh_e (ri_calE ri_md (d + 3)) md_171 80 lo [] h rs h') (hV : eh_V h = G) (iv : iM b n m G) (l0 : ri_lk lo 0 = some (.ref 0)) (l1 : ri_lk lo 1 = some (.int k)) (l2 : ri_lk lo 2 = some (.int i)) : (∃ (h1 : ri_H), ∃ (x17 : Int32), ∃ (h15 : ri_H), ∃ (x22 : Int32), ∃ (h20 : ri_H), ¬ ((eh_i G 0 11) = 3) ∧ (eh_i G 0 11) = 2 ∧ ¬ (i = 8) ∧ eh_V h1 = G ∧ ri_calE ri_md (d + 3) 164 [.ref 0, .int 0, .int ((eh_i G 3 0) - 1)] h1 = some (some (.int x17), h15) ∧ iM b n m (eh_V h15) ∧ ¬ (x17 = 0) ∧ ri_calE ri_md (d + 3) 164 [.ref 0, .int 1, .int 3] h15 = some (some (.int x22), h20) ∧ iM b n m (eh_V h20) ∧ ¬ (x22 = 0) ∧ ∃ hz loz, eh_e (ri_calE ri_md (d + 3)) md_171 80 loz [] hz rs h' ∧ eh_V hz = eh_u (eh_V h20) 3 ((26 + (8 * k)) + i).toNatClampNeg (.int ((10 * (eh_i (eh_V h15) 0 18)) + (eh_i (eh_V h20) 0 18))) ∧ eh_N hz = eh_N h ∧ iM b n m (eh_u (eh_V h20) 3 ((26 + (8 * k)) + i).toNatClampNeg (.int ((10 * (eh_i (eh_V h15) 0 18)) + (eh_i (eh_V h20) 0 18)))) ∧ ri_lk loz 0 = some (.ref 0) ∧ ri_lk loz 1 = some (.int k) ∧ ri_lk loz 2 = some (.int (i + 1)) ∧ ri_lk loz 3 = some (.int (eh_i (eh_V h15) 0 18))) ∨ (∃ (h1 : ri_H), ∃ (x17 : Int32), ∃ (h15 : ri_H), ∃ (x22 : Int32), ∃ (h20 : ri_H), ¬ ((eh_i G 0 11) = 3) ∧ (eh_i G 0 11) = 2 ∧ ¬ (i = 8) ∧ eh_V h1 = G ∧ ri_calE ri_md (d + 3) 164 [.ref 0, .int 0, .int ((eh_i G 3 0) - 1)] h1 = some (some (.int x17), h15) ∧ iM b n m (eh_V h15) ∧ ¬ (x17 = 0) ∧ ri_calE ri_md (d + 3) 164 [.ref 0, .int 1, .int 3] h15 = some (some (.int x22), h20) ∧ iM b n m (eh_V h20) ∧ x22 = 0 ∧ rs = [.int 0] ∧ eh_V h' = (eh_V h20) ∧ eh_N h' = eh_N h ∧ iM b n m (eh_V h20)) ∨ (∃ (h1 : ri_H), ∃ (x17 : Int32), ∃ (h15 : ri_H), ¬ ((eh_i G 0 11) = 3) ∧ (eh_i G 0 11) = 2 ∧ ¬ (i = 8) ∧ eh_V h1 = G ∧ ri_calE ri_md (d + 3) 164 [.ref 0, .int 0, .int ((eh_i G 3 0) - 1)] h1 = some (some (.int x17), h15) ∧ iM b n m (eh_V h15) ∧ x17 = 0 ∧ rs = [.int 0] ∧ eh_V h' = (eh_V h15) ∧ eh_N h' = eh_N h ∧ iM b n m (eh_V h15)) ∨ (¬ ((eh_i G 0 11) = 3) ∧ (eh_i G 0 11) = 2 ∧ i = 8 ∧ rs = [.int 0] ∧ eh_V h' = eh_u (eh_u G 0 15 (.int 4)) 0 16 (.int (eh_i G 0 12)) ∧ eh_N h' = eh_N h ∧ iM b n m (eh_u (eh_u G 0 15 (.int 4)) 0 16 (.int (eh_i G 0 12)))) ∨ (¬ ((eh_i G 0 11) = 3) ∧ ¬ ((eh_i G 0 11) = 2) ∧ rs = [.int 0] ∧ eh_V h' = eh_u (eh_u G 0 15 (.int 1)) 0 16 (.int (eh_i G 0 12)) ∧ eh_N h' = eh_N h ∧ iM b n m (eh_u (eh_u G 0 15 (.int 1)) 0 16 (.int (eh_i G 0 12)))) ∨ ((eh_i G 0 11) = 3 ∧ ¬ ((eh_i G 0 14) = 59) ∧ rs = [.int 0] ∧ eh_V h' = eh_u (eh_u G 0 15 (.int 1)) 0 16 (.int (eh_i G 0 12)) ∧ eh_N h' = eh_N h ∧ iM b n m (eh_u (eh_u G 0 15 (.int 1)) 0 16 (.int (eh_i G 0 12)))) ∨ ((eh_i G 0 11) = 3 ∧ (eh_i G 0 14) = 59 ∧ rs = [.int 1] ∧ eh_V h' = eh_u (eh_u G 3 (18 + k).toNatClampNeg (.int i)) 3 4 (.int ((eh_i (eh_u G 3 (18 + k).toNatClampNeg (.int i)) 3 4) + 1)) ∧ eh_N h' = eh_N h ∧ iM b n m (eh_u (eh_u G 3 (18 + k).toNatClampNeg (.int i)) 3 4 (.int ((eh_i (eh_u G 3 (18 + k).toNatClampNeg (.int i)) 3 4) + 1)))) := by
  have E := E.ld (p := 81) (t := ri_isA) (i := 0) (n := 1) (v := .ref 0) rfl (e := (.aload_n 0, 1, [], .null)) rfl rfl (fun _ _ => rfl) l0 rfl
  have E := E.pu (p := 83) (lo' := lo) (st' := [.int 59, .ref 0]) rfl (e := (.bipush 59, 2, [], .null)) rfl rfl (fun _ _ => rfl)
  obtain ⟨v1, h1, X, E⟩ := E.cv (p := 86) (as := [.int 59]) (b := 0) (r := []) rfl (x := 168) (m := 3) (w := .null) (j := 161) (n := 1) (t := 12) (u := [1542, 48, 1544]) rfl rfl rfl
  rcases sp_161 (d := d + 2) X hV (iv.1) with ⟨c2, rfl, hV3, hN4⟩ | ⟨c5, c6, rfl, hV7, hN8⟩ | ⟨c9, c10, rfl, hV11, hN12⟩
  · skip
    have c2 : ¬ ((eh_i G 0 11) = 3) := c2
    have E : eh_e _ _ 86 lo [.int 0] _ rs h' := E
    have E := E.brf (p := 89) (c := 1) (tgt := 178) (a := 0) (b := 0) (st' := []) rfl (e := (.ifCond .ne 92, 3, [178], .null)) rfl rfl (fun _ _ => rfl) (by decide) rfl
    have E := E.ld (p := 90) (t := ri_isA) (i := 0) (n := 1) (v := .ref 0) rfl (e := (.aload_n 0, 1, [], .null)) rfl rfl (fun _ _ => rfl) l0 rfl
    have E := E.gi (y := eh_i G 0 11) (p := 93) rfl (x := 145) (m := 3) (w := .null) (t := 12) (i := 11) (u := 1335) rfl rfl hV3 (iv.1) rfl rfl
    have E := E.pu (p := 94) (lo' := lo) (st' := [.int 2, .int (eh_i G 0 11)]) rfl (e := (.iconst 2, 1, [], .null)) rfl rfl (fun _ _ => rfl)
    rcases eh_q0 (E.br (p := 97) (c := 0) (tgt := 103) (a := eh_i G 0 11) (b := 2) (st' := []) rfl (e := (.if_icmp .eq 9, 3, [103], .null)) rfl rfl (fun _ _ => rfl) rfl) with ⟨c13, E⟩ | ⟨c13, E⟩
    · skip
      have E := E.ld (p := 104) (t := ri_isI) (i := 2) (n := 1) (v := .int i) rfl (e := (.iload_n 2, 1, [], .null)) rfl rfl (fun _ _ => rfl) l2 rfl
      have E := E.pu (p := 106) (lo' := lo) (st' := [.int 8, .int i]) rfl (e := (.bipush 8, 2, [], .null)) rfl rfl (fun _ _ => rfl)
      rcases eh_q1 (E.br (p := 109) (c := 1) (tgt := 115) (a := i) (b := 8) (st' := []) rfl (e := (.if_icmp .ne 9, 3, [115], .null)) rfl rfl (fun _ _ => rfl) rfl) with ⟨c14, E⟩ | ⟨c14, E⟩
      · skip
        have E := E.ld (p := 116) (t := ri_isA) (i := 0) (n := 1) (v := .ref 0) rfl (e := (.aload_n 0, 1, [], .null)) rfl rfl (fun _ _ => rfl) l0 rfl
        have E := E.pu (p := 117) (lo' := lo) (st' := [.int 0, .ref 0]) rfl (e := (.iconst 0, 1, [], .null)) rfl rfl (fun _ _ => rfl)
        have E := E.ld (p := 118) (t := ri_isA) (i := 0) (n := 1) (v := .ref 0) rfl (e := (.aload_n 0, 1, [], .null)) rfl rfl (fun _ _ => rfl) l0 rfl
        have E := E.gr (n := 3) (p := 121) rfl (x := 37) (m := 3) (w := .null) (t := 12) (i := 7) (u := 1331) rfl rfl hV3 (iv.1) rfl
        have E := E.pu (p := 122) (lo' := lo) (st' := [.int 0, .ref 3, .int 0, .ref 0]) rfl (e := (.iconst 0, 1, [], .null)) rfl rfl (fun _ _ => rfl)
        have E := E.ai (p := 123) (z := eh_i G 3 0) (n := 0) rfl (e := (.iaload, 1, [], .null)) rfl rfl (fun _ _ => rfl) rfl hV3 (iv.1) (by decide) rfl rfl
        have E := E.pu (p := 124) (lo' := lo) (st' := [.int 1, .int (eh_i G 3 0), .int 0, .ref 0]) rfl (e := (.iconst 1, 1, [], .null)) rfl rfl (fun _ _ => rfl)
        have E := E.pu (p := 125) (lo' := lo) (st' := [.int ((eh_i G 3 0) - 1), .int 0, .ref 0]) rfl (e := (.isub, 1, [], .null)) rfl rfl (fun _ _ => rfl)
        obtain ⟨v1, h15, X, E⟩ := E.cv (p := 128) (as := [.int 0, .int ((eh_i G 3 0) - 1)]) (b := 0) (r := []) rfl (x := 184) (m := 3) (w := .null) (j := 164) (n := 2) (t := 12) (u := [1515, 42, 1517]) rfl rfl rfl
        obtain ⟨x17, rfl, ivk16, hNk16⟩ := tp_164 (d := d) X (by rw [hV3]; exact iv)
        have Xk16 := X
        have E : eh_e _ _ 128 lo [.int x17] h15 rs h' := E
        rcases eh_q1 (E.br (p := 131) (c := 1) (tgt := 133) (a := x17) (b := 0) (st' := []) rfl (e := (.ifCond .ne 5, 3, [133], .null)) rfl rfl (fun _ _ => rfl) rfl) with ⟨c18, E⟩ | ⟨c18, E⟩
        · skip
          have E := E.ld (p := 134) (t := ri_isA) (i := 0) (n := 1) (v := .ref 0) rfl (e := (.aload_n 0, 1, [], .null)) rfl rfl (fun _ _ => rfl) l0 rfl
          have E := E.gi (y := eh_i (eh_V h15) 0 18) (p := 137) rfl (x := 181) (m := 3) (w := .null) (t := 12) (i := 18) (u := 1342) rfl rfl (rfl : eh_V h15 = eh_V h15) ivk16.1 rfl rfl
          have E := E.so (p := 138) (t := ri_isI) (i := 3) (n := 1) rfl (e := (.istore_n 3, 1, [], .null)) rfl rfl (fun _ _ => rfl) rfl
          have k19_3 : ri_lk (ri_st1 lo 3 (.int (eh_i (eh_V h15) 0 18))) 3 = some (.int (eh_i (eh_V h15) 0 18)) := eh_self
          have k19_0 : ri_lk (ri_st1 lo 3 (.int (eh_i (eh_V h15) 0 18))) 0 = some (.ref 0) := eh_keep (by decide) (Or.inl rfl) l0
          have k19_1 : ri_lk (ri_st1 lo 3 (.int (eh_i (eh_V h15) 0 18))) 1 = some (.int k) := eh_keep (by decide) (Or.inl rfl) l1
          have k19_2 : ri_lk (ri_st1 lo 3 (.int (eh_i (eh_V h15) 0 18))) 2 = some (.int i) := eh_keep (by decide) (Or.inl rfl) l2
          have E := E.ld (p := 139) (t := ri_isA) (i := 0) (n := 1) (v := .ref 0) rfl (e := (.aload_n 0, 1, [], .null)) rfl rfl (fun _ _ => rfl) k19_0 rfl
          have E := E.pu (p := 140) (lo' := (ri_st1 lo 3 (.int (eh_i (eh_V h15) 0 18)))) (st' := [.int 1, .ref 0]) rfl (e := (.iconst 1, 1, [], .null)) rfl rfl (fun _ _ => rfl)
          have E := E.pu (p := 141) (lo' := (ri_st1 lo 3 (.int (eh_i (eh_V h15) 0 18)))) (st' := [.int 3, .int 1, .ref 0]) rfl (e := (.iconst 3, 1, [], .null)) rfl rfl (fun _ _ => rfl)
          obtain ⟨v1, h20, X, E⟩ := E.cv (p := 144) (as := [.int 1, .int 3]) (b := 0) (r := []) rfl (x := 184) (m := 3) (w := .null) (j := 164) (n := 2) (t := 12) (u := [1515, 42, 1517]) rfl rfl rfl
          obtain ⟨x22, rfl, ivk21, hNk21⟩ := tp_164 (d := d) X (by rw [(rfl : eh_V h15 = eh_V h15)]; exact ivk16)
          have Xk21 := X
          have E : eh_e _ _ 144 (ri_st1 lo 3 (.int (eh_i (eh_V h15) 0 18))) [.int x22] h20 rs h' := E
          rcases eh_q1 (E.br (p := 147) (c := 1) (tgt := 149) (a := x22) (b := 0) (st' := []) rfl (e := (.ifCond .ne 5, 3, [149], .null)) rfl rfl (fun _ _ => rfl) rfl) with ⟨c23, E⟩ | ⟨c23, E⟩
          · skip
            have E := E.ld (p := 150) (t := ri_isA) (i := 0) (n := 1) (v := .ref 0) rfl (e := (.aload_n 0, 1, [], .null)) rfl rfl (fun _ _ => rfl) k19_0 rfl
            have E := E.gr (n := 3) (p := 153) rfl (x := 37) (m := 3) (w := .null) (t := 12) (i := 7) (u := 1331) rfl rfl (rfl : eh_V h20 = eh_V h20) ivk21.1 rfl
            have E := E.pu (p := 155) (lo' := (ri_st1 lo 3 (.int (eh_i (eh_V h15) 0 18)))) (st' := [.int 26, .ref 3]) rfl (e := (.bipush 26, 2, [], .null)) rfl rfl (fun _ _ => rfl)
            have E := E.pu (p := 157) (lo' := (ri_st1 lo 3 (.int (eh_i (eh_V h15) 0 18)))) (st' := [.int 8, .int 26, .ref 3]) rfl (e := (.bipush 8, 2, [], .null)) rfl rfl (fun _ _ => rfl)
            have E := E.ld (p := 158) (t := ri_isI) (i := 1) (n := 1) (v := .int k) rfl (e := (.iload_n 1, 1, [], .null)) rfl rfl (fun _ _ => rfl) k19_1 rfl
            have E := E.pu (p := 159) (lo' := (ri_st1 lo 3 (.int (eh_i (eh_V h15) 0 18)))) (st' := [.int (8 * k), .int 26, .ref 3]) rfl (e := (.imul, 1, [], .null)) rfl rfl (fun _ _ => rfl)
            have E := E.pu (p := 160) (lo' := (ri_st1 lo 3 (.int (eh_i (eh_V h15) 0 18)))) (st' := [.int (26 + (8 * k)), .ref 3]) rfl (e := (.iadd, 1, [], .null)) rfl rfl (fun _ _ => rfl)
            have E := E.ld (p := 161) (t := ri_isI) (i := 2) (n := 1) (v := .int i) rfl (e := (.iload_n 2, 1, [], .null)) rfl rfl (fun _ _ => rfl) k19_2 rfl
            have E := E.pu (p := 162) (lo' := (ri_st1 lo 3 (.int (eh_i (eh_V h15) 0 18)))) (st' := [.int ((26 + (8 * k)) + i), .ref 3]) rfl (e := (.iadd, 1, [], .null)) rfl rfl (fun _ _ => rfl)
            have E := E.pu (p := 164) (lo' := (ri_st1 lo 3 (.int (eh_i (eh_V h15) 0 18)))) (st' := [.int 10, .int ((26 + (8 * k)) + i), .ref 3]) rfl (e := (.bipush 10, 2, [], .null)) rfl rfl (fun _ _ => rfl)
            have E := E.ld (p := 165) (t := ri_isI) (i := 3) (n := 1) (v := .int (eh_i (eh_V h15) 0 18)) rfl (e := (.iload_n 3, 1, [], .null)) rfl rfl (fun _ _ => rfl) k19_3 rfl
            have E := E.pu (p := 166) (lo' := (ri_st1 lo 3 (.int (eh_i (eh_V h15) 0 18)))) (st' := [.int (10 * (eh_i (eh_V h15) 0 18)), .int ((26 + (8 * k)) + i), .ref 3]) rfl (e := (.imul, 1, [], .null)) rfl rfl (fun _ _ => rfl)
            have E := E.ld (p := 167) (t := ri_isA) (i := 0) (n := 1) (v := .ref 0) rfl (e := (.aload_n 0, 1, [], .null)) rfl rfl (fun _ _ => rfl) k19_0 rfl
            have E := E.gi (y := eh_i (eh_V h20) 0 18) (p := 170) rfl (x := 181) (m := 3) (w := .null) (t := 12) (i := 18) (u := 1342) rfl rfl (rfl : eh_V h20 = eh_V h20) ivk21.1 rfl rfl
            have E := E.pu (p := 171) (lo' := (ri_st1 lo 3 (.int (eh_i (eh_V h15) 0 18)))) (st' := [.int ((10 * (eh_i (eh_V h15) 0 18)) + (eh_i (eh_V h20) 0 18)), .int ((26 + (8 * k)) + i), .ref 3]) rfl (e := (.iadd, 1, [], .null)) rfl rfl (fun _ _ => rfl)
            obtain ⟨h24, hV25, hN26, E⟩ := E.aw (gg := ri_g1) (b := true) (p := 172) (n := ((26 + (8 * k)) + i).toNatClampNeg) rfl (e := (.iastore, 1, [], .null)) rfl rfl (fun _ _ => rfl) rfl (rfl : eh_V h20 = eh_V h20) rfl
            have E := E.ii (p := 175) (y := i + 1) rfl (i := 2) (n := 1) (m := 3) (ax := []) (w := .null) rfl k19_2 rfl rfl
            have k27_2 : ri_lk (ri_st1 (ri_st1 lo 3 (.int (eh_i (eh_V h15) 0 18))) 2 (.int (i + 1))) 2 = some (.int (i + 1)) := eh_self
            have k27_0 : ri_lk (ri_st1 (ri_st1 lo 3 (.int (eh_i (eh_V h15) 0 18))) 2 (.int (i + 1))) 0 = some (.ref 0) := eh_keep (by decide) (Or.inl rfl) k19_0
            have k27_1 : ri_lk (ri_st1 (ri_st1 lo 3 (.int (eh_i (eh_V h15) 0 18))) 2 (.int (i + 1))) 1 = some (.int k) := eh_keep (by decide) (Or.inl rfl) k19_1
            have k27_3 : ri_lk (ri_st1 (ri_st1 lo 3 (.int (eh_i (eh_V h15) 0 18))) 2 (.int (i + 1))) 3 = some (.int (eh_i (eh_V h15) 0 18)) := eh_keep (by decide) (Or.inl rfl) k19_3
            have E := E.pu (p := 80) (lo' := (ri_st1 (ri_st1 lo 3 (.int (eh_i (eh_V h15) 0 18))) 2 (.int (i + 1)))) (st' := []) rfl (e := (.goto (-95), 3, [80], .null)) rfl rfl (fun _ _ => rfl)
            exact Or.inl ⟨h1, x17, h15, x22, h20, c2, c13, c14, hV3, Xk16, ivk16, c18, Xk21, ivk21, c23, _, _, E, hV25, (hN26.trans (hNk21.trans (hNk16.trans hN4))), (iM_u ivk21 (ivk21.1.ui rfl) rfl), k27_0, k27_1, k27_2, k27_3⟩
          · skip
            have E := E.pu (p := 148) (lo' := (ri_st1 lo 3 (.int (eh_i (eh_V h15) 0 18)))) (st' := [.int 0]) rfl (e := (.iconst 0, 1, [], .null)) rfl rfl (fun _ _ => rfl)
            obtain ⟨r1, r2⟩ := E.reti rfl (m := 1) (ax := []) (w := .null) rfl
            exact Or.inr (Or.inl ⟨h1, x17, h15, x22, h20, c2, c13, c14, hV3, Xk16, ivk16, c18, Xk21, ivk21, c23, r1, ((congrArg eh_V r2).trans (rfl : eh_V h20 = eh_V h20)), ((congrArg eh_N r2).trans (hNk21.trans (hNk16.trans hN4))), ivk21⟩)
        · skip
          have E := E.pu (p := 132) (lo' := lo) (st' := [.int 0]) rfl (e := (.iconst 0, 1, [], .null)) rfl rfl (fun _ _ => rfl)
          obtain ⟨r1, r2⟩ := E.reti rfl (m := 1) (ax := []) (w := .null) rfl
          exact Or.inr (Or.inr (Or.inl ⟨h1, x17, h15, c2, c13, c14, hV3, Xk16, ivk16, c18, r1, ((congrArg eh_V r2).trans (rfl : eh_V h15 = eh_V h15)), ((congrArg eh_N r2).trans (hNk16.trans hN4)), ivk16⟩))
      · skip
        have E := E.ld (p := 110) (t := ri_isA) (i := 0) (n := 1) (v := .ref 0) rfl (e := (.aload_n 0, 1, [], .null)) rfl rfl (fun _ _ => rfl) l0 rfl
        have E := E.pu (p := 111) (lo' := lo) (st' := [.int 4, .ref 0]) rfl (e := (.iconst 4, 1, [], .null)) rfl rfl (fun _ _ => rfl)
        obtain ⟨v1, h28, X, E⟩ := E.cv (p := 114) (as := [.int 4]) (b := 0) (r := []) rfl (x := 171) (m := 3) (w := .null) (j := 159) (n := 1) (t := 12) (u := [1507, 40, 1509]) rfl rfl rfl
        rcases sp_159 (d := d + 2) X hV3 (iv.1) with ⟨rfl, hV29, hN30⟩
        have hV29 : _ = eh_u (eh_u G 0 15 (.int 4)) 0 16 (.int (eh_i G 0 12)) := hV29
        have E : eh_e _ _ 114 lo [.int 0] _ rs h' := E
        obtain ⟨r1, r2⟩ := E.reti rfl (m := 1) (ax := []) (w := .null) rfl
        exact Or.inr (Or.inr (Or.inr (Or.inl ⟨c2, c13, c14, r1, ((congrArg eh_V r2).trans hV29), ((congrArg eh_N r2).trans (hN30.trans hN4)), (iM_u (iM_u iv ((iv.1).ui rfl) rfl) (((iv.1).ui rfl).ui rfl) rfl)⟩)))
    · skip
      have E := E.ld (p := 98) (t := ri_isA) (i := 0) (n := 1) (v := .ref 0) rfl (e := (.aload_n 0, 1, [], .null)) rfl rfl (fun _ _ => rfl) l0 rfl
      have E := E.pu (p := 99) (lo' := lo) (st' := [.int 1, .ref 0]) rfl (e := (.iconst 1, 1, [], .null)) rfl rfl (fun _ _ => rfl)
      obtain ⟨v1, h31, X, E⟩ := E.cv (p := 102) (as := [.int 1]) (b := 0) (r := []) rfl (x := 171) (m := 3) (w := .null) (j := 159) (n := 1) (t := 12) (u := [1507, 40, 1509]) rfl rfl rfl
      rcases sp_159 (d := d + 2) X hV3 (iv.1) with ⟨rfl, hV32, hN33⟩
      have hV32 : _ = eh_u (eh_u G 0 15 (.int 1)) 0 16 (.int (eh_i G 0 12)) := hV32
      have E : eh_e _ _ 102 lo [.int 0] _ rs h' := E
      obtain ⟨r1, r2⟩ := E.reti rfl (m := 1) (ax := []) (w := .null) rfl
      exact Or.inr (Or.inr (Or.inr (Or.inr (Or.inl ⟨c2, c13, r1, ((congrArg eh_V r2).trans hV32), ((congrArg eh_N r2).trans (hN33.trans hN4)), (iM_u (iM_u iv ((iv.1).ui rfl) rfl) (((iv.1).ui rfl).ui rfl) rfl)⟩))))
  · skip
    have c5 : (eh_i G 0 11) = 3 := c5
    have c6 : ¬ ((eh_i G 0 14) = 59) := c6
    have E : eh_e _ _ 86 lo [.int 0] _ rs h' := E
    have E := E.brf (p := 89) (c := 1) (tgt := 178) (a := 0) (b := 0) (st' := []) rfl (e := (.ifCond .ne 92, 3, [178], .null)) rfl rfl (fun _ _ => rfl) (by decide) rfl
    have E := E.ld (p := 90) (t := ri_isA) (i := 0) (n := 1) (v := .ref 0) rfl (e := (.aload_n 0, 1, [], .null)) rfl rfl (fun _ _ => rfl) l0 rfl
    have E := E.gi (y := eh_i G 0 11) (p := 93) rfl (x := 145) (m := 3) (w := .null) (t := 12) (i := 11) (u := 1335) rfl rfl hV7 (iv.1) rfl rfl
    have E := E.pu (p := 94) (lo' := lo) (st' := [.int 2, .int (eh_i G 0 11)]) rfl (e := (.iconst 2, 1, [], .null)) rfl rfl (fun _ _ => rfl)
    have E := (eh_q0 (E.br (p := 97) (c := 0) (tgt := 103) (a := eh_i G 0 11) (b := 2) (st' := []) rfl (e := (.if_icmp .eq 9, 3, [103], .null)) rfl rfl (fun _ _ => rfl) rfl)).elim (fun y => absurd y.1 (by rw [c5]; decide)) (fun y => y.2)
    have E := E.ld (p := 98) (t := ri_isA) (i := 0) (n := 1) (v := .ref 0) rfl (e := (.aload_n 0, 1, [], .null)) rfl rfl (fun _ _ => rfl) l0 rfl
    have E := E.pu (p := 99) (lo' := lo) (st' := [.int 1, .ref 0]) rfl (e := (.iconst 1, 1, [], .null)) rfl rfl (fun _ _ => rfl)
    obtain ⟨v1, h34, X, E⟩ := E.cv (p := 102) (as := [.int 1]) (b := 0) (r := []) rfl (x := 171) (m := 3) (w := .null) (j := 159) (n := 1) (t := 12) (u := [1507, 40, 1509]) rfl rfl rfl
    rcases sp_159 (d := d + 2) X hV7 (iv.1) with ⟨rfl, hV35, hN36⟩
    have hV35 : _ = eh_u (eh_u G 0 15 (.int 1)) 0 16 (.int (eh_i G 0 12)) := hV35
    have E : eh_e _ _ 102 lo [.int 0] _ rs h' := E
    obtain ⟨r1, r2⟩ := E.reti rfl (m := 1) (ax := []) (w := .null) rfl
    exact Or.inr (Or.inr (Or.inr (Or.inr (Or.inr (Or.inl ⟨c5, c6, r1, ((congrArg eh_V r2).trans hV35), ((congrArg eh_N r2).trans (hN36.trans hN8)), (iM_u (iM_u iv ((iv.1).ui rfl) rfl) (((iv.1).ui rfl).ui rfl) rfl)⟩)))))
  · skip
    have c9 : (eh_i G 0 11) = 3 := c9
    have c10 : (eh_i G 0 14) = 59 := c10
    have E : eh_e _ _ 86 lo [.int 1] _ rs h' := E
    have E := E.brt (c := 1) (tgt := 178) (a := 1) (b := 0) (st' := []) rfl (e := (.ifCond .ne 92, 3, [178], .null)) rfl rfl (fun _ _ => rfl) (by decide)
    have E := E.ld (p := 179) (t := ri_isA) (i := 0) (n := 1) (v := .ref 0) rfl (e := (.aload_n 0, 1, [], .null)) rfl rfl (fun _ _ => rfl) l0 rfl
    have E := E.gr (n := 3) (p := 182) rfl (x := 37) (m := 3) (w := .null) (t := 12) (i := 7) (u := 1331) rfl rfl hV11 (iv.1) rfl
    have E := E.pu (p := 184) (lo' := lo) (st' := [.int 18, .ref 3]) rfl (e := (.bipush 18, 2, [], .null)) rfl rfl (fun _ _ => rfl)
    have E := E.ld (p := 185) (t := ri_isI) (i := 1) (n := 1) (v := .int k) rfl (e := (.iload_n 1, 1, [], .null)) rfl rfl (fun _ _ => rfl) l1 rfl
    have E := E.pu (p := 186) (lo' := lo) (st' := [.int (18 + k), .ref 3]) rfl (e := (.iadd, 1, [], .null)) rfl rfl (fun _ _ => rfl)
    have E := E.ld (p := 187) (t := ri_isI) (i := 2) (n := 1) (v := .int i) rfl (e := (.iload_n 2, 1, [], .null)) rfl rfl (fun _ _ => rfl) l2 rfl
    obtain ⟨h37, hV38, hN39, E⟩ := E.aw (gg := ri_g1) (b := true) (p := 188) (n := (18 + k).toNatClampNeg) rfl (e := (.iastore, 1, [], .null)) rfl rfl (fun _ _ => rfl) rfl hV11 rfl
    have E := E.ld (p := 189) (t := ri_isA) (i := 0) (n := 1) (v := .ref 0) rfl (e := (.aload_n 0, 1, [], .null)) rfl rfl (fun _ _ => rfl) l0 rfl
    have E := E.gr (n := 3) (p := 192) rfl (x := 37) (m := 3) (w := .null) (t := 12) (i := 7) (u := 1331) rfl rfl hV38 ((iv.1).ui rfl) rfl
    have E := E.pu (p := 193) (lo' := lo) (st' := [.int 4, .ref 3]) rfl (e := (.iconst 4, 1, [], .null)) rfl rfl (fun _ _ => rfl)
    have E := E.pu (p := 194) (lo' := lo) (st' := [.int 4, .ref 3, .int 4, .ref 3]) rfl (e := (.dup2, 1, [], .null)) rfl rfl (fun _ _ => rfl)
    have E := E.ai (p := 195) (z := eh_i (eh_u G 3 (18 + k).toNatClampNeg (.int i)) 3 4) (n := 4) rfl (e := (.iaload, 1, [], .null)) rfl rfl (fun _ _ => rfl) rfl hV38 ((iv.1).ui rfl) (by decide) rfl rfl
    have E := E.pu (p := 196) (lo' := lo) (st' := [.int 1, .int (eh_i (eh_u G 3 (18 + k).toNatClampNeg (.int i)) 3 4), .int 4, .ref 3]) rfl (e := (.iconst 1, 1, [], .null)) rfl rfl (fun _ _ => rfl)
    have E := E.pu (p := 197) (lo' := lo) (st' := [.int ((eh_i (eh_u G 3 (18 + k).toNatClampNeg (.int i)) 3 4) + 1), .int 4, .ref 3]) rfl (e := (.iadd, 1, [], .null)) rfl rfl (fun _ _ => rfl)
    obtain ⟨h40, hV41, hN42, E⟩ := E.aw (gg := ri_g1) (b := true) (p := 198) (n := 4) rfl (e := (.iastore, 1, [], .null)) rfl rfl (fun _ _ => rfl) rfl hV38 (by decide)
    have E := E.pu (p := 199) (lo' := lo) (st' := [.int 1]) rfl (e := (.iconst 1, 1, [], .null)) rfl rfl (fun _ _ => rfl)
    obtain ⟨r1, r2⟩ := E.reti rfl (m := 1) (ax := []) (w := .null) rfl
    exact Or.inr (Or.inr (Or.inr (Or.inr (Or.inr (Or.inr (⟨c9, c10, r1, ((congrArg eh_V r2).trans hV41), ((congrArg eh_N r2).trans (hN42.trans (hN39.trans hN12))), (iM_u (iM_u iv ((iv.1).ui rfl) rfl) (((iv.1).ui rfl).ui rfl) rfl)⟩))))))
