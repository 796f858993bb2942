theorem zs_84 {d : Nat} {h h' : ri_H} {v : Option Value} {G : eh_W} {b : Nat → Int32} {n m : Nat} {so : Int32} (E : ri_calE ri_md (d + 3) 84 [.ref 2, .ref 23, .int so] h = some (v, h')) (hV : eh_V h = G) (iv : iS b n m G) : (∃ (x3 : Int32), (eh_i G 2 5) = 3 ∧ fd_C G 23 32 (eh_l G 2 8) x3 ∧ x3 = (-1) ∧ v = some (.int (-1)) ∧ eh_V h' = eh_u (eh_u G 2 9 (.int 3)) 2 10 (.int (eh_i G 2 6)) ∧ eh_N h' = eh_N h ∧ iS b n m (eh_u (eh_u G 2 9 (.int 3)) 2 10 (.int (eh_i G 2 6)))) ∨ (∃ (x3 : Int32), ∃ (h2 : ri_H), ∃ (h13 : ri_H), (eh_i G 2 5) = 3 ∧ fd_C G 23 32 (eh_l G 2 8) x3 ∧ ¬ (x3 = (-1)) ∧ (eh_i G 33 (x3).toNatClampNeg) = so ∧ eh_V h2 = G ∧ ri_calE ri_md (d + 2) 74 [.ref 2] h2 = some (none, h13) ∧ iS b n m (eh_V h13) ∧ v = some (.int (eh_i (eh_V h13) 34 (x3).toNatClampNeg)) ∧ eh_V h' = (eh_V h13) ∧ eh_N h' = eh_N h ∧ iS b n m (eh_V h13)) ∨ (∃ (x3 : Int32), (eh_i G 2 5) = 3 ∧ fd_C G 23 32 (eh_l G 2 8) x3 ∧ ¬ (x3 = (-1)) ∧ ¬ ((eh_i G 33 (x3).toNatClampNeg) = so) ∧ v = some (.int (-1)) ∧ eh_V h' = eh_u (eh_u G 2 9 (.int 3)) 2 10 (.int (eh_i G 2 6)) ∧ eh_N h' = eh_N h ∧ iS b n m (eh_u (eh_u G 2 9 (.int 3)) 2 10 (.int (eh_i G 2 6)))) ∨ (¬ ((eh_i G 2 5) = 3) ∧ v = some (.int (-1)) ∧ eh_V h' = eh_u (eh_u G 2 9 (.int 1)) 2 10 (.int (eh_i G 2 6)) ∧ eh_N h' = eh_N h ∧ iS b n m (eh_u (eh_u G 2 9 (.int 1)) 2 10 (.int (eh_i G 2 6)))) := by
  obtain ⟨rs, hrs, E⟩ := eh_in E (q := md_84) rfl
  have E := E.ld (p := 1) (t := ri_isA) (i := 0) (n := 1) (v := .ref 2) rfl (e := (.aload_n 0, 1, [], .null)) rfl rfl (fun _ _ => rfl) rfl rfl
  have E := E.gi (y := eh_i G 2 5) (p := 4) rfl (x := 25) (m := 3) (w := .null) (t := 8) (i := 5) (u := 192) rfl rfl hV (iv.1) rfl rfl
  have E := E.pu (p := 5) (lo' := (ri_as 0 [.ref 2, .ref 23, .int so])) (st' := [.int 3, .int (eh_i G 2 5)]) rfl (e := (.iconst 3, 1, [], .null)) rfl rfl (fun _ _ => rfl)
  rcases eh_q0 (E.br (p := 8) (c := 0) (tgt := 16) (a := eh_i G 2 5) (b := 3) (st' := []) rfl (e := (.if_icmp .eq 11, 3, [16], .null)) rfl rfl (fun _ _ => rfl) rfl) with ⟨c1, E⟩ | ⟨c1, E⟩
  · skip
    have E := E.ld (p := 17) (t := ri_isA) (i := 1) (n := 1) (v := .ref 23) rfl (e := (.aload_n 1, 1, [], .null)) rfl rfl (fun _ _ => rfl) rfl rfl
    have E := E.ld (p := 18) (t := ri_isA) (i := 0) (n := 1) (v := .ref 2) rfl (e := (.aload_n 0, 1, [], .null)) rfl rfl (fun _ _ => rfl) rfl rfl
    have E := E.gl (y := eh_l G 2 8) (p := 21) rfl (x := 34) (m := 3) (w := .null) (t := 8) (i := 8) (u := 201) rfl rfl hV (iv.1) rfl rfl
    obtain ⟨v1, h2, X, E⟩ := E.cv (p := 24) (as := [.long (eh_l G 2 8)]) (b := 23) (r := []) rfl (x := 90) (m := 3) (w := .null) (j := 29) (n := 1) (t := 4) (u := [701, 685, 684]) rfl rfl rfl
    rcases sp_29_23 (d := d + 1) X hV (iv.1) with ⟨x3, c4, rfl, hV5, hN6⟩
    have c4 : fd_C G 23 32 (eh_l G 2 8) x3 := c4
    have E : eh_e _ _ 24 (ri_as 0 [.ref 2, .ref 23, .int so]) [.int x3] _ rs h' := E
    have E := E.so (p := 25) (t := ri_isI) (i := 3) (n := 1) rfl (e := (.istore_n 3, 1, [], .null)) rfl rfl (fun _ _ => rfl) rfl
    have k7_3 : ri_lk (ri_st1 (ri_as 0 [.ref 2, .ref 23, .int so]) 3 (.int x3)) 3 = some (.int x3) := eh_self
    have k7_0 : ri_lk (ri_st1 (ri_as 0 [.ref 2, .ref 23, .int so]) 3 (.int x3)) 0 = some (.ref 2) := eh_keep (by decide) (Or.inl rfl) rfl
    have k7_1 : ri_lk (ri_st1 (ri_as 0 [.ref 2, .ref 23, .int so]) 3 (.int x3)) 1 = some (.ref 23) := eh_keep (by decide) (Or.inl rfl) rfl
    have k7_2 : ri_lk (ri_st1 (ri_as 0 [.ref 2, .ref 23, .int so]) 3 (.int x3)) 2 = some (.int so) := eh_keep (by decide) (Or.inl rfl) rfl
    have E := E.ld (p := 26) (t := ri_isI) (i := 3) (n := 1) (v := .int x3) rfl (e := (.iload_n 3, 1, [], .null)) rfl rfl (fun _ _ => rfl) k7_3 rfl
    have E := E.pu (p := 27) (lo' := (ri_st1 (ri_as 0 [.ref 2, .ref 23, .int so]) 3 (.int x3))) (st' := [.int (-1), .int x3]) rfl (e := (.iconst (-1), 1, [], .null)) rfl rfl (fun _ _ => rfl)
    rcases eh_q0 (E.br (p := 30) (c := 0) (tgt := 40) (a := x3) (b := (-1)) (st' := []) rfl (e := (.if_icmp .eq 13, 3, [40], .null)) rfl rfl (fun _ _ => rfl) rfl) with ⟨c8, E⟩ | ⟨c8, E⟩
    · skip
      have E := E.ld (p := 41) (t := ri_isA) (i := 0) (n := 1) (v := .ref 2) rfl (e := (.aload_n 0, 1, [], .null)) rfl rfl (fun _ _ => rfl) k7_0 rfl
      have E := E.pu (p := 42) (lo' := (ri_st1 (ri_as 0 [.ref 2, .ref 23, .int so]) 3 (.int x3))) (st' := [.int 3, .ref 2]) rfl (e := (.iconst 3, 1, [], .null)) rfl rfl (fun _ _ => rfl)
      obtain ⟨v1, h9, X, E⟩ := E.cv (p := 45) (as := [.int 3]) (b := 2) (r := []) rfl (x := 84) (m := 3) (w := .null) (j := 78) (n := 1) (t := 8) (u := [700, 678, 677]) rfl rfl rfl
      rcases sp_78 (d := d + 1) X hV5 (iv.1) with ⟨rfl, hV10, hN11⟩
      have hV10 : _ = eh_u (eh_u G 2 9 (.int 3)) 2 10 (.int (eh_i G 2 6)) := hV10
      have E : eh_e _ _ 45 (ri_st1 (ri_as 0 [.ref 2, .ref 23, .int so]) 3 (.int x3)) [.int 0] _ rs h' := E
      have E := E.pu (p := 46) (lo' := (ri_st1 (ri_as 0 [.ref 2, .ref 23, .int so]) 3 (.int x3))) (st' := []) rfl (e := (.pop, 1, [], .null)) rfl rfl (fun _ _ => rfl)
      have E := E.pu (p := 47) (lo' := (ri_st1 (ri_as 0 [.ref 2, .ref 23, .int so]) 3 (.int x3))) (st' := [.int (-1)]) rfl (e := (.iconst (-1), 1, [], .null)) rfl rfl (fun _ _ => rfl)
      obtain ⟨r1, r2⟩ := E.reti rfl (m := 1) (ax := []) (w := .null) rfl
      exact Or.inl ⟨x3, c1, c4, c8, (by rw [← hrs, r1]; rfl), ((congrArg eh_V r2).trans hV10), ((congrArg eh_N r2).trans (hN11.trans hN6)), (iS_u (iS_u iv ((iv.1).ui rfl) rfl) (((iv.1).ui rfl).ui rfl) rfl)⟩
    · skip
      have E := E.ld (p := 31) (t := ri_isA) (i := 1) (n := 1) (v := .ref 23) rfl (e := (.aload_n 1, 1, [], .null)) rfl rfl (fun _ _ => rfl) k7_1 rfl
      have E := E.gr (n := 33) (p := 34) rfl (x := 95) (m := 3) (w := .null) (t := 4) (i := 10) (u := 289) rfl rfl hV5 (iv.1) rfl
      have E := E.ld (p := 35) (t := ri_isI) (i := 3) (n := 1) (v := .int x3) rfl (e := (.iload_n 3, 1, [], .null)) rfl rfl (fun _ _ => rfl) k7_3 rfl
      have E := E.ai (p := 36) (z := eh_i G 33 (x3).toNatClampNeg) (n := (x3).toNatClampNeg) rfl (e := (.iaload, 1, [], .null)) rfl rfl (fun _ _ => rfl) rfl hV5 (iv.1) rfl rfl rfl
      have E := E.ld (p := 37) (t := ri_isI) (i := 2) (n := 1) (v := .int so) rfl (e := (.iload_n 2, 1, [], .null)) rfl rfl (fun _ _ => rfl) k7_2 rfl
      rcases eh_q0 (E.br (p := 40) (c := 0) (tgt := 48) (a := eh_i G 33 (x3).toNatClampNeg) (b := so) (st' := []) rfl (e := (.if_icmp .eq 11, 3, [48], .null)) rfl rfl (fun _ _ => rfl) rfl) with ⟨c12, E⟩ | ⟨c12, E⟩
      · skip
        have E := E.ld (p := 49) (t := ri_isA) (i := 0) (n := 1) (v := .ref 2) rfl (e := (.aload_n 0, 1, [], .null)) rfl rfl (fun _ _ => rfl) k7_0 rfl
        obtain ⟨v1, h13, X, E⟩ := E.cv (p := 52) (as := []) (b := 2) (r := []) rfl (x := 67) (m := 3) (w := .null) (j := 74) (n := 0) (t := 8) (u := [646, 648, 647]) rfl rfl rfl
        obtain ⟨rfl, ivk14, hNk14⟩ := ts_74 (d := d) X (by rw [hV5]; exact iv)
        have Xk14 := X
        have E : eh_e _ _ 52 (ri_st1 (ri_as 0 [.ref 2, .ref 23, .int so]) 3 (.int x3)) [] h13 rs h' := E
        have E := E.ld (p := 53) (t := ri_isA) (i := 1) (n := 1) (v := .ref 23) rfl (e := (.aload_n 1, 1, [], .null)) rfl rfl (fun _ _ => rfl) k7_1 rfl
        have E := E.gr (n := 34) (p := 56) rfl (x := 99) (m := 3) (w := .null) (t := 4) (i := 11) (u := 292) rfl rfl (rfl : eh_V h13 = eh_V h13) ivk14.1 rfl
        have E := E.ld (p := 57) (t := ri_isI) (i := 3) (n := 1) (v := .int x3) rfl (e := (.iload_n 3, 1, [], .null)) rfl rfl (fun _ _ => rfl) k7_3 rfl
        have E := E.ai (p := 58) (z := eh_i (eh_V h13) 34 (x3).toNatClampNeg) (n := (x3).toNatClampNeg) rfl (e := (.iaload, 1, [], .null)) rfl rfl (fun _ _ => rfl) rfl (rfl : eh_V h13 = eh_V h13) ivk14.1 rfl rfl rfl
        obtain ⟨r1, r2⟩ := E.reti rfl (m := 1) (ax := []) (w := .null) rfl
        exact Or.inr (Or.inl ⟨x3, h2, h13, c1, c4, c8, c12, hV5, Xk14, ivk14, (by rw [← hrs, r1]; rfl), ((congrArg eh_V r2).trans (rfl : eh_V h13 = eh_V h13)), ((congrArg eh_N r2).trans (hNk14.trans hN6)), ivk14⟩)
      · skip
        have E := E.ld (p := 41) (t := ri_isA) (i := 0) (n := 1) (v := .ref 2) rfl (e := (.aload_n 0, 1, [], .null)) rfl rfl (fun _ _ => rfl) k7_0 rfl
        have E := E.pu (p := 42) (lo' := (ri_st1 (ri_as 0 [.ref 2, .ref 23, .int so]) 3 (.int x3))) (st' := [.int 3, .ref 2]) rfl (e := (.iconst 3, 1, [], .null)) rfl rfl (fun _ _ => rfl)
        obtain ⟨v1, h15, X, E⟩ := E.cv (p := 45) (as := [.int 3]) (b := 2) (r := []) rfl (x := 84) (m := 3) (w := .null) (j := 78) (n := 1) (t := 8) (u := [700, 678, 677]) rfl rfl rfl
        rcases sp_78 (d := d + 1) X hV5 (iv.1) with ⟨rfl, hV16, hN17⟩
        have hV16 : _ = eh_u (eh_u G 2 9 (.int 3)) 2 10 (.int (eh_i G 2 6)) := hV16
        have E : eh_e _ _ 45 (ri_st1 (ri_as 0 [.ref 2, .ref 23, .int so]) 3 (.int x3)) [.int 0] _ rs h' := E
        have E := E.pu (p := 46) (lo' := (ri_st1 (ri_as 0 [.ref 2, .ref 23, .int so]) 3 (.int x3))) (st' := []) rfl (e := (.pop, 1, [], .null)) rfl rfl (fun _ _ => rfl)
        have E := E.pu (p := 47) (lo' := (ri_st1 (ri_as 0 [.ref 2, .ref 23, .int so]) 3 (.int x3))) (st' := [.int (-1)]) rfl (e := (.iconst (-1), 1, [], .null)) rfl rfl (fun _ _ => rfl)
        obtain ⟨r1, r2⟩ := E.reti rfl (m := 1) (ax := []) (w := .null) rfl
        exact Or.inr (Or.inr (Or.inl ⟨x3, c1, c4, c8, c12, (by rw [← hrs, r1]; rfl), ((congrArg eh_V r2).trans hV16), ((congrArg eh_N r2).trans (hN17.trans hN6)), (iS_u (iS_u iv ((iv.1).ui rfl) rfl) (((iv.1).ui rfl).ui rfl) rfl)⟩))
  · skip
    have E := E.ld (p := 9) (t := ri_isA) (i := 0) (n := 1) (v := .ref 2) rfl (e := (.aload_n 0, 1, [], .null)) rfl rfl (fun _ _ => rfl) rfl rfl
    have E := E.pu (p := 10) (lo' := (ri_as 0 [.ref 2, .ref 23, .int so])) (st' := [.int 1, .ref 2]) rfl (e := (.iconst 1, 1, [], .null)) rfl rfl (fun _ _ => rfl)
    obtain ⟨v1, h18, X, E⟩ := E.cv (p := 13) (as := [.int 1]) (b := 2) (r := []) rfl (x := 84) (m := 3) (w := .null) (j := 78) (n := 1) (t := 8) (u := [700, 678, 677]) rfl rfl rfl
    rcases sp_78 (d := d + 1) X hV (iv.1) with ⟨rfl, hV19, hN20⟩
    have hV19 : _ = eh_u (eh_u G 2 9 (.int 1)) 2 10 (.int (eh_i G 2 6)) := hV19
    have E : eh_e _ _ 13 (ri_as 0 [.ref 2, .ref 23, .int so]) [.int 0] _ rs h' := E
    have E := E.pu (p := 14) (lo' := (ri_as 0 [.ref 2, .ref 23, .int so])) (st' := []) rfl (e := (.pop, 1, [], .null)) rfl rfl (fun _ _ => rfl)
    have E := E.pu (p := 15) (lo' := (ri_as 0 [.ref 2, .ref 23, .int so])) (st' := [.int (-1)]) rfl (e := (.iconst (-1), 1, [], .null)) rfl rfl (fun _ _ => rfl)
    obtain ⟨r1, r2⟩ := E.reti rfl (m := 1) (ax := []) (w := .null) rfl
    exact Or.inr (Or.inr (Or.inr (⟨c1, (by rw [← hrs, r1]; rfl), ((congrArg eh_V r2).trans hV19), ((congrArg eh_N r2).trans hN20), (iS_u (iS_u iv ((iv.1).ui rfl) rfl) (((iv.1).ui rfl).ui rfl) rfl)⟩)))
theorem ts_84 {d : Nat} {h h' : ri_H} {v : Option Value} {b : Nat → Int32} {n m : Nat} {so : Int32} (E : ri_calE ri_md (d + 3) 84 [.ref 2, .ref 23, .int so] h = some (v, h')) (iv : iS b n m (eh_V h)) : ∃ x : Int32, v = some (.int x) ∧ iS b n m (eh_V h') ∧ eh_N h' = eh_N h := by
  rcases zs_84 E rfl iv with ⟨_, _, _, _, r1, r2, r3, r4⟩ | ⟨_, _, _, _, _, _, _, _, _, _, r1, r2, r3, r4⟩ | ⟨_, _, _, _, _, r1, r2, r3, r4⟩ | ⟨_, r1, r2, r3, r4⟩
  · exact ⟨_, r1, by rw [r2]; exact r4, r3⟩
  · exact ⟨_, r1, by rw [r2]; exact r4, r3⟩
  · exact ⟨_, r1, by rw [r2]; exact r4, r3⟩
  · exact ⟨_, r1, by rw [r2]; exact r4, r3⟩
theorem zs_86 {d : Nat} {h h' : ri_H} {v : Option Value} {G : eh_W} (E : ri_calE ri_md (d + 1) 86 [.ref 18] h = some (v, h')) (hV : eh_V h = G) (ty : eh_ty tC G) : v = none ∧ eh_V h' = eh_u (eh_u G 18 0 (.int 0)) 18 1 (.int 0) ∧ eh_N h' = eh_N h := by
  obtain ⟨rs, hrs, E⟩ := eh_in E (q := md_86) rfl
  have E := E.ld (p := 1) (t := ri_isA) (i := 0) (n := 1) (v := .ref 18) rfl (e := (.aload_n 0, 1, [], .null)) rfl rfl (fun _ _ => rfl) rfl rfl
  have E := E.pu (p := 2) (lo' := (ri_as 0 [.ref 18])) (st' := [.int 0, .ref 18]) rfl (e := (.iconst 0, 1, [], .null)) rfl rfl (fun _ _ => rfl)
  obtain ⟨h1, hV2, hN3, E⟩ := E.gp (p := 5) rfl (x := 9) (m := 3) (w := .null) (t := 9) (i := 0) (u := 345) (y := 0) rfl rfl hV
  have E := E.ld (p := 6) (t := ri_isA) (i := 0) (n := 1) (v := .ref 18) rfl (e := (.aload_n 0, 1, [], .null)) rfl rfl (fun _ _ => rfl) rfl rfl
  have E := E.pu (p := 7) (lo' := (ri_as 0 [.ref 18])) (st' := [.int 0, .ref 18]) rfl (e := (.iconst 0, 1, [], .null)) rfl rfl (fun _ _ => rfl)
  obtain ⟨h4, hV5, hN6, E⟩ := E.gp (p := 10) rfl (x := 15) (m := 3) (w := .null) (t := 9) (i := 1) (u := 348) (y := 0) rfl rfl hV2
  obtain ⟨r1, r2⟩ := E.retv rfl (m := 1) (ax := []) (w := .null) rfl
  exact ⟨(by rw [← hrs, r1]; rfl), ((congrArg eh_V r2).trans hV5), ((congrArg eh_N r2).trans (hN6.trans hN3))⟩
theorem zs_88 {d : Nat} {h h' : ri_H} {v : Option Value} {G : eh_W} {ke si nu : Int32} (E : ri_calE ri_md (d + 1) 88 [.ref 18, .int ke, .int si, .int nu] h = some (v, h')) (hV : eh_V h = G) (ty : eh_ty tC G) : (¬ ((eh_i G 18 1).toInt < 40) ∧ v = none ∧ eh_V h' = G ∧ eh_N h' = eh_N h) ∨ ((eh_i G 18 1).toInt < 40 ∧ v = none ∧ eh_V h' = eh_u (eh_u (eh_u (eh_u G 19 (eh_i G 18 1).toNatClampNeg (.int ke)) 20 (eh_i G 18 1).toNatClampNeg (.int si)) 21 (eh_i G 18 1).toNatClampNeg (.int nu)) 18 1 (.int ((eh_i G 18 1) + 1)) ∧ eh_N h' = eh_N h) := by
  obtain ⟨rs, hrs, E⟩ := eh_in E (q := md_88) rfl
  have E := E.ld (p := 1) (t := ri_isA) (i := 0) (n := 1) (v := .ref 18) rfl (e := (.aload_n 0, 1, [], .null)) rfl rfl (fun _ _ => rfl) rfl rfl
  have E := E.gi (y := eh_i G 18 1) (p := 4) rfl (x := 15) (m := 3) (w := .null) (t := 9) (i := 1) (u := 348) rfl rfl hV ty rfl rfl
  have E := E.pu (p := 6) (lo' := (ri_as 0 [.ref 18, .int ke, .int si, .int nu])) (st' := [.int 40, .int (eh_i G 18 1)]) rfl (e := (.bipush 40, 2, [], .null)) rfl rfl (fun _ _ => rfl)
  rcases eh_r3 rfl (show (40 : Int32).toInt = 40 by decide) (E.br (p := 9) (c := 3) (tgt := 49) (a := eh_i G 18 1) (b := 40) (st' := []) rfl (e := (.if_icmp .ge 43, 3, [49], .null)) rfl rfl (fun _ _ => rfl) rfl) with ⟨c1, E⟩ | ⟨c1, E⟩
  · skip
    obtain ⟨r1, r2⟩ := E.retv rfl (m := 1) (ax := []) (w := .null) rfl
    exact Or.inl ⟨c1, (by rw [← hrs, r1]; rfl), ((congrArg eh_V r2).trans hV), (congrArg eh_N r2)⟩
  · skip
    have E := E.ld (p := 10) (t := ri_isA) (i := 0) (n := 1) (v := .ref 18) rfl (e := (.aload_n 0, 1, [], .null)) rfl rfl (fun _ _ => rfl) rfl rfl
    have E := E.gr (n := 19) (p := 13) rfl (x := 18) (m := 3) (w := .null) (t := 9) (i := 2) (u := 349) rfl rfl hV ty rfl
    have E := E.ld (p := 14) (t := ri_isA) (i := 0) (n := 1) (v := .ref 18) rfl (e := (.aload_n 0, 1, [], .null)) rfl rfl (fun _ _ => rfl) rfl rfl
    have E := E.gi (y := eh_i G 18 1) (p := 17) rfl (x := 15) (m := 3) (w := .null) (t := 9) (i := 1) (u := 348) rfl rfl hV ty rfl rfl
    have E := E.ld (p := 18) (t := ri_isI) (i := 1) (n := 1) (v := .int ke) rfl (e := (.iload_n 1, 1, [], .null)) rfl rfl (fun _ _ => rfl) rfl rfl
    obtain ⟨h2, hV3, hN4, E⟩ := E.aw (gg := ri_g1) (b := true) (p := 19) (n := (eh_i G 18 1).toNatClampNeg) rfl (e := (.iastore, 1, [], .null)) rfl rfl (fun _ _ => rfl) rfl hV rfl
    have E := E.ld (p := 20) (t := ri_isA) (i := 0) (n := 1) (v := .ref 18) rfl (e := (.aload_n 0, 1, [], .null)) rfl rfl (fun _ _ => rfl) rfl rfl
    have E := E.gr (n := 20) (p := 23) rfl (x := 22) (m := 3) (w := .null) (t := 9) (i := 3) (u := 350) rfl rfl hV3 (ty.ui rfl) rfl
    have E := E.ld (p := 24) (t := ri_isA) (i := 0) (n := 1) (v := .ref 18) rfl (e := (.aload_n 0, 1, [], .null)) rfl rfl (fun _ _ => rfl) rfl rfl
    have E := E.gi (y := eh_i G 18 1) (p := 27) rfl (x := 15) (m := 3) (w := .null) (t := 9) (i := 1) (u := 348) rfl rfl hV3 (ty.ui rfl) rfl rfl
    have E := E.ld (p := 28) (t := ri_isI) (i := 2) (n := 1) (v := .int si) rfl (e := (.iload_n 2, 1, [], .null)) rfl rfl (fun _ _ => rfl) rfl rfl
    obtain ⟨h5, hV6, hN7, E⟩ := E.aw (gg := ri_g1) (b := true) (p := 29) (n := (eh_i G 18 1).toNatClampNeg) rfl (e := (.iastore, 1, [], .null)) rfl rfl (fun _ _ => rfl) rfl hV3 rfl
    have E := E.ld (p := 30) (t := ri_isA) (i := 0) (n := 1) (v := .ref 18) rfl (e := (.aload_n 0, 1, [], .null)) rfl rfl (fun _ _ => rfl) rfl rfl
    have E := E.gr (n := 21) (p := 33) rfl (x := 25) (m := 3) (w := .null) (t := 9) (i := 4) (u := 351) rfl rfl hV6 ((ty.ui rfl).ui rfl) rfl
    have E := E.ld (p := 34) (t := ri_isA) (i := 0) (n := 1) (v := .ref 18) rfl (e := (.aload_n 0, 1, [], .null)) rfl rfl (fun _ _ => rfl) rfl rfl
    have E := E.gi (y := eh_i G 18 1) (p := 37) rfl (x := 15) (m := 3) (w := .null) (t := 9) (i := 1) (u := 348) rfl rfl hV6 ((ty.ui rfl).ui rfl) rfl rfl
    have E := E.ld (p := 38) (t := ri_isI) (i := 3) (n := 1) (v := .int nu) rfl (e := (.iload_n 3, 1, [], .null)) rfl rfl (fun _ _ => rfl) rfl rfl
    obtain ⟨h8, hV9, hN10, E⟩ := E.aw (gg := ri_g1) (b := true) (p := 39) (n := (eh_i G 18 1).toNatClampNeg) rfl (e := (.iastore, 1, [], .null)) rfl rfl (fun _ _ => rfl) rfl hV6 rfl
    have E := E.ld (p := 40) (t := ri_isA) (i := 0) (n := 1) (v := .ref 18) rfl (e := (.aload_n 0, 1, [], .null)) rfl rfl (fun _ _ => rfl) rfl rfl
    have E := E.pu (p := 41) (lo' := (ri_as 0 [.ref 18, .int ke, .int si, .int nu])) (st' := [.ref 18, .ref 18]) rfl (e := (.dup, 1, [], .null)) rfl rfl (fun _ _ => rfl)
    have E := E.gi (y := eh_i G 18 1) (p := 44) rfl (x := 15) (m := 3) (w := .null) (t := 9) (i := 1) (u := 348) rfl rfl hV9 (((ty.ui rfl).ui rfl).ui rfl) rfl rfl
    have E := E.pu (p := 45) (lo' := (ri_as 0 [.ref 18, .int ke, .int si, .int nu])) (st' := [.int 1, .int (eh_i G 18 1), .ref 18]) rfl (e := (.iconst 1, 1, [], .null)) rfl rfl (fun _ _ => rfl)
    have E := E.pu (p := 46) (lo' := (ri_as 0 [.ref 18, .int ke, .int si, .int nu])) (st' := [.int ((eh_i G 18 1) + 1), .ref 18]) rfl (e := (.iadd, 1, [], .null)) rfl rfl (fun _ _ => rfl)
    obtain ⟨h11, hV12, hN13, E⟩ := E.gp (p := 49) rfl (x := 15) (m := 3) (w := .null) (t := 9) (i := 1) (u := 348) (y := 0) rfl rfl hV9
    obtain ⟨r1, r2⟩ := E.retv rfl (m := 1) (ax := []) (w := .null) rfl
    exact Or.inr (⟨c1, (by rw [← hrs, r1]; rfl), ((congrArg eh_V r2).trans hV12), ((congrArg eh_N r2).trans (hN13.trans (hN10.trans (hN7.trans hN4))))⟩)
theorem zs_80 {d : Nat} {h h' : ri_H} {v : Option Value} {G : eh_W} {w : Int32} (E : ri_calE ri_md (d + 1) 80 [.ref 2, .int w] h = some (v, h')) (hV : eh_V h = G) (ty : eh_ty tC G) : (¬ ((eh_i G 2 5) = 5) ∧ v = some (.int 0) ∧ eh_V h' = G ∧ eh_N h' = eh_N h) ∨ ((eh_i G 2 5) = 5 ∧ ¬ ((eh_i G 2 7) = w) ∧ v = some (.int 0) ∧ eh_V h' = G ∧ eh_N h' = eh_N h) ∨ ((eh_i G 2 5) = 5 ∧ (eh_i G 2 7) = w ∧ v = some (.int 1) ∧ eh_V h' = G ∧ eh_N h' = eh_N h) := by
  obtain ⟨rs, hrs, E⟩ := eh_in E (q := md_80) rfl
  have E := E.ld (p := 1) (t := ri_isA) (i := 0) (n := 1) (v := .ref 2) rfl (e := (.aload_n 0, 1, [], .null)) rfl rfl (fun _ _ => rfl) rfl rfl
  have E := E.gi (y := eh_i G 2 5) (p := 4) rfl (x := 25) (m := 3) (w := .null) (t := 8) (i := 5) (u := 192) rfl rfl hV ty rfl rfl
  have E := E.pu (p := 5) (lo' := (ri_as 0 [.ref 2, .int w])) (st' := [.int 5, .int (eh_i G 2 5)]) rfl (e := (.iconst 5, 1, [], .null)) rfl rfl (fun _ _ => rfl)
  rcases eh_q1 (E.br (p := 8) (c := 1) (tgt := 20) (a := eh_i G 2 5) (b := 5) (st' := []) rfl (e := (.if_icmp .ne 15, 3, [20], .null)) rfl rfl (fun _ _ => rfl) rfl) with ⟨c1, E⟩ | ⟨c1, E⟩
  · skip
    have E := E.pu (p := 21) (lo' := (ri_as 0 [.ref 2, .int w])) (st' := [.int 0]) rfl (e := (.iconst 0, 1, [], .null)) rfl rfl (fun _ _ => rfl)
    obtain ⟨r1, r2⟩ := E.reti rfl (m := 1) (ax := []) (w := .null) rfl
    exact Or.inl ⟨c1, (by rw [← hrs, r1]; rfl), ((congrArg eh_V r2).trans hV), (congrArg eh_N r2)⟩
  · skip
    have E := E.ld (p := 9) (t := ri_isA) (i := 0) (n := 1) (v := .ref 2) rfl (e := (.aload_n 0, 1, [], .null)) rfl rfl (fun _ _ => rfl) rfl rfl
    have E := E.gi (y := eh_i G 2 7) (p := 12) rfl (x := 31) (m := 3) (w := .null) (t := 8) (i := 7) (u := 197) rfl rfl hV ty rfl rfl
    have E := E.ld (p := 13) (t := ri_isI) (i := 1) (n := 1) (v := .int w) rfl (e := (.iload_n 1, 1, [], .null)) rfl rfl (fun _ _ => rfl) rfl rfl
    rcases eh_q1 (E.br (p := 16) (c := 1) (tgt := 20) (a := eh_i G 2 7) (b := w) (st' := []) rfl (e := (.if_icmp .ne 7, 3, [20], .null)) rfl rfl (fun _ _ => rfl) rfl) with ⟨c2, E⟩ | ⟨c2, E⟩
    · skip
      have E := E.pu (p := 21) (lo' := (ri_as 0 [.ref 2, .int w])) (st' := [.int 0]) rfl (e := (.iconst 0, 1, [], .null)) rfl rfl (fun _ _ => rfl)
      obtain ⟨r1, r2⟩ := E.reti rfl (m := 1) (ax := []) (w := .null) rfl
      exact Or.inr (Or.inl ⟨c1, c2, (by rw [← hrs, r1]; rfl), ((congrArg eh_V r2).trans hV), (congrArg eh_N r2)⟩)
    · skip
      have E := E.pu (p := 17) (lo' := (ri_as 0 [.ref 2, .int w])) (st' := [.int 1]) rfl (e := (.iconst 1, 1, [], .null)) rfl rfl (fun _ _ => rfl)
      have E := E.pu (p := 21) (lo' := (ri_as 0 [.ref 2, .int w])) (st' := [.int 1]) rfl (e := (.goto 4, 3, [21], .null)) rfl rfl (fun _ _ => rfl)
      obtain ⟨r1, r2⟩ := E.reti rfl (m := 1) (ax := []) (w := .null) rfl
      exact Or.inr (Or.inr (⟨c1, c2, (by rw [← hrs, r1]; rfl), ((congrArg eh_V r2).trans hV), (congrArg eh_N r2)⟩))
theorem zs_79 {d : Nat} {h h' : ri_H} {v : Option Value} {G : eh_W} {w : Int32} (E : ri_calE ri_md (d + 1) 79 [.ref 2, .int w] h = some (v, h')) (hV : eh_V h = G) (ty : eh_ty tC G) : (¬ ((eh_i G 2 5) = 2) ∧ v = some (.int 0) ∧ eh_V h' = G ∧ eh_N h' = eh_N h) ∨ ((eh_i G 2 5) = 2 ∧ ¬ ((eh_i G 2 7) = w) ∧ v = some (.int 0) ∧ eh_V h' = G ∧ eh_N h' = eh_N h) ∨ ((eh_i G 2 5) = 2 ∧ (eh_i G 2 7) = w ∧ v = some (.int 1) ∧ eh_V h' = G ∧ eh_N h' = eh_N h) := by
  obtain ⟨rs, hrs, E⟩ := eh_in E (q := md_79) rfl
  have E := E.ld (p := 1) (t := ri_isA) (i := 0) (n := 1) (v := .ref 2) rfl (e := (.aload_n 0, 1, [], .null)) rfl rfl (fun _ _ => rfl) rfl rfl
  have E := E.gi (y := eh_i G 2 5) (p := 4) rfl (x := 25) (m := 3) (w := .null) (t := 8) (i := 5) (u := 192) rfl rfl hV ty rfl rfl
  have E := E.pu (p := 5) (lo' := (ri_as 0 [.ref 2, .int w])) (st' := [.int 2, .int (eh_i G 2 5)]) rfl (e := (.iconst 2, 1, [], .null)) rfl rfl (fun _ _ => rfl)
  rcases eh_q1 (E.br (p := 8) (c := 1) (tgt := 20) (a := eh_i G 2 5) (b := 2) (st' := []) rfl (e := (.if_icmp .ne 15, 3, [20], .null)) rfl rfl (fun _ _ => rfl) rfl) with ⟨c1, E⟩ | ⟨c1, E⟩
  · skip
    have E := E.pu (p := 21) (lo' := (ri_as 0 [.ref 2, .int w])) (st' := [.int 0]) rfl (e := (.iconst 0, 1, [], .null)) rfl rfl (fun _ _ => rfl)
    obtain ⟨r1, r2⟩ := E.reti rfl (m := 1) (ax := []) (w := .null) rfl
    exact Or.inl ⟨c1, (by rw [← hrs, r1]; rfl), ((congrArg eh_V r2).trans hV), (congrArg eh_N r2)⟩
  · skip
    have E := E.ld (p := 9) (t := ri_isA) (i := 0) (n := 1) (v := .ref 2) rfl (e := (.aload_n 0, 1, [], .null)) rfl rfl (fun _ _ => rfl) rfl rfl
    have E := E.gi (y := eh_i G 2 7) (p := 12) rfl (x := 31) (m := 3) (w := .null) (t := 8) (i := 7) (u := 197) rfl rfl hV ty rfl rfl
    have E := E.ld (p := 13) (t := ri_isI) (i := 1) (n := 1) (v := .int w) rfl (e := (.iload_n 1, 1, [], .null)) rfl rfl (fun _ _ => rfl) rfl rfl
    rcases eh_q1 (E.br (p := 16) (c := 1) (tgt := 20) (a := eh_i G 2 7) (b := w) (st' := []) rfl (e := (.if_icmp .ne 7, 3, [20], .null)) rfl rfl (fun _ _ => rfl) rfl) with ⟨c2, E⟩ | ⟨c2, E⟩
    · skip
      have E := E.pu (p := 21) (lo' := (ri_as 0 [.ref 2, .int w])) (st' := [.int 0]) rfl (e := (.iconst 0, 1, [], .null)) rfl rfl (fun _ _ => rfl)
      obtain ⟨r1, r2⟩ := E.reti rfl (m := 1) (ax := []) (w := .null) rfl
      exact Or.inr (Or.inl ⟨c1, c2, (by rw [← hrs, r1]; rfl), ((congrArg eh_V r2).trans hV), (congrArg eh_N r2)⟩)
    · skip
      have E := E.pu (p := 17) (lo' := (ri_as 0 [.ref 2, .int w])) (st' := [.int 1]) rfl (e := (.iconst 1, 1, [], .null)) rfl rfl (fun _ _ => rfl)
      have E := E.pu (p := 21) (lo' := (ri_as 0 [.ref 2, .int w])) (st' := [.int 1]) rfl (e := (.goto 4, 3, [21], .null)) rfl rfl (fun _ _ => rfl)
      obtain ⟨r1, r2⟩ := E.reti rfl (m := 1) (ax := []) (w := .null) rfl
      exact Or.inr (Or.inr (⟨c1, c2, (by rw [← hrs, r1]; rfl), ((congrArg eh_V r2).trans hV), (congrArg eh_N r2)⟩))
