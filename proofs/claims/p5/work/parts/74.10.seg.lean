theorem sp_84 {d : Nat} {h h' : ri_H} {v : Option Value} {G : eh_W} {b : Nat → Int32} {n m : Nat} {so : Int32} (E : ri_calE ri_md (d + 3) 84 [.ref 2, .ref 5, .int so] h = some (v, h')) (hV : eh_V h = G) (iv : iC b n m G) : (∃ (x3 : Int32), (eh_i G 2 5) = 3 ∧ fd_C G 5 14 (eh_l G 2 8) x3 ∧ x3 = (-1) ∧ v = some (.int (-1)) ∧ eh_V h' = eh_u (eh_u G 2 9 (.int 3)) 2 10 (.int (eh_i G 2 6)) ∧ eh_N h' = eh_N h ∧ iC b n m (eh_u (eh_u G 2 9 (.int 3)) 2 10 (.int (eh_i G 2 6)))) ∨ (∃ (x3 : Int32), ∃ (h2 : ri_H), ∃ (h13 : ri_H), (eh_i G 2 5) = 3 ∧ fd_C G 5 14 (eh_l G 2 8) x3 ∧ ¬ (x3 = (-1)) ∧ (eh_i G 15 (x3).toNatClampNeg) = so ∧ eh_V h2 = G ∧ ri_calE ri_md (d + 2) 74 [.ref 2] h2 = some (none, h13) ∧ iC b n m (eh_V h13) ∧ v = some (.int (eh_i (eh_V h13) 16 (x3).toNatClampNeg)) ∧ eh_V h' = (eh_V h13) ∧ eh_N h' = eh_N h ∧ iC b n m (eh_V h13)) ∨ (∃ (x3 : Int32), (eh_i G 2 5) = 3 ∧ fd_C G 5 14 (eh_l G 2 8) x3 ∧ ¬ (x3 = (-1)) ∧ ¬ ((eh_i G 15 (x3).toNatClampNeg) = so) ∧ v = some (.int (-1)) ∧ eh_V h' = eh_u (eh_u G 2 9 (.int 3)) 2 10 (.int (eh_i G 2 6)) ∧ eh_N h' = eh_N h ∧ iC b n m (eh_u (eh_u G 2 9 (.int 3)) 2 10 (.int (eh_i G 2 6)))) ∨ (¬ ((eh_i G 2 5) = 3) ∧ v = some (.int (-1)) ∧ eh_V h' = eh_u (eh_u G 2 9 (.int 1)) 2 10 (.int (eh_i G 2 6)) ∧ eh_N h' = eh_N h ∧ iC b n m (eh_u (eh_u G 2 9 (.int 1)) 2 10 (.int (eh_i G 2 6)))) := by
  obtain ⟨rs, hrs, E⟩ := eh_in E (q := md_84) rfl
  have E := E.ld (p := 1) (t := ri_isA) (i := 0) (n := 1) (v := .ref 2) rfl (e := (.aload_n 0, 1, [], .null)) rfl rfl (fun _ _ => rfl) rfl rfl
  have E := E.gi (y := eh_i G 2 5) (p := 4) rfl (x := 25) (m := 3) (w := .null) (t := 8) (i := 5) (u := 192) rfl rfl hV (iv.1) rfl rfl
  have E := E.pu (p := 5) (lo' := (ri_as 0 [.ref 2, .ref 5, .int so])) (st' := [.int 3, .int (eh_i G 2 5)]) rfl (e := (.iconst 3, 1, [], .null)) rfl rfl (fun _ _ => rfl)
  rcases eh_q0 (E.br (p := 8) (c := 0) (tgt := 16) (a := eh_i G 2 5) (b := 3) (st' := []) rfl (e := (.if_icmp .eq 11, 3, [16], .null)) rfl rfl (fun _ _ => rfl) rfl) with ⟨c1, E⟩ | ⟨c1, E⟩
  · skip
    have E := E.ld (p := 17) (t := ri_isA) (i := 1) (n := 1) (v := .ref 5) rfl (e := (.aload_n 1, 1, [], .null)) rfl rfl (fun _ _ => rfl) rfl rfl
    have E := E.ld (p := 18) (t := ri_isA) (i := 0) (n := 1) (v := .ref 2) rfl (e := (.aload_n 0, 1, [], .null)) rfl rfl (fun _ _ => rfl) rfl rfl
    have E := E.gl (y := eh_l G 2 8) (p := 21) rfl (x := 34) (m := 3) (w := .null) (t := 8) (i := 8) (u := 201) rfl rfl hV (iv.1) rfl rfl
    obtain ⟨v1, h2, X, E⟩ := E.cv (p := 24) (as := [.long (eh_l G 2 8)]) (b := 5) (r := []) rfl (x := 90) (m := 3) (w := .null) (j := 29) (n := 1) (t := 4) (u := [701, 685, 684]) rfl rfl rfl
    rcases sp_29_5 (d := d + 1) X hV (iv.1) with ⟨x3, c4, rfl, hV5, hN6⟩
    have c4 : fd_C G 5 14 (eh_l G 2 8) x3 := c4
    have E : eh_e _ _ 24 (ri_as 0 [.ref 2, .ref 5, .int so]) [.int x3] _ rs h' := E
    have E := E.so (p := 25) (t := ri_isI) (i := 3) (n := 1) rfl (e := (.istore_n 3, 1, [], .null)) rfl rfl (fun _ _ => rfl) rfl
    have k7_3 : ri_lk (ri_st1 (ri_as 0 [.ref 2, .ref 5, .int so]) 3 (.int x3)) 3 = some (.int x3) := eh_self
    have k7_0 : ri_lk (ri_st1 (ri_as 0 [.ref 2, .ref 5, .int so]) 3 (.int x3)) 0 = some (.ref 2) := eh_keep (by decide) (Or.inl rfl) rfl
    have k7_1 : ri_lk (ri_st1 (ri_as 0 [.ref 2, .ref 5, .int so]) 3 (.int x3)) 1 = some (.ref 5) := eh_keep (by decide) (Or.inl rfl) rfl
    have k7_2 : ri_lk (ri_st1 (ri_as 0 [.ref 2, .ref 5, .int so]) 3 (.int x3)) 2 = some (.int so) := eh_keep (by decide) (Or.inl rfl) rfl
    have E := E.ld (p := 26) (t := ri_isI) (i := 3) (n := 1) (v := .int x3) rfl (e := (.iload_n 3, 1, [], .null)) rfl rfl (fun _ _ => rfl) k7_3 rfl
    have E := E.pu (p := 27) (lo' := (ri_st1 (ri_as 0 [.ref 2, .ref 5, .int so]) 3 (.int x3))) (st' := [.int (-1), .int x3]) rfl (e := (.iconst (-1), 1, [], .null)) rfl rfl (fun _ _ => rfl)
    rcases eh_q0 (E.br (p := 30) (c := 0) (tgt := 40) (a := x3) (b := (-1)) (st' := []) rfl (e := (.if_icmp .eq 13, 3, [40], .null)) rfl rfl (fun _ _ => rfl) rfl) with ⟨c8, E⟩ | ⟨c8, E⟩
    · skip
      have E := E.ld (p := 41) (t := ri_isA) (i := 0) (n := 1) (v := .ref 2) rfl (e := (.aload_n 0, 1, [], .null)) rfl rfl (fun _ _ => rfl) k7_0 rfl
      have E := E.pu (p := 42) (lo' := (ri_st1 (ri_as 0 [.ref 2, .ref 5, .int so]) 3 (.int x3))) (st' := [.int 3, .ref 2]) rfl (e := (.iconst 3, 1, [], .null)) rfl rfl (fun _ _ => rfl)
      obtain ⟨v1, h9, X, E⟩ := E.cv (p := 45) (as := [.int 3]) (b := 2) (r := []) rfl (x := 84) (m := 3) (w := .null) (j := 78) (n := 1) (t := 8) (u := [700, 678, 677]) rfl rfl rfl
      rcases sp_78 (d := d + 1) X hV5 (iv.1) with ⟨rfl, hV10, hN11⟩
      have hV10 : _ = eh_u (eh_u G 2 9 (.int 3)) 2 10 (.int (eh_i G 2 6)) := hV10
      have E : eh_e _ _ 45 (ri_st1 (ri_as 0 [.ref 2, .ref 5, .int so]) 3 (.int x3)) [.int 0] _ rs h' := E
      have E := E.pu (p := 46) (lo' := (ri_st1 (ri_as 0 [.ref 2, .ref 5, .int so]) 3 (.int x3))) (st' := []) rfl (e := (.pop, 1, [], .null)) rfl rfl (fun _ _ => rfl)
      have E := E.pu (p := 47) (lo' := (ri_st1 (ri_as 0 [.ref 2, .ref 5, .int so]) 3 (.int x3))) (st' := [.int (-1)]) rfl (e := (.iconst (-1), 1, [], .null)) rfl rfl (fun _ _ => rfl)
      obtain ⟨r1, r2⟩ := E.reti rfl (m := 1) (ax := []) (w := .null) rfl
      exact Or.inl ⟨x3, c1, c4, c8, (by rw [← hrs, r1]; rfl), ((congrArg eh_V r2).trans hV10), ((congrArg eh_N r2).trans (hN11.trans hN6)), (iC_u (iC_u iv ((iv.1).ui rfl) rfl) (((iv.1).ui rfl).ui rfl) rfl)⟩
    · skip
      have E := E.ld (p := 31) (t := ri_isA) (i := 1) (n := 1) (v := .ref 5) rfl (e := (.aload_n 1, 1, [], .null)) rfl rfl (fun _ _ => rfl) k7_1 rfl
      have E := E.gr (n := 15) (p := 34) rfl (x := 95) (m := 3) (w := .null) (t := 4) (i := 10) (u := 289) rfl rfl hV5 (iv.1) rfl
      have E := E.ld (p := 35) (t := ri_isI) (i := 3) (n := 1) (v := .int x3) rfl (e := (.iload_n 3, 1, [], .null)) rfl rfl (fun _ _ => rfl) k7_3 rfl
      have E := E.ai (p := 36) (z := eh_i G 15 (x3).toNatClampNeg) (n := (x3).toNatClampNeg) rfl (e := (.iaload, 1, [], .null)) rfl rfl (fun _ _ => rfl) rfl hV5 (iv.1) rfl rfl rfl
      have E := E.ld (p := 37) (t := ri_isI) (i := 2) (n := 1) (v := .int so) rfl (e := (.iload_n 2, 1, [], .null)) rfl rfl (fun _ _ => rfl) k7_2 rfl
      rcases eh_q0 (E.br (p := 40) (c := 0) (tgt := 48) (a := eh_i G 15 (x3).toNatClampNeg) (b := so) (st' := []) rfl (e := (.if_icmp .eq 11, 3, [48], .null)) rfl rfl (fun _ _ => rfl) rfl) with ⟨c12, E⟩ | ⟨c12, E⟩
      · skip
        have E := E.ld (p := 49) (t := ri_isA) (i := 0) (n := 1) (v := .ref 2) rfl (e := (.aload_n 0, 1, [], .null)) rfl rfl (fun _ _ => rfl) k7_0 rfl
        obtain ⟨v1, h13, X, E⟩ := E.cv (p := 52) (as := []) (b := 2) (r := []) rfl (x := 67) (m := 3) (w := .null) (j := 74) (n := 0) (t := 8) (u := [646, 648, 647]) rfl rfl rfl
        obtain ⟨rfl, ivk14, hNk14⟩ := tp_74 (d := d) X (by rw [hV5]; exact iv)
        have Xk14 := X
        have E : eh_e _ _ 52 (ri_st1 (ri_as 0 [.ref 2, .ref 5, .int so]) 3 (.int x3)) [] h13 rs h' := E
        have E := E.ld (p := 53) (t := ri_isA) (i := 1) (n := 1) (v := .ref 5) rfl (e := (.aload_n 1, 1, [], .null)) rfl rfl (fun _ _ => rfl) k7_1 rfl
        have E := E.gr (n := 16) (p := 56) rfl (x := 99) (m := 3) (w := .null) (t := 4) (i := 11) (u := 292) rfl rfl (rfl : eh_V h13 = eh_V h13) ivk14.1 rfl
        have E := E.ld (p := 57) (t := ri_isI) (i := 3) (n := 1) (v := .int x3) rfl (e := (.iload_n 3, 1, [], .null)) rfl rfl (fun _ _ => rfl) k7_3 rfl
        have E := E.ai (p := 58) (z := eh_i (eh_V h13) 16 (x3).toNatClampNeg) (n := (x3).toNatClampNeg) rfl (e := (.iaload, 1, [], .null)) rfl rfl (fun _ _ => rfl) rfl (rfl : eh_V h13 = eh_V h13) ivk14.1 rfl rfl rfl
        obtain ⟨r1, r2⟩ := E.reti rfl (m := 1) (ax := []) (w := .null) rfl
        exact Or.inr (Or.inl ⟨x3, h2, h13, c1, c4, c8, c12, hV5, Xk14, ivk14, (by rw [← hrs, r1]; rfl), ((congrArg eh_V r2).trans (rfl : eh_V h13 = eh_V h13)), ((congrArg eh_N r2).trans (hNk14.trans hN6)), ivk14⟩)
      · skip
        have E := E.ld (p := 41) (t := ri_isA) (i := 0) (n := 1) (v := .ref 2) rfl (e := (.aload_n 0, 1, [], .null)) rfl rfl (fun _ _ => rfl) k7_0 rfl
        have E := E.pu (p := 42) (lo' := (ri_st1 (ri_as 0 [.ref 2, .ref 5, .int so]) 3 (.int x3))) (st' := [.int 3, .ref 2]) rfl (e := (.iconst 3, 1, [], .null)) rfl rfl (fun _ _ => rfl)
        obtain ⟨v1, h15, X, E⟩ := E.cv (p := 45) (as := [.int 3]) (b := 2) (r := []) rfl (x := 84) (m := 3) (w := .null) (j := 78) (n := 1) (t := 8) (u := [700, 678, 677]) rfl rfl rfl
        rcases sp_78 (d := d + 1) X hV5 (iv.1) with ⟨rfl, hV16, hN17⟩
        have hV16 : _ = eh_u (eh_u G 2 9 (.int 3)) 2 10 (.int (eh_i G 2 6)) := hV16
        have E : eh_e _ _ 45 (ri_st1 (ri_as 0 [.ref 2, .ref 5, .int so]) 3 (.int x3)) [.int 0] _ rs h' := E
        have E := E.pu (p := 46) (lo' := (ri_st1 (ri_as 0 [.ref 2, .ref 5, .int so]) 3 (.int x3))) (st' := []) rfl (e := (.pop, 1, [], .null)) rfl rfl (fun _ _ => rfl)
        have E := E.pu (p := 47) (lo' := (ri_st1 (ri_as 0 [.ref 2, .ref 5, .int so]) 3 (.int x3))) (st' := [.int (-1)]) rfl (e := (.iconst (-1), 1, [], .null)) rfl rfl (fun _ _ => rfl)
        obtain ⟨r1, r2⟩ := E.reti rfl (m := 1) (ax := []) (w := .null) rfl
        exact Or.inr (Or.inr (Or.inl ⟨x3, c1, c4, c8, c12, (by rw [← hrs, r1]; rfl), ((congrArg eh_V r2).trans hV16), ((congrArg eh_N r2).trans (hN17.trans hN6)), (iC_u (iC_u iv ((iv.1).ui rfl) rfl) (((iv.1).ui rfl).ui rfl) rfl)⟩))
  · skip
    have E := E.ld (p := 9) (t := ri_isA) (i := 0) (n := 1) (v := .ref 2) rfl (e := (.aload_n 0, 1, [], .null)) rfl rfl (fun _ _ => rfl) rfl rfl
    have E := E.pu (p := 10) (lo' := (ri_as 0 [.ref 2, .ref 5, .int so])) (st' := [.int 1, .ref 2]) rfl (e := (.iconst 1, 1, [], .null)) rfl rfl (fun _ _ => rfl)
    obtain ⟨v1, h18, X, E⟩ := E.cv (p := 13) (as := [.int 1]) (b := 2) (r := []) rfl (x := 84) (m := 3) (w := .null) (j := 78) (n := 1) (t := 8) (u := [700, 678, 677]) rfl rfl rfl
    rcases sp_78 (d := d + 1) X hV (iv.1) with ⟨rfl, hV19, hN20⟩
    have hV19 : _ = eh_u (eh_u G 2 9 (.int 1)) 2 10 (.int (eh_i G 2 6)) := hV19
    have E : eh_e _ _ 13 (ri_as 0 [.ref 2, .ref 5, .int so]) [.int 0] _ rs h' := E
    have E := E.pu (p := 14) (lo' := (ri_as 0 [.ref 2, .ref 5, .int so])) (st' := []) rfl (e := (.pop, 1, [], .null)) rfl rfl (fun _ _ => rfl)
    have E := E.pu (p := 15) (lo' := (ri_as 0 [.ref 2, .ref 5, .int so])) (st' := [.int (-1)]) rfl (e := (.iconst (-1), 1, [], .null)) rfl rfl (fun _ _ => rfl)
    obtain ⟨r1, r2⟩ := E.reti rfl (m := 1) (ax := []) (w := .null) rfl
    exact Or.inr (Or.inr (Or.inr (⟨c1, (by rw [← hrs, r1]; rfl), ((congrArg eh_V r2).trans hV19), ((congrArg eh_N r2).trans hN20), (iC_u (iC_u iv ((iv.1).ui rfl) rfl) (((iv.1).ui rfl).ui rfl) rfl)⟩)))
theorem tp_84 {d : Nat} {h h' : ri_H} {v : Option Value} {b : Nat → Int32} {n m : Nat} {so : Int32} (E : ri_calE ri_md (d + 3) 84 [.ref 2, .ref 5, .int so] h = some (v, h')) (iv : iC b n m (eh_V h)) : ∃ x : Int32, v = some (.int x) ∧ iC b n m (eh_V h') ∧ eh_N h' = eh_N h := by
  rcases sp_84 E rfl iv with ⟨_, _, _, _, r1, r2, r3, r4⟩ | ⟨_, _, _, _, _, _, _, _, _, _, r1, r2, r3, r4⟩ | ⟨_, _, _, _, _, r1, r2, r3, r4⟩ | ⟨_, r1, r2, r3, r4⟩
  · exact ⟨_, r1, by rw [r2]; exact r4, r3⟩
  · exact ⟨_, r1, by rw [r2]; exact r4, r3⟩
  · exact ⟨_, r1, by rw [r2]; exact r4, r3⟩
  · exact ⟨_, r1, by rw [r2]; exact r4, r3⟩
theorem sp_30 {d : Nat} {h h' : ri_H} {v : Option Value} {G : eh_W} {so : Int32} {co : Int64} (E : ri_calE ri_md (d + 1) 30 [.ref 5, .int so, .long co] h = some (v, h')) (hV : eh_V h = G) (ty : eh_ty tC G) : (¬ ((eh_i G 5 12).toInt < 24) ∧ v = some (.int (-1)) ∧ eh_V h' = G ∧ eh_N h' = eh_N h) ∨ ((eh_i G 5 12).toInt < 24 ∧ (eh_i G 7 (so).toNatClampNeg).toInt < (eh_x 2 (so).toNatClampNeg).toInt ∧ v = some (.int (((eh_i G 7 (so).toNatClampNeg) + 1) - 1)) ∧ eh_V h' = eh_u (eh_u (eh_u (eh_u (eh_u G 14 (eh_i G 5 12).toNatClampNeg (.long co)) 15 (eh_i G 5 12).toNatClampNeg (.int so)) 16 (eh_i G 5 12).toNatClampNeg (.int (eh_i G 7 (so).toNatClampNeg))) 5 12 (.int ((eh_i G 5 12) + 1))) 7 (so).toNatClampNeg (.int ((eh_i G 7 (so).toNatClampNeg) + 1)) ∧ eh_N h' = eh_N h) ∨ ((eh_i G 5 12).toInt < 24 ∧ ¬ ((eh_i G 7 (so).toNatClampNeg).toInt < (eh_x 2 (so).toNatClampNeg).toInt) ∧ v = some (.int (-1)) ∧ eh_V h' = G ∧ eh_N h' = eh_N h) := by
  obtain ⟨rs, hrs, E⟩ := eh_in E (q := md_30) rfl
  have E := E.ld (p := 1) (t := ri_isA) (i := 0) (n := 1) (v := .ref 5) rfl (e := (.aload_n 0, 1, [], .null)) rfl rfl (fun _ _ => rfl) rfl rfl
  have E := E.gi (y := eh_i G 5 12) (p := 4) rfl (x := 58) (m := 3) (w := .null) (t := 4) (i := 12) (u := 293) rfl rfl hV ty rfl rfl
  have E := E.pu (p := 6) (lo' := (ri_as 0 [.ref 5, .int so, .long co])) (st' := [.int 24, .int (eh_i G 5 12)]) rfl (e := (.bipush 24, 2, [], .null)) rfl rfl (fun _ _ => rfl)
  rcases eh_r3 rfl (show (24 : Int32).toInt = 24 by decide) (E.br (p := 9) (c := 3) (tgt := 23) (a := eh_i G 5 12) (b := 24) (st' := []) rfl (e := (.if_icmp .ge 17, 3, [23], .null)) rfl rfl (fun _ _ => rfl) rfl) with ⟨c1, E⟩ | ⟨c1, E⟩
  · skip
    have E := E.pu (p := 24) (lo' := (ri_as 0 [.ref 5, .int so, .long co])) (st' := [.int (-1)]) rfl (e := (.iconst (-1), 1, [], .null)) rfl rfl (fun _ _ => rfl)
    obtain ⟨r1, r2⟩ := E.reti rfl (m := 1) (ax := []) (w := .null) rfl
    exact Or.inl ⟨c1, (by rw [← hrs, r1]; rfl), ((congrArg eh_V r2).trans hV), (congrArg eh_N r2)⟩
  · skip
    have E := E.ld (p := 10) (t := ri_isA) (i := 0) (n := 1) (v := .ref 5) rfl (e := (.aload_n 0, 1, [], .null)) rfl rfl (fun _ _ => rfl) rfl rfl
    have E := E.gr (n := 7) (p := 13) rfl (x := 27) (m := 3) (w := .null) (t := 4) (i := 2) (u := 262) rfl rfl hV ty rfl
    have E := E.ld (p := 14) (t := ri_isI) (i := 1) (n := 1) (v := .int so) rfl (e := (.iload_n 1, 1, [], .null)) rfl rfl (fun _ _ => rfl) rfl rfl
    have E := E.ai (p := 15) (z := eh_i G 7 (so).toNatClampNeg) (n := (so).toNatClampNeg) rfl (e := (.iaload, 1, [], .null)) rfl rfl (fun _ _ => rfl) rfl hV ty rfl rfl rfl
    have E := E.pu (p := 18) (lo' := (ri_as 0 [.ref 5, .int so, .long co])) (st' := [.retAddr 2, .int (eh_i G 7 (so).toNatClampNeg)]) rfl (e := (.getstatic 67, 3, [2, 691], .null)) rfl rfl (fun _ _ => rfl)
    have E := E.ld (p := 19) (t := ri_isI) (i := 1) (n := 1) (v := .int so) rfl (e := (.iload_n 1, 1, [], .null)) rfl rfl (fun _ _ => rfl) rfl rfl
    have E := (E.ats (p := 20) (a := eh_x 2 (so).toNatClampNeg) rfl (m := 1) (ax := []) (w := .null) rfl rfl (by rfl)).2
    rcases eh_r2 rfl rfl (E.br (p := 23) (c := 2) (tgt := 25) (a := eh_i G 7 (so).toNatClampNeg) (b := eh_x 2 (so).toNatClampNeg) (st' := []) rfl (e := (.if_icmp .lt 5, 3, [25], .null)) rfl rfl (fun _ _ => rfl) rfl) with ⟨c2, E⟩ | ⟨c2, E⟩
    · skip
      have E := E.ld (p := 26) (t := ri_isA) (i := 0) (n := 1) (v := .ref 5) rfl (e := (.aload_n 0, 1, [], .null)) rfl rfl (fun _ _ => rfl) rfl rfl
      have E := E.gr (n := 14) (p := 29) rfl (x := 48) (m := 3) (w := .null) (t := 4) (i := 9) (u := 286) rfl rfl hV ty rfl
      have E := E.ld (p := 30) (t := ri_isA) (i := 0) (n := 1) (v := .ref 5) rfl (e := (.aload_n 0, 1, [], .null)) rfl rfl (fun _ _ => rfl) rfl rfl
      have E := E.gi (y := eh_i G 5 12) (p := 33) rfl (x := 58) (m := 3) (w := .null) (t := 4) (i := 12) (u := 293) rfl rfl hV ty rfl rfl
      have E := E.ld (p := 34) (t := ri_isL) (i := 2) (n := 1) (v := .long co) rfl (e := (.lload_n 2, 1, [], .null)) rfl rfl (fun _ _ => rfl) rfl rfl
      obtain ⟨h3, hV4, hN5, E⟩ := E.aw (gg := ri_g3) (b := true) (p := 35) (n := (eh_i G 5 12).toNatClampNeg) rfl (e := (.lastore, 1, [], .null)) rfl rfl (fun _ _ => rfl) rfl hV rfl
      have E := E.ld (p := 36) (t := ri_isA) (i := 0) (n := 1) (v := .ref 5) rfl (e := (.aload_n 0, 1, [], .null)) rfl rfl (fun _ _ => rfl) rfl rfl
      have E := E.gr (n := 15) (p := 39) rfl (x := 52) (m := 3) (w := .null) (t := 4) (i := 10) (u := 287) rfl rfl hV4 (ty.ul rfl) rfl
      have E := E.ld (p := 40) (t := ri_isA) (i := 0) (n := 1) (v := .ref 5) rfl (e := (.aload_n 0, 1, [], .null)) rfl rfl (fun _ _ => rfl) rfl rfl
      have E := E.gi (y := eh_i G 5 12) (p := 43) rfl (x := 58) (m := 3) (w := .null) (t := 4) (i := 12) (u := 293) rfl rfl hV4 (ty.ul rfl) rfl rfl
      have E := E.ld (p := 44) (t := ri_isI) (i := 1) (n := 1) (v := .int so) rfl (e := (.iload_n 1, 1, [], .null)) rfl rfl (fun _ _ => rfl) rfl rfl
      obtain ⟨h6, hV7, hN8, E⟩ := E.aw (gg := ri_g1) (b := true) (p := 45) (n := (eh_i G 5 12).toNatClampNeg) rfl (e := (.iastore, 1, [], .null)) rfl rfl (fun _ _ => rfl) rfl hV4 rfl
      have E := E.ld (p := 46) (t := ri_isA) (i := 0) (n := 1) (v := .ref 5) rfl (e := (.aload_n 0, 1, [], .null)) rfl rfl (fun _ _ => rfl) rfl rfl
      have E := E.gr (n := 16) (p := 49) rfl (x := 55) (m := 3) (w := .null) (t := 4) (i := 11) (u := 290) rfl rfl hV7 ((ty.ul rfl).ui rfl) rfl
      have E := E.ld (p := 50) (t := ri_isA) (i := 0) (n := 1) (v := .ref 5) rfl (e := (.aload_n 0, 1, [], .null)) rfl rfl (fun _ _ => rfl) rfl rfl
      have E := E.gi (y := eh_i G 5 12) (p := 53) rfl (x := 58) (m := 3) (w := .null) (t := 4) (i := 12) (u := 293) rfl rfl hV7 ((ty.ul rfl).ui rfl) rfl rfl
      have E := E.ld (p := 54) (t := ri_isA) (i := 0) (n := 1) (v := .ref 5) rfl (e := (.aload_n 0, 1, [], .null)) rfl rfl (fun _ _ => rfl) rfl rfl
      have E := E.gr (n := 7) (p := 57) rfl (x := 27) (m := 3) (w := .null) (t := 4) (i := 2) (u := 262) rfl rfl hV7 ((ty.ul rfl).ui rfl) rfl
      have E := E.ld (p := 58) (t := ri_isI) (i := 1) (n := 1) (v := .int so) rfl (e := (.iload_n 1, 1, [], .null)) rfl rfl (fun _ _ => rfl) rfl rfl
      have E := E.ai (p := 59) (z := eh_i G 7 (so).toNatClampNeg) (n := (so).toNatClampNeg) rfl (e := (.iaload, 1, [], .null)) rfl rfl (fun _ _ => rfl) rfl hV7 ((ty.ul rfl).ui rfl) rfl rfl rfl
      obtain ⟨h9, hV10, hN11, E⟩ := E.aw (gg := ri_g1) (b := true) (p := 60) (n := (eh_i G 5 12).toNatClampNeg) rfl (e := (.iastore, 1, [], .null)) rfl rfl (fun _ _ => rfl) rfl hV7 rfl
      have E := E.ld (p := 61) (t := ri_isA) (i := 0) (n := 1) (v := .ref 5) rfl (e := (.aload_n 0, 1, [], .null)) rfl rfl (fun _ _ => rfl) rfl rfl
      have E := E.pu (p := 62) (lo' := (ri_as 0 [.ref 5, .int so, .long co])) (st' := [.ref 5, .ref 5]) rfl (e := (.dup, 1, [], .null)) rfl rfl (fun _ _ => rfl)
      have E := E.gi (y := eh_i G 5 12) (p := 65) rfl (x := 58) (m := 3) (w := .null) (t := 4) (i := 12) (u := 293) rfl rfl hV10 (((ty.ul rfl).ui rfl).ui rfl) rfl rfl
      have E := E.pu (p := 66) (lo' := (ri_as 0 [.ref 5, .int so, .long co])) (st' := [.int 1, .int (eh_i G 5 12), .ref 5]) rfl (e := (.iconst 1, 1, [], .null)) rfl rfl (fun _ _ => rfl)
      have E := E.pu (p := 67) (lo' := (ri_as 0 [.ref 5, .int so, .long co])) (st' := [.int ((eh_i G 5 12) + 1), .ref 5]) rfl (e := (.iadd, 1, [], .null)) rfl rfl (fun _ _ => rfl)
      obtain ⟨h12, hV13, hN14, E⟩ := E.gp (p := 70) rfl (x := 58) (m := 3) (w := .null) (t := 4) (i := 12) (u := 293) (y := 0) rfl rfl hV10
      have E := E.ld (p := 71) (t := ri_isA) (i := 0) (n := 1) (v := .ref 5) rfl (e := (.aload_n 0, 1, [], .null)) rfl rfl (fun _ _ => rfl) rfl rfl
      have E := E.gr (n := 7) (p := 74) rfl (x := 27) (m := 3) (w := .null) (t := 4) (i := 2) (u := 262) rfl rfl hV13 ((((ty.ul rfl).ui rfl).ui rfl).ui rfl) rfl
      have E := E.ld (p := 75) (t := ri_isI) (i := 1) (n := 1) (v := .int so) rfl (e := (.iload_n 1, 1, [], .null)) rfl rfl (fun _ _ => rfl) rfl rfl
      have E := E.pu (p := 76) (lo' := (ri_as 0 [.ref 5, .int so, .long co])) (st' := [.int so, .ref 7, .int so, .ref 7]) rfl (e := (.dup2, 1, [], .null)) rfl rfl (fun _ _ => rfl)
      have E := E.ai (p := 77) (z := eh_i G 7 (so).toNatClampNeg) (n := (so).toNatClampNeg) rfl (e := (.iaload, 1, [], .null)) rfl rfl (fun _ _ => rfl) rfl hV13 ((((ty.ul rfl).ui rfl).ui rfl).ui rfl) rfl rfl rfl
      have E := E.pu (p := 78) (lo' := (ri_as 0 [.ref 5, .int so, .long co])) (st' := [.int 1, .int (eh_i G 7 (so).toNatClampNeg), .int so, .ref 7]) rfl (e := (.iconst 1, 1, [], .null)) rfl rfl (fun _ _ => rfl)
      have E := E.pu (p := 79) (lo' := (ri_as 0 [.ref 5, .int so, .long co])) (st' := [.int ((eh_i G 7 (so).toNatClampNeg) + 1), .int so, .ref 7]) rfl (e := (.iadd, 1, [], .null)) rfl rfl (fun _ _ => rfl)
      obtain ⟨h15, hV16, hN17, E⟩ := E.aw (gg := ri_g1) (b := true) (p := 80) (n := (so).toNatClampNeg) rfl (e := (.iastore, 1, [], .null)) rfl rfl (fun _ _ => rfl) rfl hV13 rfl
      have E := E.ld (p := 81) (t := ri_isA) (i := 0) (n := 1) (v := .ref 5) rfl (e := (.aload_n 0, 1, [], .null)) rfl rfl (fun _ _ => rfl) rfl rfl
      have E := E.gr (n := 7) (p := 84) rfl (x := 27) (m := 3) (w := .null) (t := 4) (i := 2) (u := 262) rfl rfl hV16 (((((ty.ul rfl).ui rfl).ui rfl).ui rfl).ui rfl) rfl
      have E := E.ld (p := 85) (t := ri_isI) (i := 1) (n := 1) (v := .int so) rfl (e := (.iload_n 1, 1, [], .null)) rfl rfl (fun _ _ => rfl) rfl rfl
      have E := E.ai (p := 86) (z := (eh_i G 7 (so).toNatClampNeg) + 1) (n := (so).toNatClampNeg) rfl (e := (.iaload, 1, [], .null)) rfl rfl (fun _ _ => rfl) rfl hV16 (((((ty.ul rfl).ui rfl).ui rfl).ui rfl).ui rfl) rfl rfl (eh_i_self (eh_u (eh_u (eh_u (eh_u G 14 (eh_i G 5 12).toNatClampNeg (.long co)) 15 (eh_i G 5 12).toNatClampNeg (.int so)) 16 (eh_i G 5 12).toNatClampNeg (.int (eh_i G 7 (so).toNatClampNeg))) 5 12 (.int ((eh_i G 5 12) + 1))) 7 (so).toNatClampNeg ((eh_i G 7 (so).toNatClampNeg) + 1))
      have E := E.pu (p := 87) (lo' := (ri_as 0 [.ref 5, .int so, .long co])) (st' := [.int 1, .int ((eh_i G 7 (so).toNatClampNeg) + 1)]) rfl (e := (.iconst 1, 1, [], .null)) rfl rfl (fun _ _ => rfl)
      have E := E.pu (p := 88) (lo' := (ri_as 0 [.ref 5, .int so, .long co])) (st' := [.int (((eh_i G 7 (so).toNatClampNeg) + 1) - 1)]) rfl (e := (.isub, 1, [], .null)) rfl rfl (fun _ _ => rfl)
      obtain ⟨r1, r2⟩ := E.reti rfl (m := 1) (ax := []) (w := .null) rfl
      exact Or.inr (Or.inl ⟨c1, c2, (by rw [← hrs, r1]; rfl), ((congrArg eh_V r2).trans hV16), ((congrArg eh_N r2).trans (hN17.trans (hN14.trans (hN11.trans (hN8.trans hN5)))))⟩)
    · skip
      have E := E.pu (p := 24) (lo' := (ri_as 0 [.ref 5, .int so, .long co])) (st' := [.int (-1)]) rfl (e := (.iconst (-1), 1, [], .null)) rfl rfl (fun _ _ => rfl)
      obtain ⟨r1, r2⟩ := E.reti rfl (m := 1) (ax := []) (w := .null) rfl
      exact Or.inr (Or.inr (⟨c1, c2, (by rw [← hrs, r1]; rfl), ((congrArg eh_V r2).trans hV), (congrArg eh_N r2)⟩))
theorem sp_32 {d : Nat} {h h' : ri_H} {v : Option Value} {G : eh_W} {x0 x1 : Int32} (E : ri_calE ri_md (d + 1) 32 [.int x0, .int x1] h = some (v, h')) (hV : eh_V h = G) (ty : eh_ty tC G) : v = some (.int (((x0 &&& 21845) + (x1 &&& 21845)) ^^^ ((x0 ^^^ x1) &&& 43690))) ∧ eh_V h' = G ∧ eh_N h' = eh_N h := by
  obtain ⟨rs, hrs, E⟩ := eh_in E (q := md_32) rfl
  have E := E.ld (p := 1) (t := ri_isI) (i := 0) (n := 1) (v := .int x0) rfl (e := (.iload_n 0, 1, [], .null)) rfl rfl (fun _ _ => rfl) rfl rfl
  have E := E.pu (p := 4) (lo' := (ri_as 0 [.int x0, .int x1])) (st' := [.int 21845, .int x0]) rfl (e := (.sipush 21845, 3, [], .null)) rfl rfl (fun _ _ => rfl)
  have E := E.pu (p := 5) (lo' := (ri_as 0 [.int x0, .int x1])) (st' := [.int (x0 &&& 21845)]) rfl (e := (.iand, 1, [], .null)) rfl rfl (fun _ _ => rfl)
  have E := E.ld (p := 6) (t := ri_isI) (i := 1) (n := 1) (v := .int x1) rfl (e := (.iload_n 1, 1, [], .null)) rfl rfl (fun _ _ => rfl) rfl rfl
  have E := E.pu (p := 9) (lo' := (ri_as 0 [.int x0, .int x1])) (st' := [.int 21845, .int x1, .int (x0 &&& 21845)]) rfl (e := (.sipush 21845, 3, [], .null)) rfl rfl (fun _ _ => rfl)
  have E := E.pu (p := 10) (lo' := (ri_as 0 [.int x0, .int x1])) (st' := [.int (x1 &&& 21845), .int (x0 &&& 21845)]) rfl (e := (.iand, 1, [], .null)) rfl rfl (fun _ _ => rfl)
  have E := E.pu (p := 11) (lo' := (ri_as 0 [.int x0, .int x1])) (st' := [.int ((x0 &&& 21845) + (x1 &&& 21845))]) rfl (e := (.iadd, 1, [], .null)) rfl rfl (fun _ _ => rfl)
  have E := E.ld (p := 12) (t := ri_isI) (i := 0) (n := 1) (v := .int x0) rfl (e := (.iload_n 0, 1, [], .null)) rfl rfl (fun _ _ => rfl) rfl rfl
  have E := E.ld (p := 13) (t := ri_isI) (i := 1) (n := 1) (v := .int x1) rfl (e := (.iload_n 1, 1, [], .null)) rfl rfl (fun _ _ => rfl) rfl rfl
  have E := E.pu (p := 14) (lo' := (ri_as 0 [.int x0, .int x1])) (st' := [.int (x0 ^^^ x1), .int ((x0 &&& 21845) + (x1 &&& 21845))]) rfl (e := (.ixor, 1, [], .null)) rfl rfl (fun _ _ => rfl)
  have E := E.pu (p := 16) (lo' := (ri_as 0 [.int x0, .int x1])) (st' := [.int 43690, .int (x0 ^^^ x1), .int ((x0 &&& 21845) + (x1 &&& 21845))]) rfl (e := (.ldc 74, 2, [717], .int 43690)) rfl rfl (fun _ _ => rfl)
  have E := E.pu (p := 17) (lo' := (ri_as 0 [.int x0, .int x1])) (st' := [.int ((x0 ^^^ x1) &&& 43690), .int ((x0 &&& 21845) + (x1 &&& 21845))]) rfl (e := (.iand, 1, [], .null)) rfl rfl (fun _ _ => rfl)
  have E := E.pu (p := 18) (lo' := (ri_as 0 [.int x0, .int x1])) (st' := [.int (((x0 &&& 21845) + (x1 &&& 21845)) ^^^ ((x0 ^^^ x1) &&& 43690))]) rfl (e := (.ixor, 1, [], .null)) rfl rfl (fun _ _ => rfl)
  obtain ⟨r1, r2⟩ := E.reti rfl (m := 1) (ax := []) (w := .null) rfl
  exact ⟨(by rw [← hrs, r1]; rfl), ((congrArg eh_V r2).trans hV), (congrArg eh_N r2)⟩
theorem sp_31 {d : Nat} {h h' : ri_H} {v : Option Value} {G : eh_W} {l c hi : Int32} (E : ri_calE ri_md (d + 2) 31 [.ref 5, .int l, .int c, .int hi] h = some (v, h')) (hV : eh_V h = G) (ty : eh_ty tC G) : (¬ ((eh_i G 10 (l).toNatClampNeg).toInt < 8) ∧ v = none ∧ eh_V h' = G ∧ eh_N h' = eh_N h) ∨ ((eh_i G 10 (l).toNatClampNeg).toInt < 8 ∧ v = none ∧ eh_V h' = eh_u (eh_u (eh_u G 11 ((l * 8) + (eh_i G 10 (l).toNatClampNeg)).toNatClampNeg (.int ((10 * c) + hi))) 10 (l).toNatClampNeg (.int ((eh_i G 10 (l).toNatClampNeg) + 1))) 12 (l).toNatClampNeg (.int ((((eh_i G 12 (l).toNatClampNeg) &&& 21845) + ((hi <<< ((2 * c) &&& 31)) &&& 21845)) ^^^ (((eh_i G 12 (l).toNatClampNeg) ^^^ (hi <<< ((2 * c) &&& 31))) &&& 43690))) ∧ eh_N h' = eh_N h) := by
  obtain ⟨rs, hrs, E⟩ := eh_in E (q := md_31) rfl
  have E := E.ld (p := 1) (t := ri_isA) (i := 0) (n := 1) (v := .ref 5) rfl (e := (.aload_n 0, 1, [], .null)) rfl rfl (fun _ _ => rfl) rfl rfl
  have E := E.gr (n := 10) (p := 4) rfl (x := 36) (m := 3) (w := .null) (t := 4) (i := 5) (u := 277) rfl rfl hV ty rfl
  have E := E.ld (p := 5) (t := ri_isI) (i := 1) (n := 1) (v := .int l) rfl (e := (.iload_n 1, 1, [], .null)) rfl rfl (fun _ _ => rfl) rfl rfl
  have E := E.ai (p := 6) (z := eh_i G 10 (l).toNatClampNeg) (n := (l).toNatClampNeg) rfl (e := (.iaload, 1, [], .null)) rfl rfl (fun _ _ => rfl) rfl hV ty rfl rfl rfl
  have E := E.pu (p := 8) (lo' := (ri_as 0 [.ref 5, .int l, .int c, .int hi])) (st' := [.int 8, .int (eh_i G 10 (l).toNatClampNeg)]) rfl (e := (.bipush 8, 2, [], .null)) rfl rfl (fun _ _ => rfl)
  rcases eh_r3 rfl (show (8 : Int32).toInt = 8 by decide) (E.br (p := 11) (c := 3) (tgt := 63) (a := eh_i G 10 (l).toNatClampNeg) (b := 8) (st' := []) rfl (e := (.if_icmp .ge 55, 3, [63], .null)) rfl rfl (fun _ _ => rfl) rfl) with ⟨c1, E⟩ | ⟨c1, E⟩
  · skip
    obtain ⟨r1, r2⟩ := E.retv rfl (m := 1) (ax := []) (w := .null) rfl
    exact Or.inl ⟨c1, (by rw [← hrs, r1]; rfl), ((congrArg eh_V r2).trans hV), (congrArg eh_N r2)⟩
  · skip
    have E := E.ld (p := 12) (t := ri_isA) (i := 0) (n := 1) (v := .ref 5) rfl (e := (.aload_n 0, 1, [], .null)) rfl rfl (fun _ _ => rfl) rfl rfl
    have E := E.gr (n := 11) (p := 15) rfl (x := 39) (m := 3) (w := .null) (t := 4) (i := 6) (u := 280) rfl rfl hV ty rfl
    have E := E.ld (p := 16) (t := ri_isI) (i := 1) (n := 1) (v := .int l) rfl (e := (.iload_n 1, 1, [], .null)) rfl rfl (fun _ _ => rfl) rfl rfl
    have E := E.pu (p := 18) (lo' := (ri_as 0 [.ref 5, .int l, .int c, .int hi])) (st' := [.int 8, .int l, .ref 11]) rfl (e := (.bipush 8, 2, [], .null)) rfl rfl (fun _ _ => rfl)
    have E := E.pu (p := 19) (lo' := (ri_as 0 [.ref 5, .int l, .int c, .int hi])) (st' := [.int (l * 8), .ref 11]) rfl (e := (.imul, 1, [], .null)) rfl rfl (fun _ _ => rfl)
    have E := E.ld (p := 20) (t := ri_isA) (i := 0) (n := 1) (v := .ref 5) rfl (e := (.aload_n 0, 1, [], .null)) rfl rfl (fun _ _ => rfl) rfl rfl
    have E := E.gr (n := 10) (p := 23) rfl (x := 36) (m := 3) (w := .null) (t := 4) (i := 5) (u := 277) rfl rfl hV ty rfl
    have E := E.ld (p := 24) (t := ri_isI) (i := 1) (n := 1) (v := .int l) rfl (e := (.iload_n 1, 1, [], .null)) rfl rfl (fun _ _ => rfl) rfl rfl
    have E := E.ai (p := 25) (z := eh_i G 10 (l).toNatClampNeg) (n := (l).toNatClampNeg) rfl (e := (.iaload, 1, [], .null)) rfl rfl (fun _ _ => rfl) rfl hV ty rfl rfl rfl
    have E := E.pu (p := 26) (lo' := (ri_as 0 [.ref 5, .int l, .int c, .int hi])) (st' := [.int ((l * 8) + (eh_i G 10 (l).toNatClampNeg)), .ref 11]) rfl (e := (.iadd, 1, [], .null)) rfl rfl (fun _ _ => rfl)
    have E := E.pu (p := 28) (lo' := (ri_as 0 [.ref 5, .int l, .int c, .int hi])) (st' := [.int 10, .int ((l * 8) + (eh_i G 10 (l).toNatClampNeg)), .ref 11]) rfl (e := (.bipush 10, 2, [], .null)) rfl rfl (fun _ _ => rfl)
    have E := E.ld (p := 29) (t := ri_isI) (i := 2) (n := 1) (v := .int c) rfl (e := (.iload_n 2, 1, [], .null)) rfl rfl (fun _ _ => rfl) rfl rfl
    have E := E.pu (p := 30) (lo' := (ri_as 0 [.ref 5, .int l, .int c, .int hi])) (st' := [.int (10 * c), .int ((l * 8) + (eh_i G 10 (l).toNatClampNeg)), .ref 11]) rfl (e := (.imul, 1, [], .null)) rfl rfl (fun _ _ => rfl)
    have E := E.ld (p := 31) (t := ri_isI) (i := 3) (n := 1) (v := .int hi) rfl (e := (.iload_n 3, 1, [], .null)) rfl rfl (fun _ _ => rfl) rfl rfl
    have E := E.pu (p := 32) (lo' := (ri_as 0 [.ref 5, .int l, .int c, .int hi])) (st' := [.int ((10 * c) + hi), .int ((l * 8) + (eh_i G 10 (l).toNatClampNeg)), .ref 11]) rfl (e := (.iadd, 1, [], .null)) rfl rfl (fun _ _ => rfl)
    obtain ⟨h2, hV3, hN4, E⟩ := E.aw (gg := ri_g1) (b := true) (p := 33) (n := ((l * 8) + (eh_i G 10 (l).toNatClampNeg)).toNatClampNeg) rfl (e := (.iastore, 1, [], .null)) rfl rfl (fun _ _ => rfl) rfl hV rfl
    have E := E.ld (p := 34) (t := ri_isA) (i := 0) (n := 1) (v := .ref 5) rfl (e := (.aload_n 0, 1, [], .null)) rfl rfl (fun _ _ => rfl) rfl rfl
    have E := E.gr (n := 10) (p := 37) rfl (x := 36) (m := 3) (w := .null) (t := 4) (i := 5) (u := 277) rfl rfl hV3 (ty.ui rfl) rfl
    have E := E.ld (p := 38) (t := ri_isI) (i := 1) (n := 1) (v := .int l) rfl (e := (.iload_n 1, 1, [], .null)) rfl rfl (fun _ _ => rfl) rfl rfl
    have E := E.pu (p := 39) (lo' := (ri_as 0 [.ref 5, .int l, .int c, .int hi])) (st' := [.int l, .ref 10, .int l, .ref 10]) rfl (e := (.dup2, 1, [], .null)) rfl rfl (fun _ _ => rfl)
    have E := E.ai (p := 40) (z := eh_i G 10 (l).toNatClampNeg) (n := (l).toNatClampNeg) rfl (e := (.iaload, 1, [], .null)) rfl rfl (fun _ _ => rfl) rfl hV3 (ty.ui rfl) rfl rfl rfl
    have E := E.pu (p := 41) (lo' := (ri_as 0 [.ref 5, .int l, .int c, .int hi])) (st' := [.int 1, .int (eh_i G 10 (l).toNatClampNeg), .int l, .ref 10]) rfl (e := (.iconst 1, 1, [], .null)) rfl rfl (fun _ _ => rfl)
    have E := E.pu (p := 42) (lo' := (ri_as 0 [.ref 5, .int l, .int c, .int hi])) (st' := [.int ((eh_i G 10 (l).toNatClampNeg) + 1), .int l, .ref 10]) rfl (e := (.iadd, 1, [], .null)) rfl rfl (fun _ _ => rfl)
    obtain ⟨h5, hV6, hN7, E⟩ := E.aw (gg := ri_g1) (b := true) (p := 43) (n := (l).toNatClampNeg) rfl (e := (.iastore, 1, [], .null)) rfl rfl (fun _ _ => rfl) rfl hV3 rfl
    have E := E.ld (p := 44) (t := ri_isA) (i := 0) (n := 1) (v := .ref 5) rfl (e := (.aload_n 0, 1, [], .null)) rfl rfl (fun _ _ => rfl) rfl rfl
    have E := E.gr (n := 12) (p := 47) rfl (x := 42) (m := 3) (w := .null) (t := 4) (i := 7) (u := 282) rfl rfl hV6 ((ty.ui rfl).ui rfl) rfl
    have E := E.ld (p := 48) (t := ri_isI) (i := 1) (n := 1) (v := .int l) rfl (e := (.iload_n 1, 1, [], .null)) rfl rfl (fun _ _ => rfl) rfl rfl
    have E := E.ld (p := 49) (t := ri_isA) (i := 0) (n := 1) (v := .ref 5) rfl (e := (.aload_n 0, 1, [], .null)) rfl rfl (fun _ _ => rfl) rfl rfl
    have E := E.gr (n := 12) (p := 52) rfl (x := 42) (m := 3) (w := .null) (t := 4) (i := 7) (u := 282) rfl rfl hV6 ((ty.ui rfl).ui rfl) rfl
    have E := E.ld (p := 53) (t := ri_isI) (i := 1) (n := 1) (v := .int l) rfl (e := (.iload_n 1, 1, [], .null)) rfl rfl (fun _ _ => rfl) rfl rfl
    have E := E.ai (p := 54) (z := eh_i G 12 (l).toNatClampNeg) (n := (l).toNatClampNeg) rfl (e := (.iaload, 1, [], .null)) rfl rfl (fun _ _ => rfl) rfl hV6 ((ty.ui rfl).ui rfl) rfl rfl rfl
    have E := E.ld (p := 55) (t := ri_isI) (i := 3) (n := 1) (v := .int hi) rfl (e := (.iload_n 3, 1, [], .null)) rfl rfl (fun _ _ => rfl) rfl rfl
    have E := E.pu (p := 56) (lo' := (ri_as 0 [.ref 5, .int l, .int c, .int hi])) (st' := [.int 2, .int hi, .int (eh_i G 12 (l).toNatClampNeg), .int l, .ref 12]) rfl (e := (.iconst 2, 1, [], .null)) rfl rfl (fun _ _ => rfl)
    have E := E.ld (p := 57) (t := ri_isI) (i := 2) (n := 1) (v := .int c) rfl (e := (.iload_n 2, 1, [], .null)) rfl rfl (fun _ _ => rfl) rfl rfl
    have E := E.pu (p := 58) (lo' := (ri_as 0 [.ref 5, .int l, .int c, .int hi])) (st' := [.int (2 * c), .int hi, .int (eh_i G 12 (l).toNatClampNeg), .int l, .ref 12]) rfl (e := (.imul, 1, [], .null)) rfl rfl (fun _ _ => rfl)
    have E := E.pu (p := 59) (lo' := (ri_as 0 [.ref 5, .int l, .int c, .int hi])) (st' := [.int (hi <<< ((2 * c) &&& 31)), .int (eh_i G 12 (l).toNatClampNeg), .int l, .ref 12]) rfl (e := (.ishl, 1, [], .null)) rfl rfl (fun _ _ => rfl)
    obtain ⟨v1, h8, X, E⟩ := E.cs (p := 62) (as := [.int (eh_i G 12 (l).toNatClampNeg), .int (hi <<< ((2 * c) &&& 31))]) (r := [.int l, .ref 12]) rfl (x := 70) (m := 3) (w := .null) (j := 32) (n := 2) (t := 0) (u := [714, 715]) rfl rfl rfl
    rcases sp_32 (d := d) X hV6 ((ty.ui rfl).ui rfl) with ⟨rfl, hV9, hN10⟩
    have E : eh_e _ _ 62 (ri_as 0 [.ref 5, .int l, .int c, .int hi]) [.int ((((eh_i G 12 (l).toNatClampNeg) &&& 21845) + ((hi <<< ((2 * c) &&& 31)) &&& 21845)) ^^^ (((eh_i G 12 (l).toNatClampNeg) ^^^ (hi <<< ((2 * c) &&& 31))) &&& 43690)), .int l, .ref 12] _ rs h' := E
    obtain ⟨h11, hV12, hN13, E⟩ := E.aw (gg := ri_g1) (b := true) (p := 63) (n := (l).toNatClampNeg) rfl (e := (.iastore, 1, [], .null)) rfl rfl (fun _ _ => rfl) rfl hV9 rfl
    obtain ⟨r1, r2⟩ := E.retv rfl (m := 1) (ax := []) (w := .null) rfl
    exact Or.inr (⟨c1, (by rw [← hrs, r1]; rfl), ((congrArg eh_V r2).trans hV12), ((congrArg eh_N r2).trans (hN13.trans (hN10.trans (hN7.trans hN4))))⟩)
theorem sp_49 {d : Nat} {h h' : ri_H} {v : Option Value} {G : eh_W} {b : Nat → Int32} {n m : Nat} {q : Int32} (E : ri_calE ri_md (d + 4) 49 [.ref 4, .int q] h = some (v, h')) (hV : eh_V h = G) (iv : iC b n m G) : (∃ (x3 : Int32), ∃ (h1 : ri_H), ri_calE ri_md (d + 3) 83 [.ref 2, .int 0, .int ((eh_i G 6 0) - 1)] h = some (some (.int x3), h1) ∧ iC b n m (eh_V h1) ∧ ¬ (x3 = (-1)) ∧ v = some (.int 1) ∧ eh_V h' = eh_u (eh_V h1) 13 (q).toNatClampNeg (.int x3) ∧ eh_N h' = eh_N h ∧ iC b n m (eh_u (eh_V h1) 13 (q).toNatClampNeg (.int x3))) ∨ (∃ (x3 : Int32), ∃ (h1 : ri_H), ri_calE ri_md (d + 3) 83 [.ref 2, .int 0, .int ((eh_i G 6 0) - 1)] h = some (some (.int x3), h1) ∧ iC b n m (eh_V h1) ∧ x3 = (-1) ∧ v = some (.int 0) ∧ eh_V h' = (eh_V h1) ∧ eh_N h' = eh_N h ∧ iC b n m (eh_V h1)) := by
  obtain ⟨rs, hrs, E⟩ := eh_in E (q := md_49) rfl
  have E := E.ld (p := 1) (t := ri_isA) (i := 0) (n := 1) (v := .ref 4) rfl (e := (.aload_n 0, 1, [], .null)) rfl rfl (fun _ _ => rfl) rfl rfl
  have E := E.gr (n := 2) (p := 4) rfl (x := 22) (m := 3) (w := .null) (t := 5) (i := 0) (u := 322) rfl rfl hV (iv.1) rfl
  have E := E.pu (p := 5) (lo' := (ri_as 0 [.ref 4, .int q])) (st' := [.int 0, .ref 2]) rfl (e := (.iconst 0, 1, [], .null)) rfl rfl (fun _ _ => rfl)
  have E := E.ld (p := 6) (t := ri_isA) (i := 0) (n := 1) (v := .ref 4) rfl (e := (.aload_n 0, 1, [], .null)) rfl rfl (fun _ _ => rfl) rfl rfl
  have E := E.gr (n := 5) (p := 9) rfl (x := 12) (m := 3) (w := .null) (t := 5) (i := 1) (u := 323) rfl rfl hV (iv.1) rfl
  have E := E.gr (n := 6) (p := 12) rfl (x := 67) (m := 3) (w := .null) (t := 4) (i := 0) (u := 256) rfl rfl hV (iv.1) rfl
  have E := E.pu (p := 13) (lo' := (ri_as 0 [.ref 4, .int q])) (st' := [.int 0, .ref 6, .int 0, .ref 2]) rfl (e := (.iconst 0, 1, [], .null)) rfl rfl (fun _ _ => rfl)
  have E := E.ai (p := 14) (z := eh_i G 6 0) (n := 0) rfl (e := (.iaload, 1, [], .null)) rfl rfl (fun _ _ => rfl) rfl hV (iv.1) (by decide) rfl rfl
  have E := E.pu (p := 15) (lo' := (ri_as 0 [.ref 4, .int q])) (st' := [.int 1, .int (eh_i G 6 0), .int 0, .ref 2]) rfl (e := (.iconst 1, 1, [], .null)) rfl rfl (fun _ _ => rfl)
  have E := E.pu (p := 16) (lo' := (ri_as 0 [.ref 4, .int q])) (st' := [.int ((eh_i G 6 0) - 1), .int 0, .ref 2]) rfl (e := (.isub, 1, [], .null)) rfl rfl (fun _ _ => rfl)
  obtain ⟨v1, h1, X, E⟩ := E.cv (p := 19) (as := [.int 0, .int ((eh_i G 6 0) - 1)]) (b := 2) (r := []) rfl (x := 63) (m := 3) (w := .null) (j := 83) (n := 2) (t := 8) (u := [706, 708, 707]) rfl rfl rfl
  obtain ⟨x3, rfl, ivk2, hNk2⟩ := tp_83 (d := d) X (by rw [hV]; exact iv)
  have Xk2 := X
  have E : eh_e _ _ 19 (ri_as 0 [.ref 4, .int q]) [.int x3] h1 rs h' := E
  have E := E.so (p := 20) (t := ri_isI) (i := 2) (n := 1) rfl (e := (.istore_n 2, 1, [], .null)) rfl rfl (fun _ _ => rfl) rfl
  have k4_2 : ri_lk (ri_st1 (ri_as 0 [.ref 4, .int q]) 2 (.int x3)) 2 = some (.int x3) := eh_self
  have k4_0 : ri_lk (ri_st1 (ri_as 0 [.ref 4, .int q]) 2 (.int x3)) 0 = some (.ref 4) := eh_keep (by decide) (Or.inl rfl) rfl
  have k4_1 : ri_lk (ri_st1 (ri_as 0 [.ref 4, .int q]) 2 (.int x3)) 1 = some (.int q) := eh_keep (by decide) (Or.inl rfl) rfl
  have E := E.ld (p := 21) (t := ri_isI) (i := 2) (n := 1) (v := .int x3) rfl (e := (.iload_n 2, 1, [], .null)) rfl rfl (fun _ _ => rfl) k4_2 rfl
  have E := E.pu (p := 22) (lo' := (ri_st1 (ri_as 0 [.ref 4, .int q]) 2 (.int x3))) (st' := [.int (-1), .int x3]) rfl (e := (.iconst (-1), 1, [], .null)) rfl rfl (fun _ _ => rfl)
  rcases eh_q1 (E.br (p := 25) (c := 1) (tgt := 27) (a := x3) (b := (-1)) (st' := []) rfl (e := (.if_icmp .ne 5, 3, [27], .null)) rfl rfl (fun _ _ => rfl) rfl) with ⟨c5, E⟩ | ⟨c5, E⟩
  · skip
    have E := E.ld (p := 28) (t := ri_isA) (i := 0) (n := 1) (v := .ref 4) rfl (e := (.aload_n 0, 1, [], .null)) rfl rfl (fun _ _ => rfl) k4_0 rfl
    have E := E.gr (n := 5) (p := 31) rfl (x := 12) (m := 3) (w := .null) (t := 5) (i := 1) (u := 323) rfl rfl (rfl : eh_V h1 = eh_V h1) ivk2.1 rfl
    have E := E.gr (n := 13) (p := 34) rfl (x := 119) (m := 3) (w := .null) (t := 4) (i := 8) (u := 285) rfl rfl (rfl : eh_V h1 = eh_V h1) ivk2.1 rfl
    have E := E.ld (p := 35) (t := ri_isI) (i := 1) (n := 1) (v := .int q) rfl (e := (.iload_n 1, 1, [], .null)) rfl rfl (fun _ _ => rfl) k4_1 rfl
    have E := E.ld (p := 36) (t := ri_isI) (i := 2) (n := 1) (v := .int x3) rfl (e := (.iload_n 2, 1, [], .null)) rfl rfl (fun _ _ => rfl) k4_2 rfl
    obtain ⟨h6, hV7, hN8, E⟩ := E.aw (gg := ri_g1) (b := true) (p := 37) (n := (q).toNatClampNeg) rfl (e := (.iastore, 1, [], .null)) rfl rfl (fun _ _ => rfl) rfl (rfl : eh_V h1 = eh_V h1) rfl
    have E := E.pu (p := 38) (lo' := (ri_st1 (ri_as 0 [.ref 4, .int q]) 2 (.int x3))) (st' := [.int 1]) rfl (e := (.iconst 1, 1, [], .null)) rfl rfl (fun _ _ => rfl)
    obtain ⟨r1, r2⟩ := E.reti rfl (m := 1) (ax := []) (w := .null) rfl
    exact Or.inl ⟨x3, h1, Xk2, ivk2, c5, (by rw [← hrs, r1]; rfl), ((congrArg eh_V r2).trans hV7), ((congrArg eh_N r2).trans (hN8.trans hNk2)), (iC_u ivk2 (ivk2.1.ui rfl) rfl)⟩
  · skip
    have E := E.pu (p := 26) (lo' := (ri_st1 (ri_as 0 [.ref 4, .int q]) 2 (.int x3))) (st' := [.int 0]) rfl (e := (.iconst 0, 1, [], .null)) rfl rfl (fun _ _ => rfl)
    obtain ⟨r1, r2⟩ := E.reti rfl (m := 1) (ax := []) (w := .null) rfl
    exact Or.inr (⟨x3, h1, Xk2, ivk2, c5, (by rw [← hrs, r1]; rfl), ((congrArg eh_V r2).trans (rfl : eh_V h1 = eh_V h1)), ((congrArg eh_N r2).trans hNk2), ivk2⟩)
theorem tp_49 {d : Nat} {h h' : ri_H} {v : Option Value} {b : Nat → Int32} {n m : Nat} {q : Int32} (E : ri_calE ri_md (d + 4) 49 [.ref 4, .int q] h = some (v, h')) (iv : iC b n m (eh_V h)) : ∃ x : Int32, v = some (.int x) ∧ iC b n m (eh_V h') ∧ eh_N h' = eh_N h := by
  rcases sp_49 E rfl iv with ⟨_, _, _, _, _, r1, r2, r3, r4⟩ | ⟨_, _, _, _, _, r1, r2, r3, r4⟩
  · exact ⟨_, r1, by rw [r2]; exact r4, r3⟩
  · exact ⟨_, r1, by rw [r2]; exact r4, r3⟩
theorem sp_48 {d : Nat} {h h' : ri_H} {v : Option Value} {G : eh_W} {b : Nat → Int32} {n m : Nat} {l : Int32} (E : ri_calE ri_md (d + 4) 48 [.ref 4, .int l] h = some (v, h')) (hV : eh_V h = G) (iv : iC b n m G) : (∃ (x3 : Int32), ∃ (h1 : ri_H), ∃ (x8 : Int32), ∃ (h6 : ri_H), ri_calE ri_md (d + 3) 83 [.ref 2, .int 0, .int ((eh_i G 6 0) - 1)] h = some (some (.int x3), h1) ∧ iC b n m (eh_V h1) ∧ ¬ (x3 = (-1)) ∧ ri_calE ri_md (d + 3) 83 [.ref 2, .int 1, .int 3] h1 = some (some (.int x8), h6) ∧ iC b n m (eh_V h6) ∧ ¬ (x8 = (-1)) ∧ ¬ ((eh_i (eh_V h6) 10 (l).toNatClampNeg).toInt < 8) ∧ v = some (.int 1) ∧ eh_V h' = (eh_V h6) ∧ eh_N h' = eh_N h ∧ iC b n m (eh_V h6)) ∨ (∃ (x3 : Int32), ∃ (h1 : ri_H), ∃ (x8 : Int32), ∃ (h6 : ri_H), ri_calE ri_md (d + 3) 83 [.ref 2, .int 0, .int ((eh_i G 6 0) - 1)] h = some (some (.int x3), h1) ∧ iC b n m (eh_V h1) ∧ ¬ (x3 = (-1)) ∧ ri_calE ri_md (d + 3) 83 [.ref 2, .int 1, .int 3] h1 = some (some (.int x8), h6) ∧ iC b n m (eh_V h6) ∧ ¬ (x8 = (-1)) ∧ (eh_i (eh_V h6) 10 (l).toNatClampNeg).toInt < 8 ∧ v = some (.int 1) ∧ eh_V h' = eh_u (eh_u (eh_u (eh_V h6) 11 ((l * 8) + (eh_i (eh_V h6) 10 (l).toNatClampNeg)).toNatClampNeg (.int ((10 * x3) + x8))) 10 (l).toNatClampNeg (.int ((eh_i (eh_V h6) 10 (l).toNatClampNeg) + 1))) 12 (l).toNatClampNeg (.int ((((eh_i (eh_V h6) 12 (l).toNatClampNeg) &&& 21845) + ((x8 <<< ((2 * x3) &&& 31)) &&& 21845)) ^^^ (((eh_i (eh_V h6) 12 (l).toNatClampNeg) ^^^ (x8 <<< ((2 * x3) &&& 31))) &&& 43690))) ∧ eh_N h' = eh_N h ∧ iC b n m (eh_u (eh_u (eh_u (eh_V h6) 11 ((l * 8) + (eh_i (eh_V h6) 10 (l).toNatClampNeg)).toNatClampNeg (.int ((10 * x3) + x8))) 10 (l).toNatClampNeg (.int ((eh_i (eh_V h6) 10 (l).toNatClampNeg) + 1))) 12 (l).toNatClampNeg (.int ((((eh_i (eh_V h6) 12 (l).toNatClampNeg) &&& 21845) + ((x8 <<< ((2 * x3) &&& 31)) &&& 21845)) ^^^ (((eh_i (eh_V h6) 12 (l).toNatClampNeg) ^^^ (x8 <<< ((2 * x3) &&& 31))) &&& 43690))))) ∨ (∃ (x3 : Int32), ∃ (h1 : ri_H), ∃ (x8 : Int32), ∃ (h6 : ri_H), ri_calE ri_md (d + 3) 83 [.ref 2, .int 0, .int ((eh_i G 6 0) - 1)] h = some (some (.int x3), h1) ∧ iC b n m (eh_V h1) ∧ ¬ (x3 = (-1)) ∧ ri_calE ri_md (d + 3) 83 [.ref 2, .int 1, .int 3] h1 = some (some (.int x8), h6) ∧ iC b n m (eh_V h6) ∧ x8 = (-1) ∧ v = some (.int 0) ∧ eh_V h' = (eh_V h6) ∧ eh_N h' = eh_N h ∧ iC b n m (eh_V h6)) ∨ (∃ (x3 : Int32), ∃ (h1 : ri_H), ri_calE ri_md (d + 3) 83 [.ref 2, .int 0, .int ((eh_i G 6 0) - 1)] h = some (some (.int x3), h1) ∧ iC b n m (eh_V h1) ∧ x3 = (-1) ∧ v = some (.int 0) ∧ eh_V h' = (eh_V h1) ∧ eh_N h' = eh_N h ∧ iC b n m (eh_V h1)) := by
  obtain ⟨rs, hrs, E⟩ := eh_in E (q := md_48) rfl
  have E := E.ld (p := 1) (t := ri_isA) (i := 0) (n := 1) (v := .ref 4) rfl (e := (.aload_n 0, 1, [], .null)) rfl rfl (fun _ _ => rfl) rfl rfl
  have E := E.gr (n := 2) (p := 4) rfl (x := 22) (m := 3) (w := .null) (t := 5) (i := 0) (u := 322) rfl rfl hV (iv.1) rfl
  have E := E.pu (p := 5) (lo' := (ri_as 0 [.ref 4, .int l])) (st' := [.int 0, .ref 2]) rfl (e := (.iconst 0, 1, [], .null)) rfl rfl (fun _ _ => rfl)
  have E := E.ld (p := 6) (t := ri_isA) (i := 0) (n := 1) (v := .ref 4) rfl (e := (.aload_n 0, 1, [], .null)) rfl rfl (fun _ _ => rfl) rfl rfl
  have E := E.gr (n := 5) (p := 9) rfl (x := 12) (m := 3) (w := .null) (t := 5) (i := 1) (u := 323) rfl rfl hV (iv.1) rfl
  have E := E.gr (n := 6) (p := 12) rfl (x := 67) (m := 3) (w := .null) (t := 4) (i := 0) (u := 256) rfl rfl hV (iv.1) rfl
  have E := E.pu (p := 13) (lo' := (ri_as 0 [.ref 4, .int l])) (st' := [.int 0, .ref 6, .int 0, .ref 2]) rfl (e := (.iconst 0, 1, [], .null)) rfl rfl (fun _ _ => rfl)
  have E := E.ai (p := 14) (z := eh_i G 6 0) (n := 0) rfl (e := (.iaload, 1, [], .null)) rfl rfl (fun _ _ => rfl) rfl hV (iv.1) (by decide) rfl rfl
  have E := E.pu (p := 15) (lo' := (ri_as 0 [.ref 4, .int l])) (st' := [.int 1, .int (eh_i G 6 0), .int 0, .ref 2]) rfl (e := (.iconst 1, 1, [], .null)) rfl rfl (fun _ _ => rfl)
  have E := E.pu (p := 16) (lo' := (ri_as 0 [.ref 4, .int l])) (st' := [.int ((eh_i G 6 0) - 1), .int 0, .ref 2]) rfl (e := (.isub, 1, [], .null)) rfl rfl (fun _ _ => rfl)
  obtain ⟨v1, h1, X, E⟩ := E.cv (p := 19) (as := [.int 0, .int ((eh_i G 6 0) - 1)]) (b := 2) (r := []) rfl (x := 63) (m := 3) (w := .null) (j := 83) (n := 2) (t := 8) (u := [706, 708, 707]) rfl rfl rfl
  obtain ⟨x3, rfl, ivk2, hNk2⟩ := tp_83 (d := d) X (by rw [hV]; exact iv)
  have Xk2 := X
  have E : eh_e _ _ 19 (ri_as 0 [.ref 4, .int l]) [.int x3] h1 rs h' := E
  have E := E.so (p := 20) (t := ri_isI) (i := 2) (n := 1) rfl (e := (.istore_n 2, 1, [], .null)) rfl rfl (fun _ _ => rfl) rfl
  have k4_2 : ri_lk (ri_st1 (ri_as 0 [.ref 4, .int l]) 2 (.int x3)) 2 = some (.int x3) := eh_self
  have k4_0 : ri_lk (ri_st1 (ri_as 0 [.ref 4, .int l]) 2 (.int x3)) 0 = some (.ref 4) := eh_keep (by decide) (Or.inl rfl) rfl
  have k4_1 : ri_lk (ri_st1 (ri_as 0 [.ref 4, .int l]) 2 (.int x3)) 1 = some (.int l) := eh_keep (by decide) (Or.inl rfl) rfl
  have E := E.ld (p := 21) (t := ri_isI) (i := 2) (n := 1) (v := .int x3) rfl (e := (.iload_n 2, 1, [], .null)) rfl rfl (fun _ _ => rfl) k4_2 rfl
  have E := E.pu (p := 22) (lo' := (ri_st1 (ri_as 0 [.ref 4, .int l]) 2 (.int x3))) (st' := [.int (-1), .int x3]) rfl (e := (.iconst (-1), 1, [], .null)) rfl rfl (fun _ _ => rfl)
  rcases eh_q1 (E.br (p := 25) (c := 1) (tgt := 27) (a := x3) (b := (-1)) (st' := []) rfl (e := (.if_icmp .ne 5, 3, [27], .null)) rfl rfl (fun _ _ => rfl) rfl) with ⟨c5, E⟩ | ⟨c5, E⟩
  · skip
    have E := E.ld (p := 28) (t := ri_isA) (i := 0) (n := 1) (v := .ref 4) rfl (e := (.aload_n 0, 1, [], .null)) rfl rfl (fun _ _ => rfl) k4_0 rfl
    have E := E.gr (n := 2) (p := 31) rfl (x := 22) (m := 3) (w := .null) (t := 5) (i := 0) (u := 322) rfl rfl (rfl : eh_V h1 = eh_V h1) ivk2.1 rfl
    have E := E.pu (p := 32) (lo' := (ri_st1 (ri_as 0 [.ref 4, .int l]) 2 (.int x3))) (st' := [.int 1, .ref 2]) rfl (e := (.iconst 1, 1, [], .null)) rfl rfl (fun _ _ => rfl)
    have E := E.pu (p := 33) (lo' := (ri_st1 (ri_as 0 [.ref 4, .int l]) 2 (.int x3))) (st' := [.int 3, .int 1, .ref 2]) rfl (e := (.iconst 3, 1, [], .null)) rfl rfl (fun _ _ => rfl)
    obtain ⟨v1, h6, X, E⟩ := E.cv (p := 36) (as := [.int 1, .int 3]) (b := 2) (r := []) rfl (x := 63) (m := 3) (w := .null) (j := 83) (n := 2) (t := 8) (u := [706, 708, 707]) rfl rfl rfl
    obtain ⟨x8, rfl, ivk7, hNk7⟩ := tp_83 (d := d) X (by rw [(rfl : eh_V h1 = eh_V h1)]; exact ivk2)
    have Xk7 := X
    have E : eh_e _ _ 36 (ri_st1 (ri_as 0 [.ref 4, .int l]) 2 (.int x3)) [.int x8] h6 rs h' := E
    have E := E.so (p := 37) (t := ri_isI) (i := 3) (n := 1) rfl (e := (.istore_n 3, 1, [], .null)) rfl rfl (fun _ _ => rfl) rfl
    have k9_3 : ri_lk (ri_st1 (ri_st1 (ri_as 0 [.ref 4, .int l]) 2 (.int x3)) 3 (.int x8)) 3 = some (.int x8) := eh_self
    have k9_0 : ri_lk (ri_st1 (ri_st1 (ri_as 0 [.ref 4, .int l]) 2 (.int x3)) 3 (.int x8)) 0 = some (.ref 4) := eh_keep (by decide) (Or.inl rfl) k4_0
    have k9_1 : ri_lk (ri_st1 (ri_st1 (ri_as 0 [.ref 4, .int l]) 2 (.int x3)) 3 (.int x8)) 1 = some (.int l) := eh_keep (by decide) (Or.inl rfl) k4_1
    have k9_2 : ri_lk (ri_st1 (ri_st1 (ri_as 0 [.ref 4, .int l]) 2 (.int x3)) 3 (.int x8)) 2 = some (.int x3) := eh_keep (by decide) (Or.inl rfl) k4_2
    have E := E.ld (p := 38) (t := ri_isI) (i := 3) (n := 1) (v := .int x8) rfl (e := (.iload_n 3, 1, [], .null)) rfl rfl (fun _ _ => rfl) k9_3 rfl
    have E := E.pu (p := 39) (lo' := (ri_st1 (ri_st1 (ri_as 0 [.ref 4, .int l]) 2 (.int x3)) 3 (.int x8))) (st' := [.int (-1), .int x8]) rfl (e := (.iconst (-1), 1, [], .null)) rfl rfl (fun _ _ => rfl)
    rcases eh_q1 (E.br (p := 42) (c := 1) (tgt := 44) (a := x8) (b := (-1)) (st' := []) rfl (e := (.if_icmp .ne 5, 3, [44], .null)) rfl rfl (fun _ _ => rfl) rfl) with ⟨c10, E⟩ | ⟨c10, E⟩
    · skip
      have E := E.ld (p := 45) (t := ri_isA) (i := 0) (n := 1) (v := .ref 4) rfl (e := (.aload_n 0, 1, [], .null)) rfl rfl (fun _ _ => rfl) k9_0 rfl
      have E := E.gr (n := 5) (p := 48) rfl (x := 12) (m := 3) (w := .null) (t := 5) (i := 1) (u := 323) rfl rfl (rfl : eh_V h6 = eh_V h6) ivk7.1 rfl
      have E := E.ld (p := 49) (t := ri_isI) (i := 1) (n := 1) (v := .int l) rfl (e := (.iload_n 1, 1, [], .null)) rfl rfl (fun _ _ => rfl) k9_1 rfl
      have E := E.ld (p := 50) (t := ri_isI) (i := 2) (n := 1) (v := .int x3) rfl (e := (.iload_n 2, 1, [], .null)) rfl rfl (fun _ _ => rfl) k9_2 rfl
      have E := E.ld (p := 51) (t := ri_isI) (i := 3) (n := 1) (v := .int x8) rfl (e := (.iload_n 3, 1, [], .null)) rfl rfl (fun _ _ => rfl) k9_3 rfl
      obtain ⟨v1, h11, X, E⟩ := E.cv (p := 54) (as := [.int l, .int x3, .int x8]) (b := 5) (r := []) rfl (x := 115) (m := 3) (w := .null) (j := 31) (n := 3) (t := 4) (u := [710, 712, 711]) rfl rfl rfl
      rcases sp_31 (d := d + 1) X (rfl : eh_V h6 = eh_V h6) ivk7.1 with ⟨c12, rfl, hV13, hN14⟩ | ⟨c15, rfl, hV16, hN17⟩
      · skip
        have c12 : ¬ ((eh_i (eh_V h6) 10 (l).toNatClampNeg).toInt < 8) := c12
        have E : eh_e _ _ 54 (ri_st1 (ri_st1 (ri_as 0 [.ref 4, .int l]) 2 (.int x3)) 3 (.int x8)) [] _ rs h' := E
        have E := E.pu (p := 55) (lo' := (ri_st1 (ri_st1 (ri_as 0 [.ref 4, .int l]) 2 (.int x3)) 3 (.int x8))) (st' := [.int 1]) rfl (e := (.iconst 1, 1, [], .null)) rfl rfl (fun _ _ => rfl)
        obtain ⟨r1, r2⟩ := E.reti rfl (m := 1) (ax := []) (w := .null) rfl
        exact Or.inl ⟨x3, h1, x8, h6, Xk2, ivk2, c5, Xk7, ivk7, c10, c12, (by rw [← hrs, r1]; rfl), ((congrArg eh_V r2).trans hV13), ((congrArg eh_N r2).trans (hN14.trans (hNk7.trans hNk2))), ivk7⟩
      · skip
        have c15 : (eh_i (eh_V h6) 10 (l).toNatClampNeg).toInt < 8 := c15
        have hV16 : _ = eh_u (eh_u (eh_u (eh_V h6) 11 ((l * 8) + (eh_i (eh_V h6) 10 (l).toNatClampNeg)).toNatClampNeg (.int ((10 * x3) + x8))) 10 (l).toNatClampNeg (.int ((eh_i (eh_V h6) 10 (l).toNatClampNeg) + 1))) 12 (l).toNatClampNeg (.int ((((eh_i (eh_V h6) 12 (l).toNatClampNeg) &&& 21845) + ((x8 <<< ((2 * x3) &&& 31)) &&& 21845)) ^^^ (((eh_i (eh_V h6) 12 (l).toNatClampNeg) ^^^ (x8 <<< ((2 * x3) &&& 31))) &&& 43690))) := hV16
        have E : eh_e _ _ 54 (ri_st1 (ri_st1 (ri_as 0 [.ref 4, .int l]) 2 (.int x3)) 3 (.int x8)) [] _ rs h' := E
        have E := E.pu (p := 55) (lo' := (ri_st1 (ri_st1 (ri_as 0 [.ref 4, .int l]) 2 (.int x3)) 3 (.int x8))) (st' := [.int 1]) rfl (e := (.iconst 1, 1, [], .null)) rfl rfl (fun _ _ => rfl)
        obtain ⟨r1, r2⟩ := E.reti rfl (m := 1) (ax := []) (w := .null) rfl
        exact Or.inr (Or.inl ⟨x3, h1, x8, h6, Xk2, ivk2, c5, Xk7, ivk7, c10, c15, (by rw [← hrs, r1]; rfl), ((congrArg eh_V r2).trans hV16), ((congrArg eh_N r2).trans (hN17.trans (hNk7.trans hNk2))), (iC_u (iC_u (iC_u ivk7 (ivk7.1.ui rfl) rfl) ((ivk7.1.ui rfl).ui rfl) rfl) (((ivk7.1.ui rfl).ui rfl).ui rfl) rfl)⟩)
    · skip
      have E := E.pu (p := 43) (lo' := (ri_st1 (ri_st1 (ri_as 0 [.ref 4, .int l]) 2 (.int x3)) 3 (.int x8))) (st' := [.int 0]) rfl (e := (.iconst 0, 1, [], .null)) rfl rfl (fun _ _ => rfl)
      obtain ⟨r1, r2⟩ := E.reti rfl (m := 1) (ax := []) (w := .null) rfl
      exact Or.inr (Or.inr (Or.inl ⟨x3, h1, x8, h6, Xk2, ivk2, c5, Xk7, ivk7, c10, (by rw [← hrs, r1]; rfl), ((congrArg eh_V r2).trans (rfl : eh_V h6 = eh_V h6)), ((congrArg eh_N r2).trans (hNk7.trans hNk2)), ivk7⟩))
  · skip
    have E := E.pu (p := 26) (lo' := (ri_st1 (ri_as 0 [.ref 4, .int l]) 2 (.int x3))) (st' := [.int 0]) rfl (e := (.iconst 0, 1, [], .null)) rfl rfl (fun _ _ => rfl)
    obtain ⟨r1, r2⟩ := E.reti rfl (m := 1) (ax := []) (w := .null) rfl
    exact Or.inr (Or.inr (Or.inr (⟨x3, h1, Xk2, ivk2, c5, (by rw [← hrs, r1]; rfl), ((congrArg eh_V r2).trans (rfl : eh_V h1 = eh_V h1)), ((congrArg eh_N r2).trans hNk2), ivk2⟩)))
theorem tp_48 {d : Nat} {h h' : ri_H} {v : Option Value} {b : Nat → Int32} {n m : Nat} {l : Int32} (E : ri_calE ri_md (d + 4) 48 [.ref 4, .int l] h = some (v, h')) (iv : iC b n m (eh_V h)) : ∃ x : Int32, v = some (.int x) ∧ iC b n m (eh_V h') ∧ eh_N h' = eh_N h := by
  rcases sp_48 E rfl iv with ⟨_, _, _, _, _, _, _, _, _, _, _, r1, r2, r3, r4⟩ | ⟨_, _, _, _, _, _, _, _, _, _, _, r1, r2, r3, r4⟩ | ⟨_, _, _, _, _, _, _, _, _, _, r1, r2, r3, r4⟩ | ⟨_, _, _, _, _, r1, r2, r3, r4⟩
  · exact ⟨_, r1, by rw [r2]; exact r4, r3⟩
  · exact ⟨_, r1, by rw [r2]; exact r4, r3⟩
  · exact ⟨_, r1, by rw [r2]; exact r4, r3⟩
  · exact ⟨_, r1, by rw [r2]; exact r4, r3⟩
theorem sp_45 {d : Nat} {h h' : ri_H} {v : Option Value} {G : eh_W} {b : Nat → Int32} {n m : Nat} {f : Int32} (E : ri_calE ri_md (d + 4) 45 [.ref 4, .int f] h = some (v, h')) (hV : eh_V h = G) (iv : iC b n m G) : (∃ (x4 : Int32), ∃ (h2 : ri_H), (100 - f).toInt < 50 ∧ ri_calE ri_md (d + 3) 83 [.ref 2, .int 1, .int (100 - f)] h = some (some (.int x4), h2) ∧ iC b n m (eh_V h2) ∧ ¬ (x4 = (-1)) ∧ v = some (.int 1) ∧ eh_V h' = eh_u (eh_V h2) 5 1 (.int x4) ∧ eh_N h' = eh_N h ∧ iC b n m (eh_u (eh_V h2) 5 1 (.int x4))) ∨ (∃ (x4 : Int32), ∃ (h2 : ri_H), (100 - f).toInt < 50 ∧ ri_calE ri_md (d + 3) 83 [.ref 2, .int 1, .int (100 - f)] h = some (some (.int x4), h2) ∧ iC b n m (eh_V h2) ∧ x4 = (-1) ∧ v = some (.int 0) ∧ eh_V h' = (eh_V h2) ∧ eh_N h' = eh_N h ∧ iC b n m (eh_V h2)) ∨ (∃ (x12 : Int32), ∃ (h10 : ri_H), ¬ ((100 - f).toInt < 50) ∧ ri_calE ri_md (d + 3) 83 [.ref 2, .int 1, .int 50] h = some (some (.int x12), h10) ∧ iC b n m (eh_V h10) ∧ ¬ (x12 = (-1)) ∧ v = some (.int 1) ∧ eh_V h' = eh_u (eh_V h10) 5 1 (.int x12) ∧ eh_N h' = eh_N h ∧ iC b n m (eh_u (eh_V h10) 5 1 (.int x12))) ∨ (∃ (x12 : Int32), ∃ (h10 : ri_H), ¬ ((100 - f).toInt < 50) ∧ ri_calE ri_md (d + 3) 83 [.ref 2, .int 1, .int 50] h = some (some (.int x12), h10) ∧ iC b n m (eh_V h10) ∧ x12 = (-1) ∧ v = some (.int 0) ∧ eh_V h' = (eh_V h10) ∧ eh_N h' = eh_N h ∧ iC b n m (eh_V h10)) := by
  obtain ⟨rs, hrs, E⟩ := eh_in E (q := md_45) rfl
  have E := E.ld (p := 1) (t := ri_isA) (i := 0) (n := 1) (v := .ref 4) rfl (e := (.aload_n 0, 1, [], .null)) rfl rfl (fun _ _ => rfl) rfl rfl
  have E := E.gr (n := 2) (p := 4) rfl (x := 22) (m := 3) (w := .null) (t := 5) (i := 0) (u := 322) rfl rfl hV (iv.1) rfl
  have E := E.pu (p := 5) (lo' := (ri_as 0 [.ref 4, .int f])) (st' := [.int 1, .ref 2]) rfl (e := (.iconst 1, 1, [], .null)) rfl rfl (fun _ _ => rfl)
  have E := E.pu (p := 7) (lo' := (ri_as 0 [.ref 4, .int f])) (st' := [.int 50, .int 1, .ref 2]) rfl (e := (.bipush 50, 2, [], .null)) rfl rfl (fun _ _ => rfl)
  have E := E.pu (p := 9) (lo' := (ri_as 0 [.ref 4, .int f])) (st' := [.int 100, .int 50, .int 1, .ref 2]) rfl (e := (.bipush 100, 2, [], .null)) rfl rfl (fun _ _ => rfl)
  have E := E.ld (p := 10) (t := ri_isI) (i := 1) (n := 1) (v := .int f) rfl (e := (.iload_n 1, 1, [], .null)) rfl rfl (fun _ _ => rfl) rfl rfl
  have E := E.pu (p := 11) (lo' := (ri_as 0 [.ref 4, .int f])) (st' := [.int (100 - f), .int 50, .int 1, .ref 2]) rfl (e := (.isub, 1, [], .null)) rfl rfl (fun _ _ => rfl)
  rcases eh_rm (show (50 : Int32).toInt = 50 by decide) rfl (E.mn (p := 14) rfl (x := 73) (m := 3) (w := .null) (u := 734) rfl rfl) with ⟨c1, E⟩ | ⟨c1, E⟩
  · skip
    obtain ⟨v1, h2, X, E⟩ := E.cv (p := 17) (as := [.int 1, .int (100 - f)]) (b := 2) (r := []) rfl (x := 63) (m := 3) (w := .null) (j := 83) (n := 2) (t := 8) (u := [706, 708, 707]) rfl rfl rfl
    obtain ⟨x4, rfl, ivk3, hNk3⟩ := tp_83 (d := d) X (by rw [hV]; exact iv)
    have Xk3 := X
    have E : eh_e _ _ 17 (ri_as 0 [.ref 4, .int f]) [.int x4] h2 rs h' := E
    have E := E.so (p := 18) (t := ri_isI) (i := 2) (n := 1) rfl (e := (.istore_n 2, 1, [], .null)) rfl rfl (fun _ _ => rfl) rfl
    have k5_2 : ri_lk (ri_st1 (ri_as 0 [.ref 4, .int f]) 2 (.int x4)) 2 = some (.int x4) := eh_self
    have k5_0 : ri_lk (ri_st1 (ri_as 0 [.ref 4, .int f]) 2 (.int x4)) 0 = some (.ref 4) := eh_keep (by decide) (Or.inl rfl) rfl
    have k5_1 : ri_lk (ri_st1 (ri_as 0 [.ref 4, .int f]) 2 (.int x4)) 1 = some (.int f) := eh_keep (by decide) (Or.inl rfl) rfl
    have E := E.ld (p := 19) (t := ri_isI) (i := 2) (n := 1) (v := .int x4) rfl (e := (.iload_n 2, 1, [], .null)) rfl rfl (fun _ _ => rfl) k5_2 rfl
    have E := E.pu (p := 20) (lo' := (ri_st1 (ri_as 0 [.ref 4, .int f]) 2 (.int x4))) (st' := [.int (-1), .int x4]) rfl (e := (.iconst (-1), 1, [], .null)) rfl rfl (fun _ _ => rfl)
    rcases eh_q1 (E.br (p := 23) (c := 1) (tgt := 25) (a := x4) (b := (-1)) (st' := []) rfl (e := (.if_icmp .ne 5, 3, [25], .null)) rfl rfl (fun _ _ => rfl) rfl) with ⟨c6, E⟩ | ⟨c6, E⟩
    · skip
      have E := E.ld (p := 26) (t := ri_isA) (i := 0) (n := 1) (v := .ref 4) rfl (e := (.aload_n 0, 1, [], .null)) rfl rfl (fun _ _ => rfl) k5_0 rfl
      have E := E.gr (n := 5) (p := 29) rfl (x := 12) (m := 3) (w := .null) (t := 5) (i := 1) (u := 323) rfl rfl (rfl : eh_V h2 = eh_V h2) ivk3.1 rfl
      have E := E.ld (p := 30) (t := ri_isI) (i := 2) (n := 1) (v := .int x4) rfl (e := (.iload_n 2, 1, [], .null)) rfl rfl (fun _ _ => rfl) k5_2 rfl
      obtain ⟨h7, hV8, hN9, E⟩ := E.gp (p := 33) rfl (x := 78) (m := 3) (w := .null) (t := 4) (i := 1) (u := 260) (y := 0) rfl rfl (rfl : eh_V h2 = eh_V h2)
      have E := E.pu (p := 34) (lo' := (ri_st1 (ri_as 0 [.ref 4, .int f]) 2 (.int x4))) (st' := [.int 1]) rfl (e := (.iconst 1, 1, [], .null)) rfl rfl (fun _ _ => rfl)
      obtain ⟨r1, r2⟩ := E.reti rfl (m := 1) (ax := []) (w := .null) rfl
      exact Or.inl ⟨x4, h2, c1, Xk3, ivk3, c6, (by rw [← hrs, r1]; rfl), ((congrArg eh_V r2).trans hV8), ((congrArg eh_N r2).trans (hN9.trans hNk3)), (iC_u ivk3 (ivk3.1.ui rfl) rfl)⟩
    · skip
      have E := E.pu (p := 24) (lo' := (ri_st1 (ri_as 0 [.ref 4, .int f]) 2 (.int x4))) (st' := [.int 0]) rfl (e := (.iconst 0, 1, [], .null)) rfl rfl (fun _ _ => rfl)
      obtain ⟨r1, r2⟩ := E.reti rfl (m := 1) (ax := []) (w := .null) rfl
      exact Or.inr (Or.inl ⟨x4, h2, c1, Xk3, ivk3, c6, (by rw [← hrs, r1]; rfl), ((congrArg eh_V r2).trans (rfl : eh_V h2 = eh_V h2)), ((congrArg eh_N r2).trans hNk3), ivk3⟩)
  · skip
    obtain ⟨v1, h10, X, E⟩ := E.cv (p := 17) (as := [.int 1, .int 50]) (b := 2) (r := []) rfl (x := 63) (m := 3) (w := .null) (j := 83) (n := 2) (t := 8) (u := [706, 708, 707]) rfl rfl rfl
    obtain ⟨x12, rfl, ivk11, hNk11⟩ := tp_83 (d := d) X (by rw [hV]; exact iv)
    have Xk11 := X
    have E : eh_e _ _ 17 (ri_as 0 [.ref 4, .int f]) [.int x12] h10 rs h' := E
    have E := E.so (p := 18) (t := ri_isI) (i := 2) (n := 1) rfl (e := (.istore_n 2, 1, [], .null)) rfl rfl (fun _ _ => rfl) rfl
    have k13_2 : ri_lk (ri_st1 (ri_as 0 [.ref 4, .int f]) 2 (.int x12)) 2 = some (.int x12) := eh_self
    have k13_0 : ri_lk (ri_st1 (ri_as 0 [.ref 4, .int f]) 2 (.int x12)) 0 = some (.ref 4) := eh_keep (by decide) (Or.inl rfl) rfl
    have k13_1 : ri_lk (ri_st1 (ri_as 0 [.ref 4, .int f]) 2 (.int x12)) 1 = some (.int f) := eh_keep (by decide) (Or.inl rfl) rfl
    have E := E.ld (p := 19) (t := ri_isI) (i := 2) (n := 1) (v := .int x12) rfl (e := (.iload_n 2, 1, [], .null)) rfl rfl (fun _ _ => rfl) k13_2 rfl
    have E := E.pu (p := 20) (lo' := (ri_st1 (ri_as 0 [.ref 4, .int f]) 2 (.int x12))) (st' := [.int (-1), .int x12]) rfl (e := (.iconst (-1), 1, [], .null)) rfl rfl (fun _ _ => rfl)
    rcases eh_q1 (E.br (p := 23) (c := 1) (tgt := 25) (a := x12) (b := (-1)) (st' := []) rfl (e := (.if_icmp .ne 5, 3, [25], .null)) rfl rfl (fun _ _ => rfl) rfl) with ⟨c14, E⟩ | ⟨c14, E⟩
    · skip
      have E := E.ld (p := 26) (t := ri_isA) (i := 0) (n := 1) (v := .ref 4) rfl (e := (.aload_n 0, 1, [], .null)) rfl rfl (fun _ _ => rfl) k13_0 rfl
      have E := E.gr (n := 5) (p := 29) rfl (x := 12) (m := 3) (w := .null) (t := 5) (i := 1) (u := 323) rfl rfl (rfl : eh_V h10 = eh_V h10) ivk11.1 rfl
      have E := E.ld (p := 30) (t := ri_isI) (i := 2) (n := 1) (v := .int x12) rfl (e := (.iload_n 2, 1, [], .null)) rfl rfl (fun _ _ => rfl) k13_2 rfl
      obtain ⟨h15, hV16, hN17, E⟩ := E.gp (p := 33) rfl (x := 78) (m := 3) (w := .null) (t := 4) (i := 1) (u := 260) (y := 0) rfl rfl (rfl : eh_V h10 = eh_V h10)
      have E := E.pu (p := 34) (lo' := (ri_st1 (ri_as 0 [.ref 4, .int f]) 2 (.int x12))) (st' := [.int 1]) rfl (e := (.iconst 1, 1, [], .null)) rfl rfl (fun _ _ => rfl)
      obtain ⟨r1, r2⟩ := E.reti rfl (m := 1) (ax := []) (w := .null) rfl
      exact Or.inr (Or.inr (Or.inl ⟨x12, h10, c1, Xk11, ivk11, c14, (by rw [← hrs, r1]; rfl), ((congrArg eh_V r2).trans hV16), ((congrArg eh_N r2).trans (hN17.trans hNk11)), (iC_u ivk11 (ivk11.1.ui rfl) rfl)⟩))
    · skip
      have E := E.pu (p := 24) (lo' := (ri_st1 (ri_as 0 [.ref 4, .int f]) 2 (.int x12))) (st' := [.int 0]) rfl (e := (.iconst 0, 1, [], .null)) rfl rfl (fun _ _ => rfl)
      obtain ⟨r1, r2⟩ := E.reti rfl (m := 1) (ax := []) (w := .null) rfl
      exact Or.inr (Or.inr (Or.inr (⟨x12, h10, c1, Xk11, ivk11, c14, (by rw [← hrs, r1]; rfl), ((congrArg eh_V r2).trans (rfl : eh_V h10 = eh_V h10)), ((congrArg eh_N r2).trans hNk11), ivk11⟩)))
theorem tp_45 {d : Nat} {h h' : ri_H} {v : Option Value} {b : Nat → Int32} {n m : Nat} {f : Int32} (E : ri_calE ri_md (d + 4) 45 [.ref 4, .int f] h = some (v, h')) (iv : iC b n m (eh_V h)) : ∃ x : Int32, v = some (.int x) ∧ iC b n m (eh_V h') ∧ eh_N h' = eh_N h := by
  rcases sp_45 E rfl iv with ⟨_, _, _, _, _, _, r1, r2, r3, r4⟩ | ⟨_, _, _, _, _, _, r1, r2, r3, r4⟩ | ⟨_, _, _, _, _, _, r1, r2, r3, r4⟩ | ⟨_, _, _, _, _, _, r1, r2, r3, r4⟩
  · exact ⟨_, r1, by rw [r2]; exact r4, r3⟩
  · exact ⟨_, r1, by rw [r2]; exact r4, r3⟩
  · exact ⟨_, r1, by rw [r2]; exact r4, r3⟩
  · exact ⟨_, r1, by rw [r2]; exact r4, r3⟩
theorem sp_44 {d : Nat} {h h' : ri_H} {v : Option Value} {G : eh_W} {b : Nat → Int32} {n m : Nat} {k : Int32} (E : ri_calE ri_md (d + 5) 44 [.ref 4, .int k] h = some (v, h')) (hV : eh_V h = G) (iv : iC b n m G) : (k.toInt < 0 ∧ v = some (.int 0) ∧ eh_V h' = eh_u (eh_u G 2 9 (.int 1)) 2 10 (.int (eh_i G 2 6)) ∧ eh_N h' = eh_N h ∧ iC b n m (eh_u (eh_u G 2 9 (.int 1)) 2 10 (.int (eh_i G 2 6)))) ∨ (∃ (h9 : ri_H), ∃ (h12 : ri_H), ∃ (x16 : Int32), ∃ (h14 : ri_H), ¬ (k.toInt < 0) ∧ ¬ (4 < k.toInt) ∧ ¬ (k = 0) ∧ ¬ ((((eh_i G 4 2) >>> (k &&& 31)) &&& 1) = 1) ∧ eh_V h9 = eh_u G 4 2 (.int ((eh_i G 4 2) ||| (1 <<< (k &&& 31)))) ∧ ri_calE ri_md (d + 4) 74 [.ref 2] h9 = some (none, h12) ∧ iC b n m (eh_V h12) ∧ ri_calE ri_md (d + 4) 83 [.ref 2, .int (eh_x 3 (k).toNatClampNeg), .int (eh_x 4 (k).toNatClampNeg)] h12 = some (some (.int x16), h14) ∧ iC b n m (eh_V h14) ∧ ¬ (x16 = (-1)) ∧ ¬ (k = 4) ∧ v = some (.int 1) ∧ eh_V h' = eh_u (eh_V h14) 6 (k).toNatClampNeg (.int x16) ∧ eh_N h' = eh_N h ∧ iC b n m (eh_u (eh_V h14) 6 (k).toNatClampNeg (.int x16))) ∨ (∃ (h9 : ri_H), ∃ (h12 : ri_H), ∃ (x16 : Int32), ∃ (h14 : ri_H), ∃ (h19 : ri_H), ∃ (x25 : Int32), ∃ (h23 : ri_H), ¬ (k.toInt < 0) ∧ ¬ (4 < k.toInt) ∧ ¬ (k = 0) ∧ ¬ ((((eh_i G 4 2) >>> (k &&& 31)) &&& 1) = 1) ∧ eh_V h9 = eh_u G 4 2 (.int ((eh_i G 4 2) ||| (1 <<< (k &&& 31)))) ∧ ri_calE ri_md (d + 4) 74 [.ref 2] h9 = some (none, h12) ∧ iC b n m (eh_V h12) ∧ ri_calE ri_md (d + 4) 83 [.ref 2, .int (eh_x 3 (k).toNatClampNeg), .int (eh_x 4 (k).toNatClampNeg)] h12 = some (some (.int x16), h14) ∧ iC b n m (eh_V h14) ∧ ¬ (x16 = (-1)) ∧ k = 4 ∧ eh_V h19 = eh_u (eh_V h14) 6 (k).toNatClampNeg (.int x16) ∧ ri_calE ri_md (d + 4) 45 [.ref 4, .int x16] h19 = some (some (.int x25), h23) ∧ iC b n m (eh_V h23) ∧ x25 = 0 ∧ v = some (.int 0) ∧ eh_V h' = (eh_V h23) ∧ eh_N h' = eh_N h ∧ iC b n m (eh_V h23)) ∨ (∃ (h9 : ri_H), ∃ (h12 : ri_H), ∃ (x16 : Int32), ∃ (h14 : ri_H), ∃ (h19 : ri_H), ∃ (x25 : Int32), ∃ (h23 : ri_H), ¬ (k.toInt < 0) ∧ ¬ (4 < k.toInt) ∧ ¬ (k = 0) ∧ ¬ ((((eh_i G 4 2) >>> (k &&& 31)) &&& 1) = 1) ∧ eh_V h9 = eh_u G 4 2 (.int ((eh_i G 4 2) ||| (1 <<< (k &&& 31)))) ∧ ri_calE ri_md (d + 4) 74 [.ref 2] h9 = some (none, h12) ∧ iC b n m (eh_V h12) ∧ ri_calE ri_md (d + 4) 83 [.ref 2, .int (eh_x 3 (k).toNatClampNeg), .int (eh_x 4 (k).toNatClampNeg)] h12 = some (some (.int x16), h14) ∧ iC b n m (eh_V h14) ∧ ¬ (x16 = (-1)) ∧ k = 4 ∧ eh_V h19 = eh_u (eh_V h14) 6 (k).toNatClampNeg (.int x16) ∧ ri_calE ri_md (d + 4) 45 [.ref 4, .int x16] h19 = some (some (.int x25), h23) ∧ iC b n m (eh_V h23) ∧ ¬ (x25 = 0) ∧ v = some (.int 1) ∧ eh_V h' = (eh_V h23) ∧ eh_N h' = eh_N h ∧ iC b n m (eh_V h23)) ∨ (∃ (h9 : ri_H), ∃ (h12 : ri_H), ∃ (x16 : Int32), ∃ (h14 : ri_H), ¬ (k.toInt < 0) ∧ ¬ (4 < k.toInt) ∧ ¬ (k = 0) ∧ ¬ ((((eh_i G 4 2) >>> (k &&& 31)) &&& 1) = 1) ∧ eh_V h9 = eh_u G 4 2 (.int ((eh_i G 4 2) ||| (1 <<< (k &&& 31)))) ∧ ri_calE ri_md (d + 4) 74 [.ref 2] h9 = some (none, h12) ∧ iC b n m (eh_V h12) ∧ ri_calE ri_md (d + 4) 83 [.ref 2, .int (eh_x 3 (k).toNatClampNeg), .int (eh_x 4 (k).toNatClampNeg)] h12 = some (some (.int x16), h14) ∧ iC b n m (eh_V h14) ∧ x16 = (-1) ∧ v = some (.int 0) ∧ eh_V h' = (eh_V h14) ∧ eh_N h' = eh_N h ∧ iC b n m (eh_V h14)) ∨ (¬ (k.toInt < 0) ∧ ¬ (4 < k.toInt) ∧ ¬ (k = 0) ∧ (((eh_i G 4 2) >>> (k &&& 31)) &&& 1) = 1 ∧ v = some (.int 0) ∧ eh_V h' = eh_u (eh_u G 2 9 (.int 3)) 2 10 (.int (eh_i G 2 6)) ∧ eh_N h' = eh_N h ∧ iC b n m (eh_u (eh_u G 2 9 (.int 3)) 2 10 (.int (eh_i G 2 6)))) ∨ (∃ (h33 : ri_H), ∃ (h36 : ri_H), ∃ (x40 : Int32), ∃ (h38 : ri_H), ¬ (k.toInt < 0) ∧ ¬ (4 < k.toInt) ∧ k = 0 ∧ ¬ (0 < ((eh_i G 7 1) + (eh_i G 7 3)).toInt) ∧ ¬ ((((eh_i G 4 2) >>> (k &&& 31)) &&& 1) = 1) ∧ eh_V h33 = eh_u G 4 2 (.int ((eh_i G 4 2) ||| (1 <<< (k &&& 31)))) ∧ ri_calE ri_md (d + 4) 74 [.ref 2] h33 = some (none, h36) ∧ iC b n m (eh_V h36) ∧ ri_calE ri_md (d + 4) 83 [.ref 2, .int (eh_x 3 (k).toNatClampNeg), .int (eh_x 4 (k).toNatClampNeg)] h36 = some (some (.int x40), h38) ∧ iC b n m (eh_V h38) ∧ ¬ (x40 = (-1)) ∧ v = some (.int 1) ∧ eh_V h' = eh_u (eh_V h38) 6 (k).toNatClampNeg (.int x40) ∧ eh_N h' = eh_N h ∧ iC b n m (eh_u (eh_V h38) 6 (k).toNatClampNeg (.int x40))) ∨ (∃ (h33 : ri_H), ∃ (h36 : ri_H), ∃ (x40 : Int32), ∃ (h38 : ri_H), ¬ (k.toInt < 0) ∧ ¬ (4 < k.toInt) ∧ k = 0 ∧ ¬ (0 < ((eh_i G 7 1) + (eh_i G 7 3)).toInt) ∧ ¬ ((((eh_i G 4 2) >>> (k &&& 31)) &&& 1) = 1) ∧ eh_V h33 = eh_u G 4 2 (.int ((eh_i G 4 2) ||| (1 <<< (k &&& 31)))) ∧ ri_calE ri_md (d + 4) 74 [.ref 2] h33 = some (none, h36) ∧ iC b n m (eh_V h36) ∧ ri_calE ri_md (d + 4) 83 [.ref 2, .int (eh_x 3 (k).toNatClampNeg), .int (eh_x 4 (k).toNatClampNeg)] h36 = some (some (.int x40), h38) ∧ iC b n m (eh_V h38) ∧ x40 = (-1) ∧ v = some (.int 0) ∧ eh_V h' = (eh_V h38) ∧ eh_N h' = eh_N h ∧ iC b n m (eh_V h38)) ∨ (¬ (k.toInt < 0) ∧ ¬ (4 < k.toInt) ∧ k = 0 ∧ ¬ (0 < ((eh_i G 7 1) + (eh_i G 7 3)).toInt) ∧ (((eh_i G 4 2) >>> (k &&& 31)) &&& 1) = 1 ∧ v = some (.int 0) ∧ eh_V h' = eh_u (eh_u G 2 9 (.int 3)) 2 10 (.int (eh_i G 2 6)) ∧ eh_N h' = eh_N h ∧ iC b n m (eh_u (eh_u G 2 9 (.int 3)) 2 10 (.int (eh_i G 2 6)))) ∨ (¬ (k.toInt < 0) ∧ ¬ (4 < k.toInt) ∧ k = 0 ∧ 0 < ((eh_i G 7 1) + (eh_i G 7 3)).toInt ∧ v = some (.int 0) ∧ eh_V h' = eh_u (eh_u G 2 9 (.int 3)) 2 10 (.int (eh_i G 2 6)) ∧ eh_N h' = eh_N h ∧ iC b n m (eh_u (eh_u G 2 9 (.int 3)) 2 10 (.int (eh_i G 2 6)))) ∨ (¬ (k.toInt < 0) ∧ 4 < k.toInt ∧ v = some (.int 0) ∧ eh_V h' = eh_u (eh_u G 2 9 (.int 1)) 2 10 (.int (eh_i G 2 6)) ∧ eh_N h' = eh_N h ∧ iC b n m (eh_u (eh_u G 2 9 (.int 1)) 2 10 (.int (eh_i G 2 6)))) := by
  obtain ⟨rs, hrs, E⟩ := eh_in E (q := md_44) rfl
  have E := E.ld (p := 1) (t := ri_isI) (i := 1) (n := 1) (v := .int k) rfl (e := (.iload_n 1, 1, [], .null)) rfl rfl (fun _ _ => rfl) rfl rfl
  rcases eh_r2 rfl (show (0 : Int32).toInt = 0 by decide) (E.br (p := 4) (c := 2) (tgt := 9) (a := k) (b := 0) (st' := []) rfl (e := (.ifCond .lt 8, 3, [9], .null)) rfl rfl (fun _ _ => rfl) rfl) with ⟨c1, E⟩ | ⟨c1, E⟩
  · skip
    have E := E.ld (p := 10) (t := ri_isA) (i := 0) (n := 1) (v := .ref 4) rfl (e := (.aload_n 0, 1, [], .null)) rfl rfl (fun _ _ => rfl) rfl rfl
    have E := E.gr (n := 2) (p := 13) rfl (x := 22) (m := 3) (w := .null) (t := 5) (i := 0) (u := 322) rfl rfl hV (iv.1) rfl
    have E := E.pu (p := 14) (lo' := (ri_as 0 [.ref 4, .int k])) (st' := [.int 1, .ref 2]) rfl (e := (.iconst 1, 1, [], .null)) rfl rfl (fun _ _ => rfl)
    obtain ⟨v1, h2, X, E⟩ := E.cv (p := 17) (as := [.int 1]) (b := 2) (r := []) rfl (x := 47) (m := 3) (w := .null) (j := 78) (n := 1) (t := 8) (u := [676, 678, 677]) rfl rfl rfl
    rcases sp_78 (d := d + 3) X hV (iv.1) with ⟨rfl, hV3, hN4⟩
    have hV3 : _ = eh_u (eh_u G 2 9 (.int 1)) 2 10 (.int (eh_i G 2 6)) := hV3
    have E : eh_e _ _ 17 (ri_as 0 [.ref 4, .int k]) [.int 0] _ rs h' := E
    obtain ⟨r1, r2⟩ := E.reti rfl (m := 1) (ax := []) (w := .null) rfl
    exact Or.inl ⟨c1, (by rw [← hrs, r1]; rfl), ((congrArg eh_V r2).trans hV3), ((congrArg eh_N r2).trans hN4), (iC_u (iC_u iv ((iv.1).ui rfl) rfl) (((iv.1).ui rfl).ui rfl) rfl)⟩
  · skip
    have E := E.ld (p := 5) (t := ri_isI) (i := 1) (n := 1) (v := .int k) rfl (e := (.iload_n 1, 1, [], .null)) rfl rfl (fun _ _ => rfl) rfl rfl
    have E := E.pu (p := 6) (lo' := (ri_as 0 [.ref 4, .int k])) (st' := [.int 4, .int k]) rfl (e := (.iconst 4, 1, [], .null)) rfl rfl (fun _ _ => rfl)
    rcases eh_r5 rfl (show (4 : Int32).toInt = 4 by decide) (E.br (p := 9) (c := 5) (tgt := 18) (a := k) (b := 4) (st' := []) rfl (e := (.if_icmp .le 12, 3, [18], .null)) rfl rfl (fun _ _ => rfl) rfl) with ⟨c5, E⟩ | ⟨c5, E⟩
    · skip
      have E := E.ld (p := 19) (t := ri_isI) (i := 1) (n := 1) (v := .int k) rfl (e := (.iload_n 1, 1, [], .null)) rfl rfl (fun _ _ => rfl) rfl rfl
      rcases eh_q1 (E.br (p := 22) (c := 1) (tgt := 48) (a := k) (b := 0) (st' := []) rfl (e := (.ifCond .ne 29, 3, [48], .null)) rfl rfl (fun _ _ => rfl) rfl) with ⟨c6, E⟩ | ⟨c6, E⟩
      · skip
        have E := E.pu (p := 49) (lo' := (ri_as 0 [.ref 4, .int k])) (st' := [.int 0]) rfl (e := (.iconst 0, 1, [], .null)) rfl rfl (fun _ _ => rfl)
        have E := E.so (p := 50) (t := ri_isI) (i := 2) (n := 1) rfl (e := (.istore_n 2, 1, [], .null)) rfl rfl (fun _ _ => rfl) rfl
        have k7_2 : ri_lk (ri_st1 (ri_as 0 [.ref 4, .int k]) 2 (.int 0)) 2 = some (.int 0) := eh_self
        have k7_0 : ri_lk (ri_st1 (ri_as 0 [.ref 4, .int k]) 2 (.int 0)) 0 = some (.ref 4) := eh_keep (by decide) (Or.inl rfl) rfl
        have k7_1 : ri_lk (ri_st1 (ri_as 0 [.ref 4, .int k]) 2 (.int 0)) 1 = some (.int k) := eh_keep (by decide) (Or.inl rfl) rfl
        have E := E.ld (p := 51) (t := ri_isI) (i := 2) (n := 1) (v := .int 0) rfl (e := (.iload_n 2, 1, [], .null)) rfl rfl (fun _ _ => rfl) k7_2 rfl
        have E := E.brf (p := 54) (c := 1) (tgt := 66) (a := 0) (b := 0) (st' := []) rfl (e := (.ifCond .ne 15, 3, [66], .null)) rfl rfl (fun _ _ => rfl) (by decide) rfl
        have E := E.ld (p := 55) (t := ri_isA) (i := 0) (n := 1) (v := .ref 4) rfl (e := (.aload_n 0, 1, [], .null)) rfl rfl (fun _ _ => rfl) k7_0 rfl
        have E := E.gi (y := eh_i G 4 2) (p := 58) rfl (x := 18) (m := 3) (w := .null) (t := 5) (i := 2) (u := 325) rfl rfl hV (iv.1) rfl rfl
        have E := E.ld (p := 59) (t := ri_isI) (i := 1) (n := 1) (v := .int k) rfl (e := (.iload_n 1, 1, [], .null)) rfl rfl (fun _ _ => rfl) k7_1 rfl
        have E := E.pu (p := 60) (lo' := (ri_st1 (ri_as 0 [.ref 4, .int k]) 2 (.int 0))) (st' := [.int ((eh_i G 4 2) >>> (k &&& 31))]) rfl (e := (.ishr, 1, [], .null)) rfl rfl (fun _ _ => rfl)
        have E := E.pu (p := 61) (lo' := (ri_st1 (ri_as 0 [.ref 4, .int k]) 2 (.int 0))) (st' := [.int 1, .int ((eh_i G 4 2) >>> (k &&& 31))]) rfl (e := (.iconst 1, 1, [], .null)) rfl rfl (fun _ _ => rfl)
        have E := E.pu (p := 62) (lo' := (ri_st1 (ri_as 0 [.ref 4, .int k]) 2 (.int 0))) (st' := [.int (((eh_i G 4 2) >>> (k &&& 31)) &&& 1)]) rfl (e := (.iand, 1, [], .null)) rfl rfl (fun _ _ => rfl)
        have E := E.pu (p := 63) (lo' := (ri_st1 (ri_as 0 [.ref 4, .int k]) 2 (.int 0))) (st' := [.int 1, .int (((eh_i G 4 2) >>> (k &&& 31)) &&& 1)]) rfl (e := (.iconst 1, 1, [], .null)) rfl rfl (fun _ _ => rfl)
        rcases eh_q1 (E.br (p := 66) (c := 1) (tgt := 75) (a := ((eh_i G 4 2) >>> (k &&& 31)) &&& 1) (b := 1) (st' := []) rfl (e := (.if_icmp .ne 12, 3, [75], .null)) rfl rfl (fun _ _ => rfl) rfl) with ⟨c8, E⟩ | ⟨c8, E⟩
        · skip
          have E := E.ld (p := 76) (t := ri_isA) (i := 0) (n := 1) (v := .ref 4) rfl (e := (.aload_n 0, 1, [], .null)) rfl rfl (fun _ _ => rfl) k7_0 rfl
          have E := E.pu (p := 77) (lo' := (ri_st1 (ri_as 0 [.ref 4, .int k]) 2 (.int 0))) (st' := [.ref 4, .ref 4]) rfl (e := (.dup, 1, [], .null)) rfl rfl (fun _ _ => rfl)
          have E := E.gi (y := eh_i G 4 2) (p := 80) rfl (x := 18) (m := 3) (w := .null) (t := 5) (i := 2) (u := 325) rfl rfl hV (iv.1) rfl rfl
          have E := E.pu (p := 81) (lo' := (ri_st1 (ri_as 0 [.ref 4, .int k]) 2 (.int 0))) (st' := [.int 1, .int (eh_i G 4 2), .ref 4]) rfl (e := (.iconst 1, 1, [], .null)) rfl rfl (fun _ _ => rfl)
          have E := E.ld (p := 82) (t := ri_isI) (i := 1) (n := 1) (v := .int k) rfl (e := (.iload_n 1, 1, [], .null)) rfl rfl (fun _ _ => rfl) k7_1 rfl
          have E := E.pu (p := 83) (lo' := (ri_st1 (ri_as 0 [.ref 4, .int k]) 2 (.int 0))) (st' := [.int (1 <<< (k &&& 31)), .int (eh_i G 4 2), .ref 4]) rfl (e := (.ishl, 1, [], .null)) rfl rfl (fun _ _ => rfl)
          have E := E.pu (p := 84) (lo' := (ri_st1 (ri_as 0 [.ref 4, .int k]) 2 (.int 0))) (st' := [.int ((eh_i G 4 2) ||| (1 <<< (k &&& 31))), .ref 4]) rfl (e := (.ior, 1, [], .null)) rfl rfl (fun _ _ => rfl)
          obtain ⟨h9, hV10, hN11, E⟩ := E.gp (p := 87) rfl (x := 18) (m := 3) (w := .null) (t := 5) (i := 2) (u := 325) (y := 0) rfl rfl hV
          have E := E.ld (p := 88) (t := ri_isA) (i := 0) (n := 1) (v := .ref 4) rfl (e := (.aload_n 0, 1, [], .null)) rfl rfl (fun _ _ => rfl) k7_0 rfl
          have E := E.gr (n := 2) (p := 91) rfl (x := 22) (m := 3) (w := .null) (t := 5) (i := 0) (u := 322) rfl rfl hV10 ((iv.1).ui rfl) rfl
          obtain ⟨v1, h12, X, E⟩ := E.cv (p := 94) (as := []) (b := 2) (r := []) rfl (x := 54) (m := 3) (w := .null) (j := 74) (n := 0) (t := 8) (u := [682, 648, 647]) rfl rfl rfl
          obtain ⟨rfl, ivk13, hNk13⟩ := tp_74 (d := d + 2) X (by rw [hV10]; exact (iC_u iv ((iv.1).ui rfl) rfl))
          have Xk13 := X
          have E : eh_e _ _ 94 (ri_st1 (ri_as 0 [.ref 4, .int k]) 2 (.int 0)) [] h12 rs h' := E
          have E := E.ld (p := 95) (t := ri_isA) (i := 0) (n := 1) (v := .ref 4) rfl (e := (.aload_n 0, 1, [], .null)) rfl rfl (fun _ _ => rfl) k7_0 rfl
          have E := E.gr (n := 2) (p := 98) rfl (x := 22) (m := 3) (w := .null) (t := 5) (i := 0) (u := 322) rfl rfl (rfl : eh_V h12 = eh_V h12) ivk13.1 rfl
          have E := E.pu (p := 101) (lo' := (ri_st1 (ri_as 0 [.ref 4, .int k]) 2 (.int 0))) (st' := [.retAddr 3, .ref 2]) rfl (e := (.getstatic 57, 3, [3, 726], .null)) rfl rfl (fun _ _ => rfl)
          have E := E.ld (p := 102) (t := ri_isI) (i := 1) (n := 1) (v := .int k) rfl (e := (.iload_n 1, 1, [], .null)) rfl rfl (fun _ _ => rfl) k7_1 rfl
          have E := (E.ats (p := 103) (a := eh_x 3 (k).toNatClampNeg) rfl (m := 1) (ax := []) (w := .null) rfl rfl (by rfl)).2
          have E := E.pu (p := 106) (lo' := (ri_st1 (ri_as 0 [.ref 4, .int k]) 2 (.int 0))) (st' := [.retAddr 4, .int (eh_x 3 (k).toNatClampNeg), .ref 2]) rfl (e := (.getstatic 60, 3, [4, 728], .null)) rfl rfl (fun _ _ => rfl)
          have E := E.ld (p := 107) (t := ri_isI) (i := 1) (n := 1) (v := .int k) rfl (e := (.iload_n 1, 1, [], .null)) rfl rfl (fun _ _ => rfl) k7_1 rfl
          have E := (E.ats (p := 108) (a := eh_x 4 (k).toNatClampNeg) rfl (m := 1) (ax := []) (w := .null) rfl rfl (by rfl)).2
          obtain ⟨v1, h14, X, E⟩ := E.cv (p := 111) (as := [.int (eh_x 3 (k).toNatClampNeg), .int (eh_x 4 (k).toNatClampNeg)]) (b := 2) (r := []) rfl (x := 63) (m := 3) (w := .null) (j := 83) (n := 2) (t := 8) (u := [706, 708, 707]) rfl rfl rfl
          obtain ⟨x16, rfl, ivk15, hNk15⟩ := tp_83 (d := d + 1) X (by rw [(rfl : eh_V h12 = eh_V h12)]; exact ivk13)
          have Xk15 := X
          have E : eh_e _ _ 111 (ri_st1 (ri_as 0 [.ref 4, .int k]) 2 (.int 0)) [.int x16] h14 rs h' := E
          have E := E.so (p := 112) (t := ri_isI) (i := 3) (n := 1) rfl (e := (.istore_n 3, 1, [], .null)) rfl rfl (fun _ _ => rfl) rfl
          have k17_3 : ri_lk (ri_st1 (ri_st1 (ri_as 0 [.ref 4, .int k]) 2 (.int 0)) 3 (.int x16)) 3 = some (.int x16) := eh_self
          have k17_0 : ri_lk (ri_st1 (ri_st1 (ri_as 0 [.ref 4, .int k]) 2 (.int 0)) 3 (.int x16)) 0 = some (.ref 4) := eh_keep (by decide) (Or.inl rfl) k7_0
          have k17_1 : ri_lk (ri_st1 (ri_st1 (ri_as 0 [.ref 4, .int k]) 2 (.int 0)) 3 (.int x16)) 1 = some (.int k) := eh_keep (by decide) (Or.inl rfl) k7_1
          have k17_2 : ri_lk (ri_st1 (ri_st1 (ri_as 0 [.ref 4, .int k]) 2 (.int 0)) 3 (.int x16)) 2 = some (.int 0) := eh_keep (by decide) (Or.inl rfl) k7_2
          have E := E.ld (p := 113) (t := ri_isI) (i := 3) (n := 1) (v := .int x16) rfl (e := (.iload_n 3, 1, [], .null)) rfl rfl (fun _ _ => rfl) k17_3 rfl
          have E := E.pu (p := 114) (lo' := (ri_st1 (ri_st1 (ri_as 0 [.ref 4, .int k]) 2 (.int 0)) 3 (.int x16))) (st' := [.int (-1), .int x16]) rfl (e := (.iconst (-1), 1, [], .null)) rfl rfl (fun _ _ => rfl)
          rcases eh_q1 (E.br (p := 117) (c := 1) (tgt := 119) (a := x16) (b := (-1)) (st' := []) rfl (e := (.if_icmp .ne 5, 3, [119], .null)) rfl rfl (fun _ _ => rfl) rfl) with ⟨c18, E⟩ | ⟨c18, E⟩
          · skip
            have E := E.ld (p := 120) (t := ri_isA) (i := 0) (n := 1) (v := .ref 4) rfl (e := (.aload_n 0, 1, [], .null)) rfl rfl (fun _ _ => rfl) k17_0 rfl
            have E := E.gr (n := 5) (p := 123) rfl (x := 12) (m := 3) (w := .null) (t := 5) (i := 1) (u := 323) rfl rfl (rfl : eh_V h14 = eh_V h14) ivk15.1 rfl
            have E := E.gr (n := 6) (p := 126) rfl (x := 67) (m := 3) (w := .null) (t := 4) (i := 0) (u := 256) rfl rfl (rfl : eh_V h14 = eh_V h14) ivk15.1 rfl
            have E := E.ld (p := 127) (t := ri_isI) (i := 1) (n := 1) (v := .int k) rfl (e := (.iload_n 1, 1, [], .null)) rfl rfl (fun _ _ => rfl) k17_1 rfl
            have E := E.ld (p := 128) (t := ri_isI) (i := 3) (n := 1) (v := .int x16) rfl (e := (.iload_n 3, 1, [], .null)) rfl rfl (fun _ _ => rfl) k17_3 rfl
            obtain ⟨h19, hV20, hN21, E⟩ := E.aw (gg := ri_g1) (b := true) (p := 129) (n := (k).toNatClampNeg) rfl (e := (.iastore, 1, [], .null)) rfl rfl (fun _ _ => rfl) rfl (rfl : eh_V h14 = eh_V h14) rfl
            have E := E.ld (p := 130) (t := ri_isI) (i := 1) (n := 1) (v := .int k) rfl (e := (.iload_n 1, 1, [], .null)) rfl rfl (fun _ _ => rfl) k17_1 rfl
            have E := E.pu (p := 131) (lo' := (ri_st1 (ri_st1 (ri_as 0 [.ref 4, .int k]) 2 (.int 0)) 3 (.int x16))) (st' := [.int 4, .int k]) rfl (e := (.iconst 4, 1, [], .null)) rfl rfl (fun _ _ => rfl)
            rcases eh_q1 (E.br (p := 134) (c := 1) (tgt := 142) (a := k) (b := 4) (st' := []) rfl (e := (.if_icmp .ne 11, 3, [142], .null)) rfl rfl (fun _ _ => rfl) rfl) with ⟨c22, E⟩ | ⟨c22, E⟩
            · skip
              have E := E.pu (p := 143) (lo' := (ri_st1 (ri_st1 (ri_as 0 [.ref 4, .int k]) 2 (.int 0)) 3 (.int x16))) (st' := [.int 1]) rfl (e := (.iconst 1, 1, [], .null)) rfl rfl (fun _ _ => rfl)
              have E := E.pu (p := 147) (lo' := (ri_st1 (ri_st1 (ri_as 0 [.ref 4, .int k]) 2 (.int 0)) 3 (.int x16))) (st' := [.int 1]) rfl (e := (.goto 4, 3, [147], .null)) rfl rfl (fun _ _ => rfl)
              obtain ⟨r1, r2⟩ := E.reti rfl (m := 1) (ax := []) (w := .null) rfl
              exact Or.inr (Or.inl ⟨h9, h12, x16, h14, c1, c5, c6, c8, hV10, Xk13, ivk13, Xk15, ivk15, c18, c22, (by rw [← hrs, r1]; rfl), ((congrArg eh_V r2).trans hV20), ((congrArg eh_N r2).trans (hN21.trans (hNk15.trans (hNk13.trans hN11)))), (iC_u ivk15 (ivk15.1.ui rfl) rfl)⟩)
            · skip
              have E := E.ld (p := 135) (t := ri_isA) (i := 0) (n := 1) (v := .ref 4) rfl (e := (.aload_n 0, 1, [], .null)) rfl rfl (fun _ _ => rfl) k17_0 rfl
              have E := E.ld (p := 136) (t := ri_isI) (i := 3) (n := 1) (v := .int x16) rfl (e := (.iload_n 3, 1, [], .null)) rfl rfl (fun _ _ => rfl) k17_3 rfl
              obtain ⟨v1, h23, X, E⟩ := E.cv (p := 139) (as := [.int x16]) (b := 4) (r := []) rfl (x := 70) (m := 3) (w := .null) (j := 45) (n := 1) (t := 5) (u := [730, 9, 732]) rfl rfl rfl
              obtain ⟨x25, rfl, ivk24, hNk24⟩ := tp_45 (d := d) X (by rw [hV20]; exact (iC_u ivk15 (ivk15.1.ui rfl) rfl))
              have Xk24 := X
              have E : eh_e _ _ 139 (ri_st1 (ri_st1 (ri_as 0 [.ref 4, .int k]) 2 (.int 0)) 3 (.int x16)) [.int x25] h23 rs h' := E
              rcases eh_q0 (E.br (p := 142) (c := 0) (tgt := 146) (a := x25) (b := 0) (st' := []) rfl (e := (.ifCond .eq 7, 3, [146], .null)) rfl rfl (fun _ _ => rfl) rfl) with ⟨c26, E⟩ | ⟨c26, E⟩
              · skip
                have E := E.pu (p := 147) (lo' := (ri_st1 (ri_st1 (ri_as 0 [.ref 4, .int k]) 2 (.int 0)) 3 (.int x16))) (st' := [.int 0]) rfl (e := (.iconst 0, 1, [], .null)) rfl rfl (fun _ _ => rfl)
                obtain ⟨r1, r2⟩ := E.reti rfl (m := 1) (ax := []) (w := .null) rfl
                exact Or.inr (Or.inr (Or.inl ⟨h9, h12, x16, h14, h19, x25, h23, c1, c5, c6, c8, hV10, Xk13, ivk13, Xk15, ivk15, c18, c22, hV20, Xk24, ivk24, c26, (by rw [← hrs, r1]; rfl), ((congrArg eh_V r2).trans (rfl : eh_V h23 = eh_V h23)), ((congrArg eh_N r2).trans (hNk24.trans (hN21.trans (hNk15.trans (hNk13.trans hN11))))), ivk24⟩))
              · skip
                have E := E.pu (p := 143) (lo' := (ri_st1 (ri_st1 (ri_as 0 [.ref 4, .int k]) 2 (.int 0)) 3 (.int x16))) (st' := [.int 1]) rfl (e := (.iconst 1, 1, [], .null)) rfl rfl (fun _ _ => rfl)
                have E := E.pu (p := 147) (lo' := (ri_st1 (ri_st1 (ri_as 0 [.ref 4, .int k]) 2 (.int 0)) 3 (.int x16))) (st' := [.int 1]) rfl (e := (.goto 4, 3, [147], .null)) rfl rfl (fun _ _ => rfl)
                obtain ⟨r1, r2⟩ := E.reti rfl (m := 1) (ax := []) (w := .null) rfl
                exact Or.inr (Or.inr (Or.inr (Or.inl ⟨h9, h12, x16, h14, h19, x25, h23, c1, c5, c6, c8, hV10, Xk13, ivk13, Xk15, ivk15, c18, c22, hV20, Xk24, ivk24, c26, (by rw [← hrs, r1]; rfl), ((congrArg eh_V r2).trans (rfl : eh_V h23 = eh_V h23)), ((congrArg eh_N r2).trans (hNk24.trans (hN21.trans (hNk15.trans (hNk13.trans hN11))))), ivk24⟩)))
          · skip
            have E := E.pu (p := 118) (lo' := (ri_st1 (ri_st1 (ri_as 0 [.ref 4, .int k]) 2 (.int 0)) 3 (.int x16))) (st' := [.int 0]) rfl (e := (.iconst 0, 1, [], .null)) rfl rfl (fun _ _ => rfl)
            obtain ⟨r1, r2⟩ := E.reti rfl (m := 1) (ax := []) (w := .null) rfl
            exact Or.inr (Or.inr (Or.inr (Or.inr (Or.inl ⟨h9, h12, x16, h14, c1, c5, c6, c8, hV10, Xk13, ivk13, Xk15, ivk15, c18, (by rw [← hrs, r1]; rfl), ((congrArg eh_V r2).trans (rfl : eh_V h14 = eh_V h14)), ((congrArg eh_N r2).trans (hNk15.trans (hNk13.trans hN11))), ivk15⟩))))
        · skip
          have E := E.ld (p := 67) (t := ri_isA) (i := 0) (n := 1) (v := .ref 4) rfl (e := (.aload_n 0, 1, [], .null)) rfl rfl (fun _ _ => rfl) k7_0 rfl
          have E := E.gr (n := 2) (p := 70) rfl (x := 22) (m := 3) (w := .null) (t := 5) (i := 0) (u := 322) rfl rfl hV (iv.1) rfl
          have E := E.pu (p := 71) (lo' := (ri_st1 (ri_as 0 [.ref 4, .int k]) 2 (.int 0))) (st' := [.int 3, .ref 2]) rfl (e := (.iconst 3, 1, [], .null)) rfl rfl (fun _ _ => rfl)
          obtain ⟨v1, h27, X, E⟩ := E.cv (p := 74) (as := [.int 3]) (b := 2) (r := []) rfl (x := 47) (m := 3) (w := .null) (j := 78) (n := 1) (t := 8) (u := [676, 678, 677]) rfl rfl rfl
          rcases sp_78 (d := d + 3) X hV (iv.1) with ⟨rfl, hV28, hN29⟩
          have hV28 : _ = eh_u (eh_u G 2 9 (.int 3)) 2 10 (.int (eh_i G 2 6)) := hV28
          have E : eh_e _ _ 74 (ri_st1 (ri_as 0 [.ref 4, .int k]) 2 (.int 0)) [.int 0] _ rs h' := E
          obtain ⟨r1, r2⟩ := E.reti rfl (m := 1) (ax := []) (w := .null) rfl
          exact Or.inr (Or.inr (Or.inr (Or.inr (Or.inr (Or.inl ⟨c1, c5, c6, c8, (by rw [← hrs, r1]; rfl), ((congrArg eh_V r2).trans hV28), ((congrArg eh_N r2).trans hN29), (iC_u (iC_u iv ((iv.1).ui rfl) rfl) (((iv.1).ui rfl).ui rfl) rfl)⟩)))))
      · skip
        have E := E.ld (p := 23) (t := ri_isA) (i := 0) (n := 1) (v := .ref 4) rfl (e := (.aload_n 0, 1, [], .null)) rfl rfl (fun _ _ => rfl) rfl rfl
        have E := E.gr (n := 5) (p := 26) rfl (x := 12) (m := 3) (w := .null) (t := 5) (i := 1) (u := 323) rfl rfl hV (iv.1) rfl
        have E := E.gr (n := 7) (p := 29) rfl (x := 50) (m := 3) (w := .null) (t := 4) (i := 2) (u := 263) rfl rfl hV (iv.1) rfl
        have E := E.pu (p := 30) (lo' := (ri_as 0 [.ref 4, .int k])) (st' := [.int 1, .ref 7]) rfl (e := (.iconst 1, 1, [], .null)) rfl rfl (fun _ _ => rfl)
        have E := E.ai (p := 31) (z := eh_i G 7 1) (n := 1) rfl (e := (.iaload, 1, [], .null)) rfl rfl (fun _ _ => rfl) rfl hV (iv.1) (by decide) rfl rfl
        have E := E.ld (p := 32) (t := ri_isA) (i := 0) (n := 1) (v := .ref 4) rfl (e := (.aload_n 0, 1, [], .null)) rfl rfl (fun _ _ => rfl) rfl rfl
        have E := E.gr (n := 5) (p := 35) rfl (x := 12) (m := 3) (w := .null) (t := 5) (i := 1) (u := 323) rfl rfl hV (iv.1) rfl
        have E := E.gr (n := 7) (p := 38) rfl (x := 50) (m := 3) (w := .null) (t := 4) (i := 2) (u := 263) rfl rfl hV (iv.1) rfl
        have E := E.pu (p := 39) (lo' := (ri_as 0 [.ref 4, .int k])) (st' := [.int 3, .ref 7, .int (eh_i G 7 1)]) rfl (e := (.iconst 3, 1, [], .null)) rfl rfl (fun _ _ => rfl)
        have E := E.ai (p := 40) (z := eh_i G 7 3) (n := 3) rfl (e := (.iaload, 1, [], .null)) rfl rfl (fun _ _ => rfl) rfl hV (iv.1) (by decide) rfl rfl
        have E := E.pu (p := 41) (lo' := (ri_as 0 [.ref 4, .int k])) (st' := [.int ((eh_i G 7 1) + (eh_i G 7 3))]) rfl (e := (.iadd, 1, [], .null)) rfl rfl (fun _ _ => rfl)
        rcases eh_r5 rfl (show (0 : Int32).toInt = 0 by decide) (E.br (p := 44) (c := 5) (tgt := 48) (a := (eh_i G 7 1) + (eh_i G 7 3)) (b := 0) (st' := []) rfl (e := (.ifCond .le 7, 3, [48], .null)) rfl rfl (fun _ _ => rfl) rfl) with ⟨c30, E⟩ | ⟨c30, E⟩
        · skip
          have E := E.pu (p := 49) (lo' := (ri_as 0 [.ref 4, .int k])) (st' := [.int 0]) rfl (e := (.iconst 0, 1, [], .null)) rfl rfl (fun _ _ => rfl)
          have E := E.so (p := 50) (t := ri_isI) (i := 2) (n := 1) rfl (e := (.istore_n 2, 1, [], .null)) rfl rfl (fun _ _ => rfl) rfl
          have k31_2 : ri_lk (ri_st1 (ri_as 0 [.ref 4, .int k]) 2 (.int 0)) 2 = some (.int 0) := eh_self
          have k31_0 : ri_lk (ri_st1 (ri_as 0 [.ref 4, .int k]) 2 (.int 0)) 0 = some (.ref 4) := eh_keep (by decide) (Or.inl rfl) rfl
          have k31_1 : ri_lk (ri_st1 (ri_as 0 [.ref 4, .int k]) 2 (.int 0)) 1 = some (.int k) := eh_keep (by decide) (Or.inl rfl) rfl
          have E := E.ld (p := 51) (t := ri_isI) (i := 2) (n := 1) (v := .int 0) rfl (e := (.iload_n 2, 1, [], .null)) rfl rfl (fun _ _ => rfl) k31_2 rfl
          have E := E.brf (p := 54) (c := 1) (tgt := 66) (a := 0) (b := 0) (st' := []) rfl (e := (.ifCond .ne 15, 3, [66], .null)) rfl rfl (fun _ _ => rfl) (by decide) rfl
          have E := E.ld (p := 55) (t := ri_isA) (i := 0) (n := 1) (v := .ref 4) rfl (e := (.aload_n 0, 1, [], .null)) rfl rfl (fun _ _ => rfl) k31_0 rfl
          have E := E.gi (y := eh_i G 4 2) (p := 58) rfl (x := 18) (m := 3) (w := .null) (t := 5) (i := 2) (u := 325) rfl rfl hV (iv.1) rfl rfl
          have E := E.ld (p := 59) (t := ri_isI) (i := 1) (n := 1) (v := .int k) rfl (e := (.iload_n 1, 1, [], .null)) rfl rfl (fun _ _ => rfl) k31_1 rfl
          have E := E.pu (p := 60) (lo' := (ri_st1 (ri_as 0 [.ref 4, .int k]) 2 (.int 0))) (st' := [.int ((eh_i G 4 2) >>> (k &&& 31))]) rfl (e := (.ishr, 1, [], .null)) rfl rfl (fun _ _ => rfl)
          have E := E.pu (p := 61) (lo' := (ri_st1 (ri_as 0 [.ref 4, .int k]) 2 (.int 0))) (st' := [.int 1, .int ((eh_i G 4 2) >>> (k &&& 31))]) rfl (e := (.iconst 1, 1, [], .null)) rfl rfl (fun _ _ => rfl)
          have E := E.pu (p := 62) (lo' := (ri_st1 (ri_as 0 [.ref 4, .int k]) 2 (.int 0))) (st' := [.int (((eh_i G 4 2) >>> (k &&& 31)) &&& 1)]) rfl (e := (.iand, 1, [], .null)) rfl rfl (fun _ _ => rfl)
          have E := E.pu (p := 63) (lo' := (ri_st1 (ri_as 0 [.ref 4, .int k]) 2 (.int 0))) (st' := [.int 1, .int (((eh_i G 4 2) >>> (k &&& 31)) &&& 1)]) rfl (e := (.iconst 1, 1, [], .null)) rfl rfl (fun _ _ => rfl)
          rcases eh_q1 (E.br (p := 66) (c := 1) (tgt := 75) (a := ((eh_i G 4 2) >>> (k &&& 31)) &&& 1) (b := 1) (st' := []) rfl (e := (.if_icmp .ne 12, 3, [75], .null)) rfl rfl (fun _ _ => rfl) rfl) with ⟨c32, E⟩ | ⟨c32, E⟩
          · skip
            have E := E.ld (p := 76) (t := ri_isA) (i := 0) (n := 1) (v := .ref 4) rfl (e := (.aload_n 0, 1, [], .null)) rfl rfl (fun _ _ => rfl) k31_0 rfl
            have E := E.pu (p := 77) (lo' := (ri_st1 (ri_as 0 [.ref 4, .int k]) 2 (.int 0))) (st' := [.ref 4, .ref 4]) rfl (e := (.dup, 1, [], .null)) rfl rfl (fun _ _ => rfl)
            have E := E.gi (y := eh_i G 4 2) (p := 80) rfl (x := 18) (m := 3) (w := .null) (t := 5) (i := 2) (u := 325) rfl rfl hV (iv.1) rfl rfl
            have E := E.pu (p := 81) (lo' := (ri_st1 (ri_as 0 [.ref 4, .int k]) 2 (.int 0))) (st' := [.int 1, .int (eh_i G 4 2), .ref 4]) rfl (e := (.iconst 1, 1, [], .null)) rfl rfl (fun _ _ => rfl)
            have E := E.ld (p := 82) (t := ri_isI) (i := 1) (n := 1) (v := .int k) rfl (e := (.iload_n 1, 1, [], .null)) rfl rfl (fun _ _ => rfl) k31_1 rfl
            have E := E.pu (p := 83) (lo' := (ri_st1 (ri_as 0 [.ref 4, .int k]) 2 (.int 0))) (st' := [.int (1 <<< (k &&& 31)), .int (eh_i G 4 2), .ref 4]) rfl (e := (.ishl, 1, [], .null)) rfl rfl (fun _ _ => rfl)
            have E := E.pu (p := 84) (lo' := (ri_st1 (ri_as 0 [.ref 4, .int k]) 2 (.int 0))) (st' := [.int ((eh_i G 4 2) ||| (1 <<< (k &&& 31))), .ref 4]) rfl (e := (.ior, 1, [], .null)) rfl rfl (fun _ _ => rfl)
            obtain ⟨h33, hV34, hN35, E⟩ := E.gp (p := 87) rfl (x := 18) (m := 3) (w := .null) (t := 5) (i := 2) (u := 325) (y := 0) rfl rfl hV
            have E := E.ld (p := 88) (t := ri_isA) (i := 0) (n := 1) (v := .ref 4) rfl (e := (.aload_n 0, 1, [], .null)) rfl rfl (fun _ _ => rfl) k31_0 rfl
            have E := E.gr (n := 2) (p := 91) rfl (x := 22) (m := 3) (w := .null) (t := 5) (i := 0) (u := 322) rfl rfl hV34 ((iv.1).ui rfl) rfl
            obtain ⟨v1, h36, X, E⟩ := E.cv (p := 94) (as := []) (b := 2) (r := []) rfl (x := 54) (m := 3) (w := .null) (j := 74) (n := 0) (t := 8) (u := [682, 648, 647]) rfl rfl rfl
            obtain ⟨rfl, ivk37, hNk37⟩ := tp_74 (d := d + 2) X (by rw [hV34]; exact (iC_u iv ((iv.1).ui rfl) rfl))
            have Xk37 := X
            have E : eh_e _ _ 94 (ri_st1 (ri_as 0 [.ref 4, .int k]) 2 (.int 0)) [] h36 rs h' := E
            have E := E.ld (p := 95) (t := ri_isA) (i := 0) (n := 1) (v := .ref 4) rfl (e := (.aload_n 0, 1, [], .null)) rfl rfl (fun _ _ => rfl) k31_0 rfl
            have E := E.gr (n := 2) (p := 98) rfl (x := 22) (m := 3) (w := .null) (t := 5) (i := 0) (u := 322) rfl rfl (rfl : eh_V h36 = eh_V h36) ivk37.1 rfl
            have E := E.pu (p := 101) (lo' := (ri_st1 (ri_as 0 [.ref 4, .int k]) 2 (.int 0))) (st' := [.retAddr 3, .ref 2]) rfl (e := (.getstatic 57, 3, [3, 726], .null)) rfl rfl (fun _ _ => rfl)
            have E := E.ld (p := 102) (t := ri_isI) (i := 1) (n := 1) (v := .int k) rfl (e := (.iload_n 1, 1, [], .null)) rfl rfl (fun _ _ => rfl) k31_1 rfl
            have E := (E.ats (p := 103) (a := eh_x 3 (k).toNatClampNeg) rfl (m := 1) (ax := []) (w := .null) rfl rfl (by rfl)).2
            have E := E.pu (p := 106) (lo' := (ri_st1 (ri_as 0 [.ref 4, .int k]) 2 (.int 0))) (st' := [.retAddr 4, .int (eh_x 3 (k).toNatClampNeg), .ref 2]) rfl (e := (.getstatic 60, 3, [4, 728], .null)) rfl rfl (fun _ _ => rfl)
            have E := E.ld (p := 107) (t := ri_isI) (i := 1) (n := 1) (v := .int k) rfl (e := (.iload_n 1, 1, [], .null)) rfl rfl (fun _ _ => rfl) k31_1 rfl
            have E := (E.ats (p := 108) (a := eh_x 4 (k).toNatClampNeg) rfl (m := 1) (ax := []) (w := .null) rfl rfl (by rfl)).2
            obtain ⟨v1, h38, X, E⟩ := E.cv (p := 111) (as := [.int (eh_x 3 (k).toNatClampNeg), .int (eh_x 4 (k).toNatClampNeg)]) (b := 2) (r := []) rfl (x := 63) (m := 3) (w := .null) (j := 83) (n := 2) (t := 8) (u := [706, 708, 707]) rfl rfl rfl
            obtain ⟨x40, rfl, ivk39, hNk39⟩ := tp_83 (d := d + 1) X (by rw [(rfl : eh_V h36 = eh_V h36)]; exact ivk37)
            have Xk39 := X
            have E : eh_e _ _ 111 (ri_st1 (ri_as 0 [.ref 4, .int k]) 2 (.int 0)) [.int x40] h38 rs h' := E
            have E := E.so (p := 112) (t := ri_isI) (i := 3) (n := 1) rfl (e := (.istore_n 3, 1, [], .null)) rfl rfl (fun _ _ => rfl) rfl
            have k41_3 : ri_lk (ri_st1 (ri_st1 (ri_as 0 [.ref 4, .int k]) 2 (.int 0)) 3 (.int x40)) 3 = some (.int x40) := eh_self
            have k41_0 : ri_lk (ri_st1 (ri_st1 (ri_as 0 [.ref 4, .int k]) 2 (.int 0)) 3 (.int x40)) 0 = some (.ref 4) := eh_keep (by decide) (Or.inl rfl) k31_0
            have k41_1 : ri_lk (ri_st1 (ri_st1 (ri_as 0 [.ref 4, .int k]) 2 (.int 0)) 3 (.int x40)) 1 = some (.int k) := eh_keep (by decide) (Or.inl rfl) k31_1
            have k41_2 : ri_lk (ri_st1 (ri_st1 (ri_as 0 [.ref 4, .int k]) 2 (.int 0)) 3 (.int x40)) 2 = some (.int 0) := eh_keep (by decide) (Or.inl rfl) k31_2
            have E := E.ld (p := 113) (t := ri_isI) (i := 3) (n := 1) (v := .int x40) rfl (e := (.iload_n 3, 1, [], .null)) rfl rfl (fun _ _ => rfl) k41_3 rfl
            have E := E.pu (p := 114) (lo' := (ri_st1 (ri_st1 (ri_as 0 [.ref 4, .int k]) 2 (.int 0)) 3 (.int x40))) (st' := [.int (-1), .int x40]) rfl (e := (.iconst (-1), 1, [], .null)) rfl rfl (fun _ _ => rfl)
            rcases eh_q1 (E.br (p := 117) (c := 1) (tgt := 119) (a := x40) (b := (-1)) (st' := []) rfl (e := (.if_icmp .ne 5, 3, [119], .null)) rfl rfl (fun _ _ => rfl) rfl) with ⟨c42, E⟩ | ⟨c42, E⟩
            · skip
              have E := E.ld (p := 120) (t := ri_isA) (i := 0) (n := 1) (v := .ref 4) rfl (e := (.aload_n 0, 1, [], .null)) rfl rfl (fun _ _ => rfl) k41_0 rfl
              have E := E.gr (n := 5) (p := 123) rfl (x := 12) (m := 3) (w := .null) (t := 5) (i := 1) (u := 323) rfl rfl (rfl : eh_V h38 = eh_V h38) ivk39.1 rfl
              have E := E.gr (n := 6) (p := 126) rfl (x := 67) (m := 3) (w := .null) (t := 4) (i := 0) (u := 256) rfl rfl (rfl : eh_V h38 = eh_V h38) ivk39.1 rfl
              have E := E.ld (p := 127) (t := ri_isI) (i := 1) (n := 1) (v := .int k) rfl (e := (.iload_n 1, 1, [], .null)) rfl rfl (fun _ _ => rfl) k41_1 rfl
              have E := E.ld (p := 128) (t := ri_isI) (i := 3) (n := 1) (v := .int x40) rfl (e := (.iload_n 3, 1, [], .null)) rfl rfl (fun _ _ => rfl) k41_3 rfl
              obtain ⟨h43, hV44, hN45, E⟩ := E.aw (gg := ri_g1) (b := true) (p := 129) (n := (k).toNatClampNeg) rfl (e := (.iastore, 1, [], .null)) rfl rfl (fun _ _ => rfl) rfl (rfl : eh_V h38 = eh_V h38) rfl
              have E := E.ld (p := 130) (t := ri_isI) (i := 1) (n := 1) (v := .int k) rfl (e := (.iload_n 1, 1, [], .null)) rfl rfl (fun _ _ => rfl) k41_1 rfl
              have E := E.pu (p := 131) (lo' := (ri_st1 (ri_st1 (ri_as 0 [.ref 4, .int k]) 2 (.int 0)) 3 (.int x40))) (st' := [.int 4, .int k]) rfl (e := (.iconst 4, 1, [], .null)) rfl rfl (fun _ _ => rfl)
              have E := (eh_q1 (E.br (p := 134) (c := 1) (tgt := 142) (a := k) (b := 4) (st' := []) rfl (e := (.if_icmp .ne 11, 3, [142], .null)) rfl rfl (fun _ _ => rfl) rfl)).elim (fun y => y.2) (fun y => absurd y.1 (by rw [c6]; decide))
              have E := E.pu (p := 143) (lo' := (ri_st1 (ri_st1 (ri_as 0 [.ref 4, .int k]) 2 (.int 0)) 3 (.int x40))) (st' := [.int 1]) rfl (e := (.iconst 1, 1, [], .null)) rfl rfl (fun _ _ => rfl)
              have E := E.pu (p := 147) (lo' := (ri_st1 (ri_st1 (ri_as 0 [.ref 4, .int k]) 2 (.int 0)) 3 (.int x40))) (st' := [.int 1]) rfl (e := (.goto 4, 3, [147], .null)) rfl rfl (fun _ _ => rfl)
              obtain ⟨r1, r2⟩ := E.reti rfl (m := 1) (ax := []) (w := .null) rfl
              exact Or.inr (Or.inr (Or.inr (Or.inr (Or.inr (Or.inr (Or.inl ⟨h33, h36, x40, h38, c1, c5, c6, c30, c32, hV34, Xk37, ivk37, Xk39, ivk39, c42, (by rw [← hrs, r1]; rfl), ((congrArg eh_V r2).trans hV44), ((congrArg eh_N r2).trans (hN45.trans (hNk39.trans (hNk37.trans hN35)))), (iC_u ivk39 (ivk39.1.ui rfl) rfl)⟩))))))
            · skip
              have E := E.pu (p := 118) (lo' := (ri_st1 (ri_st1 (ri_as 0 [.ref 4, .int k]) 2 (.int 0)) 3 (.int x40))) (st' := [.int 0]) rfl (e := (.iconst 0, 1, [], .null)) rfl rfl (fun _ _ => rfl)
              obtain ⟨r1, r2⟩ := E.reti rfl (m := 1) (ax := []) (w := .null) rfl
              exact Or.inr (Or.inr (Or.inr (Or.inr (Or.inr (Or.inr (Or.inr (Or.inl ⟨h33, h36, x40, h38, c1, c5, c6, c30, c32, hV34, Xk37, ivk37, Xk39, ivk39, c42, (by rw [← hrs, r1]; rfl), ((congrArg eh_V r2).trans (rfl : eh_V h38 = eh_V h38)), ((congrArg eh_N r2).trans (hNk39.trans (hNk37.trans hN35))), ivk39⟩)))))))
          · skip
            have E := E.ld (p := 67) (t := ri_isA) (i := 0) (n := 1) (v := .ref 4) rfl (e := (.aload_n 0, 1, [], .null)) rfl rfl (fun _ _ => rfl) k31_0 rfl
            have E := E.gr (n := 2) (p := 70) rfl (x := 22) (m := 3) (w := .null) (t := 5) (i := 0) (u := 322) rfl rfl hV (iv.1) rfl
            have E := E.pu (p := 71) (lo' := (ri_st1 (ri_as 0 [.ref 4, .int k]) 2 (.int 0))) (st' := [.int 3, .ref 2]) rfl (e := (.iconst 3, 1, [], .null)) rfl rfl (fun _ _ => rfl)
            obtain ⟨v1, h46, X, E⟩ := E.cv (p := 74) (as := [.int 3]) (b := 2) (r := []) rfl (x := 47) (m := 3) (w := .null) (j := 78) (n := 1) (t := 8) (u := [676, 678, 677]) rfl rfl rfl
            rcases sp_78 (d := d + 3) X hV (iv.1) with ⟨rfl, hV47, hN48⟩
            have hV47 : _ = eh_u (eh_u G 2 9 (.int 3)) 2 10 (.int (eh_i G 2 6)) := hV47
            have E : eh_e _ _ 74 (ri_st1 (ri_as 0 [.ref 4, .int k]) 2 (.int 0)) [.int 0] _ rs h' := E
            obtain ⟨r1, r2⟩ := E.reti rfl (m := 1) (ax := []) (w := .null) rfl
            exact Or.inr (Or.inr (Or.inr (Or.inr (Or.inr (Or.inr (Or.inr (Or.inr (Or.inl ⟨c1, c5, c6, c30, c32, (by rw [← hrs, r1]; rfl), ((congrArg eh_V r2).trans hV47), ((congrArg eh_N r2).trans hN48), (iC_u (iC_u iv ((iv.1).ui rfl) rfl) (((iv.1).ui rfl).ui rfl) rfl)⟩))))))))
        · skip
          have E := E.pu (p := 45) (lo' := (ri_as 0 [.ref 4, .int k])) (st' := [.int 1]) rfl (e := (.iconst 1, 1, [], .null)) rfl rfl (fun _ _ => rfl)
          have E := E.pu (p := 49) (lo' := (ri_as 0 [.ref 4, .int k])) (st' := [.int 1]) rfl (e := (.goto 4, 3, [49], .null)) rfl rfl (fun _ _ => rfl)
          have E := E.so (p := 50) (t := ri_isI) (i := 2) (n := 1) rfl (e := (.istore_n 2, 1, [], .null)) rfl rfl (fun _ _ => rfl) rfl
          have k49_2 : ri_lk (ri_st1 (ri_as 0 [.ref 4, .int k]) 2 (.int 1)) 2 = some (.int 1) := eh_self
          have k49_0 : ri_lk (ri_st1 (ri_as 0 [.ref 4, .int k]) 2 (.int 1)) 0 = some (.ref 4) := eh_keep (by decide) (Or.inl rfl) rfl
          have k49_1 : ri_lk (ri_st1 (ri_as 0 [.ref 4, .int k]) 2 (.int 1)) 1 = some (.int k) := eh_keep (by decide) (Or.inl rfl) rfl
          have E := E.ld (p := 51) (t := ri_isI) (i := 2) (n := 1) (v := .int 1) rfl (e := (.iload_n 2, 1, [], .null)) rfl rfl (fun _ _ => rfl) k49_2 rfl
          have E := E.brt (c := 1) (tgt := 66) (a := 1) (b := 0) (st' := []) rfl (e := (.ifCond .ne 15, 3, [66], .null)) rfl rfl (fun _ _ => rfl) (by decide)
          have E := E.ld (p := 67) (t := ri_isA) (i := 0) (n := 1) (v := .ref 4) rfl (e := (.aload_n 0, 1, [], .null)) rfl rfl (fun _ _ => rfl) k49_0 rfl
          have E := E.gr (n := 2) (p := 70) rfl (x := 22) (m := 3) (w := .null) (t := 5) (i := 0) (u := 322) rfl rfl hV (iv.1) rfl
          have E := E.pu (p := 71) (lo' := (ri_st1 (ri_as 0 [.ref 4, .int k]) 2 (.int 1))) (st' := [.int 3, .ref 2]) rfl (e := (.iconst 3, 1, [], .null)) rfl rfl (fun _ _ => rfl)
          obtain ⟨v1, h50, X, E⟩ := E.cv (p := 74) (as := [.int 3]) (b := 2) (r := []) rfl (x := 47) (m := 3) (w := .null) (j := 78) (n := 1) (t := 8) (u := [676, 678, 677]) rfl rfl rfl
          rcases sp_78 (d := d + 3) X hV (iv.1) with ⟨rfl, hV51, hN52⟩
          have hV51 : _ = eh_u (eh_u G 2 9 (.int 3)) 2 10 (.int (eh_i G 2 6)) := hV51
          have E : eh_e _ _ 74 (ri_st1 (ri_as 0 [.ref 4, .int k]) 2 (.int 1)) [.int 0] _ rs h' := E
          obtain ⟨r1, r2⟩ := E.reti rfl (m := 1) (ax := []) (w := .null) rfl
          exact Or.inr (Or.inr (Or.inr (Or.inr (Or.inr (Or.inr (Or.inr (Or.inr (Or.inr (Or.inl ⟨c1, c5, c6, c30, (by rw [← hrs, r1]; rfl), ((congrArg eh_V r2).trans hV51), ((congrArg eh_N r2).trans hN52), (iC_u (iC_u iv ((iv.1).ui rfl) rfl) (((iv.1).ui rfl).ui rfl) rfl)⟩)))))))))
    · skip
      have E := E.ld (p := 10) (t := ri_isA) (i := 0) (n := 1) (v := .ref 4) rfl (e := (.aload_n 0, 1, [], .null)) rfl rfl (fun _ _ => rfl) rfl rfl
      have E := E.gr (n := 2) (p := 13) rfl (x := 22) (m := 3) (w := .null) (t := 5) (i := 0) (u := 322) rfl rfl hV (iv.1) rfl
      have E := E.pu (p := 14) (lo' := (ri_as 0 [.ref 4, .int k])) (st' := [.int 1, .ref 2]) rfl (e := (.iconst 1, 1, [], .null)) rfl rfl (fun _ _ => rfl)
      obtain ⟨v1, h53, X, E⟩ := E.cv (p := 17) (as := [.int 1]) (b := 2) (r := []) rfl (x := 47) (m := 3) (w := .null) (j := 78) (n := 1) (t := 8) (u := [676, 678, 677]) rfl rfl rfl
      rcases sp_78 (d := d + 3) X hV (iv.1) with ⟨rfl, hV54, hN55⟩
      have hV54 : _ = eh_u (eh_u G 2 9 (.int 1)) 2 10 (.int (eh_i G 2 6)) := hV54
      have E : eh_e _ _ 17 (ri_as 0 [.ref 4, .int k]) [.int 0] _ rs h' := E
      obtain ⟨r1, r2⟩ := E.reti rfl (m := 1) (ax := []) (w := .null) rfl
      exact Or.inr (Or.inr (Or.inr (Or.inr (Or.inr (Or.inr (Or.inr (Or.inr (Or.inr (Or.inr (⟨c1, c5, (by rw [← hrs, r1]; rfl), ((congrArg eh_V r2).trans hV54), ((congrArg eh_N r2).trans hN55), (iC_u (iC_u iv ((iv.1).ui rfl) rfl) (((iv.1).ui rfl).ui rfl) rfl)⟩))))))))))
theorem tp_44 {d : Nat} {h h' : ri_H} {v : Option Value} {b : Nat → Int32} {n m : Nat} {k : Int32} (E : ri_calE ri_md (d + 5) 44 [.ref 4, .int k] h = some (v, h')) (iv : iC b n m (eh_V h)) : ∃ x : Int32, v = some (.int x) ∧ iC b n m (eh_V h') ∧ eh_N h' = eh_N h := by
  rcases sp_44 E rfl iv with ⟨_, r1, r2, r3, r4⟩ | ⟨_, _, _, _, _, _, _, _, _, _, _, _, _, _, _, r1, r2, r3, r4⟩ | ⟨_, _, _, _, _, _, _, _, _, _, _, _, _, _, _, _, _, _, _, _, _, _, r1, r2, r3, r4⟩ | ⟨_, _, _, _, _, _, _, _, _, _, _, _, _, _, _, _, _, _, _, _, _, _, r1, r2, r3, r4⟩ | ⟨_, _, _, _, _, _, _, _, _, _, _, _, _, _, r1, r2, r3, r4⟩ | ⟨_, _, _, _, r1, r2, r3, r4⟩ | ⟨_, _, _, _, _, _, _, _, _, _, _, _, _, _, _, r1, r2, r3, r4⟩ | ⟨_, _, _, _, _, _, _, _, _, _, _, _, _, _, _, r1, r2, r3, r4⟩ | ⟨_, _, _, _, _, r1, r2, r3, r4⟩ | ⟨_, _, _, _, r1, r2, r3, r4⟩ | ⟨_, _, r1, r2, r3, r4⟩
  · exact ⟨_, r1, by rw [r2]; exact r4, r3⟩
  · exact ⟨_, r1, by rw [r2]; exact r4, r3⟩
  · exact ⟨_, r1, by rw [r2]; exact r4, r3⟩
  · exact ⟨_, r1, by rw [r2]; exact r4, r3⟩
  · exact ⟨_, r1, by rw [r2]; exact r4, r3⟩
  · exact ⟨_, r1, by rw [r2]; exact r4, r3⟩
  · exact ⟨_, r1, by rw [r2]; exact r4, r3⟩
  · exact ⟨_, r1, by rw [r2]; exact r4, r3⟩
  · exact ⟨_, r1, by rw [r2]; exact r4, r3⟩
  · exact ⟨_, r1, by rw [r2]; exact r4, r3⟩
  · exact ⟨_, r1, by rw [r2]; exact r4, r3⟩
