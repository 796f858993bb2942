theorem sp_46 {d : Nat} {h h' : ri_H} {v : Option Value} {G : eh_W} {b : Nat → Int32} {n m : Nat} {so : Int32} (E : ri_calE ri_md (d + 6) 46 [.ref 4, .int so] h = some (v, h')) (hV : eh_V h = G) (iv : iC b n m G) : (so.toInt < 0 ∧ v = some (.int 0) ∧ eh_V h' = eh_u (eh_u G 2 9 (.int 1)) 2 10 (.int (eh_i G 2 6)) ∧ eh_N h' = eh_N h ∧ iC b n m (eh_u (eh_u G 2 9 (.int 1)) 2 10 (.int (eh_i G 2 6)))) ∨ (∃ (h7 : ri_H), ∃ (x11 : Int32), ¬ (so.toInt < 0) ∧ ¬ (3 < so.toInt) ∧ (eh_i G 7 (so).toNatClampNeg).toInt < (eh_x 2 (so).toNatClampNeg).toInt ∧ ri_calE ri_md (d + 5) 74 [.ref 2] h = some (none, h7) ∧ iC b n m (eh_V h7) ∧ (eh_i (eh_V h7) 2 5) = 3 ∧ fd_C (eh_V h7) 5 14 (eh_l (eh_V h7) 2 8) x11 ∧ x11 = (-1) ∧ ¬ ((eh_i (eh_V h7) 5 12).toInt < 24) ∧ v = some (.int 0) ∧ eh_V h' = eh_u (eh_u (eh_V h7) 2 9 (.int 4)) 2 10 (.int (eh_i (eh_V h7) 2 6)) ∧ eh_N h' = eh_N h ∧ iC b n m (eh_u (eh_u (eh_V h7) 2 9 (.int 4)) 2 10 (.int (eh_i (eh_V h7) 2 6)))) ∨ (∃ (h7 : ri_H), ∃ (x11 : Int32), ∃ (h16 : ri_H), ∃ (h34 : ri_H), ¬ (so.toInt < 0) ∧ ¬ (3 < so.toInt) ∧ (eh_i G 7 (so).toNatClampNeg).toInt < (eh_x 2 (so).toNatClampNeg).toInt ∧ ri_calE ri_md (d + 5) 74 [.ref 2] h = some (none, h7) ∧ iC b n m (eh_V h7) ∧ (eh_i (eh_V h7) 2 5) = 3 ∧ fd_C (eh_V h7) 5 14 (eh_l (eh_V h7) 2 8) x11 ∧ x11 = (-1) ∧ (eh_i (eh_V h7) 5 12).toInt < 24 ∧ (eh_i (eh_V h7) 7 (so).toNatClampNeg).toInt < (eh_x 2 (so).toNatClampNeg).toInt ∧ ¬ ((((eh_i (eh_V h7) 7 (so).toNatClampNeg) + 1) - 1) = (-1)) ∧ eh_V h16 = eh_u (eh_u (eh_u (eh_u (eh_u (eh_V h7) 14 (eh_i (eh_V h7) 5 12).toNatClampNeg (.long (eh_l (eh_V h7) 2 8))) 15 (eh_i (eh_V h7) 5 12).toNatClampNeg (.int so)) 16 (eh_i (eh_V h7) 5 12).toNatClampNeg (.int (eh_i (eh_V h7) 7 (so).toNatClampNeg))) 5 12 (.int ((eh_i (eh_V h7) 5 12) + 1))) 7 (so).toNatClampNeg (.int ((eh_i (eh_V h7) 7 (so).toNatClampNeg) + 1)) ∧ ri_calE ri_md (d + 5) 74 [.ref 2] h16 = some (none, h34) ∧ iC b n m (eh_V h34) ∧ ¬ (so = 1) ∧ ¬ (so = 3) ∧ v = some (.int 1) ∧ eh_V h' = (eh_V h34) ∧ eh_N h' = eh_N h ∧ iC b n m (eh_V h34)) ∨ (∃ (h7 : ri_H), ∃ (x11 : Int32), ∃ (h16 : ri_H), ∃ (h34 : ri_H), ∃ (x40 : Int32), ∃ (h38 : ri_H), ¬ (so.toInt < 0) ∧ ¬ (3 < so.toInt) ∧ (eh_i G 7 (so).toNatClampNeg).toInt < (eh_x 2 (so).toNatClampNeg).toInt ∧ ri_calE ri_md (d + 5) 74 [.ref 2] h = some (none, h7) ∧ iC b n m (eh_V h7) ∧ (eh_i (eh_V h7) 2 5) = 3 ∧ fd_C (eh_V h7) 5 14 (eh_l (eh_V h7) 2 8) x11 ∧ x11 = (-1) ∧ (eh_i (eh_V h7) 5 12).toInt < 24 ∧ (eh_i (eh_V h7) 7 (so).toNatClampNeg).toInt < (eh_x 2 (so).toNatClampNeg).toInt ∧ ¬ ((((eh_i (eh_V h7) 7 (so).toNatClampNeg) + 1) - 1) = (-1)) ∧ eh_V h16 = eh_u (eh_u (eh_u (eh_u (eh_u (eh_V h7) 14 (eh_i (eh_V h7) 5 12).toNatClampNeg (.long (eh_l (eh_V h7) 2 8))) 15 (eh_i (eh_V h7) 5 12).toNatClampNeg (.int so)) 16 (eh_i (eh_V h7) 5 12).toNatClampNeg (.int (eh_i (eh_V h7) 7 (so).toNatClampNeg))) 5 12 (.int ((eh_i (eh_V h7) 5 12) + 1))) 7 (so).toNatClampNeg (.int ((eh_i (eh_V h7) 7 (so).toNatClampNeg) + 1)) ∧ ri_calE ri_md (d + 5) 74 [.ref 2] h16 = some (none, h34) ∧ iC b n m (eh_V h34) ∧ ¬ (so = 1) ∧ so = 3 ∧ ri_calE ri_md (d + 5) 49 [.ref 4, .int (((eh_i (eh_V h7) 7 (so).toNatClampNeg) + 1) - 1)] h34 = some (some (.int x40), h38) ∧ iC b n m (eh_V h38) ∧ x40 = 0 ∧ v = some (.int 0) ∧ eh_V h' = (eh_V h38) ∧ eh_N h' = eh_N h ∧ iC b n m (eh_V h38)) ∨ (∃ (h7 : ri_H), ∃ (x11 : Int32), ∃ (h16 : ri_H), ∃ (h34 : ri_H), ∃ (x40 : Int32), ∃ (h38 : ri_H), ¬ (so.toInt < 0) ∧ ¬ (3 < so.toInt) ∧ (eh_i G 7 (so).toNatClampNeg).toInt < (eh_x 2 (so).toNatClampNeg).toInt ∧ ri_calE ri_md (d + 5) 74 [.ref 2] h = some (none, h7) ∧ iC b n m (eh_V h7) ∧ (eh_i (eh_V h7) 2 5) = 3 ∧ fd_C (eh_V h7) 5 14 (eh_l (eh_V h7) 2 8) x11 ∧ x11 = (-1) ∧ (eh_i (eh_V h7) 5 12).toInt < 24 ∧ (eh_i (eh_V h7) 7 (so).toNatClampNeg).toInt < (eh_x 2 (so).toNatClampNeg).toInt ∧ ¬ ((((eh_i (eh_V h7) 7 (so).toNatClampNeg) + 1) - 1) = (-1)) ∧ eh_V h16 = eh_u (eh_u (eh_u (eh_u (eh_u (eh_V h7) 14 (eh_i (eh_V h7) 5 12).toNatClampNeg (.long (eh_l (eh_V h7) 2 8))) 15 (eh_i (eh_V h7) 5 12).toNatClampNeg (.int so)) 16 (eh_i (eh_V h7) 5 12).toNatClampNeg (.int (eh_i (eh_V h7) 7 (so).toNatClampNeg))) 5 12 (.int ((eh_i (eh_V h7) 5 12) + 1))) 7 (so).toNatClampNeg (.int ((eh_i (eh_V h7) 7 (so).toNatClampNeg) + 1)) ∧ ri_calE ri_md (d + 5) 74 [.ref 2] h16 = some (none, h34) ∧ iC b n m (eh_V h34) ∧ ¬ (so = 1) ∧ so = 3 ∧ ri_calE ri_md (d + 5) 49 [.ref 4, .int (((eh_i (eh_V h7) 7 (so).toNatClampNeg) + 1) - 1)] h34 = some (some (.int x40), h38) ∧ iC b n m (eh_V h38) ∧ ¬ (x40 = 0) ∧ v = some (.int 1) ∧ eh_V h' = (eh_V h38) ∧ eh_N h' = eh_N h ∧ iC b n m (eh_V h38)) ∨ (∃ (h7 : ri_H), ∃ (x11 : Int32), ∃ (h16 : ri_H), ∃ (h34 : ri_H), ∃ (x44 : Int32), ∃ (h42 : ri_H), ¬ (so.toInt < 0) ∧ ¬ (3 < so.toInt) ∧ (eh_i G 7 (so).toNatClampNeg).toInt < (eh_x 2 (so).toNatClampNeg).toInt ∧ ri_calE ri_md (d + 5) 74 [.ref 2] h = some (none, h7) ∧ iC b n m (eh_V h7) ∧ (eh_i (eh_V h7) 2 5) = 3 ∧ fd_C (eh_V h7) 5 14 (eh_l (eh_V h7) 2 8) x11 ∧ x11 = (-1) ∧ (eh_i (eh_V h7) 5 12).toInt < 24 ∧ (eh_i (eh_V h7) 7 (so).toNatClampNeg).toInt < (eh_x 2 (so).toNatClampNeg).toInt ∧ ¬ ((((eh_i (eh_V h7) 7 (so).toNatClampNeg) + 1) - 1) = (-1)) ∧ eh_V h16 = eh_u (eh_u (eh_u (eh_u (eh_u (eh_V h7) 14 (eh_i (eh_V h7) 5 12).toNatClampNeg (.long (eh_l (eh_V h7) 2 8))) 15 (eh_i (eh_V h7) 5 12).toNatClampNeg (.int so)) 16 (eh_i (eh_V h7) 5 12).toNatClampNeg (.int (eh_i (eh_V h7) 7 (so).toNatClampNeg))) 5 12 (.int ((eh_i (eh_V h7) 5 12) + 1))) 7 (so).toNatClampNeg (.int ((eh_i (eh_V h7) 7 (so).toNatClampNeg) + 1)) ∧ ri_calE ri_md (d + 5) 74 [.ref 2] h16 = some (none, h34) ∧ iC b n m (eh_V h34) ∧ so = 1 ∧ ri_calE ri_md (d + 5) 47 [.ref 4, .int (((eh_i (eh_V h7) 7 (so).toNatClampNeg) + 1) - 1)] h34 = some (some (.int x44), h42) ∧ iC b n m (eh_V h42) ∧ v = some (.int x44) ∧ eh_V h' = (eh_V h42) ∧ eh_N h' = eh_N h ∧ iC b n m (eh_V h42)) ∨ (∃ (h7 : ri_H), ∃ (x11 : Int32), ¬ (so.toInt < 0) ∧ ¬ (3 < so.toInt) ∧ (eh_i G 7 (so).toNatClampNeg).toInt < (eh_x 2 (so).toNatClampNeg).toInt ∧ ri_calE ri_md (d + 5) 74 [.ref 2] h = some (none, h7) ∧ iC b n m (eh_V h7) ∧ (eh_i (eh_V h7) 2 5) = 3 ∧ fd_C (eh_V h7) 5 14 (eh_l (eh_V h7) 2 8) x11 ∧ x11 = (-1) ∧ (eh_i (eh_V h7) 5 12).toInt < 24 ∧ (eh_i (eh_V h7) 7 (so).toNatClampNeg).toInt < (eh_x 2 (so).toNatClampNeg).toInt ∧ (((eh_i (eh_V h7) 7 (so).toNatClampNeg) + 1) - 1) = (-1) ∧ v = some (.int 0) ∧ eh_V h' = eh_u (eh_u (eh_u (eh_u (eh_u (eh_u (eh_u (eh_V h7) 14 (eh_i (eh_V h7) 5 12).toNatClampNeg (.long (eh_l (eh_V h7) 2 8))) 15 (eh_i (eh_V h7) 5 12).toNatClampNeg (.int so)) 16 (eh_i (eh_V h7) 5 12).toNatClampNeg (.int (eh_i (eh_V h7) 7 (so).toNatClampNeg))) 5 12 (.int ((eh_i (eh_V h7) 5 12) + 1))) 7 (so).toNatClampNeg (.int ((eh_i (eh_V h7) 7 (so).toNatClampNeg) + 1))) 2 9 (.int 4)) 2 10 (.int (eh_i (eh_V h7) 2 6)) ∧ eh_N h' = eh_N h ∧ iC b n m (eh_u (eh_u (eh_u (eh_u (eh_u (eh_u (eh_u (eh_V h7) 14 (eh_i (eh_V h7) 5 12).toNatClampNeg (.long (eh_l (eh_V h7) 2 8))) 15 (eh_i (eh_V h7) 5 12).toNatClampNeg (.int so)) 16 (eh_i (eh_V h7) 5 12).toNatClampNeg (.int (eh_i (eh_V h7) 7 (so).toNatClampNeg))) 5 12 (.int ((eh_i (eh_V h7) 5 12) + 1))) 7 (so).toNatClampNeg (.int ((eh_i (eh_V h7) 7 (so).toNatClampNeg) + 1))) 2 9 (.int 4)) 2 10 (.int (eh_i (eh_V h7) 2 6)))) ∨ (∃ (h7 : ri_H), ∃ (x11 : Int32), ¬ (so.toInt < 0) ∧ ¬ (3 < so.toInt) ∧ (eh_i G 7 (so).toNatClampNeg).toInt < (eh_x 2 (so).toNatClampNeg).toInt ∧ ri_calE ri_md (d + 5) 74 [.ref 2] h = some (none, h7) ∧ iC b n m (eh_V h7) ∧ (eh_i (eh_V h7) 2 5) = 3 ∧ fd_C (eh_V h7) 5 14 (eh_l (eh_V h7) 2 8) x11 ∧ x11 = (-1) ∧ (eh_i (eh_V h7) 5 12).toInt < 24 ∧ ¬ ((eh_i (eh_V h7) 7 (so).toNatClampNeg).toInt < (eh_x 2 (so).toNatClampNeg).toInt) ∧ v = some (.int 0) ∧ eh_V h' = eh_u (eh_u (eh_V h7) 2 9 (.int 4)) 2 10 (.int (eh_i (eh_V h7) 2 6)) ∧ eh_N h' = eh_N h ∧ iC b n m (eh_u (eh_u (eh_V h7) 2 9 (.int 4)) 2 10 (.int (eh_i (eh_V h7) 2 6)))) ∨ (∃ (h7 : ri_H), ∃ (x11 : Int32), ¬ (so.toInt < 0) ∧ ¬ (3 < so.toInt) ∧ (eh_i G 7 (so).toNatClampNeg).toInt < (eh_x 2 (so).toNatClampNeg).toInt ∧ ri_calE ri_md (d + 5) 74 [.ref 2] h = some (none, h7) ∧ iC b n m (eh_V h7) ∧ (eh_i (eh_V h7) 2 5) = 3 ∧ fd_C (eh_V h7) 5 14 (eh_l (eh_V h7) 2 8) x11 ∧ ¬ (x11 = (-1)) ∧ v = some (.int 0) ∧ eh_V h' = eh_u (eh_u (eh_V h7) 2 9 (.int 3)) 2 10 (.int (eh_i (eh_V h7) 2 6)) ∧ eh_N h' = eh_N h ∧ iC b n m (eh_u (eh_u (eh_V h7) 2 9 (.int 3)) 2 10 (.int (eh_i (eh_V h7) 2 6)))) ∨ (∃ (h7 : ri_H), ¬ (so.toInt < 0) ∧ ¬ (3 < so.toInt) ∧ (eh_i G 7 (so).toNatClampNeg).toInt < (eh_x 2 (so).toNatClampNeg).toInt ∧ ri_calE ri_md (d + 5) 74 [.ref 2] h = some (none, h7) ∧ iC b n m (eh_V h7) ∧ ¬ ((eh_i (eh_V h7) 2 5) = 3) ∧ v = some (.int 0) ∧ eh_V h' = eh_u (eh_u (eh_V h7) 2 9 (.int 1)) 2 10 (.int (eh_i (eh_V h7) 2 6)) ∧ eh_N h' = eh_N h ∧ iC b n m (eh_u (eh_u (eh_V h7) 2 9 (.int 1)) 2 10 (.int (eh_i (eh_V h7) 2 6)))) ∨ (¬ (so.toInt < 0) ∧ ¬ (3 < so.toInt) ∧ ¬ ((eh_i G 7 (so).toNatClampNeg).toInt < (eh_x 2 (so).toNatClampNeg).toInt) ∧ v = some (.int 0) ∧ eh_V h' = eh_u (eh_u G 2 9 (.int 4)) 2 10 (.int (eh_i G 2 6)) ∧ eh_N h' = eh_N h ∧ iC b n m (eh_u (eh_u G 2 9 (.int 4)) 2 10 (.int (eh_i G 2 6)))) ∨ (¬ (so.toInt < 0) ∧ 3 < so.toInt ∧ v = some (.int 0) ∧ eh_V h' = eh_u (eh_u G 2 9 (.int 1)) 2 10 (.int (eh_i G 2 6)) ∧ eh_N h' = eh_N h ∧ iC b n m (eh_u (eh_u G 2 9 (.int 1)) 2 10 (.int (eh_i G 2 6)))) := by
  obtain ⟨rs, hrs, E⟩ := eh_in E (q := md_46) rfl
  have E := E.ld (p := 1) (t := ri_isI) (i := 1) (n := 1) (v := .int so) rfl (e := (.iload_n 1, 1, [], .null)) rfl rfl (fun _ _ => rfl) rfl rfl
  rcases eh_r2 rfl (show (0 : Int32).toInt = 0 by decide) (E.br (p := 4) (c := 2) (tgt := 9) (a := so) (b := 0) (st' := []) rfl (e := (.ifCond .lt 8, 3, [9], .null)) rfl rfl (fun _ _ => rfl) rfl) with ⟨c1, E⟩ | ⟨c1, E⟩
  · skip
    have E := E.ld (p := 10) (t := ri_isA) (i := 0) (n := 1) (v := .ref 4) rfl (e := (.aload_n 0, 1, [], .null)) rfl rfl (fun _ _ => rfl) rfl rfl
    have E := E.gr (n := 2) (p := 13) rfl (x := 22) (m := 3) (w := .null) (t := 5) (i := 0) (u := 322) rfl rfl hV (iv.1) rfl
    have E := E.pu (p := 14) (lo' := (ri_as 0 [.ref 4, .int so])) (st' := [.int 1, .ref 2]) rfl (e := (.iconst 1, 1, [], .null)) rfl rfl (fun _ _ => rfl)
    obtain ⟨v1, h2, X, E⟩ := E.cv (p := 17) (as := [.int 1]) (b := 2) (r := []) rfl (x := 47) (m := 3) (w := .null) (j := 78) (n := 1) (t := 8) (u := [676, 678, 677]) rfl rfl rfl
    rcases sp_78 (d := d + 4) X hV (iv.1) with ⟨rfl, hV3, hN4⟩
    have hV3 : _ = eh_u (eh_u G 2 9 (.int 1)) 2 10 (.int (eh_i G 2 6)) := hV3
    have E : eh_e _ _ 17 (ri_as 0 [.ref 4, .int so]) [.int 0] _ rs h' := E
    obtain ⟨r1, r2⟩ := E.reti rfl (m := 1) (ax := []) (w := .null) rfl
    exact Or.inl ⟨c1, (by rw [← hrs, r1]; rfl), ((congrArg eh_V r2).trans hV3), ((congrArg eh_N r2).trans hN4), (iC_u (iC_u iv ((iv.1).ui rfl) rfl) (((iv.1).ui rfl).ui rfl) rfl)⟩
  · skip
    have E := E.ld (p := 5) (t := ri_isI) (i := 1) (n := 1) (v := .int so) rfl (e := (.iload_n 1, 1, [], .null)) rfl rfl (fun _ _ => rfl) rfl rfl
    have E := E.pu (p := 6) (lo' := (ri_as 0 [.ref 4, .int so])) (st' := [.int 3, .int so]) rfl (e := (.iconst 3, 1, [], .null)) rfl rfl (fun _ _ => rfl)
    rcases eh_r5 rfl (show (3 : Int32).toInt = 3 by decide) (E.br (p := 9) (c := 5) (tgt := 18) (a := so) (b := 3) (st' := []) rfl (e := (.if_icmp .le 12, 3, [18], .null)) rfl rfl (fun _ _ => rfl) rfl) with ⟨c5, E⟩ | ⟨c5, E⟩
    · skip
      have E := E.ld (p := 19) (t := ri_isA) (i := 0) (n := 1) (v := .ref 4) rfl (e := (.aload_n 0, 1, [], .null)) rfl rfl (fun _ _ => rfl) rfl rfl
      have E := E.gr (n := 5) (p := 22) rfl (x := 12) (m := 3) (w := .null) (t := 5) (i := 1) (u := 323) rfl rfl hV (iv.1) rfl
      have E := E.gr (n := 7) (p := 25) rfl (x := 50) (m := 3) (w := .null) (t := 4) (i := 2) (u := 263) rfl rfl hV (iv.1) rfl
      have E := E.ld (p := 26) (t := ri_isI) (i := 1) (n := 1) (v := .int so) rfl (e := (.iload_n 1, 1, [], .null)) rfl rfl (fun _ _ => rfl) rfl rfl
      have E := E.ai (p := 27) (z := eh_i G 7 (so).toNatClampNeg) (n := (so).toNatClampNeg) rfl (e := (.iaload, 1, [], .null)) rfl rfl (fun _ _ => rfl) rfl hV (iv.1) rfl rfl rfl
      have E := E.pu (p := 30) (lo' := (ri_as 0 [.ref 4, .int so])) (st' := [.retAddr 2, .int (eh_i G 7 (so).toNatClampNeg)]) rfl (e := (.getstatic 81, 3, [2, 680], .null)) rfl rfl (fun _ _ => rfl)
      have E := E.ld (p := 31) (t := ri_isI) (i := 1) (n := 1) (v := .int so) rfl (e := (.iload_n 1, 1, [], .null)) rfl rfl (fun _ _ => rfl) rfl rfl
      have E := (E.ats (p := 32) (a := eh_x 2 (so).toNatClampNeg) rfl (m := 1) (ax := []) (w := .null) rfl rfl (by rfl)).2
      rcases eh_r2 rfl rfl (E.br (p := 35) (c := 2) (tgt := 44) (a := eh_i G 7 (so).toNatClampNeg) (b := eh_x 2 (so).toNatClampNeg) (st' := []) rfl (e := (.if_icmp .lt 12, 3, [44], .null)) rfl rfl (fun _ _ => rfl) rfl) with ⟨c6, E⟩ | ⟨c6, E⟩
      · skip
        have E := E.ld (p := 45) (t := ri_isA) (i := 0) (n := 1) (v := .ref 4) rfl (e := (.aload_n 0, 1, [], .null)) rfl rfl (fun _ _ => rfl) rfl rfl
        have E := E.gr (n := 2) (p := 48) rfl (x := 22) (m := 3) (w := .null) (t := 5) (i := 0) (u := 322) rfl rfl hV (iv.1) rfl
        obtain ⟨v1, h7, X, E⟩ := E.cv (p := 51) (as := []) (b := 2) (r := []) rfl (x := 54) (m := 3) (w := .null) (j := 74) (n := 0) (t := 8) (u := [682, 648, 647]) rfl rfl rfl
        obtain ⟨rfl, ivk8, hNk8⟩ := tp_74 (d := d + 3) X (by rw [hV]; exact iv)
        have Xk8 := X
        have E : eh_e _ _ 51 (ri_as 0 [.ref 4, .int so]) [] h7 rs h' := E
        have E := E.ld (p := 52) (t := ri_isA) (i := 0) (n := 1) (v := .ref 4) rfl (e := (.aload_n 0, 1, [], .null)) rfl rfl (fun _ _ => rfl) rfl rfl
        have E := E.gr (n := 2) (p := 55) rfl (x := 22) (m := 3) (w := .null) (t := 5) (i := 0) (u := 322) rfl rfl (rfl : eh_V h7 = eh_V h7) ivk8.1 rfl
        have E := E.gi (y := eh_i (eh_V h7) 2 5) (p := 58) rfl (x := 29) (m := 3) (w := .null) (t := 8) (i := 5) (u := 195) rfl rfl (rfl : eh_V h7 = eh_V h7) ivk8.1 rfl rfl
        have E := E.pu (p := 59) (lo' := (ri_as 0 [.ref 4, .int so])) (st' := [.int 3, .int (eh_i (eh_V h7) 2 5)]) rfl (e := (.iconst 3, 1, [], .null)) rfl rfl (fun _ _ => rfl)
        rcases eh_q0 (E.br (p := 62) (c := 0) (tgt := 71) (a := eh_i (eh_V h7) 2 5) (b := 3) (st' := []) rfl (e := (.if_icmp .eq 12, 3, [71], .null)) rfl rfl (fun _ _ => rfl) rfl) with ⟨c9, E⟩ | ⟨c9, E⟩
        · skip
          have E := E.ld (p := 72) (t := ri_isA) (i := 0) (n := 1) (v := .ref 4) rfl (e := (.aload_n 0, 1, [], .null)) rfl rfl (fun _ _ => rfl) rfl rfl
          have E := E.gr (n := 5) (p := 75) rfl (x := 12) (m := 3) (w := .null) (t := 5) (i := 1) (u := 323) rfl rfl (rfl : eh_V h7 = eh_V h7) ivk8.1 rfl
          have E := E.ld (p := 76) (t := ri_isA) (i := 0) (n := 1) (v := .ref 4) rfl (e := (.aload_n 0, 1, [], .null)) rfl rfl (fun _ _ => rfl) rfl rfl
          have E := E.gr (n := 2) (p := 79) rfl (x := 22) (m := 3) (w := .null) (t := 5) (i := 0) (u := 322) rfl rfl (rfl : eh_V h7 = eh_V h7) ivk8.1 rfl
          have E := E.gl (y := eh_l (eh_V h7) 2 8) (p := 82) rfl (x := 84) (m := 3) (w := .null) (t := 8) (i := 8) (u := 203) rfl rfl (rfl : eh_V h7 = eh_V h7) ivk8.1 rfl rfl
          obtain ⟨v1, h10, X, E⟩ := E.cv (p := 85) (as := [.long (eh_l (eh_V h7) 2 8)]) (b := 5) (r := []) rfl (x := 88) (m := 3) (w := .null) (j := 29) (n := 1) (t := 4) (u := [683, 685, 684]) rfl rfl rfl
          rcases sp_29_5 (d := d + 4) X (rfl : eh_V h7 = eh_V h7) ivk8.1 with ⟨x11, c12, rfl, hV13, hN14⟩
          have c12 : fd_C (eh_V h7) 5 14 (eh_l (eh_V h7) 2 8) x11 := c12
          have E : eh_e _ _ 85 (ri_as 0 [.ref 4, .int so]) [.int x11] _ rs h' := E
          have E := E.pu (p := 86) (lo' := (ri_as 0 [.ref 4, .int so])) (st' := [.int (-1), .int x11]) rfl (e := (.iconst (-1), 1, [], .null)) rfl rfl (fun _ _ => rfl)
          rcases eh_q0 (E.br (p := 89) (c := 0) (tgt := 98) (a := x11) (b := (-1)) (st' := []) rfl (e := (.if_icmp .eq 12, 3, [98], .null)) rfl rfl (fun _ _ => rfl) rfl) with ⟨c15, E⟩ | ⟨c15, E⟩
          · skip
            have E := E.ld (p := 99) (t := ri_isA) (i := 0) (n := 1) (v := .ref 4) rfl (e := (.aload_n 0, 1, [], .null)) rfl rfl (fun _ _ => rfl) rfl rfl
            have E := E.gr (n := 5) (p := 102) rfl (x := 12) (m := 3) (w := .null) (t := 5) (i := 1) (u := 323) rfl rfl hV13 ivk8.1 rfl
            have E := E.ld (p := 103) (t := ri_isI) (i := 1) (n := 1) (v := .int so) rfl (e := (.iload_n 1, 1, [], .null)) rfl rfl (fun _ _ => rfl) rfl rfl
            have E := E.ld (p := 104) (t := ri_isA) (i := 0) (n := 1) (v := .ref 4) rfl (e := (.aload_n 0, 1, [], .null)) rfl rfl (fun _ _ => rfl) rfl rfl
            have E := E.gr (n := 2) (p := 107) rfl (x := 22) (m := 3) (w := .null) (t := 5) (i := 0) (u := 322) rfl rfl hV13 ivk8.1 rfl
            have E := E.gl (y := eh_l (eh_V h7) 2 8) (p := 110) rfl (x := 84) (m := 3) (w := .null) (t := 8) (i := 8) (u := 203) rfl rfl hV13 ivk8.1 rfl rfl
            obtain ⟨v1, h16, X, E⟩ := E.cv (p := 113) (as := [.int so, .long (eh_l (eh_V h7) 2 8)]) (b := 5) (r := []) rfl (x := 92) (m := 3) (w := .null) (j := 30) (n := 2) (t := 4) (u := [687, 689, 688]) rfl rfl rfl
            rcases sp_30 (d := d + 4) X hV13 ivk8.1 with ⟨c17, rfl, hV18, hN19⟩ | ⟨c20, c21, rfl, hV22, hN23⟩ | ⟨c24, c25, rfl, hV26, hN27⟩
            · skip
              have c17 : ¬ ((eh_i (eh_V h7) 5 12).toInt < 24) := c17
              have E : eh_e _ _ 113 (ri_as 0 [.ref 4, .int so]) [.int (-1)] _ rs h' := E
              have E := E.so (p := 114) (t := ri_isI) (i := 2) (n := 1) rfl (e := (.istore_n 2, 1, [], .null)) rfl rfl (fun _ _ => rfl) rfl
              have k28_2 : ri_lk (ri_st1 (ri_as 0 [.ref 4, .int so]) 2 (.int (-1))) 2 = some (.int (-1)) := eh_self
              have k28_0 : ri_lk (ri_st1 (ri_as 0 [.ref 4, .int so]) 2 (.int (-1))) 0 = some (.ref 4) := eh_keep (by decide) (Or.inl rfl) rfl
              have k28_1 : ri_lk (ri_st1 (ri_as 0 [.ref 4, .int so]) 2 (.int (-1))) 1 = some (.int so) := eh_keep (by decide) (Or.inl rfl) rfl
              have E := E.ld (p := 115) (t := ri_isI) (i := 2) (n := 1) (v := .int (-1)) rfl (e := (.iload_n 2, 1, [], .null)) rfl rfl (fun _ _ => rfl) k28_2 rfl
              have E := E.pu (p := 116) (lo' := (ri_st1 (ri_as 0 [.ref 4, .int so]) 2 (.int (-1)))) (st' := [.int (-1), .int (-1)]) rfl (e := (.iconst (-1), 1, [], .null)) rfl rfl (fun _ _ => rfl)
              have E := E.brf (p := 119) (c := 1) (tgt := 128) (a := (-1)) (b := (-1)) (st' := []) rfl (e := (.if_icmp .ne 12, 3, [128], .null)) rfl rfl (fun _ _ => rfl) (by decide) rfl
              have E := E.ld (p := 120) (t := ri_isA) (i := 0) (n := 1) (v := .ref 4) rfl (e := (.aload_n 0, 1, [], .null)) rfl rfl (fun _ _ => rfl) k28_0 rfl
              have E := E.gr (n := 2) (p := 123) rfl (x := 22) (m := 3) (w := .null) (t := 5) (i := 0) (u := 322) rfl rfl hV18 ivk8.1 rfl
              have E := E.pu (p := 124) (lo' := (ri_st1 (ri_as 0 [.ref 4, .int so]) 2 (.int (-1)))) (st' := [.int 4, .ref 2]) rfl (e := (.iconst 4, 1, [], .null)) rfl rfl (fun _ _ => rfl)
              obtain ⟨v1, h29, X, E⟩ := E.cv (p := 127) (as := [.int 4]) (b := 2) (r := []) rfl (x := 47) (m := 3) (w := .null) (j := 78) (n := 1) (t := 8) (u := [676, 678, 677]) rfl rfl rfl
              rcases sp_78 (d := d + 4) X hV18 ivk8.1 with ⟨rfl, hV30, hN31⟩
              have hV30 : _ = eh_u (eh_u (eh_V h7) 2 9 (.int 4)) 2 10 (.int (eh_i (eh_V h7) 2 6)) := hV30
              have E : eh_e _ _ 127 (ri_st1 (ri_as 0 [.ref 4, .int so]) 2 (.int (-1))) [.int 0] _ rs h' := E
              obtain ⟨r1, r2⟩ := E.reti rfl (m := 1) (ax := []) (w := .null) rfl
              exact Or.inr (Or.inl ⟨h7, x11, c1, c5, c6, Xk8, ivk8, c9, c12, c15, c17, (by rw [← hrs, r1]; rfl), ((congrArg eh_V r2).trans hV30), ((congrArg eh_N r2).trans (hN31.trans (hN19.trans (hN14.trans hNk8)))), (iC_u (iC_u ivk8 (ivk8.1.ui rfl) rfl) ((ivk8.1.ui rfl).ui rfl) rfl)⟩)
            · skip
              have c20 : (eh_i (eh_V h7) 5 12).toInt < 24 := c20
              have c21 : (eh_i (eh_V h7) 7 (so).toNatClampNeg).toInt < (eh_x 2 (so).toNatClampNeg).toInt := c21
              have hV22 : _ = eh_u (eh_u (eh_u (eh_u (eh_u (eh_V h7) 14 (eh_i (eh_V h7) 5 12).toNatClampNeg (.long (eh_l (eh_V h7) 2 8))) 15 (eh_i (eh_V h7) 5 12).toNatClampNeg (.int so)) 16 (eh_i (eh_V h7) 5 12).toNatClampNeg (.int (eh_i (eh_V h7) 7 (so).toNatClampNeg))) 5 12 (.int ((eh_i (eh_V h7) 5 12) + 1))) 7 (so).toNatClampNeg (.int ((eh_i (eh_V h7) 7 (so).toNatClampNeg) + 1)) := hV22
              have E : eh_e _ _ 113 (ri_as 0 [.ref 4, .int so]) [.int (((eh_i (eh_V h7) 7 (so).toNatClampNeg) + 1) - 1)] _ rs h' := E
              have E := E.so (p := 114) (t := ri_isI) (i := 2) (n := 1) rfl (e := (.istore_n 2, 1, [], .null)) rfl rfl (fun _ _ => rfl) rfl
              have k32_2 : ri_lk (ri_st1 (ri_as 0 [.ref 4, .int so]) 2 (.int (((eh_i (eh_V h7) 7 (so).toNatClampNeg) + 1) - 1))) 2 = some (.int (((eh_i (eh_V h7) 7 (so).toNatClampNeg) + 1) - 1)) := eh_self
              have k32_0 : ri_lk (ri_st1 (ri_as 0 [.ref 4, .int so]) 2 (.int (((eh_i (eh_V h7) 7 (so).toNatClampNeg) + 1) - 1))) 0 = some (.ref 4) := eh_keep (by decide) (Or.inl rfl) rfl
              have k32_1 : ri_lk (ri_st1 (ri_as 0 [.ref 4, .int so]) 2 (.int (((eh_i (eh_V h7) 7 (so).toNatClampNeg) + 1) - 1))) 1 = some (.int so) := eh_keep (by decide) (Or.inl rfl) rfl
              have E := E.ld (p := 115) (t := ri_isI) (i := 2) (n := 1) (v := .int (((eh_i (eh_V h7) 7 (so).toNatClampNeg) + 1) - 1)) rfl (e := (.iload_n 2, 1, [], .null)) rfl rfl (fun _ _ => rfl) k32_2 rfl
              have E := E.pu (p := 116) (lo' := (ri_st1 (ri_as 0 [.ref 4, .int so]) 2 (.int (((eh_i (eh_V h7) 7 (so).toNatClampNeg) + 1) - 1)))) (st' := [.int (-1), .int (((eh_i (eh_V h7) 7 (so).toNatClampNeg) + 1) - 1)]) rfl (e := (.iconst (-1), 1, [], .null)) rfl rfl (fun _ _ => rfl)
              rcases eh_q1 (E.br (p := 119) (c := 1) (tgt := 128) (a := ((eh_i (eh_V h7) 7 (so).toNatClampNeg) + 1) - 1) (b := (-1)) (st' := []) rfl (e := (.if_icmp .ne 12, 3, [128], .null)) rfl rfl (fun _ _ => rfl) rfl) with ⟨c33, E⟩ | ⟨c33, E⟩
              · skip
                have E := E.ld (p := 129) (t := ri_isA) (i := 0) (n := 1) (v := .ref 4) rfl (e := (.aload_n 0, 1, [], .null)) rfl rfl (fun _ _ => rfl) k32_0 rfl
                have E := E.gr (n := 2) (p := 132) rfl (x := 22) (m := 3) (w := .null) (t := 5) (i := 0) (u := 322) rfl rfl hV22 (((((ivk8.1.ul rfl).ui rfl).ui rfl).ui rfl).ui rfl) rfl
                obtain ⟨v1, h34, X, E⟩ := E.cv (p := 135) (as := []) (b := 2) (r := []) rfl (x := 54) (m := 3) (w := .null) (j := 74) (n := 0) (t := 8) (u := [682, 648, 647]) rfl rfl rfl
                obtain ⟨rfl, ivk35, hNk35⟩ := tp_74 (d := d + 3) X (by rw [hV22]; exact (iC_u (iC_u (iC_u (iC_u (iC_u ivk8 (ivk8.1.ul rfl) rfl) ((ivk8.1.ul rfl).ui rfl) rfl) (((ivk8.1.ul rfl).ui rfl).ui rfl) rfl) ((((ivk8.1.ul rfl).ui rfl).ui rfl).ui rfl) rfl) (((((ivk8.1.ul rfl).ui rfl).ui rfl).ui rfl).ui rfl) rfl))
                have Xk35 := X
                have E : eh_e _ _ 135 (ri_st1 (ri_as 0 [.ref 4, .int so]) 2 (.int (((eh_i (eh_V h7) 7 (so).toNatClampNeg) + 1) - 1))) [] h34 rs h' := E
                have E := E.ld (p := 136) (t := ri_isI) (i := 1) (n := 1) (v := .int so) rfl (e := (.iload_n 1, 1, [], .null)) rfl rfl (fun _ _ => rfl) k32_1 rfl
                have E := E.pu (p := 137) (lo' := (ri_st1 (ri_as 0 [.ref 4, .int so]) 2 (.int (((eh_i (eh_V h7) 7 (so).toNatClampNeg) + 1) - 1)))) (st' := [.int 1, .int so]) rfl (e := (.iconst 1, 1, [], .null)) rfl rfl (fun _ _ => rfl)
                rcases eh_q1 (E.br (p := 140) (c := 1) (tgt := 146) (a := so) (b := 1) (st' := []) rfl (e := (.if_icmp .ne 9, 3, [146], .null)) rfl rfl (fun _ _ => rfl) rfl) with ⟨c36, E⟩ | ⟨c36, E⟩
                · skip
                  have E := E.ld (p := 147) (t := ri_isI) (i := 1) (n := 1) (v := .int so) rfl (e := (.iload_n 1, 1, [], .null)) rfl rfl (fun _ _ => rfl) k32_1 rfl
                  have E := E.pu (p := 148) (lo' := (ri_st1 (ri_as 0 [.ref 4, .int so]) 2 (.int (((eh_i (eh_V h7) 7 (so).toNatClampNeg) + 1) - 1)))) (st' := [.int 3, .int so]) rfl (e := (.iconst 3, 1, [], .null)) rfl rfl (fun _ _ => rfl)
                  rcases eh_q1 (E.br (p := 151) (c := 1) (tgt := 159) (a := so) (b := 3) (st' := []) rfl (e := (.if_icmp .ne 11, 3, [159], .null)) rfl rfl (fun _ _ => rfl) rfl) with ⟨c37, E⟩ | ⟨c37, E⟩
                  · skip
                    have E := E.pu (p := 160) (lo' := (ri_st1 (ri_as 0 [.ref 4, .int so]) 2 (.int (((eh_i (eh_V h7) 7 (so).toNatClampNeg) + 1) - 1)))) (st' := [.int 1]) rfl (e := (.iconst 1, 1, [], .null)) rfl rfl (fun _ _ => rfl)
                    have E := E.pu (p := 164) (lo' := (ri_st1 (ri_as 0 [.ref 4, .int so]) 2 (.int (((eh_i (eh_V h7) 7 (so).toNatClampNeg) + 1) - 1)))) (st' := [.int 1]) rfl (e := (.goto 4, 3, [164], .null)) rfl rfl (fun _ _ => rfl)
                    obtain ⟨r1, r2⟩ := E.reti rfl (m := 1) (ax := []) (w := .null) rfl
                    exact Or.inr (Or.inr (Or.inl ⟨h7, x11, h16, h34, c1, c5, c6, Xk8, ivk8, c9, c12, c15, c20, c21, c33, hV22, Xk35, ivk35, c36, c37, (by rw [← hrs, r1]; rfl), ((congrArg eh_V r2).trans (rfl : eh_V h34 = eh_V h34)), ((congrArg eh_N r2).trans (hNk35.trans (hN23.trans (hN14.trans hNk8)))), ivk35⟩))
                  · skip
                    have E := E.ld (p := 152) (t := ri_isA) (i := 0) (n := 1) (v := .ref 4) rfl (e := (.aload_n 0, 1, [], .null)) rfl rfl (fun _ _ => rfl) k32_0 rfl
                    have E := E.ld (p := 153) (t := ri_isI) (i := 2) (n := 1) (v := .int (((eh_i (eh_V h7) 7 (so).toNatClampNeg) + 1) - 1)) rfl (e := (.iload_n 2, 1, [], .null)) rfl rfl (fun _ _ => rfl) k32_2 rfl
                    obtain ⟨v1, h38, X, E⟩ := E.cv (p := 156) (as := [.int (((eh_i (eh_V h7) 7 (so).toNatClampNeg) + 1) - 1)]) (b := 4) (r := []) rfl (x := 99) (m := 3) (w := .null) (j := 49) (n := 1) (t := 5) (u := [718, 7, 720]) rfl rfl rfl
                    obtain ⟨x40, rfl, ivk39, hNk39⟩ := tp_49 (d := d + 1) X (by rw [(rfl : eh_V h34 = eh_V h34)]; exact ivk35)
                    have Xk39 := X
                    have E : eh_e _ _ 156 (ri_st1 (ri_as 0 [.ref 4, .int so]) 2 (.int (((eh_i (eh_V h7) 7 (so).toNatClampNeg) + 1) - 1))) [.int x40] h38 rs h' := E
                    rcases eh_q0 (E.br (p := 159) (c := 0) (tgt := 163) (a := x40) (b := 0) (st' := []) rfl (e := (.ifCond .eq 7, 3, [163], .null)) rfl rfl (fun _ _ => rfl) rfl) with ⟨c41, E⟩ | ⟨c41, E⟩
                    · skip
                      have E := E.pu (p := 164) (lo' := (ri_st1 (ri_as 0 [.ref 4, .int so]) 2 (.int (((eh_i (eh_V h7) 7 (so).toNatClampNeg) + 1) - 1)))) (st' := [.int 0]) rfl (e := (.iconst 0, 1, [], .null)) rfl rfl (fun _ _ => rfl)
                      obtain ⟨r1, r2⟩ := E.reti rfl (m := 1) (ax := []) (w := .null) rfl
                      exact Or.inr (Or.inr (Or.inr (Or.inl ⟨h7, x11, h16, h34, x40, h38, c1, c5, c6, Xk8, ivk8, c9, c12, c15, c20, c21, c33, hV22, Xk35, ivk35, c36, c37, Xk39, ivk39, c41, (by rw [← hrs, r1]; rfl), ((congrArg eh_V r2).trans (rfl : eh_V h38 = eh_V h38)), ((congrArg eh_N r2).trans (hNk39.trans (hNk35.trans (hN23.trans (hN14.trans hNk8))))), ivk39⟩)))
                    · skip
                      have E := E.pu (p := 160) (lo' := (ri_st1 (ri_as 0 [.ref 4, .int so]) 2 (.int (((eh_i (eh_V h7) 7 (so).toNatClampNeg) + 1) - 1)))) (st' := [.int 1]) rfl (e := (.iconst 1, 1, [], .null)) rfl rfl (fun _ _ => rfl)
                      have E := E.pu (p := 164) (lo' := (ri_st1 (ri_as 0 [.ref 4, .int so]) 2 (.int (((eh_i (eh_V h7) 7 (so).toNatClampNeg) + 1) - 1)))) (st' := [.int 1]) rfl (e := (.goto 4, 3, [164], .null)) rfl rfl (fun _ _ => rfl)
                      obtain ⟨r1, r2⟩ := E.reti rfl (m := 1) (ax := []) (w := .null) rfl
                      exact Or.inr (Or.inr (Or.inr (Or.inr (Or.inl ⟨h7, x11, h16, h34, x40, h38, c1, c5, c6, Xk8, ivk8, c9, c12, c15, c20, c21, c33, hV22, Xk35, ivk35, c36, c37, Xk39, ivk39, c41, (by rw [← hrs, r1]; rfl), ((congrArg eh_V r2).trans (rfl : eh_V h38 = eh_V h38)), ((congrArg eh_N r2).trans (hNk39.trans (hNk35.trans (hN23.trans (hN14.trans hNk8))))), ivk39⟩))))
                · skip
                  have E := E.ld (p := 141) (t := ri_isA) (i := 0) (n := 1) (v := .ref 4) rfl (e := (.aload_n 0, 1, [], .null)) rfl rfl (fun _ _ => rfl) k32_0 rfl
                  have E := E.ld (p := 142) (t := ri_isI) (i := 2) (n := 1) (v := .int (((eh_i (eh_V h7) 7 (so).toNatClampNeg) + 1) - 1)) rfl (e := (.iload_n 2, 1, [], .null)) rfl rfl (fun _ _ => rfl) k32_2 rfl
                  obtain ⟨v1, h42, X, E⟩ := E.cv (p := 145) (as := [.int (((eh_i (eh_V h7) 7 (so).toNatClampNeg) + 1) - 1)]) (b := 4) (r := []) rfl (x := 96) (m := 3) (w := .null) (j := 47) (n := 1) (t := 5) (u := [692, 5, 694]) rfl rfl rfl
                  obtain ⟨x44, rfl, ivk43, hNk43⟩ := tp_47 (d := d) X (by rw [(rfl : eh_V h34 = eh_V h34)]; exact ivk35)
                  have Xk43 := X
                  have E : eh_e _ _ 145 (ri_st1 (ri_as 0 [.ref 4, .int so]) 2 (.int (((eh_i (eh_V h7) 7 (so).toNatClampNeg) + 1) - 1))) [.int x44] h42 rs h' := E
                  obtain ⟨r1, r2⟩ := E.reti rfl (m := 1) (ax := []) (w := .null) rfl
                  exact Or.inr (Or.inr (Or.inr (Or.inr (Or.inr (Or.inl ⟨h7, x11, h16, h34, x44, h42, c1, c5, c6, Xk8, ivk8, c9, c12, c15, c20, c21, c33, hV22, Xk35, ivk35, c36, Xk43, ivk43, (by rw [← hrs, r1]; rfl), ((congrArg eh_V r2).trans (rfl : eh_V h42 = eh_V h42)), ((congrArg eh_N r2).trans (hNk43.trans (hNk35.trans (hN23.trans (hN14.trans hNk8))))), ivk43⟩)))))
              · skip
                have E := E.ld (p := 120) (t := ri_isA) (i := 0) (n := 1) (v := .ref 4) rfl (e := (.aload_n 0, 1, [], .null)) rfl rfl (fun _ _ => rfl) k32_0 rfl
                have E := E.gr (n := 2) (p := 123) rfl (x := 22) (m := 3) (w := .null) (t := 5) (i := 0) (u := 322) rfl rfl hV22 (((((ivk8.1.ul rfl).ui rfl).ui rfl).ui rfl).ui rfl) rfl
                have E := E.pu (p := 124) (lo' := (ri_st1 (ri_as 0 [.ref 4, .int so]) 2 (.int (((eh_i (eh_V h7) 7 (so).toNatClampNeg) + 1) - 1)))) (st' := [.int 4, .ref 2]) rfl (e := (.iconst 4, 1, [], .null)) rfl rfl (fun _ _ => rfl)
                obtain ⟨v1, h45, X, E⟩ := E.cv (p := 127) (as := [.int 4]) (b := 2) (r := []) rfl (x := 47) (m := 3) (w := .null) (j := 78) (n := 1) (t := 8) (u := [676, 678, 677]) rfl rfl rfl
                rcases sp_78 (d := d + 4) X hV22 (((((ivk8.1.ul rfl).ui rfl).ui rfl).ui rfl).ui rfl) with ⟨rfl, hV46, hN47⟩
                have hV46 : _ = eh_u (eh_u (eh_u (eh_u (eh_u (eh_u (eh_u (eh_V h7) 14 (eh_i (eh_V h7) 5 12).toNatClampNeg (.long (eh_l (eh_V h7) 2 8))) 15 (eh_i (eh_V h7) 5 12).toNatClampNeg (.int so)) 16 (eh_i (eh_V h7) 5 12).toNatClampNeg (.int (eh_i (eh_V h7) 7 (so).toNatClampNeg))) 5 12 (.int ((eh_i (eh_V h7) 5 12) + 1))) 7 (so).toNatClampNeg (.int ((eh_i (eh_V h7) 7 (so).toNatClampNeg) + 1))) 2 9 (.int 4)) 2 10 (.int (eh_i (eh_V h7) 2 6)) := hV46
                have E : eh_e _ _ 127 (ri_st1 (ri_as 0 [.ref 4, .int so]) 2 (.int (((eh_i (eh_V h7) 7 (so).toNatClampNeg) + 1) - 1))) [.int 0] _ rs h' := E
                obtain ⟨r1, r2⟩ := E.reti rfl (m := 1) (ax := []) (w := .null) rfl
                exact Or.inr (Or.inr (Or.inr (Or.inr (Or.inr (Or.inr (Or.inl ⟨h7, x11, c1, c5, c6, Xk8, ivk8, c9, c12, c15, c20, c21, c33, (by rw [← hrs, r1]; rfl), ((congrArg eh_V r2).trans hV46), ((congrArg eh_N r2).trans (hN47.trans (hN23.trans (hN14.trans hNk8)))), (iC_u (iC_u (iC_u (iC_u (iC_u (iC_u (iC_u ivk8 (ivk8.1.ul rfl) rfl) ((ivk8.1.ul rfl).ui rfl) rfl) (((ivk8.1.ul rfl).ui rfl).ui rfl) rfl) ((((ivk8.1.ul rfl).ui rfl).ui rfl).ui rfl) rfl) (((((ivk8.1.ul rfl).ui rfl).ui rfl).ui rfl).ui rfl) rfl) ((((((ivk8.1.ul rfl).ui rfl).ui rfl).ui rfl).ui rfl).ui rfl) rfl) (((((((ivk8.1.ul rfl).ui rfl).ui rfl).ui rfl).ui rfl).ui rfl).ui rfl) rfl)⟩))))))
            · skip
              have c24 : (eh_i (eh_V h7) 5 12).toInt < 24 := c24
              have c25 : ¬ ((eh_i (eh_V h7) 7 (so).toNatClampNeg).toInt < (eh_x 2 (so).toNatClampNeg).toInt) := c25
              have E : eh_e _ _ 113 (ri_as 0 [.ref 4, .int so]) [.int (-1)] _ rs h' := E
              have E := E.so (p := 114) (t := ri_isI) (i := 2) (n := 1) rfl (e := (.istore_n 2, 1, [], .null)) rfl rfl (fun _ _ => rfl) rfl
              have k48_2 : ri_lk (ri_st1 (ri_as 0 [.ref 4, .int so]) 2 (.int (-1))) 2 = some (.int (-1)) := eh_self
              have k48_0 : ri_lk (ri_st1 (ri_as 0 [.ref 4, .int so]) 2 (.int (-1))) 0 = some (.ref 4) := eh_keep (by decide) (Or.inl rfl) rfl
              have k48_1 : ri_lk (ri_st1 (ri_as 0 [.ref 4, .int so]) 2 (.int (-1))) 1 = some (.int so) := eh_keep (by decide) (Or.inl rfl) rfl
              have E := E.ld (p := 115) (t := ri_isI) (i := 2) (n := 1) (v := .int (-1)) rfl (e := (.iload_n 2, 1, [], .null)) rfl rfl (fun _ _ => rfl) k48_2 rfl
              have E := E.pu (p := 116) (lo' := (ri_st1 (ri_as 0 [.ref 4, .int so]) 2 (.int (-1)))) (st' := [.int (-1), .int (-1)]) rfl (e := (.iconst (-1), 1, [], .null)) rfl rfl (fun _ _ => rfl)
              have E := E.brf (p := 119) (c := 1) (tgt := 128) (a := (-1)) (b := (-1)) (st' := []) rfl (e := (.if_icmp .ne 12, 3, [128], .null)) rfl rfl (fun _ _ => rfl) (by decide) rfl
              have E := E.ld (p := 120) (t := ri_isA) (i := 0) (n := 1) (v := .ref 4) rfl (e := (.aload_n 0, 1, [], .null)) rfl rfl (fun _ _ => rfl) k48_0 rfl
              have E := E.gr (n := 2) (p := 123) rfl (x := 22) (m := 3) (w := .null) (t := 5) (i := 0) (u := 322) rfl rfl hV26 ivk8.1 rfl
              have E := E.pu (p := 124) (lo' := (ri_st1 (ri_as 0 [.ref 4, .int so]) 2 (.int (-1)))) (st' := [.int 4, .ref 2]) rfl (e := (.iconst 4, 1, [], .null)) rfl rfl (fun _ _ => rfl)
              obtain ⟨v1, h49, X, E⟩ := E.cv (p := 127) (as := [.int 4]) (b := 2) (r := []) rfl (x := 47) (m := 3) (w := .null) (j := 78) (n := 1) (t := 8) (u := [676, 678, 677]) rfl rfl rfl
              rcases sp_78 (d := d + 4) X hV26 ivk8.1 with ⟨rfl, hV50, hN51⟩
              have hV50 : _ = eh_u (eh_u (eh_V h7) 2 9 (.int 4)) 2 10 (.int (eh_i (eh_V h7) 2 6)) := hV50
              have E : eh_e _ _ 127 (ri_st1 (ri_as 0 [.ref 4, .int so]) 2 (.int (-1))) [.int 0] _ rs h' := E
              obtain ⟨r1, r2⟩ := E.reti rfl (m := 1) (ax := []) (w := .null) rfl
              exact Or.inr (Or.inr (Or.inr (Or.inr (Or.inr (Or.inr (Or.inr (Or.inl ⟨h7, x11, c1, c5, c6, Xk8, ivk8, c9, c12, c15, c24, c25, (by rw [← hrs, r1]; rfl), ((congrArg eh_V r2).trans hV50), ((congrArg eh_N r2).trans (hN51.trans (hN27.trans (hN14.trans hNk8)))), (iC_u (iC_u ivk8 (ivk8.1.ui rfl) rfl) ((ivk8.1.ui rfl).ui rfl) rfl)⟩)))))))
          · skip
            have E := E.ld (p := 90) (t := ri_isA) (i := 0) (n := 1) (v := .ref 4) rfl (e := (.aload_n 0, 1, [], .null)) rfl rfl (fun _ _ => rfl) rfl rfl
            have E := E.gr (n := 2) (p := 93) rfl (x := 22) (m := 3) (w := .null) (t := 5) (i := 0) (u := 322) rfl rfl hV13 ivk8.1 rfl
            have E := E.pu (p := 94) (lo' := (ri_as 0 [.ref 4, .int so])) (st' := [.int 3, .ref 2]) rfl (e := (.iconst 3, 1, [], .null)) rfl rfl (fun _ _ => rfl)
            obtain ⟨v1, h52, X, E⟩ := E.cv (p := 97) (as := [.int 3]) (b := 2) (r := []) rfl (x := 47) (m := 3) (w := .null) (j := 78) (n := 1) (t := 8) (u := [676, 678, 677]) rfl rfl rfl
            rcases sp_78 (d := d + 4) X hV13 ivk8.1 with ⟨rfl, hV53, hN54⟩
            have hV53 : _ = eh_u (eh_u (eh_V h7) 2 9 (.int 3)) 2 10 (.int (eh_i (eh_V h7) 2 6)) := hV53
            have E : eh_e _ _ 97 (ri_as 0 [.ref 4, .int so]) [.int 0] _ rs h' := E
            obtain ⟨r1, r2⟩ := E.reti rfl (m := 1) (ax := []) (w := .null) rfl
            exact Or.inr (Or.inr (Or.inr (Or.inr (Or.inr (Or.inr (Or.inr (Or.inr (Or.inl ⟨h7, x11, c1, c5, c6, Xk8, ivk8, c9, c12, c15, (by rw [← hrs, r1]; rfl), ((congrArg eh_V r2).trans hV53), ((congrArg eh_N r2).trans (hN54.trans (hN14.trans hNk8))), (iC_u (iC_u ivk8 (ivk8.1.ui rfl) rfl) ((ivk8.1.ui rfl).ui rfl) rfl)⟩))))))))
        · skip
          have E := E.ld (p := 63) (t := ri_isA) (i := 0) (n := 1) (v := .ref 4) rfl (e := (.aload_n 0, 1, [], .null)) rfl rfl (fun _ _ => rfl) rfl rfl
          have E := E.gr (n := 2) (p := 66) rfl (x := 22) (m := 3) (w := .null) (t := 5) (i := 0) (u := 322) rfl rfl (rfl : eh_V h7 = eh_V h7) ivk8.1 rfl
          have E := E.pu (p := 67) (lo' := (ri_as 0 [.ref 4, .int so])) (st' := [.int 1, .ref 2]) rfl (e := (.iconst 1, 1, [], .null)) rfl rfl (fun _ _ => rfl)
          obtain ⟨v1, h55, X, E⟩ := E.cv (p := 70) (as := [.int 1]) (b := 2) (r := []) rfl (x := 47) (m := 3) (w := .null) (j := 78) (n := 1) (t := 8) (u := [676, 678, 677]) rfl rfl rfl
          rcases sp_78 (d := d + 4) X (rfl : eh_V h7 = eh_V h7) ivk8.1 with ⟨rfl, hV56, hN57⟩
          have hV56 : _ = eh_u (eh_u (eh_V h7) 2 9 (.int 1)) 2 10 (.int (eh_i (eh_V h7) 2 6)) := hV56
          have E : eh_e _ _ 70 (ri_as 0 [.ref 4, .int so]) [.int 0] _ rs h' := E
          obtain ⟨r1, r2⟩ := E.reti rfl (m := 1) (ax := []) (w := .null) rfl
          exact Or.inr (Or.inr (Or.inr (Or.inr (Or.inr (Or.inr (Or.inr (Or.inr (Or.inr (Or.inl ⟨h7, c1, c5, c6, Xk8, ivk8, c9, (by rw [← hrs, r1]; rfl), ((congrArg eh_V r2).trans hV56), ((congrArg eh_N r2).trans (hN57.trans hNk8)), (iC_u (iC_u ivk8 (ivk8.1.ui rfl) rfl) ((ivk8.1.ui rfl).ui rfl) rfl)⟩)))))))))
      · skip
        have E := E.ld (p := 36) (t := ri_isA) (i := 0) (n := 1) (v := .ref 4) rfl (e := (.aload_n 0, 1, [], .null)) rfl rfl (fun _ _ => rfl) rfl rfl
        have E := E.gr (n := 2) (p := 39) rfl (x := 22) (m := 3) (w := .null) (t := 5) (i := 0) (u := 322) rfl rfl hV (iv.1) rfl
        have E := E.pu (p := 40) (lo' := (ri_as 0 [.ref 4, .int so])) (st' := [.int 4, .ref 2]) rfl (e := (.iconst 4, 1, [], .null)) rfl rfl (fun _ _ => rfl)
        obtain ⟨v1, h58, X, E⟩ := E.cv (p := 43) (as := [.int 4]) (b := 2) (r := []) rfl (x := 47) (m := 3) (w := .null) (j := 78) (n := 1) (t := 8) (u := [676, 678, 677]) rfl rfl rfl
        rcases sp_78 (d := d + 4) X hV (iv.1) with ⟨rfl, hV59, hN60⟩
        have hV59 : _ = eh_u (eh_u G 2 9 (.int 4)) 2 10 (.int (eh_i G 2 6)) := hV59
        have E : eh_e _ _ 43 (ri_as 0 [.ref 4, .int so]) [.int 0] _ rs h' := E
        obtain ⟨r1, r2⟩ := E.reti rfl (m := 1) (ax := []) (w := .null) rfl
        exact Or.inr (Or.inr (Or.inr (Or.inr (Or.inr (Or.inr (Or.inr (Or.inr (Or.inr (Or.inr (Or.inl ⟨c1, c5, c6, (by rw [← hrs, r1]; rfl), ((congrArg eh_V r2).trans hV59), ((congrArg eh_N r2).trans hN60), (iC_u (iC_u iv ((iv.1).ui rfl) rfl) (((iv.1).ui rfl).ui rfl) rfl)⟩))))))))))
    · skip
      have E := E.ld (p := 10) (t := ri_isA) (i := 0) (n := 1) (v := .ref 4) rfl (e := (.aload_n 0, 1, [], .null)) rfl rfl (fun _ _ => rfl) rfl rfl
      have E := E.gr (n := 2) (p := 13) rfl (x := 22) (m := 3) (w := .null) (t := 5) (i := 0) (u := 322) rfl rfl hV (iv.1) rfl
      have E := E.pu (p := 14) (lo' := (ri_as 0 [.ref 4, .int so])) (st' := [.int 1, .ref 2]) rfl (e := (.iconst 1, 1, [], .null)) rfl rfl (fun _ _ => rfl)
      obtain ⟨v1, h61, X, E⟩ := E.cv (p := 17) (as := [.int 1]) (b := 2) (r := []) rfl (x := 47) (m := 3) (w := .null) (j := 78) (n := 1) (t := 8) (u := [676, 678, 677]) rfl rfl rfl
      rcases sp_78 (d := d + 4) X hV (iv.1) with ⟨rfl, hV62, hN63⟩
      have hV62 : _ = eh_u (eh_u G 2 9 (.int 1)) 2 10 (.int (eh_i G 2 6)) := hV62
      have E : eh_e _ _ 17 (ri_as 0 [.ref 4, .int so]) [.int 0] _ rs h' := E
      obtain ⟨r1, r2⟩ := E.reti rfl (m := 1) (ax := []) (w := .null) rfl
      exact Or.inr (Or.inr (Or.inr (Or.inr (Or.inr (Or.inr (Or.inr (Or.inr (Or.inr (Or.inr (Or.inr (⟨c1, c5, (by rw [← hrs, r1]; rfl), ((congrArg eh_V r2).trans hV62), ((congrArg eh_N r2).trans hN63), (iC_u (iC_u iv ((iv.1).ui rfl) rfl) (((iv.1).ui rfl).ui rfl) rfl)⟩)))))))))))
theorem tp_46 {d : Nat} {h h' : ri_H} {v : Option Value} {b : Nat → Int32} {n m : Nat} {so : Int32} (E : ri_calE ri_md (d + 6) 46 [.ref 4, .int so] h = some (v, h')) (iv : iC b n m (eh_V h)) : ∃ x : Int32, v = some (.int x) ∧ iC b n m (eh_V h') ∧ eh_N h' = eh_N h := by
  rcases sp_46 E rfl iv with ⟨_, r1, r2, r3, r4⟩ | ⟨_, _, _, _, _, _, _, _, _, _, _, r1, r2, r3, r4⟩ | ⟨_, _, _, _, _, _, _, _, _, _, _, _, _, _, _, _, _, _, _, _, r1, r2, r3, r4⟩ | ⟨_, _, _, _, _, _, _, _, _, _, _, _, _, _, _, _, _, _, _, _, _, _, _, _, _, r1, r2, r3, r4⟩ | ⟨_, _, _, _, _, _, _, _, _, _, _, _, _, _, _, _, _, _, _, _, _, _, _, _, _, r1, r2, r3, r4⟩ | ⟨_, _, _, _, _, _, _, _, _, _, _, _, _, _, _, _, _, _, _, _, _, _, _, r1, r2, r3, r4⟩ | ⟨_, _, _, _, _, _, _, _, _, _, _, _, _, r1, r2, r3, r4⟩ | ⟨_, _, _, _, _, _, _, _, _, _, _, _, r1, r2, r3, r4⟩ | ⟨_, _, _, _, _, _, _, _, _, _, r1, r2, r3, r4⟩ | ⟨_, _, _, _, _, _, _, r1, r2, r3, r4⟩ | ⟨_, _, _, r1, r2, r3, r4⟩ | ⟨_, _, r1, r2, r3, r4⟩
  · exact ⟨_, r1, by rw [r2]; exact r4, r3⟩
  · exact ⟨_, r1, by rw [r2]; exact r4, r3⟩
  · exact ⟨_, r1, by rw [r2]; exact r4, r3⟩
  · exact ⟨_, r1, by rw [r2]; exact r4, r3⟩
  · exact ⟨_, r1, by rw [r2]; exact r4, r3⟩
  · exact ⟨_, r1, by rw [r2]; exact r4, r3⟩
  · exact ⟨_, r1, by rw [r2]; exact r4, r3⟩
  · exact ⟨_, r1, by rw [r2]; exact r4, r3⟩
  · exact ⟨_, r1, by rw [r2]; exact r4, r3⟩
  · exact ⟨_, r1, by rw [r2]; exact r4, r3⟩
  · exact ⟨_, r1, by rw [r2]; exact r4, r3⟩
  · exact ⟨_, r1, by rw [r2]; exact r4, r3⟩
theorem ll_i {d : Nat} {lo : List (Nat × Value)} {h h' : ri_H} {rs : List Value} {G : eh_W} {b : Nat → Int32} {n m : Nat} {i : Int32} (E : eh_e (ri_calE ri_md (d + 6)) md_43 14 lo [] h rs h') (hV : eh_V h = G) (iv : iC b n m G) (l0 : ri_lk lo 0 = some (.ref 4)) (l1 : ri_lk lo 1 = some (.int i)) : (900 < i.toInt ∧ rs = [.int (-1)] ∧ eh_V h' = G ∧ eh_N h' = eh_N h ∧ iC b n m G) ∨ (∃ (x7 : Int32), ∃ (h5 : ri_H), ¬ (900 < i.toInt) ∧ ¬ ((eh_i G 2 5) = 0) ∧ ¬ ((eh_i G 2 5) = 2) ∧ ri_calE ri_md (d + 6) 44 [.ref 4, .int (-1)] h = some (some (.int x7), h5) ∧ iC b n m (eh_V h5) ∧ x7 = 0 ∧ rs = [.int (-1)] ∧ eh_V h' = (eh_V h5) ∧ eh_N h' = eh_N h ∧ iC b n m (eh_V h5)) ∨ (∃ (x7 : Int32), ∃ (h5 : ri_H), ∃ (x12 : Int32), ∃ (h10 : ri_H), ¬ (900 < i.toInt) ∧ ¬ ((eh_i G 2 5) = 0) ∧ ¬ ((eh_i G 2 5) = 2) ∧ ri_calE ri_md (d + 6) 44 [.ref 4, .int (-1)] h = some (some (.int x7), h5) ∧ iC b n m (eh_V h5) ∧ ¬ (x7 = 0) ∧ ri_calE ri_md (d + 6) 82 [.ref 2, .int 59] h5 = some (some (.int x12), h10) ∧ iC b n m (eh_V h10) ∧ ¬ (x12 = 0) ∧ ∃ hz loz, eh_e (ri_calE ri_md (d + 6)) md_43 14 loz [] hz rs h' ∧ eh_V hz = (eh_V h10) ∧ eh_N hz = eh_N h ∧ iC b n m (eh_V h10) ∧ ri_lk loz 0 = some (.ref 4) ∧ ri_lk loz 1 = some (.int (i + 1)) ∧ ri_lk loz 2 = some (.int (-1)) ∧ ri_lk loz 3 = some (.int x7)) ∨ (∃ (x7 : Int32), ∃ (h5 : ri_H), ∃ (x12 : Int32), ∃ (h10 : ri_H), ¬ (900 < i.toInt) ∧ ¬ ((eh_i G 2 5) = 0) ∧ ¬ ((eh_i G 2 5) = 2) ∧ ri_calE ri_md (d + 6) 44 [.ref 4, .int (-1)] h = some (some (.int x7), h5) ∧ iC b n m (eh_V h5) ∧ ¬ (x7 = 0) ∧ ri_calE ri_md (d + 6) 82 [.ref 2, .int 59] h5 = some (some (.int x12), h10) ∧ iC b n m (eh_V h10) ∧ x12 = 0 ∧ rs = [.int (-1)] ∧ eh_V h' = (eh_V h10) ∧ eh_N h' = eh_N h ∧ iC b n m (eh_V h10)) ∨ (∃ (x19 : Int32), ∃ (h17 : ri_H), ¬ (900 < i.toInt) ∧ ¬ ((eh_i G 2 5) = 0) ∧ (eh_i G 2 5) = 2 ∧ (eh_i G 2 7).toInt < 5 ∧ ri_calE ri_md (d + 6) 44 [.ref 4, .int (eh_i G 2 7)] h = some (some (.int x19), h17) ∧ iC b n m (eh_V h17) ∧ x19 = 0 ∧ rs = [.int (-1)] ∧ eh_V h' = (eh_V h17) ∧ eh_N h' = eh_N h ∧ iC b n m (eh_V h17)) ∨ (∃ (x19 : Int32), ∃ (h17 : ri_H), ∃ (x24 : Int32), ∃ (h22 : ri_H), ¬ (900 < i.toInt) ∧ ¬ ((eh_i G 2 5) = 0) ∧ (eh_i G 2 5) = 2 ∧ (eh_i G 2 7).toInt < 5 ∧ ri_calE ri_md (d + 6) 44 [.ref 4, .int (eh_i G 2 7)] h = some (some (.int x19), h17) ∧ iC b n m (eh_V h17) ∧ ¬ (x19 = 0) ∧ ri_calE ri_md (d + 6) 82 [.ref 2, .int 59] h17 = some (some (.int x24), h22) ∧ iC b n m (eh_V h22) ∧ ¬ (x24 = 0) ∧ ∃ hz loz, eh_e (ri_calE ri_md (d + 6)) md_43 14 loz [] hz rs h' ∧ eh_V hz = (eh_V h22) ∧ eh_N hz = eh_N h ∧ iC b n m (eh_V h22) ∧ ri_lk loz 0 = some (.ref 4) ∧ ri_lk loz 1 = some (.int (i + 1)) ∧ ri_lk loz 2 = some (.int (eh_i G 2 7)) ∧ ri_lk loz 3 = some (.int x19)) ∨ (∃ (x19 : Int32), ∃ (h17 : ri_H), ∃ (x24 : Int32), ∃ (h22 : ri_H), ¬ (900 < i.toInt) ∧ ¬ ((eh_i G 2 5) = 0) ∧ (eh_i G 2 5) = 2 ∧ (eh_i G 2 7).toInt < 5 ∧ ri_calE ri_md (d + 6) 44 [.ref 4, .int (eh_i G 2 7)] h = some (some (.int x19), h17) ∧ iC b n m (eh_V h17) ∧ ¬ (x19 = 0) ∧ ri_calE ri_md (d + 6) 82 [.ref 2, .int 59] h17 = some (some (.int x24), h22) ∧ iC b n m (eh_V h22) ∧ x24 = 0 ∧ rs = [.int (-1)] ∧ eh_V h' = (eh_V h22) ∧ eh_N h' = eh_N h ∧ iC b n m (eh_V h22)) ∨ (∃ (x29 : Int32), ∃ (h27 : ri_H), ¬ (900 < i.toInt) ∧ ¬ ((eh_i G 2 5) = 0) ∧ (eh_i G 2 5) = 2 ∧ ¬ ((eh_i G 2 7).toInt < 5) ∧ ri_calE ri_md (d + 6) 46 [.ref 4, .int ((eh_i G 2 7) - 5)] h = some (some (.int x29), h27) ∧ iC b n m (eh_V h27) ∧ x29 = 0 ∧ rs = [.int (-1)] ∧ eh_V h' = (eh_V h27) ∧ eh_N h' = eh_N h ∧ iC b n m (eh_V h27)) ∨ (∃ (x29 : Int32), ∃ (h27 : ri_H), ∃ (x34 : Int32), ∃ (h32 : ri_H), ¬ (900 < i.toInt) ∧ ¬ ((eh_i G 2 5) = 0) ∧ (eh_i G 2 5) = 2 ∧ ¬ ((eh_i G 2 7).toInt < 5) ∧ ri_calE ri_md (d + 6) 46 [.ref 4, .int ((eh_i G 2 7) - 5)] h = some (some (.int x29), h27) ∧ iC b n m (eh_V h27) ∧ ¬ (x29 = 0) ∧ ri_calE ri_md (d + 6) 82 [.ref 2, .int 59] h27 = some (some (.int x34), h32) ∧ iC b n m (eh_V h32) ∧ ¬ (x34 = 0) ∧ ∃ hz loz, eh_e (ri_calE ri_md (d + 6)) md_43 14 loz [] hz rs h' ∧ eh_V hz = (eh_V h32) ∧ eh_N hz = eh_N h ∧ iC b n m (eh_V h32) ∧ ri_lk loz 0 = some (.ref 4) ∧ ri_lk loz 1 = some (.int (i + 1)) ∧ ri_lk loz 2 = some (.int (eh_i G 2 7)) ∧ ri_lk loz 3 = some (.int x29)) ∨ (∃ (x29 : Int32), ∃ (h27 : ri_H), ∃ (x34 : Int32), ∃ (h32 : ri_H), ¬ (900 < i.toInt) ∧ ¬ ((eh_i G 2 5) = 0) ∧ (eh_i G 2 5) = 2 ∧ ¬ ((eh_i G 2 7).toInt < 5) ∧ ri_calE ri_md (d + 6) 46 [.ref 4, .int ((eh_i G 2 7) - 5)] h = some (some (.int x29), h27) ∧ iC b n m (eh_V h27) ∧ ¬ (x29 = 0) ∧ ri_calE ri_md (d + 6) 82 [.ref 2, .int 59] h27 = some (some (.int x34), h32) ∧ iC b n m (eh_V h32) ∧ x34 = 0 ∧ rs = [.int (-1)] ∧ eh_V h' = (eh_V h32) ∧ eh_N h' = eh_N h ∧ iC b n m (eh_V h32)) ∨ (¬ (900 < i.toInt) ∧ (eh_i G 2 5) = 0 ∧ rs = [.int i] ∧ eh_V h' = G ∧ eh_N h' = eh_N h ∧ iC b n m G) := by
  have E := E.ld (p := 15) (t := ri_isI) (i := 1) (n := 1) (v := .int i) rfl (e := (.iload_n 1, 1, [], .null)) rfl rfl (fun _ _ => rfl) l1 rfl
  have E := E.pu (p := 18) (lo' := lo) (st' := [.int 900, .int i]) rfl (e := (.sipush 900, 3, [], .null)) rfl rfl (fun _ _ => rfl)
  rcases eh_r4 rfl (show (900 : Int32).toInt = 900 by decide) (E.br (p := 21) (c := 4) (tgt := 101) (a := i) (b := 900) (st' := []) rfl (e := (.if_icmp .gt 83, 3, [101], .null)) rfl rfl (fun _ _ => rfl) rfl) with ⟨c1, E⟩ | ⟨c1, E⟩
  · skip
    have E := E.pu (p := 102) (lo' := lo) (st' := [.int (-1)]) rfl (e := (.iconst (-1), 1, [], .null)) rfl rfl (fun _ _ => rfl)
    obtain ⟨r1, r2⟩ := E.reti rfl (m := 1) (ax := []) (w := .null) rfl
    exact Or.inl ⟨c1, r1, ((congrArg eh_V r2).trans hV), (congrArg eh_N r2), iv⟩
  · skip
    have E := E.ld (p := 22) (t := ri_isA) (i := 0) (n := 1) (v := .ref 4) rfl (e := (.aload_n 0, 1, [], .null)) rfl rfl (fun _ _ => rfl) l0 rfl
    have E := E.gr (n := 2) (p := 25) rfl (x := 22) (m := 3) (w := .null) (t := 5) (i := 0) (u := 322) rfl rfl hV (iv.1) rfl
    have E := E.gi (y := eh_i G 2 5) (p := 28) rfl (x := 29) (m := 3) (w := .null) (t := 8) (i := 5) (u := 195) rfl rfl hV (iv.1) rfl rfl
    rcases eh_q1 (E.br (p := 31) (c := 1) (tgt := 33) (a := eh_i G 2 5) (b := 0) (st' := []) rfl (e := (.ifCond .ne 5, 3, [33], .null)) rfl rfl (fun _ _ => rfl) rfl) with ⟨c2, E⟩ | ⟨c2, E⟩
    · skip
      have E := E.ld (p := 34) (t := ri_isA) (i := 0) (n := 1) (v := .ref 4) rfl (e := (.aload_n 0, 1, [], .null)) rfl rfl (fun _ _ => rfl) l0 rfl
      have E := E.gr (n := 2) (p := 37) rfl (x := 22) (m := 3) (w := .null) (t := 5) (i := 0) (u := 322) rfl rfl hV (iv.1) rfl
      have E := E.gi (y := eh_i G 2 5) (p := 40) rfl (x := 29) (m := 3) (w := .null) (t := 8) (i := 5) (u := 195) rfl rfl hV (iv.1) rfl rfl
      have E := E.pu (p := 41) (lo' := lo) (st' := [.int 2, .int (eh_i G 2 5)]) rfl (e := (.iconst 2, 1, [], .null)) rfl rfl (fun _ _ => rfl)
      rcases eh_q1 (E.br (p := 44) (c := 1) (tgt := 54) (a := eh_i G 2 5) (b := 2) (st' := []) rfl (e := (.if_icmp .ne 13, 3, [54], .null)) rfl rfl (fun _ _ => rfl) rfl) with ⟨c3, E⟩ | ⟨c3, E⟩
      · skip
        have E := E.pu (p := 55) (lo' := lo) (st' := [.int (-1)]) rfl (e := (.iconst (-1), 1, [], .null)) rfl rfl (fun _ _ => rfl)
        have E := E.so (p := 56) (t := ri_isI) (i := 2) (n := 1) rfl (e := (.istore_n 2, 1, [], .null)) rfl rfl (fun _ _ => rfl) rfl
        have k4_2 : ri_lk (ri_st1 lo 2 (.int (-1))) 2 = some (.int (-1)) := eh_self
        have k4_0 : ri_lk (ri_st1 lo 2 (.int (-1))) 0 = some (.ref 4) := eh_keep (by decide) (Or.inl rfl) l0
        have k4_1 : ri_lk (ri_st1 lo 2 (.int (-1))) 1 = some (.int i) := eh_keep (by decide) (Or.inl rfl) l1
        have E := E.ld (p := 57) (t := ri_isI) (i := 2) (n := 1) (v := .int (-1)) rfl (e := (.iload_n 2, 1, [], .null)) rfl rfl (fun _ _ => rfl) k4_2 rfl
        have E := E.pu (p := 58) (lo' := (ri_st1 lo 2 (.int (-1)))) (st' := [.int 5, .int (-1)]) rfl (e := (.iconst 5, 1, [], .null)) rfl rfl (fun _ _ => rfl)
        have E := E.brt (c := 2) (tgt := 71) (a := (-1)) (b := 5) (st' := []) rfl (e := (.if_icmp .lt 13, 3, [71], .null)) rfl rfl (fun _ _ => rfl) (by decide)
        have E := E.ld (p := 72) (t := ri_isA) (i := 0) (n := 1) (v := .ref 4) rfl (e := (.aload_n 0, 1, [], .null)) rfl rfl (fun _ _ => rfl) k4_0 rfl
        have E := E.ld (p := 73) (t := ri_isI) (i := 2) (n := 1) (v := .int (-1)) rfl (e := (.iload_n 2, 1, [], .null)) rfl rfl (fun _ _ => rfl) k4_2 rfl
        obtain ⟨v1, h5, X, E⟩ := E.cv (p := 76) (as := [.int (-1)]) (b := 4) (r := []) rfl (x := 41) (m := 3) (w := .null) (j := 44) (n := 1) (t := 5) (u := [722, 8, 724]) rfl rfl rfl
        obtain ⟨x7, rfl, ivk6, hNk6⟩ := tp_44 (d := d + 1) X (by rw [hV]; exact iv)
        have Xk6 := X
        have E : eh_e _ _ 76 (ri_st1 lo 2 (.int (-1))) [.int x7] h5 rs h' := E
        have E := E.so (p := 77) (t := ri_isI) (i := 3) (n := 1) rfl (e := (.istore_n 3, 1, [], .null)) rfl rfl (fun _ _ => rfl) rfl
        have k8_3 : ri_lk (ri_st1 (ri_st1 lo 2 (.int (-1))) 3 (.int x7)) 3 = some (.int x7) := eh_self
        have k8_0 : ri_lk (ri_st1 (ri_st1 lo 2 (.int (-1))) 3 (.int x7)) 0 = some (.ref 4) := eh_keep (by decide) (Or.inl rfl) k4_0
        have k8_1 : ri_lk (ri_st1 (ri_st1 lo 2 (.int (-1))) 3 (.int x7)) 1 = some (.int i) := eh_keep (by decide) (Or.inl rfl) k4_1
        have k8_2 : ri_lk (ri_st1 (ri_st1 lo 2 (.int (-1))) 3 (.int x7)) 2 = some (.int (-1)) := eh_keep (by decide) (Or.inl rfl) k4_2
        have E := E.ld (p := 78) (t := ri_isI) (i := 3) (n := 1) (v := .int x7) rfl (e := (.iload_n 3, 1, [], .null)) rfl rfl (fun _ _ => rfl) k8_3 rfl
        rcases eh_q0 (E.br (p := 81) (c := 0) (tgt := 93) (a := x7) (b := 0) (st' := []) rfl (e := (.ifCond .eq 15, 3, [93], .null)) rfl rfl (fun _ _ => rfl) rfl) with ⟨c9, E⟩ | ⟨c9, E⟩
        · skip
          have E := E.pu (p := 94) (lo' := (ri_st1 (ri_st1 lo 2 (.int (-1))) 3 (.int x7))) (st' := [.int (-1)]) rfl (e := (.iconst (-1), 1, [], .null)) rfl rfl (fun _ _ => rfl)
          obtain ⟨r1, r2⟩ := E.reti rfl (m := 1) (ax := []) (w := .null) rfl
          exact Or.inr (Or.inl ⟨x7, h5, c1, c2, c3, Xk6, ivk6, c9, r1, ((congrArg eh_V r2).trans (rfl : eh_V h5 = eh_V h5)), ((congrArg eh_N r2).trans hNk6), ivk6⟩)
        · skip
          have E := E.ld (p := 82) (t := ri_isA) (i := 0) (n := 1) (v := .ref 4) rfl (e := (.aload_n 0, 1, [], .null)) rfl rfl (fun _ _ => rfl) k8_0 rfl
          have E := E.gr (n := 2) (p := 85) rfl (x := 22) (m := 3) (w := .null) (t := 5) (i := 0) (u := 322) rfl rfl (rfl : eh_V h5 = eh_V h5) ivk6.1 rfl
          have E := E.pu (p := 87) (lo' := (ri_st1 (ri_st1 lo 2 (.int (-1))) 3 (.int x7))) (st' := [.int 59, .ref 2]) rfl (e := (.bipush 59, 2, [], .null)) rfl rfl (fun _ _ => rfl)
          obtain ⟨v1, h10, X, E⟩ := E.cv (p := 90) (as := [.int 59]) (b := 2) (r := []) rfl (x := 44) (m := 3) (w := .null) (j := 82) (n := 1) (t := 8) (u := [735, 737, 736]) rfl rfl rfl
          obtain ⟨x12, rfl, ivk11, hNk11⟩ := tp_82 (d := d + 3) X (by rw [(rfl : eh_V h5 = eh_V h5)]; exact ivk6)
          have Xk11 := X
          have E : eh_e _ _ 90 (ri_st1 (ri_st1 lo 2 (.int (-1))) 3 (.int x7)) [.int x12] h10 rs h' := E
          rcases eh_q1 (E.br (p := 93) (c := 1) (tgt := 95) (a := x12) (b := 0) (st' := []) rfl (e := (.ifCond .ne 5, 3, [95], .null)) rfl rfl (fun _ _ => rfl) rfl) with ⟨c13, E⟩ | ⟨c13, E⟩
          · skip
            have E := E.ii (p := 98) (y := i + 1) rfl (i := 1) (n := 1) (m := 3) (ax := []) (w := .null) rfl k8_1 rfl rfl
            have k14_1 : ri_lk (ri_st1 (ri_st1 (ri_st1 lo 2 (.int (-1))) 3 (.int x7)) 1 (.int (i + 1))) 1 = some (.int (i + 1)) := eh_self
            have k14_0 : ri_lk (ri_st1 (ri_st1 (ri_st1 lo 2 (.int (-1))) 3 (.int x7)) 1 (.int (i + 1))) 0 = some (.ref 4) := eh_keep (by decide) (Or.inl rfl) k8_0
            have k14_2 : ri_lk (ri_st1 (ri_st1 (ri_st1 lo 2 (.int (-1))) 3 (.int x7)) 1 (.int (i + 1))) 2 = some (.int (-1)) := eh_keep (by decide) (Or.inl rfl) k8_2
            have k14_3 : ri_lk (ri_st1 (ri_st1 (ri_st1 lo 2 (.int (-1))) 3 (.int x7)) 1 (.int (i + 1))) 3 = some (.int x7) := eh_keep (by decide) (Or.inl rfl) k8_3
            have E := E.pu (p := 14) (lo' := (ri_st1 (ri_st1 (ri_st1 lo 2 (.int (-1))) 3 (.int x7)) 1 (.int (i + 1)))) (st' := []) rfl (e := (.goto (-84), 3, [14], .null)) rfl rfl (fun _ _ => rfl)
            exact Or.inr (Or.inr (Or.inl ⟨x7, h5, x12, h10, c1, c2, c3, Xk6, ivk6, c9, Xk11, ivk11, c13, _, _, E, (rfl : eh_V h10 = eh_V h10), (hNk11.trans hNk6), ivk11, k14_0, k14_1, k14_2, k14_3⟩))
          · skip
            have E := E.pu (p := 94) (lo' := (ri_st1 (ri_st1 lo 2 (.int (-1))) 3 (.int x7))) (st' := [.int (-1)]) rfl (e := (.iconst (-1), 1, [], .null)) rfl rfl (fun _ _ => rfl)
            obtain ⟨r1, r2⟩ := E.reti rfl (m := 1) (ax := []) (w := .null) rfl
            exact Or.inr (Or.inr (Or.inr (Or.inl ⟨x7, h5, x12, h10, c1, c2, c3, Xk6, ivk6, c9, Xk11, ivk11, c13, r1, ((congrArg eh_V r2).trans (rfl : eh_V h10 = eh_V h10)), ((congrArg eh_N r2).trans (hNk11.trans hNk6)), ivk11⟩)))
      · skip
        have E := E.ld (p := 45) (t := ri_isA) (i := 0) (n := 1) (v := .ref 4) rfl (e := (.aload_n 0, 1, [], .null)) rfl rfl (fun _ _ => rfl) l0 rfl
        have E := E.gr (n := 2) (p := 48) rfl (x := 22) (m := 3) (w := .null) (t := 5) (i := 0) (u := 322) rfl rfl hV (iv.1) rfl
        have E := E.gi (y := eh_i G 2 7) (p := 51) rfl (x := 34) (m := 3) (w := .null) (t := 8) (i := 7) (u := 198) rfl rfl hV (iv.1) rfl rfl
        have E := E.pu (p := 55) (lo' := lo) (st' := [.int (eh_i G 2 7)]) rfl (e := (.goto 4, 3, [55], .null)) rfl rfl (fun _ _ => rfl)
        have E := E.so (p := 56) (t := ri_isI) (i := 2) (n := 1) rfl (e := (.istore_n 2, 1, [], .null)) rfl rfl (fun _ _ => rfl) rfl
        have k15_2 : ri_lk (ri_st1 lo 2 (.int (eh_i G 2 7))) 2 = some (.int (eh_i G 2 7)) := eh_self
        have k15_0 : ri_lk (ri_st1 lo 2 (.int (eh_i G 2 7))) 0 = some (.ref 4) := eh_keep (by decide) (Or.inl rfl) l0
        have k15_1 : ri_lk (ri_st1 lo 2 (.int (eh_i G 2 7))) 1 = some (.int i) := eh_keep (by decide) (Or.inl rfl) l1
        have E := E.ld (p := 57) (t := ri_isI) (i := 2) (n := 1) (v := .int (eh_i G 2 7)) rfl (e := (.iload_n 2, 1, [], .null)) rfl rfl (fun _ _ => rfl) k15_2 rfl
        have E := E.pu (p := 58) (lo' := (ri_st1 lo 2 (.int (eh_i G 2 7)))) (st' := [.int 5, .int (eh_i G 2 7)]) rfl (e := (.iconst 5, 1, [], .null)) rfl rfl (fun _ _ => rfl)
        rcases eh_r2 rfl (show (5 : Int32).toInt = 5 by decide) (E.br (p := 61) (c := 2) (tgt := 71) (a := eh_i G 2 7) (b := 5) (st' := []) rfl (e := (.if_icmp .lt 13, 3, [71], .null)) rfl rfl (fun _ _ => rfl) rfl) with ⟨c16, E⟩ | ⟨c16, E⟩
        · skip
          have E := E.ld (p := 72) (t := ri_isA) (i := 0) (n := 1) (v := .ref 4) rfl (e := (.aload_n 0, 1, [], .null)) rfl rfl (fun _ _ => rfl) k15_0 rfl
          have E := E.ld (p := 73) (t := ri_isI) (i := 2) (n := 1) (v := .int (eh_i G 2 7)) rfl (e := (.iload_n 2, 1, [], .null)) rfl rfl (fun _ _ => rfl) k15_2 rfl
          obtain ⟨v1, h17, X, E⟩ := E.cv (p := 76) (as := [.int (eh_i G 2 7)]) (b := 4) (r := []) rfl (x := 41) (m := 3) (w := .null) (j := 44) (n := 1) (t := 5) (u := [722, 8, 724]) rfl rfl rfl
          obtain ⟨x19, rfl, ivk18, hNk18⟩ := tp_44 (d := d + 1) X (by rw [hV]; exact iv)
          have Xk18 := X
          have E : eh_e _ _ 76 (ri_st1 lo 2 (.int (eh_i G 2 7))) [.int x19] h17 rs h' := E
          have E := E.so (p := 77) (t := ri_isI) (i := 3) (n := 1) rfl (e := (.istore_n 3, 1, [], .null)) rfl rfl (fun _ _ => rfl) rfl
          have k20_3 : ri_lk (ri_st1 (ri_st1 lo 2 (.int (eh_i G 2 7))) 3 (.int x19)) 3 = some (.int x19) := eh_self
          have k20_0 : ri_lk (ri_st1 (ri_st1 lo 2 (.int (eh_i G 2 7))) 3 (.int x19)) 0 = some (.ref 4) := eh_keep (by decide) (Or.inl rfl) k15_0
          have k20_1 : ri_lk (ri_st1 (ri_st1 lo 2 (.int (eh_i G 2 7))) 3 (.int x19)) 1 = some (.int i) := eh_keep (by decide) (Or.inl rfl) k15_1
          have k20_2 : ri_lk (ri_st1 (ri_st1 lo 2 (.int (eh_i G 2 7))) 3 (.int x19)) 2 = some (.int (eh_i G 2 7)) := eh_keep (by decide) (Or.inl rfl) k15_2
          have E := E.ld (p := 78) (t := ri_isI) (i := 3) (n := 1) (v := .int x19) rfl (e := (.iload_n 3, 1, [], .null)) rfl rfl (fun _ _ => rfl) k20_3 rfl
          rcases eh_q0 (E.br (p := 81) (c := 0) (tgt := 93) (a := x19) (b := 0) (st' := []) rfl (e := (.ifCond .eq 15, 3, [93], .null)) rfl rfl (fun _ _ => rfl) rfl) with ⟨c21, E⟩ | ⟨c21, E⟩
          · skip
            have E := E.pu (p := 94) (lo' := (ri_st1 (ri_st1 lo 2 (.int (eh_i G 2 7))) 3 (.int x19))) (st' := [.int (-1)]) rfl (e := (.iconst (-1), 1, [], .null)) rfl rfl (fun _ _ => rfl)
            obtain ⟨r1, r2⟩ := E.reti rfl (m := 1) (ax := []) (w := .null) rfl
            exact Or.inr (Or.inr (Or.inr (Or.inr (Or.inl ⟨x19, h17, c1, c2, c3, c16, Xk18, ivk18, c21, r1, ((congrArg eh_V r2).trans (rfl : eh_V h17 = eh_V h17)), ((congrArg eh_N r2).trans hNk18), ivk18⟩))))
          · skip
            have E := E.ld (p := 82) (t := ri_isA) (i := 0) (n := 1) (v := .ref 4) rfl (e := (.aload_n 0, 1, [], .null)) rfl rfl (fun _ _ => rfl) k20_0 rfl
            have E := E.gr (n := 2) (p := 85) rfl (x := 22) (m := 3) (w := .null) (t := 5) (i := 0) (u := 322) rfl rfl (rfl : eh_V h17 = eh_V h17) ivk18.1 rfl
            have E := E.pu (p := 87) (lo' := (ri_st1 (ri_st1 lo 2 (.int (eh_i G 2 7))) 3 (.int x19))) (st' := [.int 59, .ref 2]) rfl (e := (.bipush 59, 2, [], .null)) rfl rfl (fun _ _ => rfl)
            obtain ⟨v1, h22, X, E⟩ := E.cv (p := 90) (as := [.int 59]) (b := 2) (r := []) rfl (x := 44) (m := 3) (w := .null) (j := 82) (n := 1) (t := 8) (u := [735, 737, 736]) rfl rfl rfl
            obtain ⟨x24, rfl, ivk23, hNk23⟩ := tp_82 (d := d + 3) X (by rw [(rfl : eh_V h17 = eh_V h17)]; exact ivk18)
            have Xk23 := X
            have E : eh_e _ _ 90 (ri_st1 (ri_st1 lo 2 (.int (eh_i G 2 7))) 3 (.int x19)) [.int x24] h22 rs h' := E
            rcases eh_q1 (E.br (p := 93) (c := 1) (tgt := 95) (a := x24) (b := 0) (st' := []) rfl (e := (.ifCond .ne 5, 3, [95], .null)) rfl rfl (fun _ _ => rfl) rfl) with ⟨c25, E⟩ | ⟨c25, E⟩
            · skip
              have E := E.ii (p := 98) (y := i + 1) rfl (i := 1) (n := 1) (m := 3) (ax := []) (w := .null) rfl k20_1 rfl rfl
              have k26_1 : ri_lk (ri_st1 (ri_st1 (ri_st1 lo 2 (.int (eh_i G 2 7))) 3 (.int x19)) 1 (.int (i + 1))) 1 = some (.int (i + 1)) := eh_self
              have k26_0 : ri_lk (ri_st1 (ri_st1 (ri_st1 lo 2 (.int (eh_i G 2 7))) 3 (.int x19)) 1 (.int (i + 1))) 0 = some (.ref 4) := eh_keep (by decide) (Or.inl rfl) k20_0
              have k26_2 : ri_lk (ri_st1 (ri_st1 (ri_st1 lo 2 (.int (eh_i G 2 7))) 3 (.int x19)) 1 (.int (i + 1))) 2 = some (.int (eh_i G 2 7)) := eh_keep (by decide) (Or.inl rfl) k20_2
              have k26_3 : ri_lk (ri_st1 (ri_st1 (ri_st1 lo 2 (.int (eh_i G 2 7))) 3 (.int x19)) 1 (.int (i + 1))) 3 = some (.int x19) := eh_keep (by decide) (Or.inl rfl) k20_3
              have E := E.pu (p := 14) (lo' := (ri_st1 (ri_st1 (ri_st1 lo 2 (.int (eh_i G 2 7))) 3 (.int x19)) 1 (.int (i + 1)))) (st' := []) rfl (e := (.goto (-84), 3, [14], .null)) rfl rfl (fun _ _ => rfl)
              exact Or.inr (Or.inr (Or.inr (Or.inr (Or.inr (Or.inl ⟨x19, h17, x24, h22, c1, c2, c3, c16, Xk18, ivk18, c21, Xk23, ivk23, c25, _, _, E, (rfl : eh_V h22 = eh_V h22), (hNk23.trans hNk18), ivk23, k26_0, k26_1, k26_2, k26_3⟩)))))
            · skip
              have E := E.pu (p := 94) (lo' := (ri_st1 (ri_st1 lo 2 (.int (eh_i G 2 7))) 3 (.int x19))) (st' := [.int (-1)]) rfl (e := (.iconst (-1), 1, [], .null)) rfl rfl (fun _ _ => rfl)
              obtain ⟨r1, r2⟩ := E.reti rfl (m := 1) (ax := []) (w := .null) rfl
              exact Or.inr (Or.inr (Or.inr (Or.inr (Or.inr (Or.inr (Or.inl ⟨x19, h17, x24, h22, c1, c2, c3, c16, Xk18, ivk18, c21, Xk23, ivk23, c25, r1, ((congrArg eh_V r2).trans (rfl : eh_V h22 = eh_V h22)), ((congrArg eh_N r2).trans (hNk23.trans hNk18)), ivk23⟩))))))
        · skip
          have E := E.ld (p := 62) (t := ri_isA) (i := 0) (n := 1) (v := .ref 4) rfl (e := (.aload_n 0, 1, [], .null)) rfl rfl (fun _ _ => rfl) k15_0 rfl
          have E := E.ld (p := 63) (t := ri_isI) (i := 2) (n := 1) (v := .int (eh_i G 2 7)) rfl (e := (.iload_n 2, 1, [], .null)) rfl rfl (fun _ _ => rfl) k15_2 rfl
          have E := E.pu (p := 64) (lo' := (ri_st1 lo 2 (.int (eh_i G 2 7)))) (st' := [.int 5, .int (eh_i G 2 7), .ref 4]) rfl (e := (.iconst 5, 1, [], .null)) rfl rfl (fun _ _ => rfl)
          have E := E.pu (p := 65) (lo' := (ri_st1 lo 2 (.int (eh_i G 2 7)))) (st' := [.int ((eh_i G 2 7) - 5), .ref 4]) rfl (e := (.isub, 1, [], .null)) rfl rfl (fun _ _ => rfl)
          obtain ⟨v1, h27, X, E⟩ := E.cv (p := 68) (as := [.int ((eh_i G 2 7) - 5)]) (b := 4) (r := []) rfl (x := 37) (m := 3) (w := .null) (j := 46) (n := 1) (t := 5) (u := [672, 4, 674]) rfl rfl rfl
          obtain ⟨x29, rfl, ivk28, hNk28⟩ := tp_46 (d := d) X (by rw [hV]; exact iv)
          have Xk28 := X
          have E : eh_e _ _ 68 (ri_st1 lo 2 (.int (eh_i G 2 7))) [.int x29] h27 rs h' := E
          have E := E.pu (p := 76) (lo' := (ri_st1 lo 2 (.int (eh_i G 2 7)))) (st' := [.int x29]) rfl (e := (.goto 8, 3, [76], .null)) rfl rfl (fun _ _ => rfl)
          have E := E.so (p := 77) (t := ri_isI) (i := 3) (n := 1) rfl (e := (.istore_n 3, 1, [], .null)) rfl rfl (fun _ _ => rfl) rfl
          have k30_3 : ri_lk (ri_st1 (ri_st1 lo 2 (.int (eh_i G 2 7))) 3 (.int x29)) 3 = some (.int x29) := eh_self
          have k30_0 : ri_lk (ri_st1 (ri_st1 lo 2 (.int (eh_i G 2 7))) 3 (.int x29)) 0 = some (.ref 4) := eh_keep (by decide) (Or.inl rfl) k15_0
          have k30_1 : ri_lk (ri_st1 (ri_st1 lo 2 (.int (eh_i G 2 7))) 3 (.int x29)) 1 = some (.int i) := eh_keep (by decide) (Or.inl rfl) k15_1
          have k30_2 : ri_lk (ri_st1 (ri_st1 lo 2 (.int (eh_i G 2 7))) 3 (.int x29)) 2 = some (.int (eh_i G 2 7)) := eh_keep (by decide) (Or.inl rfl) k15_2
          have E := E.ld (p := 78) (t := ri_isI) (i := 3) (n := 1) (v := .int x29) rfl (e := (.iload_n 3, 1, [], .null)) rfl rfl (fun _ _ => rfl) k30_3 rfl
          rcases eh_q0 (E.br (p := 81) (c := 0) (tgt := 93) (a := x29) (b := 0) (st' := []) rfl (e := (.ifCond .eq 15, 3, [93], .null)) rfl rfl (fun _ _ => rfl) rfl) with ⟨c31, E⟩ | ⟨c31, E⟩
          · skip
            have E := E.pu (p := 94) (lo' := (ri_st1 (ri_st1 lo 2 (.int (eh_i G 2 7))) 3 (.int x29))) (st' := [.int (-1)]) rfl (e := (.iconst (-1), 1, [], .null)) rfl rfl (fun _ _ => rfl)
            obtain ⟨r1, r2⟩ := E.reti rfl (m := 1) (ax := []) (w := .null) rfl
            exact Or.inr (Or.inr (Or.inr (Or.inr (Or.inr (Or.inr (Or.inr (Or.inl ⟨x29, h27, c1, c2, c3, c16, Xk28, ivk28, c31, r1, ((congrArg eh_V r2).trans (rfl : eh_V h27 = eh_V h27)), ((congrArg eh_N r2).trans hNk28), ivk28⟩)))))))
          · skip
            have E := E.ld (p := 82) (t := ri_isA) (i := 0) (n := 1) (v := .ref 4) rfl (e := (.aload_n 0, 1, [], .null)) rfl rfl (fun _ _ => rfl) k30_0 rfl
            have E := E.gr (n := 2) (p := 85) rfl (x := 22) (m := 3) (w := .null) (t := 5) (i := 0) (u := 322) rfl rfl (rfl : eh_V h27 = eh_V h27) ivk28.1 rfl
            have E := E.pu (p := 87) (lo' := (ri_st1 (ri_st1 lo 2 (.int (eh_i G 2 7))) 3 (.int x29))) (st' := [.int 59, .ref 2]) rfl (e := (.bipush 59, 2, [], .null)) rfl rfl (fun _ _ => rfl)
            obtain ⟨v1, h32, X, E⟩ := E.cv (p := 90) (as := [.int 59]) (b := 2) (r := []) rfl (x := 44) (m := 3) (w := .null) (j := 82) (n := 1) (t := 8) (u := [735, 737, 736]) rfl rfl rfl
            obtain ⟨x34, rfl, ivk33, hNk33⟩ := tp_82 (d := d + 3) X (by rw [(rfl : eh_V h27 = eh_V h27)]; exact ivk28)
            have Xk33 := X
            have E : eh_e _ _ 90 (ri_st1 (ri_st1 lo 2 (.int (eh_i G 2 7))) 3 (.int x29)) [.int x34] h32 rs h' := E
            rcases eh_q1 (E.br (p := 93) (c := 1) (tgt := 95) (a := x34) (b := 0) (st' := []) rfl (e := (.ifCond .ne 5, 3, [95], .null)) rfl rfl (fun _ _ => rfl) rfl) with ⟨c35, E⟩ | ⟨c35, E⟩
            · skip
              have E := E.ii (p := 98) (y := i + 1) rfl (i := 1) (n := 1) (m := 3) (ax := []) (w := .null) rfl k30_1 rfl rfl
              have k36_1 : ri_lk (ri_st1 (ri_st1 (ri_st1 lo 2 (.int (eh_i G 2 7))) 3 (.int x29)) 1 (.int (i + 1))) 1 = some (.int (i + 1)) := eh_self
              have k36_0 : ri_lk (ri_st1 (ri_st1 (ri_st1 lo 2 (.int (eh_i G 2 7))) 3 (.int x29)) 1 (.int (i + 1))) 0 = some (.ref 4) := eh_keep (by decide) (Or.inl rfl) k30_0
              have k36_2 : ri_lk (ri_st1 (ri_st1 (ri_st1 lo 2 (.int (eh_i G 2 7))) 3 (.int x29)) 1 (.int (i + 1))) 2 = some (.int (eh_i G 2 7)) := eh_keep (by decide) (Or.inl rfl) k30_2
              have k36_3 : ri_lk (ri_st1 (ri_st1 (ri_st1 lo 2 (.int (eh_i G 2 7))) 3 (.int x29)) 1 (.int (i + 1))) 3 = some (.int x29) := eh_keep (by decide) (Or.inl rfl) k30_3
              have E := E.pu (p := 14) (lo' := (ri_st1 (ri_st1 (ri_st1 lo 2 (.int (eh_i G 2 7))) 3 (.int x29)) 1 (.int (i + 1)))) (st' := []) rfl (e := (.goto (-84), 3, [14], .null)) rfl rfl (fun _ _ => rfl)
              exact Or.inr (Or.inr (Or.inr (Or.inr (Or.inr (Or.inr (Or.inr (Or.inr (Or.inl ⟨x29, h27, x34, h32, c1, c2, c3, c16, Xk28, ivk28, c31, Xk33, ivk33, c35, _, _, E, (rfl : eh_V h32 = eh_V h32), (hNk33.trans hNk28), ivk33, k36_0, k36_1, k36_2, k36_3⟩))))))))
            · skip
              have E := E.pu (p := 94) (lo' := (ri_st1 (ri_st1 lo 2 (.int (eh_i G 2 7))) 3 (.int x29))) (st' := [.int (-1)]) rfl (e := (.iconst (-1), 1, [], .null)) rfl rfl (fun _ _ => rfl)
              obtain ⟨r1, r2⟩ := E.reti rfl (m := 1) (ax := []) (w := .null) rfl
              exact Or.inr (Or.inr (Or.inr (Or.inr (Or.inr (Or.inr (Or.inr (Or.inr (Or.inr (Or.inl ⟨x29, h27, x34, h32, c1, c2, c3, c16, Xk28, ivk28, c31, Xk33, ivk33, c35, r1, ((congrArg eh_V r2).trans (rfl : eh_V h32 = eh_V h32)), ((congrArg eh_N r2).trans (hNk33.trans hNk28)), ivk33⟩)))))))))
    · skip
      have E := E.ld (p := 32) (t := ri_isI) (i := 1) (n := 1) (v := .int i) rfl (e := (.iload_n 1, 1, [], .null)) rfl rfl (fun _ _ => rfl) l1 rfl
      obtain ⟨r1, r2⟩ := E.reti rfl (m := 1) (ax := []) (w := .null) rfl
      exact Or.inr (Or.inr (Or.inr (Or.inr (Or.inr (Or.inr (Or.inr (Or.inr (Or.inr (Or.inr (⟨c1, c2, r1, ((congrArg eh_V r2).trans hV), (congrArg eh_N r2), iv⟩))))))))))
