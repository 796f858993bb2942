theorem zs_81 {d : Nat} {h h' : ri_H} {v : Option Value} {G : eh_W} {b : Nat → Int32} {n m : Nat} {w : Int32} (E : ri_calE ri_md (d + 3) 81 [.ref 2, .int w] h = some (v, h')) (hV : eh_V h = G) (iv : iS b n m G) : (¬ ((eh_i G 2 5) = 2) ∧ v = some (.int 0) ∧ eh_V h' = eh_u (eh_u G 2 9 (.int 1)) 2 10 (.int (eh_i G 2 6)) ∧ eh_N h' = eh_N h ∧ iS b n m (eh_u (eh_u G 2 9 (.int 1)) 2 10 (.int (eh_i G 2 6)))) ∨ ((eh_i G 2 5) = 2 ∧ ¬ ((eh_i G 2 7) = w) ∧ v = some (.int 0) ∧ eh_V h' = eh_u (eh_u G 2 9 (.int 1)) 2 10 (.int (eh_i G 2 6)) ∧ eh_N h' = eh_N h ∧ iS b n m (eh_u (eh_u G 2 9 (.int 1)) 2 10 (.int (eh_i G 2 6)))) ∨ (∃ (h1 : ri_H), ∃ (h19 : ri_H), (eh_i G 2 5) = 2 ∧ (eh_i G 2 7) = w ∧ eh_V h1 = G ∧ ri_calE ri_md (d + 2) 74 [.ref 2] h1 = some (none, h19) ∧ iS b n m (eh_V h19) ∧ v = some (.int 1) ∧ eh_V h' = (eh_V h19) ∧ eh_N h' = eh_N h ∧ iS b n m (eh_V h19)) := by
  obtain ⟨rs, hrs, E⟩ := eh_in E (q := md_81) rfl
  have E := E.ld (p := 1) (t := ri_isA) (i := 0) (n := 1) (v := .ref 2) rfl (e := (.aload_n 0, 1, [], .null)) rfl rfl (fun _ _ => rfl) rfl rfl
  have E := E.ld (p := 2) (t := ri_isI) (i := 1) (n := 1) (v := .int w) rfl (e := (.iload_n 1, 1, [], .null)) rfl rfl (fun _ _ => rfl) rfl rfl
  obtain ⟨v1, h1, X, E⟩ := E.cv (p := 5) (as := [.int w]) (b := 2) (r := []) rfl (x := 81) (m := 3) (w := .null) (j := 79) (n := 1) (t := 8) (u := [1085, 1076, 1075]) rfl rfl rfl
  rcases zs_79 (d := d + 1) X hV (iv.1) with ⟨c2, rfl, hV3, hN4⟩ | ⟨c5, c6, rfl, hV7, hN8⟩ | ⟨c9, c10, rfl, hV11, hN12⟩
  · skip
    have c2 : ¬ ((eh_i G 2 5) = 2) := c2
    have E : eh_e _ _ 5 (ri_as 0 [.ref 2, .int w]) [.int 0] _ rs h' := E
    have E := E.brf (p := 8) (c := 1) (tgt := 14) (a := 0) (b := 0) (st' := []) rfl (e := (.ifCond .ne 9, 3, [14], .null)) rfl rfl (fun _ _ => rfl) (by decide) rfl
    have E := E.ld (p := 9) (t := ri_isA) (i := 0) (n := 1) (v := .ref 2) rfl (e := (.aload_n 0, 1, [], .null)) rfl rfl (fun _ _ => rfl) rfl rfl
    have E := E.pu (p := 10) (lo' := (ri_as 0 [.ref 2, .int w])) (st' := [.int 1, .ref 2]) rfl (e := (.iconst 1, 1, [], .null)) rfl rfl (fun _ _ => rfl)
    obtain ⟨v1, h13, X, E⟩ := E.cv (p := 13) (as := [.int 1]) (b := 2) (r := []) rfl (x := 84) (m := 3) (w := .null) (j := 78) (n := 1) (t := 8) (u := [700, 678, 677]) rfl rfl rfl
    rcases sp_78 (d := d + 1) X hV3 (iv.1) with ⟨rfl, hV14, hN15⟩
    have hV14 : _ = eh_u (eh_u G 2 9 (.int 1)) 2 10 (.int (eh_i G 2 6)) := hV14
    have E : eh_e _ _ 13 (ri_as 0 [.ref 2, .int w]) [.int 0] _ rs h' := E
    obtain ⟨r1, r2⟩ := E.reti rfl (m := 1) (ax := []) (w := .null) rfl
    exact Or.inl ⟨c2, (by rw [← hrs, r1]; rfl), ((congrArg eh_V r2).trans hV14), ((congrArg eh_N r2).trans (hN15.trans hN4)), (iS_u (iS_u iv ((iv.1).ui rfl) rfl) (((iv.1).ui rfl).ui rfl) rfl)⟩
  · skip
    have c5 : (eh_i G 2 5) = 2 := c5
    have c6 : ¬ ((eh_i G 2 7) = w) := c6
    have E : eh_e _ _ 5 (ri_as 0 [.ref 2, .int w]) [.int 0] _ rs h' := E
    have E := E.brf (p := 8) (c := 1) (tgt := 14) (a := 0) (b := 0) (st' := []) rfl (e := (.ifCond .ne 9, 3, [14], .null)) rfl rfl (fun _ _ => rfl) (by decide) rfl
    have E := E.ld (p := 9) (t := ri_isA) (i := 0) (n := 1) (v := .ref 2) rfl (e := (.aload_n 0, 1, [], .null)) rfl rfl (fun _ _ => rfl) rfl rfl
    have E := E.pu (p := 10) (lo' := (ri_as 0 [.ref 2, .int w])) (st' := [.int 1, .ref 2]) rfl (e := (.iconst 1, 1, [], .null)) rfl rfl (fun _ _ => rfl)
    obtain ⟨v1, h16, X, E⟩ := E.cv (p := 13) (as := [.int 1]) (b := 2) (r := []) rfl (x := 84) (m := 3) (w := .null) (j := 78) (n := 1) (t := 8) (u := [700, 678, 677]) rfl rfl rfl
    rcases sp_78 (d := d + 1) X hV7 (iv.1) with ⟨rfl, hV17, hN18⟩
    have hV17 : _ = eh_u (eh_u G 2 9 (.int 1)) 2 10 (.int (eh_i G 2 6)) := hV17
    have E : eh_e _ _ 13 (ri_as 0 [.ref 2, .int w]) [.int 0] _ rs h' := E
    obtain ⟨r1, r2⟩ := E.reti rfl (m := 1) (ax := []) (w := .null) rfl
    exact Or.inr (Or.inl ⟨c5, c6, (by rw [← hrs, r1]; rfl), ((congrArg eh_V r2).trans hV17), ((congrArg eh_N r2).trans (hN18.trans hN8)), (iS_u (iS_u iv ((iv.1).ui rfl) rfl) (((iv.1).ui rfl).ui rfl) rfl)⟩)
  · skip
    have c9 : (eh_i G 2 5) = 2 := c9
    have c10 : (eh_i G 2 7) = w := c10
    have E : eh_e _ _ 5 (ri_as 0 [.ref 2, .int w]) [.int 1] _ rs h' := E
    have E := E.brt (c := 1) (tgt := 14) (a := 1) (b := 0) (st' := []) rfl (e := (.ifCond .ne 9, 3, [14], .null)) rfl rfl (fun _ _ => rfl) (by decide)
    have E := E.ld (p := 15) (t := ri_isA) (i := 0) (n := 1) (v := .ref 2) rfl (e := (.aload_n 0, 1, [], .null)) rfl rfl (fun _ _ => rfl) rfl rfl
    obtain ⟨v1, h19, X, E⟩ := E.cv (p := 18) (as := []) (b := 2) (r := []) rfl (x := 67) (m := 3) (w := .null) (j := 74) (n := 0) (t := 8) (u := [646, 648, 647]) rfl rfl rfl
    obtain ⟨rfl, ivk20, hNk20⟩ := ts_74 (d := d) X (by rw [hV11]; exact iv)
    have Xk20 := X
    have E : eh_e _ _ 18 (ri_as 0 [.ref 2, .int w]) [] h19 rs h' := E
    have E := E.pu (p := 19) (lo' := (ri_as 0 [.ref 2, .int w])) (st' := [.int 1]) rfl (e := (.iconst 1, 1, [], .null)) rfl rfl (fun _ _ => rfl)
    obtain ⟨r1, r2⟩ := E.reti rfl (m := 1) (ax := []) (w := .null) rfl
    exact Or.inr (Or.inr (⟨h1, h19, c9, c10, hV11, Xk20, ivk20, (by rw [← hrs, r1]; rfl), ((congrArg eh_V r2).trans (rfl : eh_V h19 = eh_V h19)), ((congrArg eh_N r2).trans (hNk20.trans hN12)), ivk20⟩))
theorem ts_81 {d : Nat} {h h' : ri_H} {v : Option Value} {b : Nat → Int32} {n m : Nat} {w : Int32} (E : ri_calE ri_md (d + 3) 81 [.ref 2, .int w] h = some (v, h')) (iv : iS b n m (eh_V h)) : ∃ x : Int32, v = some (.int x) ∧ iS b n m (eh_V h') ∧ eh_N h' = eh_N h := by
  rcases zs_81 E rfl iv with ⟨_, r1, r2, r3, r4⟩ | ⟨_, _, r1, r2, r3, r4⟩ | ⟨_, _, _, _, _, _, _, r1, r2, r3, r4⟩
  · exact ⟨_, r1, by rw [r2]; exact r4, r3⟩
  · exact ⟨_, r1, by rw [r2]; exact r4, r3⟩
  · exact ⟨_, r1, by rw [r2]; exact r4, r3⟩
theorem zd_3 {d : Nat} {h h' : ri_H} {v : Option Value} {G : eh_W} {b : Nat → Int32} {n m : Nat} {ke : Int32} (E : ri_calE ri_md (d + 4) 3 [.ref 2, .ref 23, .int ke] h = some (v, h')) (hV : eh_V h = G) (iv : iS b n m G) : (∃ (x4 : Int32), ∃ (h2 : ri_H), (ke.toInt < 9 ∨ 11 < ke.toInt) ∧ ri_calE ri_md (d + 3) 83 [.ref 2, .int 1, .int 60] h = some (some (.int x4), h2) ∧ iS b n m (eh_V h2) ∧ v = some (.int x4) ∧ eh_V h' = (eh_V h2) ∧ eh_N h' = eh_N h ∧ iS b n m (eh_V h2)) ∨ (∃ (x8 : Int32), ∃ (h6 : ri_H), ke.toInt = 9 ∧ ri_calE ri_md (d + 3) 84 [.ref 2, .ref 23, .int 1] h = some (some (.int x8), h6) ∧ iS b n m (eh_V h6) ∧ v = some (.int x8) ∧ eh_V h' = (eh_V h6) ∧ eh_N h' = eh_N h ∧ iS b n m (eh_V h6)) ∨ (∃ (x12 : Int32), ∃ (h10 : ri_H), ke.toInt = 10 ∧ ri_calE ri_md (d + 3) 84 [.ref 2, .ref 23, .int 0] h = some (some (.int x12), h10) ∧ iS b n m (eh_V h10) ∧ v = some (.int x12) ∧ eh_V h' = (eh_V h10) ∧ eh_N h' = eh_N h ∧ iS b n m (eh_V h10)) ∨ (∃ (x16 : Int32), ∃ (h14 : ri_H), ke.toInt = 11 ∧ ri_calE ri_md (d + 3) 83 [.ref 2, .int 0, .int 7] h = some (some (.int x16), h14) ∧ iS b n m (eh_V h14) ∧ v = some (.int x16) ∧ eh_V h' = (eh_V h14) ∧ eh_N h' = eh_N h ∧ iS b n m (eh_V h14)) := by
  obtain ⟨rs, hrs, E⟩ := eh_in E (q := md_3) rfl
  have E := E.ld (p := 1) (t := ri_isI) (i := 2) (n := 1) (v := .int ke) rfl (e := (.iload_n 2, 1, [], .null)) rfl rfl (fun _ _ => rfl) rfl rfl
  rcases E.sw rfl (of := 49) (lw := 9) (hw := 11) (os := #[27, 34, 41]) (m := 27) (dt := 50) (ts := [28, 35, 42]) (w := .null) rfl with ⟨sw, E⟩ | ⟨n, tgt, sl, sx, sy, E⟩
  · have c1 := sw
    have E := E.ld (p := 51) (t := ri_isA) (i := 0) (n := 1) (v := .ref 2) rfl (e := (.aload_n 0, 1, [], .null)) rfl rfl (fun _ _ => rfl) rfl rfl
    have E := E.pu (p := 52) (lo' := (ri_as 0 [.ref 2, .ref 23, .int ke])) (st' := [.int 1, .ref 2]) rfl (e := (.iconst 1, 1, [], .null)) rfl rfl (fun _ _ => rfl)
    have E := E.pu (p := 54) (lo' := (ri_as 0 [.ref 2, .ref 23, .int ke])) (st' := [.int 60, .int 1, .ref 2]) rfl (e := (.bipush 60, 2, [], .null)) rfl rfl (fun _ _ => rfl)
    obtain ⟨v1, h2, X, E⟩ := E.cv (p := 57) (as := [.int 1, .int 60]) (b := 2) (r := []) rfl (x := 77) (m := 3) (w := .null) (j := 83) (n := 2) (t := 8) (u := [1090, 708, 707]) rfl rfl rfl
    obtain ⟨x4, rfl, ivk3, hNk3⟩ := ts_83 (d := d) X (by rw [hV]; exact iv)
    have Xk3 := X
    have E : eh_e _ _ 57 (ri_as 0 [.ref 2, .ref 23, .int ke]) [.int x4] h2 rs h' := E
    obtain ⟨r1, r2⟩ := E.reti rfl (m := 1) (ax := []) (w := .null) rfl
    exact Or.inl ⟨x4, h2, c1, Xk3, ivk3, (by rw [← hrs, r1]; rfl), ((congrArg eh_V r2).trans (rfl : eh_V h2 = eh_V h2)), ((congrArg eh_N r2).trans hNk3), ivk3⟩
  · match n, sx, sy with
    | 0, sx, sy =>
      have c5 : ke.toInt = 9 := by omega
      have sy : 28 = tgt := Option.some.inj sy
      subst sy
      have E := E.ld (p := 29) (t := ri_isA) (i := 0) (n := 1) (v := .ref 2) rfl (e := (.aload_n 0, 1, [], .null)) rfl rfl (fun _ _ => rfl) rfl rfl
      have E := E.ld (p := 30) (t := ri_isA) (i := 1) (n := 1) (v := .ref 23) rfl (e := (.aload_n 1, 1, [], .null)) rfl rfl (fun _ _ => rfl) rfl rfl
      have E := E.pu (p := 31) (lo' := (ri_as 0 [.ref 2, .ref 23, .int ke])) (st' := [.int 1, .ref 23, .ref 2]) rfl (e := (.iconst 1, 1, [], .null)) rfl rfl (fun _ _ => rfl)
      obtain ⟨v1, h6, X, E⟩ := E.cv (p := 34) (as := [.ref 23, .int 1]) (b := 2) (r := []) rfl (x := 73) (m := 3) (w := .null) (j := 84) (n := 2) (t := 8) (u := [1089, 698, 697]) rfl rfl rfl
      obtain ⟨x8, rfl, ivk7, hNk7⟩ := ts_84 (d := d) X (by rw [hV]; exact iv)
      have Xk7 := X
      have E : eh_e _ _ 34 (ri_as 0 [.ref 2, .ref 23, .int ke]) [.int x8] h6 rs h' := E
      obtain ⟨r1, r2⟩ := E.reti rfl (m := 1) (ax := []) (w := .null) rfl
      exact Or.inr (Or.inl ⟨x8, h6, c5, Xk7, ivk7, (by rw [← hrs, r1]; rfl), ((congrArg eh_V r2).trans (rfl : eh_V h6 = eh_V h6)), ((congrArg eh_N r2).trans hNk7), ivk7⟩)
    | 1, sx, sy =>
      have c9 : ke.toInt = 10 := by omega
      have sy : 35 = tgt := Option.some.inj sy
      subst sy
      have E := E.ld (p := 36) (t := ri_isA) (i := 0) (n := 1) (v := .ref 2) rfl (e := (.aload_n 0, 1, [], .null)) rfl rfl (fun _ _ => rfl) rfl rfl
      have E := E.ld (p := 37) (t := ri_isA) (i := 1) (n := 1) (v := .ref 23) rfl (e := (.aload_n 1, 1, [], .null)) rfl rfl (fun _ _ => rfl) rfl rfl
      have E := E.pu (p := 38) (lo' := (ri_as 0 [.ref 2, .ref 23, .int ke])) (st' := [.int 0, .ref 23, .ref 2]) rfl (e := (.iconst 0, 1, [], .null)) rfl rfl (fun _ _ => rfl)
      obtain ⟨v1, h10, X, E⟩ := E.cv (p := 41) (as := [.ref 23, .int 0]) (b := 2) (r := []) rfl (x := 73) (m := 3) (w := .null) (j := 84) (n := 2) (t := 8) (u := [1089, 698, 697]) rfl rfl rfl
      obtain ⟨x12, rfl, ivk11, hNk11⟩ := ts_84 (d := d) X (by rw [hV]; exact iv)
      have Xk11 := X
      have E : eh_e _ _ 41 (ri_as 0 [.ref 2, .ref 23, .int ke]) [.int x12] h10 rs h' := E
      obtain ⟨r1, r2⟩ := E.reti rfl (m := 1) (ax := []) (w := .null) rfl
      exact Or.inr (Or.inr (Or.inl ⟨x12, h10, c9, Xk11, ivk11, (by rw [← hrs, r1]; rfl), ((congrArg eh_V r2).trans (rfl : eh_V h10 = eh_V h10)), ((congrArg eh_N r2).trans hNk11), ivk11⟩))
    | 2, sx, sy =>
      have c13 : ke.toInt = 11 := by omega
      have sy : 42 = tgt := Option.some.inj sy
      subst sy
      have E := E.ld (p := 43) (t := ri_isA) (i := 0) (n := 1) (v := .ref 2) rfl (e := (.aload_n 0, 1, [], .null)) rfl rfl (fun _ _ => rfl) rfl rfl
      have E := E.pu (p := 44) (lo' := (ri_as 0 [.ref 2, .ref 23, .int ke])) (st' := [.int 0, .ref 2]) rfl (e := (.iconst 0, 1, [], .null)) rfl rfl (fun _ _ => rfl)
      have E := E.pu (p := 46) (lo' := (ri_as 0 [.ref 2, .ref 23, .int ke])) (st' := [.int 7, .int 0, .ref 2]) rfl (e := (.bipush 7, 2, [], .null)) rfl rfl (fun _ _ => rfl)
      obtain ⟨v1, h14, X, E⟩ := E.cv (p := 49) (as := [.int 0, .int 7]) (b := 2) (r := []) rfl (x := 77) (m := 3) (w := .null) (j := 83) (n := 2) (t := 8) (u := [1090, 708, 707]) rfl rfl rfl
      obtain ⟨x16, rfl, ivk15, hNk15⟩ := ts_83 (d := d) X (by rw [hV]; exact iv)
      have Xk15 := X
      have E : eh_e _ _ 49 (ri_as 0 [.ref 2, .ref 23, .int ke]) [.int x16] h14 rs h' := E
      obtain ⟨r1, r2⟩ := E.reti rfl (m := 1) (ax := []) (w := .null) rfl
      exact Or.inr (Or.inr (Or.inr (⟨x16, h14, c13, Xk15, ivk15, (by rw [← hrs, r1]; rfl), ((congrArg eh_V r2).trans (rfl : eh_V h14 = eh_V h14)), ((congrArg eh_N r2).trans hNk15), ivk15⟩)))
    | n + 3, sx, sy => cases sy
theorem ts_3 {d : Nat} {h h' : ri_H} {v : Option Value} {b : Nat → Int32} {n m : Nat} {ke : Int32} (E : ri_calE ri_md (d + 4) 3 [.ref 2, .ref 23, .int ke] h = some (v, h')) (iv : iS b n m (eh_V h)) : ∃ x : Int32, v = some (.int x) ∧ iS b n m (eh_V h') ∧ eh_N h' = eh_N h := by
  rcases zd_3 E rfl iv with ⟨_, _, _, _, _, r1, r2, r3, r4⟩ | ⟨_, _, _, _, _, r1, r2, r3, r4⟩ | ⟨_, _, _, _, _, r1, r2, r3, r4⟩ | ⟨_, _, _, _, _, r1, r2, r3, r4⟩
  · exact ⟨_, r1, by rw [r2]; exact r4, r3⟩
  · exact ⟨_, r1, by rw [r2]; exact r4, r3⟩
  · exact ⟨_, r1, by rw [r2]; exact r4, r3⟩
  · exact ⟨_, r1, by rw [r2]; exact r4, r3⟩
