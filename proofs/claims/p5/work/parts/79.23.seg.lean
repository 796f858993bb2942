theorem co_c {d : Nat} {h h' : ri_H} {v : Option Value} {G : eh_W} {w : Int32} (E : ri_calE ri_md (d + 1) 143 [.ref 0, .int w] h = some (v, h')) (hV : eh_V h = G) (ty : eh_ty tC G) : ((w.toInt < 0 ∨ 7 < w.toInt) ∧ v = some (.int (-1)) ∧ eh_V h' = G ∧ eh_N h' = eh_N h) ∨ (w.toInt = 0 ∧ v = some (.int (eh_i G 24 0)) ∧ eh_V h' = G ∧ eh_N h' = eh_N h) ∨ (w.toInt = 1 ∧ v = some (.int (eh_i G 24 1)) ∧ eh_V h' = G ∧ eh_N h' = eh_N h) ∨ (w.toInt = 2 ∧ v = some (.int (eh_i G 24 2)) ∧ eh_V h' = G ∧ eh_N h' = eh_N h) ∨ (w.toInt = 3 ∧ v = some (.int (eh_i G 25 0)) ∧ eh_V h' = G ∧ eh_N h' = eh_N h) ∨ (w.toInt = 4 ∧ v = some (.int (eh_i G 25 1)) ∧ eh_V h' = G ∧ eh_N h' = eh_N h) ∨ (w.toInt = 5 ∧ v = some (.int (eh_i G 25 2)) ∧ eh_V h' = G ∧ eh_N h' = eh_N h) ∨ (w.toInt = 6 ∧ v = some (.int (eh_i G 25 3)) ∧ eh_V h' = G ∧ eh_N h' = eh_N h) ∨ (w.toInt = 7 ∧ v = some (.int (eh_i G 0 1)) ∧ eh_V h' = G ∧ eh_N h' = eh_N h) := by
  obtain ⟨rs, hrs, E⟩ := eh_in E (q := md_143) rfl
  have E := E.ld (p := 1) (t := ri_isI) (i := 1) (n := 1) (v := .int w) rfl (e := (.iload_n 1, 1, [], .null)) rfl rfl (fun _ _ => rfl) rfl rfl
  rcases E.sw rfl (of := 122) (lw := 0) (hw := 7) (os := #[47, 57, 67, 77, 87, 97, 107, 117]) (m := 47) (dt := 123) (ts := [48, 58, 68, 78, 88, 98, 108, 118]) (w := .null) rfl with ⟨sw, E⟩ | ⟨n, tgt, sl, sx, sy, E⟩
  · have c1 := sw
    have E := E.pu (p := 124) (lo' := (ri_as 0 [.ref 0, .int w])) (st' := [.int (-1)]) rfl (e := (.iconst (-1), 1, [], .null)) rfl rfl (fun _ _ => rfl)
    obtain ⟨r1, r2⟩ := E.reti rfl (m := 1) (ax := []) (w := .null) rfl
    exact Or.inl ⟨c1, (by rw [← hrs, r1]; rfl), ((congrArg eh_V r2).trans hV), (congrArg eh_N r2)⟩
  · match n, sx, sy with
    | 0, sx, sy =>
      have c2 : w.toInt = 0 := by omega
      have sy : 48 = tgt := Option.some.inj sy
      subst sy
      have E := E.ld (p := 49) (t := ri_isA) (i := 0) (n := 1) (v := .ref 0) rfl (e := (.aload_n 0, 1, [], .null)) rfl rfl (fun _ _ => rfl) rfl rfl
      have E := E.gr (n := 23) (p := 52) rfl (x := 45) (m := 3) (w := .null) (t := 11) (i := 5) (u := 572) rfl rfl hV ty rfl
      have E := E.gr (n := 24) (p := 55) rfl (x := 276) (m := 3) (w := .null) (t := 4) (i := 0) (u := 258) rfl rfl hV ty rfl
      have E := E.pu (p := 56) (lo' := (ri_as 0 [.ref 0, .int w])) (st' := [.int 0, .ref 24]) rfl (e := (.iconst 0, 1, [], .null)) rfl rfl (fun _ _ => rfl)
      have E := E.ai (p := 57) (z := eh_i G 24 0) (n := 0) rfl (e := (.iaload, 1, [], .null)) rfl rfl (fun _ _ => rfl) rfl hV ty (by decide) rfl rfl
      obtain ⟨r1, r2⟩ := E.reti rfl (m := 1) (ax := []) (w := .null) rfl
      exact Or.inr (Or.inl ⟨c2, (by rw [← hrs, r1]; rfl), ((congrArg eh_V r2).trans hV), (congrArg eh_N r2)⟩)
    | 1, sx, sy =>
      have c3 : w.toInt = 1 := by omega
      have sy : 58 = tgt := Option.some.inj sy
      subst sy
      have E := E.ld (p := 59) (t := ri_isA) (i := 0) (n := 1) (v := .ref 0) rfl (e := (.aload_n 0, 1, [], .null)) rfl rfl (fun _ _ => rfl) rfl rfl
      have E := E.gr (n := 23) (p := 62) rfl (x := 45) (m := 3) (w := .null) (t := 11) (i := 5) (u := 572) rfl rfl hV ty rfl
      have E := E.gr (n := 24) (p := 65) rfl (x := 276) (m := 3) (w := .null) (t := 4) (i := 0) (u := 258) rfl rfl hV ty rfl
      have E := E.pu (p := 66) (lo' := (ri_as 0 [.ref 0, .int w])) (st' := [.int 1, .ref 24]) rfl (e := (.iconst 1, 1, [], .null)) rfl rfl (fun _ _ => rfl)
      have E := E.ai (p := 67) (z := eh_i G 24 1) (n := 1) rfl (e := (.iaload, 1, [], .null)) rfl rfl (fun _ _ => rfl) rfl hV ty (by decide) rfl rfl
      obtain ⟨r1, r2⟩ := E.reti rfl (m := 1) (ax := []) (w := .null) rfl
      exact Or.inr (Or.inr (Or.inl ⟨c3, (by rw [← hrs, r1]; rfl), ((congrArg eh_V r2).trans hV), (congrArg eh_N r2)⟩))
    | 2, sx, sy =>
      have c4 : w.toInt = 2 := by omega
      have sy : 68 = tgt := Option.some.inj sy
      subst sy
      have E := E.ld (p := 69) (t := ri_isA) (i := 0) (n := 1) (v := .ref 0) rfl (e := (.aload_n 0, 1, [], .null)) rfl rfl (fun _ _ => rfl) rfl rfl
      have E := E.gr (n := 23) (p := 72) rfl (x := 45) (m := 3) (w := .null) (t := 11) (i := 5) (u := 572) rfl rfl hV ty rfl
      have E := E.gr (n := 24) (p := 75) rfl (x := 276) (m := 3) (w := .null) (t := 4) (i := 0) (u := 258) rfl rfl hV ty rfl
      have E := E.pu (p := 76) (lo' := (ri_as 0 [.ref 0, .int w])) (st' := [.int 2, .ref 24]) rfl (e := (.iconst 2, 1, [], .null)) rfl rfl (fun _ _ => rfl)
      have E := E.ai (p := 77) (z := eh_i G 24 2) (n := 2) rfl (e := (.iaload, 1, [], .null)) rfl rfl (fun _ _ => rfl) rfl hV ty (by decide) rfl rfl
      obtain ⟨r1, r2⟩ := E.reti rfl (m := 1) (ax := []) (w := .null) rfl
      exact Or.inr (Or.inr (Or.inr (Or.inl ⟨c4, (by rw [← hrs, r1]; rfl), ((congrArg eh_V r2).trans hV), (congrArg eh_N r2)⟩)))
    | 3, sx, sy =>
      have c5 : w.toInt = 3 := by omega
      have sy : 78 = tgt := Option.some.inj sy
      subst sy
      have E := E.ld (p := 79) (t := ri_isA) (i := 0) (n := 1) (v := .ref 0) rfl (e := (.aload_n 0, 1, [], .null)) rfl rfl (fun _ _ => rfl) rfl rfl
      have E := E.gr (n := 23) (p := 82) rfl (x := 45) (m := 3) (w := .null) (t := 11) (i := 5) (u := 572) rfl rfl hV ty rfl
      have E := E.gr (n := 25) (p := 85) rfl (x := 273) (m := 3) (w := .null) (t := 4) (i := 2) (u := 268) rfl rfl hV ty rfl
      have E := E.pu (p := 86) (lo' := (ri_as 0 [.ref 0, .int w])) (st' := [.int 0, .ref 25]) rfl (e := (.iconst 0, 1, [], .null)) rfl rfl (fun _ _ => rfl)
      have E := E.ai (p := 87) (z := eh_i G 25 0) (n := 0) rfl (e := (.iaload, 1, [], .null)) rfl rfl (fun _ _ => rfl) rfl hV ty (by decide) rfl rfl
      obtain ⟨r1, r2⟩ := E.reti rfl (m := 1) (ax := []) (w := .null) rfl
      exact Or.inr (Or.inr (Or.inr (Or.inr (Or.inl ⟨c5, (by rw [← hrs, r1]; rfl), ((congrArg eh_V r2).trans hV), (congrArg eh_N r2)⟩))))
    | 4, sx, sy =>
      have c6 : w.toInt = 4 := by omega
      have sy : 88 = tgt := Option.some.inj sy
      subst sy
      have E := E.ld (p := 89) (t := ri_isA) (i := 0) (n := 1) (v := .ref 0) rfl (e := (.aload_n 0, 1, [], .null)) rfl rfl (fun _ _ => rfl) rfl rfl
      have E := E.gr (n := 23) (p := 92) rfl (x := 45) (m := 3) (w := .null) (t := 11) (i := 5) (u := 572) rfl rfl hV ty rfl
      have E := E.gr (n := 25) (p := 95) rfl (x := 273) (m := 3) (w := .null) (t := 4) (i := 2) (u := 268) rfl rfl hV ty rfl
      have E := E.pu (p := 96) (lo' := (ri_as 0 [.ref 0, .int w])) (st' := [.int 1, .ref 25]) rfl (e := (.iconst 1, 1, [], .null)) rfl rfl (fun _ _ => rfl)
      have E := E.ai (p := 97) (z := eh_i G 25 1) (n := 1) rfl (e := (.iaload, 1, [], .null)) rfl rfl (fun _ _ => rfl) rfl hV ty (by decide) rfl rfl
      obtain ⟨r1, r2⟩ := E.reti rfl (m := 1) (ax := []) (w := .null) rfl
      exact Or.inr (Or.inr (Or.inr (Or.inr (Or.inr (Or.inl ⟨c6, (by rw [← hrs, r1]; rfl), ((congrArg eh_V r2).trans hV), (congrArg eh_N r2)⟩)))))
    | 5, sx, sy =>
      have c7 : w.toInt = 5 := by omega
      have sy : 98 = tgt := Option.some.inj sy
      subst sy
      have E := E.ld (p := 99) (t := ri_isA) (i := 0) (n := 1) (v := .ref 0) rfl (e := (.aload_n 0, 1, [], .null)) rfl rfl (fun _ _ => rfl) rfl rfl
      have E := E.gr (n := 23) (p := 102) rfl (x := 45) (m := 3) (w := .null) (t := 11) (i := 5) (u := 572) rfl rfl hV ty rfl
      have E := E.gr (n := 25) (p := 105) rfl (x := 273) (m := 3) (w := .null) (t := 4) (i := 2) (u := 268) rfl rfl hV ty rfl
      have E := E.pu (p := 106) (lo' := (ri_as 0 [.ref 0, .int w])) (st' := [.int 2, .ref 25]) rfl (e := (.iconst 2, 1, [], .null)) rfl rfl (fun _ _ => rfl)
      have E := E.ai (p := 107) (z := eh_i G 25 2) (n := 2) rfl (e := (.iaload, 1, [], .null)) rfl rfl (fun _ _ => rfl) rfl hV ty (by decide) rfl rfl
      obtain ⟨r1, r2⟩ := E.reti rfl (m := 1) (ax := []) (w := .null) rfl
      exact Or.inr (Or.inr (Or.inr (Or.inr (Or.inr (Or.inr (Or.inl ⟨c7, (by rw [← hrs, r1]; rfl), ((congrArg eh_V r2).trans hV), (congrArg eh_N r2)⟩))))))
    | 6, sx, sy =>
      have c8 : w.toInt = 6 := by omega
      have sy : 108 = tgt := Option.some.inj sy
      subst sy
      have E := E.ld (p := 109) (t := ri_isA) (i := 0) (n := 1) (v := .ref 0) rfl (e := (.aload_n 0, 1, [], .null)) rfl rfl (fun _ _ => rfl) rfl rfl
      have E := E.gr (n := 23) (p := 112) rfl (x := 45) (m := 3) (w := .null) (t := 11) (i := 5) (u := 572) rfl rfl hV ty rfl
      have E := E.gr (n := 25) (p := 115) rfl (x := 273) (m := 3) (w := .null) (t := 4) (i := 2) (u := 268) rfl rfl hV ty rfl
      have E := E.pu (p := 116) (lo' := (ri_as 0 [.ref 0, .int w])) (st' := [.int 3, .ref 25]) rfl (e := (.iconst 3, 1, [], .null)) rfl rfl (fun _ _ => rfl)
      have E := E.ai (p := 117) (z := eh_i G 25 3) (n := 3) rfl (e := (.iaload, 1, [], .null)) rfl rfl (fun _ _ => rfl) rfl hV ty (by decide) rfl rfl
      obtain ⟨r1, r2⟩ := E.reti rfl (m := 1) (ax := []) (w := .null) rfl
      exact Or.inr (Or.inr (Or.inr (Or.inr (Or.inr (Or.inr (Or.inr (Or.inl ⟨c8, (by rw [← hrs, r1]; rfl), ((congrArg eh_V r2).trans hV), (congrArg eh_N r2)⟩)))))))
    | 7, sx, sy =>
      have c9 : w.toInt = 7 := by omega
      have sy : 118 = tgt := Option.some.inj sy
      subst sy
      have E := E.ld (p := 119) (t := ri_isA) (i := 0) (n := 1) (v := .ref 0) rfl (e := (.aload_n 0, 1, [], .null)) rfl rfl (fun _ _ => rfl) rfl rfl
      have E := E.gi (y := eh_i G 0 1) (p := 122) rfl (x := 13) (m := 3) (w := .null) (t := 11) (i := 1) (u := 568) rfl rfl hV ty rfl rfl
      obtain ⟨r1, r2⟩ := E.reti rfl (m := 1) (ax := []) (w := .null) rfl
      exact Or.inr (Or.inr (Or.inr (Or.inr (Or.inr (Or.inr (Or.inr (Or.inr (⟨c9, (by rw [← hrs, r1]; rfl), ((congrArg eh_V r2).trans hV), (congrArg eh_N r2)⟩))))))))
    | n + 8, sx, sy => cases sy
theorem co_m {d : Nat} {h h' : ri_H} {v : Option Value} {G : eh_W} {w : Int32} (E : ri_calE ri_md (d + 2) 254 [.ref 0, .int w] h = some (v, h')) (hV : eh_V h = G) (ty : eh_ty tM G) : (¬ (w = 7) ∧ w.toInt < 0 ∧ v = some (.int (-1)) ∧ eh_V h' = eh_u G 0 0 (.int 0) ∧ eh_N h' = eh_N h) ∨ (¬ (w = 7) ∧ ¬ (w.toInt < 0) ∧ 6 < w.toInt ∧ v = some (.int (-1)) ∧ eh_V h' = eh_u G 0 0 (.int 0) ∧ eh_N h' = eh_N h) ∨ (¬ (w = 7) ∧ ¬ (w.toInt < 0) ∧ ¬ (6 < w.toInt) ∧ v = some (.int (eh_i G 2 (w).toNatClampNeg)) ∧ eh_V h' = eh_u G 0 0 (.int 0) ∧ eh_N h' = eh_N h) ∨ (w = 7 ∧ v = some (.int (eh_i G 0 2)) ∧ eh_V h' = eh_u G 0 0 (.int 0) ∧ eh_N h' = eh_N h) := by
  obtain ⟨rs, hrs, E⟩ := eh_in E (q := md_254) rfl
  have E := E.ld (p := 1) (t := ri_isA) (i := 0) (n := 1) (v := .ref 0) rfl (e := (.aload_n 0, 1, [], .null)) rfl rfl (fun _ _ => rfl) rfl rfl
  have E := E.pu (p := 2) (lo' := (ri_as 0 [.ref 0, .int w])) (st' := [.int 0, .ref 0]) rfl (e := (.iconst 0, 1, [], .null)) rfl rfl (fun _ _ => rfl)
  obtain ⟨h1, hV2, hN3, E⟩ := E.gp (p := 5) rfl (x := 1) (m := 3) (w := .null) (t := 12) (i := 0) (u := 1324) (y := 0) rfl rfl hV
  have E := E.ld (p := 6) (t := ri_isI) (i := 1) (n := 1) (v := .int w) rfl (e := (.iload_n 1, 1, [], .null)) rfl rfl (fun _ _ => rfl) rfl rfl
  have E := E.pu (p := 8) (lo' := (ri_as 0 [.ref 0, .int w])) (st' := [.int 7, .int w]) rfl (e := (.bipush 7, 2, [], .null)) rfl rfl (fun _ _ => rfl)
  rcases eh_q1 (E.br (p := 11) (c := 1) (tgt := 18) (a := w) (b := 7) (st' := []) rfl (e := (.if_icmp .ne 10, 3, [18], .null)) rfl rfl (fun _ _ => rfl) rfl) with ⟨c4, E⟩ | ⟨c4, E⟩
  · skip
    have E := E.ld (p := 19) (t := ri_isI) (i := 1) (n := 1) (v := .int w) rfl (e := (.iload_n 1, 1, [], .null)) rfl rfl (fun _ _ => rfl) rfl rfl
    have E := E.pu (p := 20) (lo' := (ri_as 0 [.ref 0, .int w])) (st' := [.int 0, .int w]) rfl (e := (.iconst 0, 1, [], .null)) rfl rfl (fun _ _ => rfl)
    have E := E.pu (p := 22) (lo' := (ri_as 0 [.ref 0, .int w])) (st' := [.int 6, .int 0, .int w]) rfl (e := (.bipush 6, 2, [], .null)) rfl rfl (fun _ _ => rfl)
    obtain ⟨v1, h5, X, E⟩ := E.cs (p := 25) (as := [.int w, .int 0, .int 6]) (r := []) rfl (x := 177) (m := 3) (w := .null) (j := 149) (n := 3) (t := 0) (u := [1519, 1520]) rfl rfl rfl
    rcases sp_149 (d := d) X hV2 (ty.ui rfl) with ⟨c6, rfl, hV7, hN8⟩ | ⟨c9, c10, rfl, hV11, hN12⟩ | ⟨c13, c14, rfl, hV15, hN16⟩
    · skip
      have c6 : w.toInt < 0 := c6
      have E : eh_e _ _ 25 (ri_as 0 [.ref 0, .int w]) [.int 0] _ rs h' := E
      have E := E.brt (c := 0) (tgt := 37) (a := 0) (b := 0) (st' := []) rfl (e := (.ifCond .eq 12, 3, [37], .null)) rfl rfl (fun _ _ => rfl) (by decide)
      have E := E.pu (p := 38) (lo' := (ri_as 0 [.ref 0, .int w])) (st' := [.int (-1)]) rfl (e := (.iconst (-1), 1, [], .null)) rfl rfl (fun _ _ => rfl)
      obtain ⟨r1, r2⟩ := E.reti rfl (m := 1) (ax := []) (w := .null) rfl
      exact Or.inl ⟨c4, c6, (by rw [← hrs, r1]; rfl), ((congrArg eh_V r2).trans hV7), ((congrArg eh_N r2).trans (hN8.trans hN3))⟩
    · skip
      have c9 : ¬ (w.toInt < 0) := c9
      have c10 : 6 < w.toInt := c10
      have E : eh_e _ _ 25 (ri_as 0 [.ref 0, .int w]) [.int 0] _ rs h' := E
      have E := E.brt (c := 0) (tgt := 37) (a := 0) (b := 0) (st' := []) rfl (e := (.ifCond .eq 12, 3, [37], .null)) rfl rfl (fun _ _ => rfl) (by decide)
      have E := E.pu (p := 38) (lo' := (ri_as 0 [.ref 0, .int w])) (st' := [.int (-1)]) rfl (e := (.iconst (-1), 1, [], .null)) rfl rfl (fun _ _ => rfl)
      obtain ⟨r1, r2⟩ := E.reti rfl (m := 1) (ax := []) (w := .null) rfl
      exact Or.inr (Or.inl ⟨c4, c9, c10, (by rw [← hrs, r1]; rfl), ((congrArg eh_V r2).trans hV11), ((congrArg eh_N r2).trans (hN12.trans hN3))⟩)
    · skip
      have c13 : ¬ (w.toInt < 0) := c13
      have c14 : ¬ (6 < w.toInt) := c14
      have E : eh_e _ _ 25 (ri_as 0 [.ref 0, .int w]) [.int 1] _ rs h' := E
      have E := E.brf (p := 28) (c := 0) (tgt := 37) (a := 1) (b := 0) (st' := []) rfl (e := (.ifCond .eq 12, 3, [37], .null)) rfl rfl (fun _ _ => rfl) (by decide) rfl
      have E := E.ld (p := 29) (t := ri_isA) (i := 0) (n := 1) (v := .ref 0) rfl (e := (.aload_n 0, 1, [], .null)) rfl rfl (fun _ _ => rfl) rfl rfl
      have E := E.gr (n := 2) (p := 32) rfl (x := 33) (m := 3) (w := .null) (t := 12) (i := 6) (u := 1330) rfl rfl hV15 (ty.ui rfl) rfl
      have E := E.ld (p := 33) (t := ri_isI) (i := 1) (n := 1) (v := .int w) rfl (e := (.iload_n 1, 1, [], .null)) rfl rfl (fun _ _ => rfl) rfl rfl
      have E := E.ai (p := 34) (z := eh_i G 2 (w).toNatClampNeg) (n := (w).toNatClampNeg) rfl (e := (.iaload, 1, [], .null)) rfl rfl (fun _ _ => rfl) rfl hV15 (ty.ui rfl) rfl rfl rfl
      have E := E.pu (p := 38) (lo' := (ri_as 0 [.ref 0, .int w])) (st' := [.int (eh_i G 2 (w).toNatClampNeg)]) rfl (e := (.goto 4, 3, [38], .null)) rfl rfl (fun _ _ => rfl)
      obtain ⟨r1, r2⟩ := E.reti rfl (m := 1) (ax := []) (w := .null) rfl
      exact Or.inr (Or.inr (Or.inl ⟨c4, c13, c14, (by rw [← hrs, r1]; rfl), ((congrArg eh_V r2).trans hV15), ((congrArg eh_N r2).trans (hN16.trans hN3))⟩))
  · skip
    have E := E.ld (p := 12) (t := ri_isA) (i := 0) (n := 1) (v := .ref 0) rfl (e := (.aload_n 0, 1, [], .null)) rfl rfl (fun _ _ => rfl) rfl rfl
    have E := E.gi (y := eh_i G 0 2) (p := 15) rfl (x := 7) (m := 3) (w := .null) (t := 12) (i := 2) (u := 1326) rfl rfl hV2 (ty.ui rfl) rfl rfl
    have E := E.pu (p := 38) (lo' := (ri_as 0 [.ref 0, .int w])) (st' := [.int (eh_i G 0 2)]) rfl (e := (.goto 23, 3, [38], .null)) rfl rfl (fun _ _ => rfl)
    obtain ⟨r1, r2⟩ := E.reti rfl (m := 1) (ax := []) (w := .null) rfl
    exact Or.inr (Or.inr (Or.inr (⟨c4, (by rw [← hrs, r1]; rfl), ((congrArg eh_V r2).trans hV2), ((congrArg eh_N r2).trans hN3)⟩)))
