theorem imc_lo {d : Nat} {h h' : ri_H} {v : Option Value} {G : eh_W} {w : Int32} (E : ri_calE ri_md (d + 1) 141 [.ref 0, .int w] h = some (v, h')) (hV : eh_V h = G) (ty : eh_ty tC G) (k0 : w.toInt < 0) (hl : (eh_N h).take 209 = NCl) : v = some (.int 0) ∧ eh_V h' = G ∧ eh_N h' = eh_N h := by
  obtain ⟨rs, hrs, E⟩ := eh_in E (q := md_141) rfl
  have E := E.ld (p := 1) (t := ri_isI) (i := 1) (n := 1) (v := .int w) rfl (e := (.iload_n 1, 1, [], .null)) rfl rfl (fun _ _ => rfl) rfl rfl
  have E := (eh_r2 rfl (show (0 : Int32).toInt = 0 by decide) (E.br (p := 4) (c := 2) (tgt := 13) (a := w) (b := 0) (st' := []) rfl (e := (.ifCond .lt 12, 3, [13], .null)) rfl rfl (fun _ _ => rfl) rfl)).elim (fun y => y.2) (fun y => absurd k0 y.1)
  have E := E.pu (p := 14) (lo' := (ri_as 0 [.ref 0, .int w])) (st' := [.int 0]) rfl (e := (.iconst 0, 1, [], .null)) rfl rfl (fun _ _ => rfl)
  obtain ⟨r1, r2⟩ := E.reti rfl (m := 1) (ax := []) (w := .null) rfl
  exact ⟨(by rw [← hrs, r1]; rfl), ((congrArg eh_V r2).trans hV), (congrArg eh_N r2)⟩
theorem imc_hi {d : Nat} {h h' : ri_H} {v : Option Value} {G : eh_W} {w : Int32} (E : ri_calE ri_md (d + 1) 141 [.ref 0, .int w] h = some (v, h')) (hV : eh_V h = G) (ty : eh_ty tC G) (k0 : ¬ w.toInt < 0) (k1 : ¬ w.toInt < 2) (k2 : 1 < w.toInt) (hl : (eh_N h).take 209 = NCl) : v = some (.int 0) ∧ eh_V h' = G ∧ eh_N h' = eh_N h := by
  obtain ⟨rs, hrs, E⟩ := eh_in E (q := md_141) rfl
  have E := E.ld (p := 1) (t := ri_isI) (i := 1) (n := 1) (v := .int w) rfl (e := (.iload_n 1, 1, [], .null)) rfl rfl (fun _ _ => rfl) rfl rfl
  have E := (eh_r2 rfl (show (0 : Int32).toInt = 0 by decide) (E.br (p := 4) (c := 2) (tgt := 13) (a := w) (b := 0) (st' := []) rfl (e := (.ifCond .lt 12, 3, [13], .null)) rfl rfl (fun _ _ => rfl) rfl)).elim (fun y => absurd y.1 k0) (fun y => y.2)
  have E := E.ld (p := 5) (t := ri_isI) (i := 1) (n := 1) (v := .int w) rfl (e := (.iload_n 1, 1, [], .null)) rfl rfl (fun _ _ => rfl) rfl rfl
  have E := E.ld (p := 6) (t := ri_isA) (i := 0) (n := 1) (v := .ref 0) rfl (e := (.aload_n 0, 1, [], .null)) rfl rfl (fun _ _ => rfl) rfl rfl
  have E := E.gr (n := 142) (p := 9) rfl (x := 76) (m := 3) (w := .null) (t := 11) (i := 10) (u := 577) rfl rfl hV ty rfl
  have E := E.an (p := 10) (n := 2) rfl (m := 1) (ax := []) (w := .null) rfl (by rw [(rfl : eh_N h = eh_N h)]; exact (nc_at hl (k := 142) rfl)) rfl
  have E : eh_e _ _ 10 (ri_as 0 [.ref 0, .int w]) [.int 2, .int w] _ rs h' := E
  have E := (eh_r2 rfl (show (2 : Int32).toInt = 2 by decide) (E.br (p := 13) (c := 2) (tgt := 15) (a := w) (b := 2) (st' := []) rfl (e := (.if_icmp .lt 5, 3, [15], .null)) rfl rfl (fun _ _ => rfl) rfl)).elim (fun y => absurd y.1 k1) (fun y => y.2)
  have E := E.pu (p := 14) (lo' := (ri_as 0 [.ref 0, .int w])) (st' := [.int 0]) rfl (e := (.iconst 0, 1, [], .null)) rfl rfl (fun _ _ => rfl)
  obtain ⟨r1, r2⟩ := E.reti rfl (m := 1) (ax := []) (w := .null) rfl
  exact ⟨(by rw [← hrs, r1]; rfl), ((congrArg eh_V r2).trans hV), (congrArg eh_N r2)⟩
theorem rec_lo {d : Nat} {h h' : ri_H} {v : Option Value} {G : eh_W} {w : Int32} (E : ri_calE ri_md (d + 1) 142 [.ref 0, .int w] h = some (v, h')) (hV : eh_V h = G) (ty : eh_ty tC G) (k0 : w.toInt < 0) (hl : (eh_N h).take 209 = NCl) : v = some (.int 0) ∧ eh_V h' = G ∧ eh_N h' = eh_N h := by
  obtain ⟨rs, hrs, E⟩ := eh_in E (q := md_142) rfl
  have E := E.ld (p := 1) (t := ri_isI) (i := 1) (n := 1) (v := .int w) rfl (e := (.iload_n 1, 1, [], .null)) rfl rfl (fun _ _ => rfl) rfl rfl
  have E := (eh_r2 rfl (show (0 : Int32).toInt = 0 by decide) (E.br (p := 4) (c := 2) (tgt := 25) (a := w) (b := 0) (st' := []) rfl (e := (.ifCond .lt 24, 3, [25], .null)) rfl rfl (fun _ _ => rfl) rfl)).elim (fun y => y.2) (fun y => absurd k0 y.1)
  have E := E.pu (p := 26) (lo' := (ri_as 0 [.ref 0, .int w])) (st' := [.int 0]) rfl (e := (.iconst 0, 1, [], .null)) rfl rfl (fun _ _ => rfl)
  obtain ⟨r1, r2⟩ := E.reti rfl (m := 1) (ax := []) (w := .null) rfl
  exact ⟨(by rw [← hrs, r1]; rfl), ((congrArg eh_V r2).trans hV), (congrArg eh_N r2)⟩
theorem rec_hi {d : Nat} {h h' : ri_H} {v : Option Value} {G : eh_W} {w : Int32} (E : ri_calE ri_md (d + 1) 142 [.ref 0, .int w] h = some (v, h')) (hV : eh_V h = G) (ty : eh_ty tC G) (k0 : ¬ w.toInt < 0) (k1 : ¬ w.toInt < 2) (k2 : 1 < w.toInt) (hl : (eh_N h).take 209 = NCl) : v = some (.int 0) ∧ eh_V h' = G ∧ eh_N h' = eh_N h := by
  obtain ⟨rs, hrs, E⟩ := eh_in E (q := md_142) rfl
  have E := E.ld (p := 1) (t := ri_isI) (i := 1) (n := 1) (v := .int w) rfl (e := (.iload_n 1, 1, [], .null)) rfl rfl (fun _ _ => rfl) rfl rfl
  have E := (eh_r2 rfl (show (0 : Int32).toInt = 0 by decide) (E.br (p := 4) (c := 2) (tgt := 25) (a := w) (b := 0) (st' := []) rfl (e := (.ifCond .lt 24, 3, [25], .null)) rfl rfl (fun _ _ => rfl) rfl)).elim (fun y => absurd y.1 k0) (fun y => y.2)
  have E := E.ld (p := 5) (t := ri_isI) (i := 1) (n := 1) (v := .int w) rfl (e := (.iload_n 1, 1, [], .null)) rfl rfl (fun _ _ => rfl) rfl rfl
  have E := E.ld (p := 6) (t := ri_isA) (i := 0) (n := 1) (v := .ref 0) rfl (e := (.aload_n 0, 1, [], .null)) rfl rfl (fun _ _ => rfl) rfl rfl
  have E := E.gr (n := 142) (p := 9) rfl (x := 76) (m := 3) (w := .null) (t := 11) (i := 10) (u := 577) rfl rfl hV ty rfl
  have E := E.an (p := 10) (n := 2) rfl (m := 1) (ax := []) (w := .null) rfl (by rw [(rfl : eh_N h = eh_N h)]; exact (nc_at hl (k := 142) rfl)) rfl
  have E : eh_e _ _ 10 (ri_as 0 [.ref 0, .int w]) [.int 2, .int w] _ rs h' := E
  have E := (eh_r3 rfl (show (2 : Int32).toInt = 2 by decide) (E.br (p := 13) (c := 3) (tgt := 25) (a := w) (b := 2) (st' := []) rfl (e := (.if_icmp .ge 15, 3, [25], .null)) rfl rfl (fun _ _ => rfl) rfl)).elim (fun y => y.2) (fun y => absurd y.1 k1)
  have E := E.pu (p := 26) (lo' := (ri_as 0 [.ref 0, .int w])) (st' := [.int 0]) rfl (e := (.iconst 0, 1, [], .null)) rfl rfl (fun _ _ => rfl)
  obtain ⟨r1, r2⟩ := E.reti rfl (m := 1) (ax := []) (w := .null) rfl
  exact ⟨(by rw [← hrs, r1]; rfl), ((congrArg eh_V r2).trans hV), (congrArg eh_N r2)⟩
theorem imm_lo {d : Nat} {h h' : ri_H} {v : Option Value} {G : eh_W} {w : Int32} (E : ri_calE ri_md (d + 2) 252 [.ref 0, .int w] h = some (v, h')) (hV : eh_V h = G) (ty : eh_ty tM G) (k0 : w.toInt < 0) : v = some (.int 0) ∧ eh_V h' = eh_u G 0 0 (.int 0) ∧ eh_N h' = eh_N h := by
  obtain ⟨rs, hrs, E⟩ := eh_in E (q := md_252) rfl
  have E := E.ld (p := 1) (t := ri_isA) (i := 0) (n := 1) (v := .ref 0) rfl (e := (.aload_n 0, 1, [], .null)) rfl rfl (fun _ _ => rfl) rfl rfl
  have E := E.pu (p := 2) (lo' := (ri_as 0 [.ref 0, .int w])) (st' := [.int 0, .ref 0]) rfl (e := (.iconst 0, 1, [], .null)) rfl rfl (fun _ _ => rfl)
  obtain ⟨h1, hV2, hN3, E⟩ := E.gp (p := 5) rfl (x := 1) (m := 3) (w := .null) (t := 12) (i := 0) (u := 1324) (y := 0) rfl rfl hV
  have E := E.ld (p := 6) (t := ri_isI) (i := 1) (n := 1) (v := .int w) rfl (e := (.iload_n 1, 1, [], .null)) rfl rfl (fun _ _ => rfl) rfl rfl
  have E := E.pu (p := 7) (lo' := (ri_as 0 [.ref 0, .int w])) (st' := [.int 0, .int w]) rfl (e := (.iconst 0, 1, [], .null)) rfl rfl (fun _ _ => rfl)
  have E := E.pu (p := 8) (lo' := (ri_as 0 [.ref 0, .int w])) (st' := [.int 1, .int 0, .int w]) rfl (e := (.iconst 1, 1, [], .null)) rfl rfl (fun _ _ => rfl)
  obtain ⟨v1, h4, X, E⟩ := E.cs (p := 11) (as := [.int w, .int 0, .int 1]) (r := []) rfl (x := 177) (m := 3) (w := .null) (j := 149) (n := 3) (t := 0) (u := [1519, 1520]) rfl rfl rfl
  rcases sp_149 (d := d) X hV2 (ty.ui rfl) with ⟨c5, rfl, hV6, hN7⟩ | ⟨c8, c9, rfl, hV10, hN11⟩ | ⟨c12, c13, rfl, hV14, hN15⟩
  · skip
    have E : eh_e _ _ 11 (ri_as 0 [.ref 0, .int w]) [.int 0] _ rs h' := E
    have E := E.brf (p := 14) (c := 1) (tgt := 16) (a := 0) (b := 0) (st' := []) rfl (e := (.ifCond .ne 5, 3, [16], .null)) rfl rfl (fun _ _ => rfl) (by decide) rfl
    have E := E.pu (p := 15) (lo' := (ri_as 0 [.ref 0, .int w])) (st' := [.int 0]) rfl (e := (.iconst 0, 1, [], .null)) rfl rfl (fun _ _ => rfl)
    obtain ⟨r1, r2⟩ := E.reti rfl (m := 1) (ax := []) (w := .null) rfl
    exact ⟨(by rw [← hrs, r1]; rfl), ((congrArg eh_V r2).trans hV6), ((congrArg eh_N r2).trans (hN7.trans hN3))⟩
  · skip
    exact absurd k0 c8
  · skip
    exact absurd k0 c12
theorem imm_hi {d : Nat} {h h' : ri_H} {v : Option Value} {G : eh_W} {w : Int32} (E : ri_calE ri_md (d + 2) 252 [.ref 0, .int w] h = some (v, h')) (hV : eh_V h = G) (ty : eh_ty tM G) (k0 : ¬ w.toInt < 0) (k1 : ¬ w.toInt < 2) (k2 : 1 < w.toInt) : v = some (.int 0) ∧ eh_V h' = eh_u G 0 0 (.int 0) ∧ eh_N h' = eh_N h := by
  obtain ⟨rs, hrs, E⟩ := eh_in E (q := md_252) rfl
  have E := E.ld (p := 1) (t := ri_isA) (i := 0) (n := 1) (v := .ref 0) rfl (e := (.aload_n 0, 1, [], .null)) rfl rfl (fun _ _ => rfl) rfl rfl
  have E := E.pu (p := 2) (lo' := (ri_as 0 [.ref 0, .int w])) (st' := [.int 0, .ref 0]) rfl (e := (.iconst 0, 1, [], .null)) rfl rfl (fun _ _ => rfl)
  obtain ⟨h1, hV2, hN3, E⟩ := E.gp (p := 5) rfl (x := 1) (m := 3) (w := .null) (t := 12) (i := 0) (u := 1324) (y := 0) rfl rfl hV
  have E := E.ld (p := 6) (t := ri_isI) (i := 1) (n := 1) (v := .int w) rfl (e := (.iload_n 1, 1, [], .null)) rfl rfl (fun _ _ => rfl) rfl rfl
  have E := E.pu (p := 7) (lo' := (ri_as 0 [.ref 0, .int w])) (st' := [.int 0, .int w]) rfl (e := (.iconst 0, 1, [], .null)) rfl rfl (fun _ _ => rfl)
  have E := E.pu (p := 8) (lo' := (ri_as 0 [.ref 0, .int w])) (st' := [.int 1, .int 0, .int w]) rfl (e := (.iconst 1, 1, [], .null)) rfl rfl (fun _ _ => rfl)
  obtain ⟨v1, h4, X, E⟩ := E.cs (p := 11) (as := [.int w, .int 0, .int 1]) (r := []) rfl (x := 177) (m := 3) (w := .null) (j := 149) (n := 3) (t := 0) (u := [1519, 1520]) rfl rfl rfl
  rcases sp_149 (d := d) X hV2 (ty.ui rfl) with ⟨c5, rfl, hV6, hN7⟩ | ⟨c8, c9, rfl, hV10, hN11⟩ | ⟨c12, c13, rfl, hV14, hN15⟩
  · skip
    exact absurd c5 k0
  · skip
    have E : eh_e _ _ 11 (ri_as 0 [.ref 0, .int w]) [.int 0] _ rs h' := E
    have E := E.brf (p := 14) (c := 1) (tgt := 16) (a := 0) (b := 0) (st' := []) rfl (e := (.ifCond .ne 5, 3, [16], .null)) rfl rfl (fun _ _ => rfl) (by decide) rfl
    have E := E.pu (p := 15) (lo' := (ri_as 0 [.ref 0, .int w])) (st' := [.int 0]) rfl (e := (.iconst 0, 1, [], .null)) rfl rfl (fun _ _ => rfl)
    obtain ⟨r1, r2⟩ := E.reti rfl (m := 1) (ax := []) (w := .null) rfl
    exact ⟨(by rw [← hrs, r1]; rfl), ((congrArg eh_V r2).trans hV10), ((congrArg eh_N r2).trans (hN11.trans hN3))⟩
  · skip
    exact absurd k2 c13
theorem rem_lo {d : Nat} {h h' : ri_H} {v : Option Value} {G : eh_W} {w : Int32} (E : ri_calE ri_md (d + 2) 253 [.ref 0, .int w] h = some (v, h')) (hV : eh_V h = G) (ty : eh_ty tM G) (k0 : w.toInt < 0) : v = some (.int 0) ∧ eh_V h' = eh_u G 0 0 (.int 0) ∧ eh_N h' = eh_N h := by
  obtain ⟨rs, hrs, E⟩ := eh_in E (q := md_253) rfl
  have E := E.ld (p := 1) (t := ri_isA) (i := 0) (n := 1) (v := .ref 0) rfl (e := (.aload_n 0, 1, [], .null)) rfl rfl (fun _ _ => rfl) rfl rfl
  have E := E.pu (p := 2) (lo' := (ri_as 0 [.ref 0, .int w])) (st' := [.int 0, .ref 0]) rfl (e := (.iconst 0, 1, [], .null)) rfl rfl (fun _ _ => rfl)
  obtain ⟨h1, hV2, hN3, E⟩ := E.gp (p := 5) rfl (x := 1) (m := 3) (w := .null) (t := 12) (i := 0) (u := 1324) (y := 0) rfl rfl hV
  have E := E.ld (p := 6) (t := ri_isI) (i := 1) (n := 1) (v := .int w) rfl (e := (.iload_n 1, 1, [], .null)) rfl rfl (fun _ _ => rfl) rfl rfl
  have E := E.pu (p := 7) (lo' := (ri_as 0 [.ref 0, .int w])) (st' := [.int 0, .int w]) rfl (e := (.iconst 0, 1, [], .null)) rfl rfl (fun _ _ => rfl)
  have E := E.pu (p := 8) (lo' := (ri_as 0 [.ref 0, .int w])) (st' := [.int 1, .int 0, .int w]) rfl (e := (.iconst 1, 1, [], .null)) rfl rfl (fun _ _ => rfl)
  obtain ⟨v1, h4, X, E⟩ := E.cs (p := 11) (as := [.int w, .int 0, .int 1]) (r := []) rfl (x := 177) (m := 3) (w := .null) (j := 149) (n := 3) (t := 0) (u := [1519, 1520]) rfl rfl rfl
  rcases sp_149 (d := d) X hV2 (ty.ui rfl) with ⟨c5, rfl, hV6, hN7⟩ | ⟨c8, c9, rfl, hV10, hN11⟩ | ⟨c12, c13, rfl, hV14, hN15⟩
  · skip
    have E : eh_e _ _ 11 (ri_as 0 [.ref 0, .int w]) [.int 0] _ rs h' := E
    have E := E.brt (c := 0) (tgt := 23) (a := 0) (b := 0) (st' := []) rfl (e := (.ifCond .eq 12, 3, [23], .null)) rfl rfl (fun _ _ => rfl) (by decide)
    have E := E.pu (p := 24) (lo' := (ri_as 0 [.ref 0, .int w])) (st' := [.int 0]) rfl (e := (.iconst 0, 1, [], .null)) rfl rfl (fun _ _ => rfl)
    obtain ⟨r1, r2⟩ := E.reti rfl (m := 1) (ax := []) (w := .null) rfl
    exact ⟨(by rw [← hrs, r1]; rfl), ((congrArg eh_V r2).trans hV6), ((congrArg eh_N r2).trans (hN7.trans hN3))⟩
  · skip
    exact absurd k0 c8
  · skip
    exact absurd k0 c12
theorem rem_hi {d : Nat} {h h' : ri_H} {v : Option Value} {G : eh_W} {w : Int32} (E : ri_calE ri_md (d + 2) 253 [.ref 0, .int w] h = some (v, h')) (hV : eh_V h = G) (ty : eh_ty tM G) (k0 : ¬ w.toInt < 0) (k1 : ¬ w.toInt < 2) (k2 : 1 < w.toInt) : v = some (.int 0) ∧ eh_V h' = eh_u G 0 0 (.int 0) ∧ eh_N h' = eh_N h := by
  obtain ⟨rs, hrs, E⟩ := eh_in E (q := md_253) rfl
  have E := E.ld (p := 1) (t := ri_isA) (i := 0) (n := 1) (v := .ref 0) rfl (e := (.aload_n 0, 1, [], .null)) rfl rfl (fun _ _ => rfl) rfl rfl
  have E := E.pu (p := 2) (lo' := (ri_as 0 [.ref 0, .int w])) (st' := [.int 0, .ref 0]) rfl (e := (.iconst 0, 1, [], .null)) rfl rfl (fun _ _ => rfl)
  obtain ⟨h1, hV2, hN3, E⟩ := E.gp (p := 5) rfl (x := 1) (m := 3) (w := .null) (t := 12) (i := 0) (u := 1324) (y := 0) rfl rfl hV
  have E := E.ld (p := 6) (t := ri_isI) (i := 1) (n := 1) (v := .int w) rfl (e := (.iload_n 1, 1, [], .null)) rfl rfl (fun _ _ => rfl) rfl rfl
  have E := E.pu (p := 7) (lo' := (ri_as 0 [.ref 0, .int w])) (st' := [.int 0, .int w]) rfl (e := (.iconst 0, 1, [], .null)) rfl rfl (fun _ _ => rfl)
  have E := E.pu (p := 8) (lo' := (ri_as 0 [.ref 0, .int w])) (st' := [.int 1, .int 0, .int w]) rfl (e := (.iconst 1, 1, [], .null)) rfl rfl (fun _ _ => rfl)
  obtain ⟨v1, h4, X, E⟩ := E.cs (p := 11) (as := [.int w, .int 0, .int 1]) (r := []) rfl (x := 177) (m := 3) (w := .null) (j := 149) (n := 3) (t := 0) (u := [1519, 1520]) rfl rfl rfl
  rcases sp_149 (d := d) X hV2 (ty.ui rfl) with ⟨c5, rfl, hV6, hN7⟩ | ⟨c8, c9, rfl, hV10, hN11⟩ | ⟨c12, c13, rfl, hV14, hN15⟩
  · skip
    exact absurd c5 k0
  · skip
    have E : eh_e _ _ 11 (ri_as 0 [.ref 0, .int w]) [.int 0] _ rs h' := E
    have E := E.brt (c := 0) (tgt := 23) (a := 0) (b := 0) (st' := []) rfl (e := (.ifCond .eq 12, 3, [23], .null)) rfl rfl (fun _ _ => rfl) (by decide)
    have E := E.pu (p := 24) (lo' := (ri_as 0 [.ref 0, .int w])) (st' := [.int 0]) rfl (e := (.iconst 0, 1, [], .null)) rfl rfl (fun _ _ => rfl)
    obtain ⟨r1, r2⟩ := E.reti rfl (m := 1) (ax := []) (w := .null) rfl
    exact ⟨(by rw [← hrs, r1]; rfl), ((congrArg eh_V r2).trans hV10), ((congrArg eh_N r2).trans (hN11.trans hN3))⟩
  · skip
    exact absurd k2 c13
