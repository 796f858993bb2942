theorem ysu_c {d : Nat} {h h' : ri_H} {v : Option Value} {G : eh_W} (E : ri_calE ri_md (d + 1) 122 [.ref 0] h = some (v, h')) (hV : eh_V h = G) (ty : eh_ty tC G) : v = some (.int (eh_i G 203 0)) ∧ eh_V h' = G ∧ eh_N h' = eh_N h := by
  obtain ⟨rs, hrs, E⟩ := eh_in E (q := md_122) rfl
  have E := E.ld (p := 1) (t := ri_isA) (i := 0) (n := 1) (v := .ref 0) rfl (e := (.aload_n 0, 1, [], .null)) rfl rfl (fun _ _ => rfl) rfl rfl
  have E := E.gr (n := 203) (p := 4) rfl (x := 90) (m := 3) (w := .null) (t := 11) (i := 12) (u := 579) rfl rfl hV ty rfl
  have E := E.gi (y := eh_i G 203 0) (p := 7) rfl (x := 283) (m := 3) (w := .null) (t := 2) (i := 0) (u := 530) rfl rfl hV ty rfl rfl
  obtain ⟨r1, r2⟩ := E.reti rfl (m := 1) (ax := []) (w := .null) rfl
  exact ⟨(by rw [← hrs, r1]; rfl), ((congrArg eh_V r2).trans hV), (congrArg eh_N r2)⟩
theorem ysu_m {d : Nat} {h h' : ri_H} {v : Option Value} {G : eh_W} (E : ri_calE ri_md (d + 1) 220 [.ref 0] h = some (v, h')) (hV : eh_V h = G) (ty : eh_ty tM G) : ((eh_i G 0 31) = 0 ∧ v = some (.int (-1)) ∧ eh_V h' = eh_u G 0 0 (.int 0) ∧ eh_N h' = eh_N h) ∨ (¬ ((eh_i G 0 31) = 0) ∧ v = some (.int (eh_i G 0 28)) ∧ eh_V h' = eh_u G 0 0 (.int 0) ∧ eh_N h' = eh_N h) := by
  obtain ⟨rs, hrs, E⟩ := eh_in E (q := md_220) rfl
  have E := E.ld (p := 1) (t := ri_isA) (i := 0) (n := 1) (v := .ref 0) rfl (e := (.aload_n 0, 1, [], .null)) rfl rfl (fun _ _ => rfl) rfl rfl
  have E := E.pu (p := 2) (lo' := (ri_as 0 [.ref 0])) (st' := [.int 0, .ref 0]) rfl (e := (.iconst 0, 1, [], .null)) rfl rfl (fun _ _ => rfl)
  obtain ⟨h1, hV2, hN3, E⟩ := E.gp (p := 5) rfl (x := 1) (m := 3) (w := .null) (t := 12) (i := 0) (u := 1324) (y := 0) rfl rfl hV
  have E := E.ld (p := 6) (t := ri_isA) (i := 0) (n := 1) (v := .ref 0) rfl (e := (.aload_n 0, 1, [], .null)) rfl rfl (fun _ _ => rfl) rfl rfl
  have E := E.gi (y := eh_i G 0 31) (p := 9) rfl (x := 335) (m := 3) (w := .null) (t := 12) (i := 31) (u := 1355) rfl rfl hV2 (ty.ui rfl) rfl rfl
  rcases eh_q0 (E.br (p := 12) (c := 0) (tgt := 19) (a := eh_i G 0 31) (b := 0) (st' := []) rfl (e := (.ifCond .eq 10, 3, [19], .null)) rfl rfl (fun _ _ => rfl) rfl) with ⟨c4, E⟩ | ⟨c4, E⟩
  · skip
    have E := E.pu (p := 20) (lo' := (ri_as 0 [.ref 0])) (st' := [.int (-1)]) rfl (e := (.iconst (-1), 1, [], .null)) rfl rfl (fun _ _ => rfl)
    obtain ⟨r1, r2⟩ := E.reti rfl (m := 1) (ax := []) (w := .null) rfl
    exact Or.inl ⟨c4, (by rw [← hrs, r1]; rfl), ((congrArg eh_V r2).trans hV2), ((congrArg eh_N r2).trans hN3)⟩
  · skip
    have E := E.ld (p := 13) (t := ri_isA) (i := 0) (n := 1) (v := .ref 0) rfl (e := (.aload_n 0, 1, [], .null)) rfl rfl (fun _ _ => rfl) rfl rfl
    have E := E.gi (y := eh_i G 0 28) (p := 16) rfl (x := 339) (m := 3) (w := .null) (t := 12) (i := 28) (u := 1352) rfl rfl hV2 (ty.ui rfl) rfl rfl
    have E := E.pu (p := 20) (lo' := (ri_as 0 [.ref 0])) (st' := [.int (eh_i G 0 28)]) rfl (e := (.goto 4, 3, [20], .null)) rfl rfl (fun _ _ => rfl)
    obtain ⟨r1, r2⟩ := E.reti rfl (m := 1) (ax := []) (w := .null) rfl
    exact Or.inr (⟨c4, (by rw [← hrs, r1]; rfl), ((congrArg eh_V r2).trans hV2), ((congrArg eh_N r2).trans hN3)⟩)
theorem yne_c {d : Nat} {h h' : ri_H} {v : Option Value} {G : eh_W} (E : ri_calE ri_md (d + 1) 123 [.ref 0] h = some (v, h')) (hV : eh_V h = G) (ty : eh_ty tC G) : v = some (.int (eh_i G 203 1)) ∧ eh_V h' = G ∧ eh_N h' = eh_N h := by
  obtain ⟨rs, hrs, E⟩ := eh_in E (q := md_123) rfl
  have E := E.ld (p := 1) (t := ri_isA) (i := 0) (n := 1) (v := .ref 0) rfl (e := (.aload_n 0, 1, [], .null)) rfl rfl (fun _ _ => rfl) rfl rfl
  have E := E.gr (n := 203) (p := 4) rfl (x := 90) (m := 3) (w := .null) (t := 11) (i := 12) (u := 579) rfl rfl hV ty rfl
  have E := E.gi (y := eh_i G 203 1) (p := 7) rfl (x := 286) (m := 3) (w := .null) (t := 2) (i := 1) (u := 532) rfl rfl hV ty rfl rfl
  obtain ⟨r1, r2⟩ := E.reti rfl (m := 1) (ax := []) (w := .null) rfl
  exact ⟨(by rw [← hrs, r1]; rfl), ((congrArg eh_V r2).trans hV), (congrArg eh_N r2)⟩
theorem yne_m {d : Nat} {h h' : ri_H} {v : Option Value} {G : eh_W} (E : ri_calE ri_md (d + 1) 221 [.ref 0] h = some (v, h')) (hV : eh_V h = G) (ty : eh_ty tM G) : ((eh_i G 0 31) = 0 ∧ v = some (.int (-1)) ∧ eh_V h' = eh_u G 0 0 (.int 0) ∧ eh_N h' = eh_N h) ∨ (¬ ((eh_i G 0 31) = 0) ∧ v = some (.int (eh_i G 0 29)) ∧ eh_V h' = eh_u G 0 0 (.int 0) ∧ eh_N h' = eh_N h) := by
  obtain ⟨rs, hrs, E⟩ := eh_in E (q := md_221) rfl
  have E := E.ld (p := 1) (t := ri_isA) (i := 0) (n := 1) (v := .ref 0) rfl (e := (.aload_n 0, 1, [], .null)) rfl rfl (fun _ _ => rfl) rfl rfl
  have E := E.pu (p := 2) (lo' := (ri_as 0 [.ref 0])) (st' := [.int 0, .ref 0]) rfl (e := (.iconst 0, 1, [], .null)) rfl rfl (fun _ _ => rfl)
  obtain ⟨h1, hV2, hN3, E⟩ := E.gp (p := 5) rfl (x := 1) (m := 3) (w := .null) (t := 12) (i := 0) (u := 1324) (y := 0) rfl rfl hV
  have E := E.ld (p := 6) (t := ri_isA) (i := 0) (n := 1) (v := .ref 0) rfl (e := (.aload_n 0, 1, [], .null)) rfl rfl (fun _ _ => rfl) rfl rfl
  have E := E.gi (y := eh_i G 0 31) (p := 9) rfl (x := 335) (m := 3) (w := .null) (t := 12) (i := 31) (u := 1355) rfl rfl hV2 (ty.ui rfl) rfl rfl
  rcases eh_q0 (E.br (p := 12) (c := 0) (tgt := 19) (a := eh_i G 0 31) (b := 0) (st' := []) rfl (e := (.ifCond .eq 10, 3, [19], .null)) rfl rfl (fun _ _ => rfl) rfl) with ⟨c4, E⟩ | ⟨c4, E⟩
  · skip
    have E := E.pu (p := 20) (lo' := (ri_as 0 [.ref 0])) (st' := [.int (-1)]) rfl (e := (.iconst (-1), 1, [], .null)) rfl rfl (fun _ _ => rfl)
    obtain ⟨r1, r2⟩ := E.reti rfl (m := 1) (ax := []) (w := .null) rfl
    exact Or.inl ⟨c4, (by rw [← hrs, r1]; rfl), ((congrArg eh_V r2).trans hV2), ((congrArg eh_N r2).trans hN3)⟩
  · skip
    have E := E.ld (p := 13) (t := ri_isA) (i := 0) (n := 1) (v := .ref 0) rfl (e := (.aload_n 0, 1, [], .null)) rfl rfl (fun _ _ => rfl) rfl rfl
    have E := E.gi (y := eh_i G 0 29) (p := 16) rfl (x := 342) (m := 3) (w := .null) (t := 12) (i := 29) (u := 1353) rfl rfl hV2 (ty.ui rfl) rfl rfl
    have E := E.pu (p := 20) (lo' := (ri_as 0 [.ref 0])) (st' := [.int (eh_i G 0 29)]) rfl (e := (.goto 4, 3, [20], .null)) rfl rfl (fun _ _ => rfl)
    obtain ⟨r1, r2⟩ := E.reti rfl (m := 1) (ax := []) (w := .null) rfl
    exact Or.inr (⟨c4, (by rw [← hrs, r1]; rfl), ((congrArg eh_V r2).trans hV2), ((congrArg eh_N r2).trans hN3)⟩)
theorem yas_c {d : Nat} {h h' : ri_H} {v : Option Value} {G : eh_W} (E : ri_calE ri_md (d + 1) 124 [.ref 0] h = some (v, h')) (hV : eh_V h = G) (ty : eh_ty tC G) : v = some (.int (eh_i G 203 2)) ∧ eh_V h' = G ∧ eh_N h' = eh_N h := by
  obtain ⟨rs, hrs, E⟩ := eh_in E (q := md_124) rfl
  have E := E.ld (p := 1) (t := ri_isA) (i := 0) (n := 1) (v := .ref 0) rfl (e := (.aload_n 0, 1, [], .null)) rfl rfl (fun _ _ => rfl) rfl rfl
  have E := E.gr (n := 203) (p := 4) rfl (x := 90) (m := 3) (w := .null) (t := 11) (i := 12) (u := 579) rfl rfl hV ty rfl
  have E := E.gi (y := eh_i G 203 2) (p := 7) rfl (x := 289) (m := 3) (w := .null) (t := 2) (i := 2) (u := 534) rfl rfl hV ty rfl rfl
  obtain ⟨r1, r2⟩ := E.reti rfl (m := 1) (ax := []) (w := .null) rfl
  exact ⟨(by rw [← hrs, r1]; rfl), ((congrArg eh_V r2).trans hV), (congrArg eh_N r2)⟩
theorem yas_m {d : Nat} {h h' : ri_H} {v : Option Value} {G : eh_W} (E : ri_calE ri_md (d + 1) 222 [.ref 0] h = some (v, h')) (hV : eh_V h = G) (ty : eh_ty tM G) : ((eh_i G 0 31) = 0 ∧ v = some (.int (-1)) ∧ eh_V h' = eh_u G 0 0 (.int 0) ∧ eh_N h' = eh_N h) ∨ (¬ ((eh_i G 0 31) = 0) ∧ v = some (.int (eh_i G 0 30)) ∧ eh_V h' = eh_u G 0 0 (.int 0) ∧ eh_N h' = eh_N h) := by
  obtain ⟨rs, hrs, E⟩ := eh_in E (q := md_222) rfl
  have E := E.ld (p := 1) (t := ri_isA) (i := 0) (n := 1) (v := .ref 0) rfl (e := (.aload_n 0, 1, [], .null)) rfl rfl (fun _ _ => rfl) rfl rfl
  have E := E.pu (p := 2) (lo' := (ri_as 0 [.ref 0])) (st' := [.int 0, .ref 0]) rfl (e := (.iconst 0, 1, [], .null)) rfl rfl (fun _ _ => rfl)
  obtain ⟨h1, hV2, hN3, E⟩ := E.gp (p := 5) rfl (x := 1) (m := 3) (w := .null) (t := 12) (i := 0) (u := 1324) (y := 0) rfl rfl hV
  have E := E.ld (p := 6) (t := ri_isA) (i := 0) (n := 1) (v := .ref 0) rfl (e := (.aload_n 0, 1, [], .null)) rfl rfl (fun _ _ => rfl) rfl rfl
  have E := E.gi (y := eh_i G 0 31) (p := 9) rfl (x := 335) (m := 3) (w := .null) (t := 12) (i := 31) (u := 1355) rfl rfl hV2 (ty.ui rfl) rfl rfl
  rcases eh_q0 (E.br (p := 12) (c := 0) (tgt := 19) (a := eh_i G 0 31) (b := 0) (st' := []) rfl (e := (.ifCond .eq 10, 3, [19], .null)) rfl rfl (fun _ _ => rfl) rfl) with ⟨c4, E⟩ | ⟨c4, E⟩
  · skip
    have E := E.pu (p := 20) (lo' := (ri_as 0 [.ref 0])) (st' := [.int (-1)]) rfl (e := (.iconst (-1), 1, [], .null)) rfl rfl (fun _ _ => rfl)
    obtain ⟨r1, r2⟩ := E.reti rfl (m := 1) (ax := []) (w := .null) rfl
    exact Or.inl ⟨c4, (by rw [← hrs, r1]; rfl), ((congrArg eh_V r2).trans hV2), ((congrArg eh_N r2).trans hN3)⟩
  · skip
    have E := E.ld (p := 13) (t := ri_isA) (i := 0) (n := 1) (v := .ref 0) rfl (e := (.aload_n 0, 1, [], .null)) rfl rfl (fun _ _ => rfl) rfl rfl
    have E := E.gi (y := eh_i G 0 30) (p := 16) rfl (x := 345) (m := 3) (w := .null) (t := 12) (i := 30) (u := 1354) rfl rfl hV2 (ty.ui rfl) rfl rfl
    have E := E.pu (p := 20) (lo' := (ri_as 0 [.ref 0])) (st' := [.int (eh_i G 0 30)]) rfl (e := (.goto 4, 3, [20], .null)) rfl rfl (fun _ _ => rfl)
    obtain ⟨r1, r2⟩ := E.reti rfl (m := 1) (ax := []) (w := .null) rfl
    exact Or.inr (⟨c4, (by rw [← hrs, r1]; rfl), ((congrArg eh_V r2).trans hV2), ((congrArg eh_N r2).trans hN3)⟩)
