theorem ap_c {d : Nat} {h h' : ri_H} {v : Option Value} {G : eh_W} {k : Int32} (E : ri_calE ri_md (d + 1) 128 [.ref 0, .int k] h = some (v, h')) (hV : eh_V h = G) (ty : eh_ty tC G) : ∃ h1, eh_V h1 = G ∧ eh_N h1 = eh_N h ∧ eh_ty tC G ∧ ri_calE ri_md (d) 130 [.ref 0, .int k, .int 0] h1 = some (v, h') := by
  obtain ⟨rs, hrs, E⟩ := eh_in E (q := md_128) rfl
  have E := E.ld (p := 1) (t := ri_isA) (i := 0) (n := 1) (v := .ref 0) rfl (e := (.aload_n 0, 1, [], .null)) rfl rfl (fun _ _ => rfl) rfl rfl
  have E := E.ld (p := 2) (t := ri_isI) (i := 1) (n := 1) (v := .int k) rfl (e := (.iload_n 1, 1, [], .null)) rfl rfl (fun _ _ => rfl) rfl rfl
  have E := E.pu (p := 3) (lo' := (ri_as 0 [.ref 0, .int k])) (st' := [.int 0, .int k, .ref 0]) rfl (e := (.iconst 0, 1, [], .null)) rfl rfl (fun _ _ => rfl)
  obtain ⟨v1, h1, X, E⟩ := E.cv (p := 6) (as := [.int k, .int 0]) (b := 0) (r := []) rfl (x := 309) (m := 3) (w := .null) (j := 130) (n := 2) (t := 11) (u := [998, 20, 1000]) rfl rfl rfl
  obtain ⟨r1, r2⟩ := E.rett rfl (m := 1) (ax := []) (w := .null) rfl
  have r3 : v1 = v := r1.symm.trans hrs
  subst r3
  subst r2
  exact ⟨_, hV, rfl, ty, X⟩
theorem ap_m {d : Nat} {h h' : ri_H} {v : Option Value} {G : eh_W} {k : Int32} (E : ri_calE ri_md (d + 1) 228 [.ref 0, .int k] h = some (v, h')) (hV : eh_V h = G) (ty : eh_ty tM G) : ∃ h1, eh_V h1 = eh_u G 0 0 (.int 0) ∧ eh_N h1 = eh_N h ∧ eh_ty tM (eh_u G 0 0 (.int 0)) ∧ ri_calE ri_md (d) 227 [.ref 0, .int k, .int 0] h1 = some (v, h') := by
  obtain ⟨rs, hrs, E⟩ := eh_in E (q := md_228) rfl
  have E := E.ld (p := 1) (t := ri_isA) (i := 0) (n := 1) (v := .ref 0) rfl (e := (.aload_n 0, 1, [], .null)) rfl rfl (fun _ _ => rfl) rfl rfl
  have E := E.pu (p := 2) (lo' := (ri_as 0 [.ref 0, .int k])) (st' := [.int 0, .ref 0]) rfl (e := (.iconst 0, 1, [], .null)) rfl rfl (fun _ _ => rfl)
  obtain ⟨h1, hV2, hN3, E⟩ := E.gp (p := 5) rfl (x := 1) (m := 3) (w := .null) (t := 12) (i := 0) (u := 1324) (y := 0) rfl rfl hV
  have E := E.ld (p := 6) (t := ri_isA) (i := 0) (n := 1) (v := .ref 0) rfl (e := (.aload_n 0, 1, [], .null)) rfl rfl (fun _ _ => rfl) rfl rfl
  have E := E.ld (p := 7) (t := ri_isI) (i := 1) (n := 1) (v := .int k) rfl (e := (.iload_n 1, 1, [], .null)) rfl rfl (fun _ _ => rfl) rfl rfl
  have E := E.pu (p := 8) (lo' := (ri_as 0 [.ref 0, .int k])) (st' := [.int 0, .int k, .ref 0]) rfl (e := (.iconst 0, 1, [], .null)) rfl rfl (fun _ _ => rfl)
  obtain ⟨v1, h4, X, E⟩ := E.cv (p := 11) (as := [.int k, .int 0]) (b := 0) (r := []) rfl (x := 364) (m := 3) (w := .null) (j := 227) (n := 2) (t := 12) (u := [1769, 82, 1771]) rfl rfl rfl
  obtain ⟨r1, r2⟩ := E.rett rfl (m := 1) (ax := []) (w := .null) rfl
  have r3 : v1 = v := r1.symm.trans hrs
  subst r3
  subst r2
  exact ⟨_, hV2, hN3, (ty.ui rfl), X⟩
