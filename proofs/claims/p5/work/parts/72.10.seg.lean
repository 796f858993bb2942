theorem sp_155 {d : Nat} {h h' : ri_H} {v : Option Value} {G : eh_W} (E : ri_calE ri_md (d + 1) 155 [.ref 0] h = some (v, h')) (hV : eh_V h = G) (ty : eh_ty tM G) : (¬ ((eh_i G 0 4).toInt < (eh_i G 0 3).toInt) ∧ v = some (.int (-1)) ∧ eh_V h' = G ∧ eh_N h' = eh_N h) ∨ ((eh_i G 0 4).toInt < (eh_i G 0 3).toInt ∧ v = some (.int ((eh_i G 1 (eh_i G 0 4).toNatClampNeg) &&& 255)) ∧ eh_V h' = G ∧ eh_N h' = eh_N h) := by
  obtain ⟨rs, hrs, E⟩ := eh_in E (q := md_155) rfl
  have E := E.ld (p := 1) (t := ri_isA) (i := 0) (n := 1) (v := .ref 0) rfl (e := (.aload_n 0, 1, [], .null)) rfl rfl (fun _ _ => rfl) rfl rfl
  have E := E.gi (y := eh_i G 0 4) (p := 4) rfl (x := 21) (m := 3) (w := .null) (t := 12) (i := 4) (u := 1328) rfl rfl hV ty rfl rfl
  have E := E.ld (p := 5) (t := ri_isA) (i := 0) (n := 1) (v := .ref 0) rfl (e := (.aload_n 0, 1, [], .null)) rfl rfl (fun _ _ => rfl) rfl rfl
  have E := E.gi (y := eh_i G 0 3) (p := 8) rfl (x := 18) (m := 3) (w := .null) (t := 12) (i := 3) (u := 1327) rfl rfl hV ty rfl rfl
  rcases eh_r3 rfl rfl (E.br (p := 11) (c := 3) (tgt := 27) (a := eh_i G 0 4) (b := eh_i G 0 3) (st' := []) rfl (e := (.if_icmp .ge 19, 3, [27], .null)) rfl rfl (fun _ _ => rfl) rfl) with ⟨c1, E⟩ | ⟨c1, E⟩
  · skip
    have E := E.pu (p := 28) (lo' := (ri_as 0 [.ref 0])) (st' := [.int (-1)]) rfl (e := (.iconst (-1), 1, [], .null)) rfl rfl (fun _ _ => rfl)
    obtain ⟨r1, r2⟩ := E.reti rfl (m := 1) (ax := []) (w := .null) rfl
    exact Or.inl ⟨c1, (by rw [← hrs, r1]; rfl), ((congrArg eh_V r2).trans hV), (congrArg eh_N r2)⟩
  · skip
    have E := E.ld (p := 12) (t := ri_isA) (i := 0) (n := 1) (v := .ref 0) rfl (e := (.aload_n 0, 1, [], .null)) rfl rfl (fun _ _ => rfl) rfl rfl
    have E := E.gr (n := 1) (p := 15) rfl (x := 14) (m := 3) (w := .null) (t := 12) (i := 1) (u := 1325) rfl rfl hV ty rfl
    have E := E.ld (p := 16) (t := ri_isA) (i := 0) (n := 1) (v := .ref 0) rfl (e := (.aload_n 0, 1, [], .null)) rfl rfl (fun _ _ => rfl) rfl rfl
    have E := E.gi (y := eh_i G 0 4) (p := 19) rfl (x := 21) (m := 3) (w := .null) (t := 12) (i := 4) (u := 1328) rfl rfl hV ty rfl rfl
    have E := E.ai (p := 20) (z := eh_i G 1 (eh_i G 0 4).toNatClampNeg) (n := (eh_i G 0 4).toNatClampNeg) rfl (e := (.baload, 1, [], .null)) rfl rfl (fun _ _ => rfl) rfl hV ty rfl rfl rfl
    have E := E.pu (p := 23) (lo' := (ri_as 0 [.ref 0])) (st' := [.int 255, .int (eh_i G 1 (eh_i G 0 4).toNatClampNeg)]) rfl (e := (.sipush 255, 3, [], .null)) rfl rfl (fun _ _ => rfl)
    have E := E.pu (p := 24) (lo' := (ri_as 0 [.ref 0])) (st' := [.int ((eh_i G 1 (eh_i G 0 4).toNatClampNeg) &&& 255)]) rfl (e := (.iand, 1, [], .null)) rfl rfl (fun _ _ => rfl)
    have E := E.pu (p := 28) (lo' := (ri_as 0 [.ref 0])) (st' := [.int ((eh_i G 1 (eh_i G 0 4).toNatClampNeg) &&& 255)]) rfl (e := (.goto 4, 3, [28], .null)) rfl rfl (fun _ _ => rfl)
    obtain ⟨r1, r2⟩ := E.reti rfl (m := 1) (ax := []) (w := .null) rfl
    exact Or.inr (⟨c1, (by rw [← hrs, r1]; rfl), ((congrArg eh_V r2).trans hV), (congrArg eh_N r2)⟩)
theorem sm_156 {d : Nat} {h h' : ri_H} {v : Option Value} {G : eh_W} {w : Int32} (E : ri_calE ri_md (d + 1) 156 [.int w] h = some (v, h')) (hV : eh_V h = G) (ty : eh_ty tM G) : (w.toInt < 97 ∧ v = some (.int 0) ∧ eh_V h' = G ∧ eh_N h' = eh_N h) ∨ (¬ (w.toInt < 97) ∧ 122 < w.toInt ∧ v = some (.int 0) ∧ eh_V h' = G ∧ eh_N h' = eh_N h) ∨ (¬ (w.toInt < 97) ∧ ¬ (122 < w.toInt) ∧ v = some (.int 1) ∧ eh_V h' = G ∧ eh_N h' = eh_N h) := by
  obtain ⟨rs, hrs, E⟩ := eh_in E (q := md_156) rfl
  have E := E.ld (p := 1) (t := ri_isI) (i := 0) (n := 1) (v := .int w) rfl (e := (.iload_n 0, 1, [], .null)) rfl rfl (fun _ _ => rfl) rfl rfl
  have E := E.pu (p := 3) (lo' := (ri_as 0 [.int w])) (st' := [.int 97, .int w]) rfl (e := (.bipush 97, 2, [], .null)) rfl rfl (fun _ _ => rfl)
  rcases eh_r2 rfl (show (97 : Int32).toInt = 97 by decide) (E.br (p := 6) (c := 2) (tgt := 16) (a := w) (b := 97) (st' := []) rfl (e := (.if_icmp .lt 13, 3, [16], .null)) rfl rfl (fun _ _ => rfl) rfl) with ⟨c1, E⟩ | ⟨c1, E⟩
  · skip
    have E := E.pu (p := 17) (lo' := (ri_as 0 [.int w])) (st' := [.int 0]) rfl (e := (.iconst 0, 1, [], .null)) rfl rfl (fun _ _ => rfl)
    obtain ⟨r1, r2⟩ := E.reti rfl (m := 1) (ax := []) (w := .null) rfl
    exact Or.inl ⟨c1, (by rw [← hrs, r1]; rfl), ((congrArg eh_V r2).trans hV), (congrArg eh_N r2)⟩
  · skip
    have E := E.ld (p := 7) (t := ri_isI) (i := 0) (n := 1) (v := .int w) rfl (e := (.iload_n 0, 1, [], .null)) rfl rfl (fun _ _ => rfl) rfl rfl
    have E := E.pu (p := 9) (lo' := (ri_as 0 [.int w])) (st' := [.int 122, .int w]) rfl (e := (.bipush 122, 2, [], .null)) rfl rfl (fun _ _ => rfl)
    rcases eh_r4 rfl (show (122 : Int32).toInt = 122 by decide) (E.br (p := 12) (c := 4) (tgt := 16) (a := w) (b := 122) (st' := []) rfl (e := (.if_icmp .gt 7, 3, [16], .null)) rfl rfl (fun _ _ => rfl) rfl) with ⟨c2, E⟩ | ⟨c2, E⟩
    · skip
      have E := E.pu (p := 17) (lo' := (ri_as 0 [.int w])) (st' := [.int 0]) rfl (e := (.iconst 0, 1, [], .null)) rfl rfl (fun _ _ => rfl)
      obtain ⟨r1, r2⟩ := E.reti rfl (m := 1) (ax := []) (w := .null) rfl
      exact Or.inr (Or.inl ⟨c1, c2, (by rw [← hrs, r1]; rfl), ((congrArg eh_V r2).trans hV), (congrArg eh_N r2)⟩)
    · skip
      have E := E.pu (p := 13) (lo' := (ri_as 0 [.int w])) (st' := [.int 1]) rfl (e := (.iconst 1, 1, [], .null)) rfl rfl (fun _ _ => rfl)
      have E := E.pu (p := 17) (lo' := (ri_as 0 [.int w])) (st' := [.int 1]) rfl (e := (.goto 4, 3, [17], .null)) rfl rfl (fun _ _ => rfl)
      obtain ⟨r1, r2⟩ := E.reti rfl (m := 1) (ax := []) (w := .null) rfl
      exact Or.inr (Or.inr (⟨c1, c2, (by rw [← hrs, r1]; rfl), ((congrArg eh_V r2).trans hV), (congrArg eh_N r2)⟩))
theorem dg_157 {d : Nat} {h h' : ri_H} {v : Option Value} {G : eh_W} {w : Int32} (E : ri_calE ri_md (d + 1) 157 [.int w] h = some (v, h')) (hV : eh_V h = G) (ty : eh_ty tM G) : (w.toInt < 48 ∧ v = some (.int 0) ∧ eh_V h' = G ∧ eh_N h' = eh_N h) ∨ (¬ (w.toInt < 48) ∧ 57 < w.toInt ∧ v = some (.int 0) ∧ eh_V h' = G ∧ eh_N h' = eh_N h) ∨ (¬ (w.toInt < 48) ∧ ¬ (57 < w.toInt) ∧ v = some (.int 1) ∧ eh_V h' = G ∧ eh_N h' = eh_N h) := by
  obtain ⟨rs, hrs, E⟩ := eh_in E (q := md_157) rfl
  have E := E.ld (p := 1) (t := ri_isI) (i := 0) (n := 1) (v := .int w) rfl (e := (.iload_n 0, 1, [], .null)) rfl rfl (fun _ _ => rfl) rfl rfl
  have E := E.pu (p := 3) (lo' := (ri_as 0 [.int w])) (st' := [.int 48, .int w]) rfl (e := (.bipush 48, 2, [], .null)) rfl rfl (fun _ _ => rfl)
  rcases eh_r2 rfl (show (48 : Int32).toInt = 48 by decide) (E.br (p := 6) (c := 2) (tgt := 16) (a := w) (b := 48) (st' := []) rfl (e := (.if_icmp .lt 13, 3, [16], .null)) rfl rfl (fun _ _ => rfl) rfl) with ⟨c1, E⟩ | ⟨c1, E⟩
  · skip
    have E := E.pu (p := 17) (lo' := (ri_as 0 [.int w])) (st' := [.int 0]) rfl (e := (.iconst 0, 1, [], .null)) rfl rfl (fun _ _ => rfl)
    obtain ⟨r1, r2⟩ := E.reti rfl (m := 1) (ax := []) (w := .null) rfl
    exact Or.inl ⟨c1, (by rw [← hrs, r1]; rfl), ((congrArg eh_V r2).trans hV), (congrArg eh_N r2)⟩
  · skip
    have E := E.ld (p := 7) (t := ri_isI) (i := 0) (n := 1) (v := .int w) rfl (e := (.iload_n 0, 1, [], .null)) rfl rfl (fun _ _ => rfl) rfl rfl
    have E := E.pu (p := 9) (lo' := (ri_as 0 [.int w])) (st' := [.int 57, .int w]) rfl (e := (.bipush 57, 2, [], .null)) rfl rfl (fun _ _ => rfl)
    rcases eh_r4 rfl (show (57 : Int32).toInt = 57 by decide) (E.br (p := 12) (c := 4) (tgt := 16) (a := w) (b := 57) (st' := []) rfl (e := (.if_icmp .gt 7, 3, [16], .null)) rfl rfl (fun _ _ => rfl) rfl) with ⟨c2, E⟩ | ⟨c2, E⟩
    · skip
      have E := E.pu (p := 17) (lo' := (ri_as 0 [.int w])) (st' := [.int 0]) rfl (e := (.iconst 0, 1, [], .null)) rfl rfl (fun _ _ => rfl)
      obtain ⟨r1, r2⟩ := E.reti rfl (m := 1) (ax := []) (w := .null) rfl
      exact Or.inr (Or.inl ⟨c1, c2, (by rw [← hrs, r1]; rfl), ((congrArg eh_V r2).trans hV), (congrArg eh_N r2)⟩)
    · skip
      have E := E.pu (p := 13) (lo' := (ri_as 0 [.int w])) (st' := [.int 1]) rfl (e := (.iconst 1, 1, [], .null)) rfl rfl (fun _ _ => rfl)
      have E := E.pu (p := 17) (lo' := (ri_as 0 [.int w])) (st' := [.int 1]) rfl (e := (.goto 4, 3, [17], .null)) rfl rfl (fun _ _ => rfl)
      obtain ⟨r1, r2⟩ := E.reti rfl (m := 1) (ax := []) (w := .null) rfl
      exact Or.inr (Or.inr (⟨c1, c2, (by rw [← hrs, r1]; rfl), ((congrArg eh_V r2).trans hV), (congrArg eh_N r2)⟩))
