theorem sp_159 {d : Nat} {h h' : ri_H} {v : Option Value} {G : eh_W} {w : Int32} (E : ri_calE ri_md (d + 1) 159 [.ref 0, .int w] h = some (v, h')) (hV : eh_V h = G) (ty : eh_ty tM G) : v = some (.int 0) ∧ eh_V h' = eh_u (eh_u G 0 15 (.int w)) 0 16 (.int (eh_i G 0 12)) ∧ eh_N h' = eh_N h := by
  obtain ⟨rs, hrs, E⟩ := eh_in E (q := md_159) rfl
  have E := E.ld (p := 1) (t := ri_isA) (i := 0) (n := 1) (v := .ref 0) rfl (e := (.aload_n 0, 1, [], .null)) rfl rfl (fun _ _ => rfl) rfl rfl
  have E := E.ld (p := 2) (t := ri_isI) (i := 1) (n := 1) (v := .int w) rfl (e := (.iload_n 1, 1, [], .null)) rfl rfl (fun _ _ => rfl) rfl rfl
  obtain ⟨h1, hV2, hN3, E⟩ := E.gp (p := 5) rfl (x := 162) (m := 3) (w := .null) (t := 12) (i := 15) (u := 1339) (y := 0) rfl rfl hV
  have E := E.ld (p := 6) (t := ri_isA) (i := 0) (n := 1) (v := .ref 0) rfl (e := (.aload_n 0, 1, [], .null)) rfl rfl (fun _ _ => rfl) rfl rfl
  have E := E.ld (p := 7) (t := ri_isA) (i := 0) (n := 1) (v := .ref 0) rfl (e := (.aload_n 0, 1, [], .null)) rfl rfl (fun _ _ => rfl) rfl rfl
  have E := E.gi (y := eh_i G 0 12) (p := 10) rfl (x := 139) (m := 3) (w := .null) (t := 12) (i := 12) (u := 1336) rfl rfl hV2 (ty.ui rfl) rfl rfl
  obtain ⟨h4, hV5, hN6, E⟩ := E.gp (p := 13) rfl (x := 165) (m := 3) (w := .null) (t := 12) (i := 16) (u := 1340) (y := 0) rfl rfl hV2
  have E := E.pu (p := 14) (lo' := (ri_as 0 [.ref 0, .int w])) (st' := [.int 0]) rfl (e := (.iconst 0, 1, [], .null)) rfl rfl (fun _ _ => rfl)
  obtain ⟨r1, r2⟩ := E.reti rfl (m := 1) (ax := []) (w := .null) rfl
  exact ⟨(by rw [← hrs, r1]; rfl), ((congrArg eh_V r2).trans hV5), ((congrArg eh_N r2).trans (hN6.trans hN3))⟩
theorem sp_160 {d : Nat} {h h' : ri_H} {v : Option Value} {G : eh_W} {wo : Int64} (E : ri_calE ri_md (d + 1) 160 [.ref 0, .long wo] h = some (v, h')) (hV : eh_V h = G) (ty : eh_ty tM G) : (¬ ((eh_i G 0 11) = 1) ∧ v = some (.int 0) ∧ eh_V h' = G ∧ eh_N h' = eh_N h) ∨ ((eh_i G 0 11) = 1 ∧ ¬ ((eh_l G 0 17) = wo) ∧ v = some (.int 0) ∧ eh_V h' = G ∧ eh_N h' = eh_N h) ∨ ((eh_i G 0 11) = 1 ∧ (eh_l G 0 17) = wo ∧ v = some (.int 1) ∧ eh_V h' = G ∧ eh_N h' = eh_N h) := by
  obtain ⟨rs, hrs, E⟩ := eh_in E (q := md_160) rfl
  have E := E.ld (p := 1) (t := ri_isA) (i := 0) (n := 1) (v := .ref 0) rfl (e := (.aload_n 0, 1, [], .null)) rfl rfl (fun _ _ => rfl) rfl rfl
  have E := E.gi (y := eh_i G 0 11) (p := 4) rfl (x := 145) (m := 3) (w := .null) (t := 12) (i := 11) (u := 1335) rfl rfl hV ty rfl rfl
  have E := E.pu (p := 5) (lo' := (ri_as 0 [.ref 0, .long wo])) (st' := [.int 1, .int (eh_i G 0 11)]) rfl (e := (.iconst 1, 1, [], .null)) rfl rfl (fun _ _ => rfl)
  rcases eh_q1 (E.br (p := 8) (c := 1) (tgt := 21) (a := eh_i G 0 11) (b := 1) (st' := []) rfl (e := (.if_icmp .ne 16, 3, [21], .null)) rfl rfl (fun _ _ => rfl) rfl) with ⟨c1, E⟩ | ⟨c1, E⟩
  · skip
    have E := E.pu (p := 22) (lo' := (ri_as 0 [.ref 0, .long wo])) (st' := [.int 0]) rfl (e := (.iconst 0, 1, [], .null)) rfl rfl (fun _ _ => rfl)
    obtain ⟨r1, r2⟩ := E.reti rfl (m := 1) (ax := []) (w := .null) rfl
    exact Or.inl ⟨c1, (by rw [← hrs, r1]; rfl), ((congrArg eh_V r2).trans hV), (congrArg eh_N r2)⟩
  · skip
    have E := E.ld (p := 9) (t := ri_isA) (i := 0) (n := 1) (v := .ref 0) rfl (e := (.aload_n 0, 1, [], .null)) rfl rfl (fun _ _ => rfl) rfl rfl
    have E := E.gl (y := eh_l G 0 17) (p := 12) rfl (x := 158) (m := 3) (w := .null) (t := 12) (i := 17) (u := 1341) rfl rfl hV ty rfl rfl
    have E := E.ld (p := 13) (t := ri_isL) (i := 1) (n := 1) (v := .long wo) rfl (e := (.lload_n 1, 1, [], .null)) rfl rfl (fun _ _ => rfl) rfl rfl
    have E := E.pu (p := 14) (lo' := (ri_as 0 [.ref 0, .long wo])) (st' := [.int (lg_cmp (eh_l G 0 17) wo)]) rfl (e := (.lcmp, 1, [], .null)) rfl rfl (fun _ _ => rfl)
    rcases eh_ql1 (E.br (p := 17) (c := 1) (tgt := 21) (a := lg_cmp (eh_l G 0 17) wo) (b := 0) (st' := []) rfl (e := (.ifCond .ne 7, 3, [21], .null)) rfl rfl (fun _ _ => rfl) rfl) with ⟨c2, E⟩ | ⟨c2, E⟩
    · skip
      have E := E.pu (p := 22) (lo' := (ri_as 0 [.ref 0, .long wo])) (st' := [.int 0]) rfl (e := (.iconst 0, 1, [], .null)) rfl rfl (fun _ _ => rfl)
      obtain ⟨r1, r2⟩ := E.reti rfl (m := 1) (ax := []) (w := .null) rfl
      exact Or.inr (Or.inl ⟨c1, c2, (by rw [← hrs, r1]; rfl), ((congrArg eh_V r2).trans hV), (congrArg eh_N r2)⟩)
    · skip
      have E := E.pu (p := 18) (lo' := (ri_as 0 [.ref 0, .long wo])) (st' := [.int 1]) rfl (e := (.iconst 1, 1, [], .null)) rfl rfl (fun _ _ => rfl)
      have E := E.pu (p := 22) (lo' := (ri_as 0 [.ref 0, .long wo])) (st' := [.int 1]) rfl (e := (.goto 4, 3, [22], .null)) rfl rfl (fun _ _ => rfl)
      obtain ⟨r1, r2⟩ := E.reti rfl (m := 1) (ax := []) (w := .null) rfl
      exact Or.inr (Or.inr (⟨c1, c2, (by rw [← hrs, r1]; rfl), ((congrArg eh_V r2).trans hV), (congrArg eh_N r2)⟩))
theorem sp_161 {d : Nat} {h h' : ri_H} {v : Option Value} {G : eh_W} {w : Int32} (E : ri_calE ri_md (d + 1) 161 [.ref 0, .int w] h = some (v, h')) (hV : eh_V h = G) (ty : eh_ty tM G) : (¬ ((eh_i G 0 11) = 3) ∧ v = some (.int 0) ∧ eh_V h' = G ∧ eh_N h' = eh_N h) ∨ ((eh_i G 0 11) = 3 ∧ ¬ ((eh_i G 0 14) = w) ∧ v = some (.int 0) ∧ eh_V h' = G ∧ eh_N h' = eh_N h) ∨ ((eh_i G 0 11) = 3 ∧ (eh_i G 0 14) = w ∧ v = some (.int 1) ∧ eh_V h' = G ∧ eh_N h' = eh_N h) := by
  obtain ⟨rs, hrs, E⟩ := eh_in E (q := md_161) rfl
  have E := E.ld (p := 1) (t := ri_isA) (i := 0) (n := 1) (v := .ref 0) rfl (e := (.aload_n 0, 1, [], .null)) rfl rfl (fun _ _ => rfl) rfl rfl
  have E := E.gi (y := eh_i G 0 11) (p := 4) rfl (x := 145) (m := 3) (w := .null) (t := 12) (i := 11) (u := 1335) rfl rfl hV ty rfl rfl
  have E := E.pu (p := 5) (lo' := (ri_as 0 [.ref 0, .int w])) (st' := [.int 3, .int (eh_i G 0 11)]) rfl (e := (.iconst 3, 1, [], .null)) rfl rfl (fun _ _ => rfl)
  rcases eh_q1 (E.br (p := 8) (c := 1) (tgt := 20) (a := eh_i G 0 11) (b := 3) (st' := []) rfl (e := (.if_icmp .ne 15, 3, [20], .null)) rfl rfl (fun _ _ => rfl) rfl) with ⟨c1, E⟩ | ⟨c1, E⟩
  · skip
    have E := E.pu (p := 21) (lo' := (ri_as 0 [.ref 0, .int w])) (st' := [.int 0]) rfl (e := (.iconst 0, 1, [], .null)) rfl rfl (fun _ _ => rfl)
    obtain ⟨r1, r2⟩ := E.reti rfl (m := 1) (ax := []) (w := .null) rfl
    exact Or.inl ⟨c1, (by rw [← hrs, r1]; rfl), ((congrArg eh_V r2).trans hV), (congrArg eh_N r2)⟩
  · skip
    have E := E.ld (p := 9) (t := ri_isA) (i := 0) (n := 1) (v := .ref 0) rfl (e := (.aload_n 0, 1, [], .null)) rfl rfl (fun _ _ => rfl) rfl rfl
    have E := E.gi (y := eh_i G 0 14) (p := 12) rfl (x := 155) (m := 3) (w := .null) (t := 12) (i := 14) (u := 1338) rfl rfl hV ty rfl rfl
    have E := E.ld (p := 13) (t := ri_isI) (i := 1) (n := 1) (v := .int w) rfl (e := (.iload_n 1, 1, [], .null)) rfl rfl (fun _ _ => rfl) rfl rfl
    rcases eh_q1 (E.br (p := 16) (c := 1) (tgt := 20) (a := eh_i G 0 14) (b := w) (st' := []) rfl (e := (.if_icmp .ne 7, 3, [20], .null)) rfl rfl (fun _ _ => rfl) rfl) with ⟨c2, E⟩ | ⟨c2, E⟩
    · skip
      have E := E.pu (p := 21) (lo' := (ri_as 0 [.ref 0, .int w])) (st' := [.int 0]) rfl (e := (.iconst 0, 1, [], .null)) rfl rfl (fun _ _ => rfl)
      obtain ⟨r1, r2⟩ := E.reti rfl (m := 1) (ax := []) (w := .null) rfl
      exact Or.inr (Or.inl ⟨c1, c2, (by rw [← hrs, r1]; rfl), ((congrArg eh_V r2).trans hV), (congrArg eh_N r2)⟩)
    · skip
      have E := E.pu (p := 17) (lo' := (ri_as 0 [.ref 0, .int w])) (st' := [.int 1]) rfl (e := (.iconst 1, 1, [], .null)) rfl rfl (fun _ _ => rfl)
      have E := E.pu (p := 21) (lo' := (ri_as 0 [.ref 0, .int w])) (st' := [.int 1]) rfl (e := (.goto 4, 3, [21], .null)) rfl rfl (fun _ _ => rfl)
      obtain ⟨r1, r2⟩ := E.reti rfl (m := 1) (ax := []) (w := .null) rfl
      exact Or.inr (Or.inr (⟨c1, c2, (by rw [← hrs, r1]; rfl), ((congrArg eh_V r2).trans hV), (congrArg eh_N r2)⟩))
theorem sp_150 {d : Nat} {h h' : ri_H} {v : Option Value} {G : eh_W} {x0 x1 : Int32} (E : ri_calE ri_md (d + 1) 150 [.int x0, .int x1] h = some (v, h')) (hV : eh_V h = G) (ty : eh_ty tM G) : (¬ (((x0 >>> (x1 &&& 31)) &&& 1) = 1) ∧ v = some (.int 0) ∧ eh_V h' = G ∧ eh_N h' = eh_N h) ∨ (((x0 >>> (x1 &&& 31)) &&& 1) = 1 ∧ v = some (.int 1) ∧ eh_V h' = G ∧ eh_N h' = eh_N h) := by
  obtain ⟨rs, hrs, E⟩ := eh_in E (q := md_150) rfl
  have E := E.ld (p := 1) (t := ri_isI) (i := 0) (n := 1) (v := .int x0) rfl (e := (.iload_n 0, 1, [], .null)) rfl rfl (fun _ _ => rfl) rfl rfl
  have E := E.ld (p := 2) (t := ri_isI) (i := 1) (n := 1) (v := .int x1) rfl (e := (.iload_n 1, 1, [], .null)) rfl rfl (fun _ _ => rfl) rfl rfl
  have E := E.pu (p := 3) (lo' := (ri_as 0 [.int x0, .int x1])) (st' := [.int (x0 >>> (x1 &&& 31))]) rfl (e := (.ishr, 1, [], .null)) rfl rfl (fun _ _ => rfl)
  have E := E.pu (p := 4) (lo' := (ri_as 0 [.int x0, .int x1])) (st' := [.int 1, .int (x0 >>> (x1 &&& 31))]) rfl (e := (.iconst 1, 1, [], .null)) rfl rfl (fun _ _ => rfl)
  have E := E.pu (p := 5) (lo' := (ri_as 0 [.int x0, .int x1])) (st' := [.int ((x0 >>> (x1 &&& 31)) &&& 1)]) rfl (e := (.iand, 1, [], .null)) rfl rfl (fun _ _ => rfl)
  have E := E.pu (p := 6) (lo' := (ri_as 0 [.int x0, .int x1])) (st' := [.int 1, .int ((x0 >>> (x1 &&& 31)) &&& 1)]) rfl (e := (.iconst 1, 1, [], .null)) rfl rfl (fun _ _ => rfl)
  rcases eh_q1 (E.br (p := 9) (c := 1) (tgt := 13) (a := (x0 >>> (x1 &&& 31)) &&& 1) (b := 1) (st' := []) rfl (e := (.if_icmp .ne 7, 3, [13], .null)) rfl rfl (fun _ _ => rfl) rfl) with ⟨c1, E⟩ | ⟨c1, E⟩
  · skip
    have E := E.pu (p := 14) (lo' := (ri_as 0 [.int x0, .int x1])) (st' := [.int 0]) rfl (e := (.iconst 0, 1, [], .null)) rfl rfl (fun _ _ => rfl)
    obtain ⟨r1, r2⟩ := E.reti rfl (m := 1) (ax := []) (w := .null) rfl
    exact Or.inl ⟨c1, (by rw [← hrs, r1]; rfl), ((congrArg eh_V r2).trans hV), (congrArg eh_N r2)⟩
  · skip
    have E := E.pu (p := 10) (lo' := (ri_as 0 [.int x0, .int x1])) (st' := [.int 1]) rfl (e := (.iconst 1, 1, [], .null)) rfl rfl (fun _ _ => rfl)
    have E := E.pu (p := 14) (lo' := (ri_as 0 [.int x0, .int x1])) (st' := [.int 1]) rfl (e := (.goto 4, 3, [14], .null)) rfl rfl (fun _ _ => rfl)
    obtain ⟨r1, r2⟩ := E.reti rfl (m := 1) (ax := []) (w := .null) rfl
    exact Or.inr (⟨c1, (by rw [← hrs, r1]; rfl), ((congrArg eh_V r2).trans hV), (congrArg eh_N r2)⟩)
theorem sp_149 {d : Nat} {h h' : ri_H} {v : Option Value} {G : eh_W} {x0 x1 x2 : Int32} (E : ri_calE ri_md (d + 1) 149 [.int x0, .int x1, .int x2] h = some (v, h')) (hV : eh_V h = G) (ty : eh_ty tM G) : (x0.toInt < x1.toInt ∧ v = some (.int 0) ∧ eh_V h' = G ∧ eh_N h' = eh_N h) ∨ (¬ (x0.toInt < x1.toInt) ∧ x2.toInt < x0.toInt ∧ v = some (.int 0) ∧ eh_V h' = G ∧ eh_N h' = eh_N h) ∨ (¬ (x0.toInt < x1.toInt) ∧ ¬ (x2.toInt < x0.toInt) ∧ v = some (.int 1) ∧ eh_V h' = G ∧ eh_N h' = eh_N h) := by
  obtain ⟨rs, hrs, E⟩ := eh_in E (q := md_149) rfl
  have E := E.ld (p := 1) (t := ri_isI) (i := 0) (n := 1) (v := .int x0) rfl (e := (.iload_n 0, 1, [], .null)) rfl rfl (fun _ _ => rfl) rfl rfl
  have E := E.ld (p := 2) (t := ri_isI) (i := 1) (n := 1) (v := .int x1) rfl (e := (.iload_n 1, 1, [], .null)) rfl rfl (fun _ _ => rfl) rfl rfl
  rcases eh_r2 rfl rfl (E.br (p := 5) (c := 2) (tgt := 14) (a := x0) (b := x1) (st' := []) rfl (e := (.if_icmp .lt 12, 3, [14], .null)) rfl rfl (fun _ _ => rfl) rfl) with ⟨c1, E⟩ | ⟨c1, E⟩
  · skip
    have E := E.pu (p := 15) (lo' := (ri_as 0 [.int x0, .int x1, .int x2])) (st' := [.int 0]) rfl (e := (.iconst 0, 1, [], .null)) rfl rfl (fun _ _ => rfl)
    obtain ⟨r1, r2⟩ := E.reti rfl (m := 1) (ax := []) (w := .null) rfl
    exact Or.inl ⟨c1, (by rw [← hrs, r1]; rfl), ((congrArg eh_V r2).trans hV), (congrArg eh_N r2)⟩
  · skip
    have E := E.ld (p := 6) (t := ri_isI) (i := 0) (n := 1) (v := .int x0) rfl (e := (.iload_n 0, 1, [], .null)) rfl rfl (fun _ _ => rfl) rfl rfl
    have E := E.ld (p := 7) (t := ri_isI) (i := 2) (n := 1) (v := .int x2) rfl (e := (.iload_n 2, 1, [], .null)) rfl rfl (fun _ _ => rfl) rfl rfl
    rcases eh_r4 rfl rfl (E.br (p := 10) (c := 4) (tgt := 14) (a := x0) (b := x2) (st' := []) rfl (e := (.if_icmp .gt 7, 3, [14], .null)) rfl rfl (fun _ _ => rfl) rfl) with ⟨c2, E⟩ | ⟨c2, E⟩
    · skip
      have E := E.pu (p := 15) (lo' := (ri_as 0 [.int x0, .int x1, .int x2])) (st' := [.int 0]) rfl (e := (.iconst 0, 1, [], .null)) rfl rfl (fun _ _ => rfl)
      obtain ⟨r1, r2⟩ := E.reti rfl (m := 1) (ax := []) (w := .null) rfl
      exact Or.inr (Or.inl ⟨c1, c2, (by rw [← hrs, r1]; rfl), ((congrArg eh_V r2).trans hV), (congrArg eh_N r2)⟩)
    · skip
      have E := E.pu (p := 11) (lo' := (ri_as 0 [.int x0, .int x1, .int x2])) (st' := [.int 1]) rfl (e := (.iconst 1, 1, [], .null)) rfl rfl (fun _ _ => rfl)
      have E := E.pu (p := 15) (lo' := (ri_as 0 [.int x0, .int x1, .int x2])) (st' := [.int 1]) rfl (e := (.goto 4, 3, [15], .null)) rfl rfl (fun _ _ => rfl)
      obtain ⟨r1, r2⟩ := E.reti rfl (m := 1) (ax := []) (w := .null) rfl
      exact Or.inr (Or.inr (⟨c1, c2, (by rw [← hrs, r1]; rfl), ((congrArg eh_V r2).trans hV), (congrArg eh_N r2)⟩))
theorem sp_162 {d : Nat} {h h' : ri_H} {v : Option Value} {G : eh_W} {b : Nat → Int32} {n m : Nat} {w : Int32} (E : ri_calE ri_md (d + 3) 162 [.ref 0, .int w] h = some (v, h')) (hV : eh_V h = G) (iv : iM b n m G) : (¬ ((eh_i G 0 11) = 3) ∧ v = some (.int 0) ∧ eh_V h' = eh_u (eh_u G 0 15 (.int 1)) 0 16 (.int (eh_i G 0 12)) ∧ eh_N h' = eh_N h ∧ iM b n m (eh_u (eh_u G 0 15 (.int 1)) 0 16 (.int (eh_i G 0 12)))) ∨ ((eh_i G 0 11) = 3 ∧ ¬ ((eh_i G 0 14) = w) ∧ v = some (.int 0) ∧ eh_V h' = eh_u (eh_u G 0 15 (.int 1)) 0 16 (.int (eh_i G 0 12)) ∧ eh_N h' = eh_N h ∧ iM b n m (eh_u (eh_u G 0 15 (.int 1)) 0 16 (.int (eh_i G 0 12)))) ∨ (∃ (h1 : ri_H), ∃ (h19 : ri_H), (eh_i G 0 11) = 3 ∧ (eh_i G 0 14) = w ∧ eh_V h1 = G ∧ ri_calE ri_md (d + 2) 158 [.ref 0] h1 = some (none, h19) ∧ iM b n m (eh_V h19) ∧ v = some (.int 1) ∧ eh_V h' = (eh_V h19) ∧ eh_N h' = eh_N h ∧ iM b n m (eh_V h19)) := by
  obtain ⟨rs, hrs, E⟩ := eh_in E (q := md_162) rfl
  have E := E.ld (p := 1) (t := ri_isA) (i := 0) (n := 1) (v := .ref 0) rfl (e := (.aload_n 0, 1, [], .null)) rfl rfl (fun _ _ => rfl) rfl rfl
  have E := E.ld (p := 2) (t := ri_isI) (i := 1) (n := 1) (v := .int w) rfl (e := (.iload_n 1, 1, [], .null)) rfl rfl (fun _ _ => rfl) rfl rfl
  obtain ⟨v1, h1, X, E⟩ := E.cv (p := 5) (as := [.int w]) (b := 0) (r := []) rfl (x := 168) (m := 3) (w := .null) (j := 161) (n := 1) (t := 12) (u := [1542, 48, 1544]) rfl rfl rfl
  rcases sp_161 (d := d + 1) X hV (iv.1) with ⟨c2, rfl, hV3, hN4⟩ | ⟨c5, c6, rfl, hV7, hN8⟩ | ⟨c9, c10, rfl, hV11, hN12⟩
  · skip
    have c2 : ¬ ((eh_i G 0 11) = 3) := c2
    have E : eh_e _ _ 5 (ri_as 0 [.ref 0, .int w]) [.int 0] _ rs h' := E
    have E := E.brf (p := 8) (c := 1) (tgt := 14) (a := 0) (b := 0) (st' := []) rfl (e := (.ifCond .ne 9, 3, [14], .null)) rfl rfl (fun _ _ => rfl) (by decide) rfl
    have E := E.ld (p := 9) (t := ri_isA) (i := 0) (n := 1) (v := .ref 0) rfl (e := (.aload_n 0, 1, [], .null)) rfl rfl (fun _ _ => rfl) rfl rfl
    have E := E.pu (p := 10) (lo' := (ri_as 0 [.ref 0, .int w])) (st' := [.int 1, .ref 0]) rfl (e := (.iconst 1, 1, [], .null)) rfl rfl (fun _ _ => rfl)
    obtain ⟨v1, h13, X, E⟩ := E.cv (p := 13) (as := [.int 1]) (b := 0) (r := []) rfl (x := 171) (m := 3) (w := .null) (j := 159) (n := 1) (t := 12) (u := [1507, 40, 1509]) rfl rfl rfl
    rcases sp_159 (d := d + 1) X hV3 (iv.1) with ⟨rfl, hV14, hN15⟩
    have hV14 : _ = eh_u (eh_u G 0 15 (.int 1)) 0 16 (.int (eh_i G 0 12)) := hV14
    have E : eh_e _ _ 13 (ri_as 0 [.ref 0, .int w]) [.int 0] _ rs h' := E
    obtain ⟨r1, r2⟩ := E.reti rfl (m := 1) (ax := []) (w := .null) rfl
    exact Or.inl ⟨c2, (by rw [← hrs, r1]; rfl), ((congrArg eh_V r2).trans hV14), ((congrArg eh_N r2).trans (hN15.trans hN4)), (iM_u (iM_u iv ((iv.1).ui rfl) rfl) (((iv.1).ui rfl).ui rfl) rfl)⟩
  · skip
    have c5 : (eh_i G 0 11) = 3 := c5
    have c6 : ¬ ((eh_i G 0 14) = w) := c6
    have E : eh_e _ _ 5 (ri_as 0 [.ref 0, .int w]) [.int 0] _ rs h' := E
    have E := E.brf (p := 8) (c := 1) (tgt := 14) (a := 0) (b := 0) (st' := []) rfl (e := (.ifCond .ne 9, 3, [14], .null)) rfl rfl (fun _ _ => rfl) (by decide) rfl
    have E := E.ld (p := 9) (t := ri_isA) (i := 0) (n := 1) (v := .ref 0) rfl (e := (.aload_n 0, 1, [], .null)) rfl rfl (fun _ _ => rfl) rfl rfl
    have E := E.pu (p := 10) (lo' := (ri_as 0 [.ref 0, .int w])) (st' := [.int 1, .ref 0]) rfl (e := (.iconst 1, 1, [], .null)) rfl rfl (fun _ _ => rfl)
    obtain ⟨v1, h16, X, E⟩ := E.cv (p := 13) (as := [.int 1]) (b := 0) (r := []) rfl (x := 171) (m := 3) (w := .null) (j := 159) (n := 1) (t := 12) (u := [1507, 40, 1509]) rfl rfl rfl
    rcases sp_159 (d := d + 1) X hV7 (iv.1) with ⟨rfl, hV17, hN18⟩
    have hV17 : _ = eh_u (eh_u G 0 15 (.int 1)) 0 16 (.int (eh_i G 0 12)) := hV17
    have E : eh_e _ _ 13 (ri_as 0 [.ref 0, .int w]) [.int 0] _ rs h' := E
    obtain ⟨r1, r2⟩ := E.reti rfl (m := 1) (ax := []) (w := .null) rfl
    exact Or.inr (Or.inl ⟨c5, c6, (by rw [← hrs, r1]; rfl), ((congrArg eh_V r2).trans hV17), ((congrArg eh_N r2).trans (hN18.trans hN8)), (iM_u (iM_u iv ((iv.1).ui rfl) rfl) (((iv.1).ui rfl).ui rfl) rfl)⟩)
  · skip
    have c9 : (eh_i G 0 11) = 3 := c9
    have c10 : (eh_i G 0 14) = w := c10
    have E : eh_e _ _ 5 (ri_as 0 [.ref 0, .int w]) [.int 1] _ rs h' := E
    have E := E.brt (c := 1) (tgt := 14) (a := 1) (b := 0) (st' := []) rfl (e := (.ifCond .ne 9, 3, [14], .null)) rfl rfl (fun _ _ => rfl) (by decide)
    have E := E.ld (p := 15) (t := ri_isA) (i := 0) (n := 1) (v := .ref 0) rfl (e := (.aload_n 0, 1, [], .null)) rfl rfl (fun _ _ => rfl) rfl rfl
    obtain ⟨v1, h19, X, E⟩ := E.cv (p := 18) (as := []) (b := 0) (r := []) rfl (x := 174) (m := 3) (w := .null) (j := 158) (n := 0) (t := 12) (u := [1478, 35, 1480]) rfl rfl rfl
    obtain ⟨rfl, ivk20, hNk20⟩ := tp_158 (d := d) X (by rw [hV11]; exact iv)
    have Xk20 := X
    have E : eh_e _ _ 18 (ri_as 0 [.ref 0, .int w]) [] h19 rs h' := E
    have E := E.pu (p := 19) (lo' := (ri_as 0 [.ref 0, .int w])) (st' := [.int 1]) rfl (e := (.iconst 1, 1, [], .null)) rfl rfl (fun _ _ => rfl)
    obtain ⟨r1, r2⟩ := E.reti rfl (m := 1) (ax := []) (w := .null) rfl
    exact Or.inr (Or.inr (⟨h1, h19, c9, c10, hV11, Xk20, ivk20, (by rw [← hrs, r1]; rfl), ((congrArg eh_V r2).trans (rfl : eh_V h19 = eh_V h19)), ((congrArg eh_N r2).trans (hNk20.trans hN12)), ivk20⟩))
theorem tp_162 {d : Nat} {h h' : ri_H} {v : Option Value} {b : Nat → Int32} {n m : Nat} {w : Int32} (E : ri_calE ri_md (d + 3) 162 [.ref 0, .int w] h = some (v, h')) (iv : iM b n m (eh_V h)) : ∃ x : Int32, v = some (.int x) ∧ iM b n m (eh_V h') ∧ eh_N h' = eh_N h := by
  rcases sp_162 E rfl iv with ⟨_, r1, r2, r3, r4⟩ | ⟨_, _, r1, r2, r3, r4⟩ | ⟨_, _, _, _, _, _, _, r1, r2, r3, r4⟩
  · exact ⟨_, r1, by rw [r2]; exact r4, r3⟩
  · exact ⟨_, r1, by rw [r2]; exact r4, r3⟩
  · exact ⟨_, r1, by rw [r2]; exact r4, r3⟩
theorem sp_164 {d : Nat} {h h' : ri_H} {v : Option Value} {G : eh_W} {b : Nat → Int32} {n m : Nat} {w0 w1 : Int32} (E : ri_calE ri_md (d + 3) 164 [.ref 0, .int w0, .int w1] h = some (v, h')) (hV : eh_V h = G) (iv : iM b n m G) : ((eh_i G 0 11) = 2 ∧ (eh_i G 0 14).toInt < w0.toInt ∧ v = some (.int 0) ∧ eh_V h' = eh_u (eh_u G 0 15 (.int 2)) 0 16 (.int (eh_i G 0 12)) ∧ eh_N h' = eh_N h ∧ iM b n m (eh_u (eh_u G 0 15 (.int 2)) 0 16 (.int (eh_i G 0 12)))) ∨ ((eh_i G 0 11) = 2 ∧ ¬ ((eh_i G 0 14).toInt < w0.toInt) ∧ w1.toInt < (eh_i G 0 14).toInt ∧ v = some (.int 0) ∧ eh_V h' = eh_u (eh_u G 0 15 (.int 2)) 0 16 (.int (eh_i G 0 12)) ∧ eh_N h' = eh_N h ∧ iM b n m (eh_u (eh_u G 0 15 (.int 2)) 0 16 (.int (eh_i G 0 12)))) ∨ (∃ (h20 : ri_H), ∃ (h23 : ri_H), (eh_i G 0 11) = 2 ∧ ¬ ((eh_i G 0 14).toInt < w0.toInt) ∧ ¬ (w1.toInt < (eh_i G 0 14).toInt) ∧ eh_V h20 = eh_u G 0 18 (.int (eh_i G 0 14)) ∧ ri_calE ri_md (d + 2) 158 [.ref 0] h20 = some (none, h23) ∧ iM b n m (eh_V h23) ∧ v = some (.int 1) ∧ eh_V h' = (eh_V h23) ∧ eh_N h' = eh_N h ∧ iM b n m (eh_V h23)) ∨ (¬ ((eh_i G 0 11) = 2) ∧ v = some (.int 0) ∧ eh_V h' = eh_u (eh_u G 0 15 (.int 1)) 0 16 (.int (eh_i G 0 12)) ∧ eh_N h' = eh_N h ∧ iM b n m (eh_u (eh_u G 0 15 (.int 1)) 0 16 (.int (eh_i G 0 12)))) := by
  obtain ⟨rs, hrs, E⟩ := eh_in E (q := md_164) rfl
  have E := E.ld (p := 1) (t := ri_isA) (i := 0) (n := 1) (v := .ref 0) rfl (e := (.aload_n 0, 1, [], .null)) rfl rfl (fun _ _ => rfl) rfl rfl
  have E := E.gi (y := eh_i G 0 11) (p := 4) rfl (x := 145) (m := 3) (w := .null) (t := 12) (i := 11) (u := 1335) rfl rfl hV (iv.1) rfl rfl
  have E := E.pu (p := 5) (lo' := (ri_as 0 [.ref 0, .int w0, .int w1])) (st' := [.int 2, .int (eh_i G 0 11)]) rfl (e := (.iconst 2, 1, [], .null)) rfl rfl (fun _ _ => rfl)
  rcases eh_q0 (E.br (p := 8) (c := 0) (tgt := 14) (a := eh_i G 0 11) (b := 2) (st' := []) rfl (e := (.if_icmp .eq 9, 3, [14], .null)) rfl rfl (fun _ _ => rfl) rfl) with ⟨c1, E⟩ | ⟨c1, E⟩
  · skip
    have E := E.ld (p := 15) (t := ri_isA) (i := 0) (n := 1) (v := .ref 0) rfl (e := (.aload_n 0, 1, [], .null)) rfl rfl (fun _ _ => rfl) rfl rfl
    have E := E.gi (y := eh_i G 0 14) (p := 18) rfl (x := 155) (m := 3) (w := .null) (t := 12) (i := 14) (u := 1338) rfl rfl hV (iv.1) rfl rfl
    have E := E.ld (p := 19) (t := ri_isI) (i := 1) (n := 1) (v := .int w0) rfl (e := (.iload_n 1, 1, [], .null)) rfl rfl (fun _ _ => rfl) rfl rfl
    have E := E.ld (p := 20) (t := ri_isI) (i := 2) (n := 1) (v := .int w1) rfl (e := (.iload_n 2, 1, [], .null)) rfl rfl (fun _ _ => rfl) rfl rfl
    obtain ⟨v1, h2, X, E⟩ := E.cs (p := 23) (as := [.int (eh_i G 0 14), .int w0, .int w1]) (r := []) rfl (x := 177) (m := 3) (w := .null) (j := 149) (n := 3) (t := 0) (u := [1519, 1520]) rfl rfl rfl
    rcases sp_149 (d := d + 1) X hV (iv.1) with ⟨c3, rfl, hV4, hN5⟩ | ⟨c6, c7, rfl, hV8, hN9⟩ | ⟨c10, c11, rfl, hV12, hN13⟩
    · skip
      have c3 : (eh_i G 0 14).toInt < w0.toInt := c3
      have E : eh_e _ _ 23 (ri_as 0 [.ref 0, .int w0, .int w1]) [.int 0] _ rs h' := E
      have E := E.brf (p := 26) (c := 1) (tgt := 32) (a := 0) (b := 0) (st' := []) rfl (e := (.ifCond .ne 9, 3, [32], .null)) rfl rfl (fun _ _ => rfl) (by decide) rfl
      have E := E.ld (p := 27) (t := ri_isA) (i := 0) (n := 1) (v := .ref 0) rfl (e := (.aload_n 0, 1, [], .null)) rfl rfl (fun _ _ => rfl) rfl rfl
      have E := E.pu (p := 28) (lo' := (ri_as 0 [.ref 0, .int w0, .int w1])) (st' := [.int 2, .ref 0]) rfl (e := (.iconst 2, 1, [], .null)) rfl rfl (fun _ _ => rfl)
      obtain ⟨v1, h14, X, E⟩ := E.cv (p := 31) (as := [.int 2]) (b := 0) (r := []) rfl (x := 171) (m := 3) (w := .null) (j := 159) (n := 1) (t := 12) (u := [1507, 40, 1509]) rfl rfl rfl
      rcases sp_159 (d := d + 1) X hV4 (iv.1) with ⟨rfl, hV15, hN16⟩
      have hV15 : _ = eh_u (eh_u G 0 15 (.int 2)) 0 16 (.int (eh_i G 0 12)) := hV15
      have E : eh_e _ _ 31 (ri_as 0 [.ref 0, .int w0, .int w1]) [.int 0] _ rs h' := E
      obtain ⟨r1, r2⟩ := E.reti rfl (m := 1) (ax := []) (w := .null) rfl
      exact Or.inl ⟨c1, c3, (by rw [← hrs, r1]; rfl), ((congrArg eh_V r2).trans hV15), ((congrArg eh_N r2).trans (hN16.trans hN5)), (iM_u (iM_u iv ((iv.1).ui rfl) rfl) (((iv.1).ui rfl).ui rfl) rfl)⟩
    · skip
      have c6 : ¬ ((eh_i G 0 14).toInt < w0.toInt) := c6
      have c7 : w1.toInt < (eh_i G 0 14).toInt := c7
      have E : eh_e _ _ 23 (ri_as 0 [.ref 0, .int w0, .int w1]) [.int 0] _ rs h' := E
      have E := E.brf (p := 26) (c := 1) (tgt := 32) (a := 0) (b := 0) (st' := []) rfl (e := (.ifCond .ne 9, 3, [32], .null)) rfl rfl (fun _ _ => rfl) (by decide) rfl
      have E := E.ld (p := 27) (t := ri_isA) (i := 0) (n := 1) (v := .ref 0) rfl (e := (.aload_n 0, 1, [], .null)) rfl rfl (fun _ _ => rfl) rfl rfl
      have E := E.pu (p := 28) (lo' := (ri_as 0 [.ref 0, .int w0, .int w1])) (st' := [.int 2, .ref 0]) rfl (e := (.iconst 2, 1, [], .null)) rfl rfl (fun _ _ => rfl)
      obtain ⟨v1, h17, X, E⟩ := E.cv (p := 31) (as := [.int 2]) (b := 0) (r := []) rfl (x := 171) (m := 3) (w := .null) (j := 159) (n := 1) (t := 12) (u := [1507, 40, 1509]) rfl rfl rfl
      rcases sp_159 (d := d + 1) X hV8 (iv.1) with ⟨rfl, hV18, hN19⟩
      have hV18 : _ = eh_u (eh_u G 0 15 (.int 2)) 0 16 (.int (eh_i G 0 12)) := hV18
      have E : eh_e _ _ 31 (ri_as 0 [.ref 0, .int w0, .int w1]) [.int 0] _ rs h' := E
      obtain ⟨r1, r2⟩ := E.reti rfl (m := 1) (ax := []) (w := .null) rfl
      exact Or.inr (Or.inl ⟨c1, c6, c7, (by rw [← hrs, r1]; rfl), ((congrArg eh_V r2).trans hV18), ((congrArg eh_N r2).trans (hN19.trans hN9)), (iM_u (iM_u iv ((iv.1).ui rfl) rfl) (((iv.1).ui rfl).ui rfl) rfl)⟩)
    · skip
      have c10 : ¬ ((eh_i G 0 14).toInt < w0.toInt) := c10
      have c11 : ¬ (w1.toInt < (eh_i G 0 14).toInt) := c11
      have E : eh_e _ _ 23 (ri_as 0 [.ref 0, .int w0, .int w1]) [.int 1] _ rs h' := E
      have E := E.brt (c := 1) (tgt := 32) (a := 1) (b := 0) (st' := []) rfl (e := (.ifCond .ne 9, 3, [32], .null)) rfl rfl (fun _ _ => rfl) (by decide)
      have E := E.ld (p := 33) (t := ri_isA) (i := 0) (n := 1) (v := .ref 0) rfl (e := (.aload_n 0, 1, [], .null)) rfl rfl (fun _ _ => rfl) rfl rfl
      have E := E.ld (p := 34) (t := ri_isA) (i := 0) (n := 1) (v := .ref 0) rfl (e := (.aload_n 0, 1, [], .null)) rfl rfl (fun _ _ => rfl) rfl rfl
      have E := E.gi (y := eh_i G 0 14) (p := 37) rfl (x := 155) (m := 3) (w := .null) (t := 12) (i := 14) (u := 1338) rfl rfl hV12 (iv.1) rfl rfl
      obtain ⟨h20, hV21, hN22, E⟩ := E.gp (p := 40) rfl (x := 181) (m := 3) (w := .null) (t := 12) (i := 18) (u := 1342) (y := 0) rfl rfl hV12
      have E := E.ld (p := 41) (t := ri_isA) (i := 0) (n := 1) (v := .ref 0) rfl (e := (.aload_n 0, 1, [], .null)) rfl rfl (fun _ _ => rfl) rfl rfl
      obtain ⟨v1, h23, X, E⟩ := E.cv (p := 44) (as := []) (b := 0) (r := []) rfl (x := 174) (m := 3) (w := .null) (j := 158) (n := 0) (t := 12) (u := [1478, 35, 1480]) rfl rfl rfl
      obtain ⟨rfl, ivk24, hNk24⟩ := tp_158 (d := d) X (by rw [hV21]; exact (iM_u iv ((iv.1).ui rfl) rfl))
      have Xk24 := X
      have E : eh_e _ _ 44 (ri_as 0 [.ref 0, .int w0, .int w1]) [] h23 rs h' := E
      have E := E.pu (p := 45) (lo' := (ri_as 0 [.ref 0, .int w0, .int w1])) (st' := [.int 1]) rfl (e := (.iconst 1, 1, [], .null)) rfl rfl (fun _ _ => rfl)
      obtain ⟨r1, r2⟩ := E.reti rfl (m := 1) (ax := []) (w := .null) rfl
      exact Or.inr (Or.inr (Or.inl ⟨h20, h23, c1, c10, c11, hV21, Xk24, ivk24, (by rw [← hrs, r1]; rfl), ((congrArg eh_V r2).trans (rfl : eh_V h23 = eh_V h23)), ((congrArg eh_N r2).trans (hNk24.trans (hN22.trans hN13))), ivk24⟩))
  · skip
    have E := E.ld (p := 9) (t := ri_isA) (i := 0) (n := 1) (v := .ref 0) rfl (e := (.aload_n 0, 1, [], .null)) rfl rfl (fun _ _ => rfl) rfl rfl
    have E := E.pu (p := 10) (lo' := (ri_as 0 [.ref 0, .int w0, .int w1])) (st' := [.int 1, .ref 0]) rfl (e := (.iconst 1, 1, [], .null)) rfl rfl (fun _ _ => rfl)
    obtain ⟨v1, h25, X, E⟩ := E.cv (p := 13) (as := [.int 1]) (b := 0) (r := []) rfl (x := 171) (m := 3) (w := .null) (j := 159) (n := 1) (t := 12) (u := [1507, 40, 1509]) rfl rfl rfl
    rcases sp_159 (d := d + 1) X hV (iv.1) with ⟨rfl, hV26, hN27⟩
    have hV26 : _ = eh_u (eh_u G 0 15 (.int 1)) 0 16 (.int (eh_i G 0 12)) := hV26
    have E : eh_e _ _ 13 (ri_as 0 [.ref 0, .int w0, .int w1]) [.int 0] _ rs h' := E
    obtain ⟨r1, r2⟩ := E.reti rfl (m := 1) (ax := []) (w := .null) rfl
    exact Or.inr (Or.inr (Or.inr (⟨c1, (by rw [← hrs, r1]; rfl), ((congrArg eh_V r2).trans hV26), ((congrArg eh_N r2).trans hN27), (iM_u (iM_u iv ((iv.1).ui rfl) rfl) (((iv.1).ui rfl).ui rfl) rfl)⟩)))
theorem tp_164 {d : Nat} {h h' : ri_H} {v : Option Value} {b : Nat → Int32} {n m : Nat} {w0 : Int32} {w1 : Int32} (E : ri_calE ri_md (d + 3) 164 [.ref 0, .int w0, .int w1] h = some (v, h')) (iv : iM b n m (eh_V h)) : ∃ x : Int32, v = some (.int x) ∧ iM b n m (eh_V h') ∧ eh_N h' = eh_N h := by
  rcases sp_164 E rfl iv with ⟨_, _, r1, r2, r3, r4⟩ | ⟨_, _, _, r1, r2, r3, r4⟩ | ⟨_, _, _, _, _, _, _, _, r1, r2, r3, r4⟩ | ⟨_, r1, r2, r3, r4⟩
  · exact ⟨_, r1, by rw [r2]; exact r4, r3⟩
  · exact ⟨_, r1, by rw [r2]; exact r4, r3⟩
  · exact ⟨_, r1, by rw [r2]; exact r4, r3⟩
  · exact ⟨_, r1, by rw [r2]; exact r4, r3⟩
theorem sp_165 {d : Nat} {h h' : ri_H} {v : Option Value} {G : eh_W} {b : Nat → Int32} {n m : Nat} {to w0 w1 : Int32} (E : ri_calE ri_md (d + 4) 165 [.ref 0, .int to, .int w0, .int w1] h = some (v, h')) (hV : eh_V h = G) (iv : iM b n m G) : (∃ (x3 : Int32), ∃ (h1 : ri_H), ri_calE ri_md (d + 3) 164 [.ref 0, .int w0, .int w1] h = some (some (.int x3), h1) ∧ iM b n m (eh_V h1) ∧ ¬ (x3 = 0) ∧ v = some (.int 1) ∧ eh_V h' = eh_u (eh_V h1) 3 (to).toNatClampNeg (.int (eh_i (eh_V h1) 0 18)) ∧ eh_N h' = eh_N h ∧ iM b n m (eh_u (eh_V h1) 3 (to).toNatClampNeg (.int (eh_i (eh_V h1) 0 18)))) ∨ (∃ (x3 : Int32), ∃ (h1 : ri_H), ri_calE ri_md (d + 3) 164 [.ref 0, .int w0, .int w1] h = some (some (.int x3), h1) ∧ iM b n m (eh_V h1) ∧ x3 = 0 ∧ v = some (.int 0) ∧ eh_V h' = (eh_V h1) ∧ eh_N h' = eh_N h ∧ iM b n m (eh_V h1)) := by
  obtain ⟨rs, hrs, E⟩ := eh_in E (q := md_165) rfl
  have E := E.ld (p := 1) (t := ri_isA) (i := 0) (n := 1) (v := .ref 0) rfl (e := (.aload_n 0, 1, [], .null)) rfl rfl (fun _ _ => rfl) rfl rfl
  have E := E.ld (p := 2) (t := ri_isI) (i := 2) (n := 1) (v := .int w0) rfl (e := (.iload_n 2, 1, [], .null)) rfl rfl (fun _ _ => rfl) rfl rfl
  have E := E.ld (p := 3) (t := ri_isI) (i := 3) (n := 1) (v := .int w1) rfl (e := (.iload_n 3, 1, [], .null)) rfl rfl (fun _ _ => rfl) rfl rfl
  obtain ⟨v1, h1, X, E⟩ := E.cv (p := 6) (as := [.int w0, .int w1]) (b := 0) (r := []) rfl (x := 184) (m := 3) (w := .null) (j := 164) (n := 2) (t := 12) (u := [1515, 42, 1517]) rfl rfl rfl
  obtain ⟨x3, rfl, ivk2, hNk2⟩ := tp_164 (d := d) X (by rw [hV]; exact iv)
  have Xk2 := X
  have E : eh_e _ _ 6 (ri_as 0 [.ref 0, .int to, .int w0, .int w1]) [.int x3] h1 rs h' := E
  rcases eh_q1 (E.br (p := 9) (c := 1) (tgt := 11) (a := x3) (b := 0) (st' := []) rfl (e := (.ifCond .ne 5, 3, [11], .null)) rfl rfl (fun _ _ => rfl) rfl) with ⟨c4, E⟩ | ⟨c4, E⟩
  · skip
    have E := E.ld (p := 12) (t := ri_isA) (i := 0) (n := 1) (v := .ref 0) rfl (e := (.aload_n 0, 1, [], .null)) rfl rfl (fun _ _ => rfl) rfl rfl
    have E := E.gr (n := 3) (p := 15) rfl (x := 37) (m := 3) (w := .null) (t := 12) (i := 7) (u := 1331) rfl rfl (rfl : eh_V h1 = eh_V h1) ivk2.1 rfl
    have E := E.ld (p := 16) (t := ri_isI) (i := 1) (n := 1) (v := .int to) rfl (e := (.iload_n 1, 1, [], .null)) rfl rfl (fun _ _ => rfl) rfl rfl
    have E := E.ld (p := 17) (t := ri_isA) (i := 0) (n := 1) (v := .ref 0) rfl (e := (.aload_n 0, 1, [], .null)) rfl rfl (fun _ _ => rfl) rfl rfl
    have E := E.gi (y := eh_i (eh_V h1) 0 18) (p := 20) rfl (x := 181) (m := 3) (w := .null) (t := 12) (i := 18) (u := 1342) rfl rfl (rfl : eh_V h1 = eh_V h1) ivk2.1 rfl rfl
    obtain ⟨h5, hV6, hN7, E⟩ := E.aw (gg := ri_g1) (b := true) (p := 21) (n := (to).toNatClampNeg) rfl (e := (.iastore, 1, [], .null)) rfl rfl (fun _ _ => rfl) rfl (rfl : eh_V h1 = eh_V h1) rfl
    have E := E.pu (p := 22) (lo' := (ri_as 0 [.ref 0, .int to, .int w0, .int w1])) (st' := [.int 1]) rfl (e := (.iconst 1, 1, [], .null)) rfl rfl (fun _ _ => rfl)
    obtain ⟨r1, r2⟩ := E.reti rfl (m := 1) (ax := []) (w := .null) rfl
    exact Or.inl ⟨x3, h1, Xk2, ivk2, c4, (by rw [← hrs, r1]; rfl), ((congrArg eh_V r2).trans hV6), ((congrArg eh_N r2).trans (hN7.trans hNk2)), (iM_u ivk2 (ivk2.1.ui rfl) rfl)⟩
  · skip
    have E := E.pu (p := 10) (lo' := (ri_as 0 [.ref 0, .int to, .int w0, .int w1])) (st' := [.int 0]) rfl (e := (.iconst 0, 1, [], .null)) rfl rfl (fun _ _ => rfl)
    obtain ⟨r1, r2⟩ := E.reti rfl (m := 1) (ax := []) (w := .null) rfl
    exact Or.inr (⟨x3, h1, Xk2, ivk2, c4, (by rw [← hrs, r1]; rfl), ((congrArg eh_V r2).trans (rfl : eh_V h1 = eh_V h1)), ((congrArg eh_N r2).trans hNk2), ivk2⟩)
theorem tp_165 {d : Nat} {h h' : ri_H} {v : Option Value} {b : Nat → Int32} {n m : Nat} {to : Int32} {w0 : Int32} {w1 : Int32} (E : ri_calE ri_md (d + 4) 165 [.ref 0, .int to, .int w0, .int w1] h = some (v, h')) (iv : iM b n m (eh_V h)) : ∃ x : Int32, v = some (.int x) ∧ iM b n m (eh_V h') ∧ eh_N h' = eh_N h := by
  rcases sp_165 E rfl iv with ⟨_, _, _, _, _, r1, r2, r3, r4⟩ | ⟨_, _, _, _, _, r1, r2, r3, r4⟩
  · exact ⟨_, r1, by rw [r2]; exact r4, r3⟩
  · exact ⟨_, r1, by rw [r2]; exact r4, r3⟩
theorem sp_169 {d : Nat} {h h' : ri_H} {v : Option Value} {G : eh_W} {b : Nat → Int32} {n m : Nat} {k : Int32} (E : ri_calE ri_md (d + 3) 169 [.ref 0, .int k] h = some (v, h')) (hV : eh_V h = G) (iv : iM b n m G) : (∃ (h8 : ri_H), ∃ (h11 : ri_H), ¬ ((((eh_i G 0 20) >>> (k &&& 31)) &&& 1) = 1) ∧ eh_V h8 = eh_u G 0 20 (.int ((eh_i G 0 20) ||| (1 <<< (k &&& 31)))) ∧ ri_calE ri_md (d + 2) 158 [.ref 0] h8 = some (none, h11) ∧ iM b n m (eh_V h11) ∧ v = some (.int 1) ∧ eh_V h' = (eh_V h11) ∧ eh_N h' = eh_N h ∧ iM b n m (eh_V h11)) ∨ ((((eh_i G 0 20) >>> (k &&& 31)) &&& 1) = 1 ∧ v = some (.int 0) ∧ eh_V h' = eh_u (eh_u G 0 15 (.int 3)) 0 16 (.int (eh_i G 0 12)) ∧ eh_N h' = eh_N h ∧ iM b n m (eh_u (eh_u G 0 15 (.int 3)) 0 16 (.int (eh_i G 0 12)))) := by
  obtain ⟨rs, hrs, E⟩ := eh_in E (q := md_169) rfl
  have E := E.ld (p := 1) (t := ri_isA) (i := 0) (n := 1) (v := .ref 0) rfl (e := (.aload_n 0, 1, [], .null)) rfl rfl (fun _ _ => rfl) rfl rfl
  have E := E.gi (y := eh_i G 0 20) (p := 4) rfl (x := 196) (m := 3) (w := .null) (t := 12) (i := 20) (u := 1344) rfl rfl hV (iv.1) rfl rfl
  have E := E.ld (p := 5) (t := ri_isI) (i := 1) (n := 1) (v := .int k) rfl (e := (.iload_n 1, 1, [], .null)) rfl rfl (fun _ _ => rfl) rfl rfl
  obtain ⟨v1, h1, X, E⟩ := E.cs (p := 8) (as := [.int (eh_i G 0 20), .int k]) (r := []) rfl (x := 199) (m := 3) (w := .null) (j := 150) (n := 2) (t := 0) (u := [1504, 1505]) rfl rfl rfl
  rcases sp_150 (d := d + 1) X hV (iv.1) with ⟨c2, rfl, hV3, hN4⟩ | ⟨c5, rfl, hV6, hN7⟩
  · skip
    have c2 : ¬ ((((eh_i G 0 20) >>> (k &&& 31)) &&& 1) = 1) := c2
    have E : eh_e _ _ 8 (ri_as 0 [.ref 0, .int k]) [.int 0] _ rs h' := E
    have E := E.brt (c := 0) (tgt := 17) (a := 0) (b := 0) (st' := []) rfl (e := (.ifCond .eq 9, 3, [17], .null)) rfl rfl (fun _ _ => rfl) (by decide)
    have E := E.ld (p := 18) (t := ri_isA) (i := 0) (n := 1) (v := .ref 0) rfl (e := (.aload_n 0, 1, [], .null)) rfl rfl (fun _ _ => rfl) rfl rfl
    have E := E.pu (p := 19) (lo' := (ri_as 0 [.ref 0, .int k])) (st' := [.ref 0, .ref 0]) rfl (e := (.dup, 1, [], .null)) rfl rfl (fun _ _ => rfl)
    have E := E.gi (y := eh_i G 0 20) (p := 22) rfl (x := 196) (m := 3) (w := .null) (t := 12) (i := 20) (u := 1344) rfl rfl hV3 (iv.1) rfl rfl
    have E := E.pu (p := 23) (lo' := (ri_as 0 [.ref 0, .int k])) (st' := [.int 1, .int (eh_i G 0 20), .ref 0]) rfl (e := (.iconst 1, 1, [], .null)) rfl rfl (fun _ _ => rfl)
    have E := E.ld (p := 24) (t := ri_isI) (i := 1) (n := 1) (v := .int k) rfl (e := (.iload_n 1, 1, [], .null)) rfl rfl (fun _ _ => rfl) rfl rfl
    have E := E.pu (p := 25) (lo' := (ri_as 0 [.ref 0, .int k])) (st' := [.int (1 <<< (k &&& 31)), .int (eh_i G 0 20), .ref 0]) rfl (e := (.ishl, 1, [], .null)) rfl rfl (fun _ _ => rfl)
    have E := E.pu (p := 26) (lo' := (ri_as 0 [.ref 0, .int k])) (st' := [.int ((eh_i G 0 20) ||| (1 <<< (k &&& 31))), .ref 0]) rfl (e := (.ior, 1, [], .null)) rfl rfl (fun _ _ => rfl)
    obtain ⟨h8, hV9, hN10, E⟩ := E.gp (p := 29) rfl (x := 196) (m := 3) (w := .null) (t := 12) (i := 20) (u := 1344) (y := 0) rfl rfl hV3
    have E := E.ld (p := 30) (t := ri_isA) (i := 0) (n := 1) (v := .ref 0) rfl (e := (.aload_n 0, 1, [], .null)) rfl rfl (fun _ _ => rfl) rfl rfl
    obtain ⟨v1, h11, X, E⟩ := E.cv (p := 33) (as := []) (b := 0) (r := []) rfl (x := 174) (m := 3) (w := .null) (j := 158) (n := 0) (t := 12) (u := [1478, 35, 1480]) rfl rfl rfl
    obtain ⟨rfl, ivk12, hNk12⟩ := tp_158 (d := d) X (by rw [hV9]; exact (iM_u iv ((iv.1).ui rfl) rfl))
    have Xk12 := X
    have E : eh_e _ _ 33 (ri_as 0 [.ref 0, .int k]) [] h11 rs h' := E
    have E := E.pu (p := 34) (lo' := (ri_as 0 [.ref 0, .int k])) (st' := [.int 1]) rfl (e := (.iconst 1, 1, [], .null)) rfl rfl (fun _ _ => rfl)
    obtain ⟨r1, r2⟩ := E.reti rfl (m := 1) (ax := []) (w := .null) rfl
    exact Or.inl ⟨h8, h11, c2, hV9, Xk12, ivk12, (by rw [← hrs, r1]; rfl), ((congrArg eh_V r2).trans (rfl : eh_V h11 = eh_V h11)), ((congrArg eh_N r2).trans (hNk12.trans (hN10.trans hN4))), ivk12⟩
  · skip
    have c5 : (((eh_i G 0 20) >>> (k &&& 31)) &&& 1) = 1 := c5
    have E : eh_e _ _ 8 (ri_as 0 [.ref 0, .int k]) [.int 1] _ rs h' := E
    have E := E.brf (p := 11) (c := 0) (tgt := 17) (a := 1) (b := 0) (st' := []) rfl (e := (.ifCond .eq 9, 3, [17], .null)) rfl rfl (fun _ _ => rfl) (by decide) rfl
    have E := E.ld (p := 12) (t := ri_isA) (i := 0) (n := 1) (v := .ref 0) rfl (e := (.aload_n 0, 1, [], .null)) rfl rfl (fun _ _ => rfl) rfl rfl
    have E := E.pu (p := 13) (lo' := (ri_as 0 [.ref 0, .int k])) (st' := [.int 3, .ref 0]) rfl (e := (.iconst 3, 1, [], .null)) rfl rfl (fun _ _ => rfl)
    obtain ⟨v1, h13, X, E⟩ := E.cv (p := 16) (as := [.int 3]) (b := 0) (r := []) rfl (x := 171) (m := 3) (w := .null) (j := 159) (n := 1) (t := 12) (u := [1507, 40, 1509]) rfl rfl rfl
    rcases sp_159 (d := d + 1) X hV6 (iv.1) with ⟨rfl, hV14, hN15⟩
    have hV14 : _ = eh_u (eh_u G 0 15 (.int 3)) 0 16 (.int (eh_i G 0 12)) := hV14
    have E : eh_e _ _ 16 (ri_as 0 [.ref 0, .int k]) [.int 0] _ rs h' := E
    obtain ⟨r1, r2⟩ := E.reti rfl (m := 1) (ax := []) (w := .null) rfl
    exact Or.inr (⟨c5, (by rw [← hrs, r1]; rfl), ((congrArg eh_V r2).trans hV14), ((congrArg eh_N r2).trans (hN15.trans hN7)), (iM_u (iM_u iv ((iv.1).ui rfl) rfl) (((iv.1).ui rfl).ui rfl) rfl)⟩)
theorem tp_169 {d : Nat} {h h' : ri_H} {v : Option Value} {b : Nat → Int32} {n m : Nat} {k : Int32} (E : ri_calE ri_md (d + 3) 169 [.ref 0, .int k] h = some (v, h')) (iv : iM b n m (eh_V h)) : ∃ x : Int32, v = some (.int x) ∧ iM b n m (eh_V h') ∧ eh_N h' = eh_N h := by
  rcases sp_169 E rfl iv with ⟨_, _, _, _, _, _, r1, r2, r3, r4⟩ | ⟨_, r1, r2, r3, r4⟩
  · exact ⟨_, r1, by rw [r2]; exact r4, r3⟩
  · exact ⟨_, r1, by rw [r2]; exact r4, r3⟩
theorem nm_a {cal : eh_K} {lo : List (Nat × Value)} {h h' : ri_H} {rs : List Value} {G : eh_W} (E : eh_e cal md_163 0 lo [] h rs h') (hV : eh_V h = G) (ty : eh_ty tM G) (l0 : ri_lk lo 0 = some (.ref 0)) : (¬ ((eh_i G 0 11) = 1) ∧ ∃ hz loz, eh_e cal md_163 16 loz [] hz rs h' ∧ eh_V hz = G ∧ eh_N hz = eh_N h ∧ eh_ty tM G ∧ ri_lk loz 0 = some (.ref 0) ∧ ri_lk loz 1 = some (.int 0) ∧ ri_lk loz 2 = some (.int 0)) ∨ ((eh_i G 0 11) = 1 ∧ ∃ hz loz, eh_e cal md_163 16 loz [] hz rs h' ∧ eh_V hz = G ∧ eh_N hz = eh_N h ∧ eh_ty tM G ∧ ri_lk loz 0 = some (.ref 0) ∧ ri_lk loz 1 = some (.int 1) ∧ ri_lk loz 2 = some (.int 0)) := by
  have E := E.ld (p := 1) (t := ri_isA) (i := 0) (n := 1) (v := .ref 0) rfl (e := (.aload_n 0, 1, [], .null)) rfl rfl (fun _ _ => rfl) l0 rfl
  have E := E.gi (y := eh_i G 0 11) (p := 4) rfl (x := 145) (m := 3) (w := .null) (t := 12) (i := 11) (u := 1335) rfl rfl hV ty rfl rfl
  have E := E.pu (p := 5) (lo' := lo) (st' := [.int 1, .int (eh_i G 0 11)]) rfl (e := (.iconst 1, 1, [], .null)) rfl rfl (fun _ _ => rfl)
  rcases eh_q1 (E.br (p := 8) (c := 1) (tgt := 12) (a := eh_i G 0 11) (b := 1) (st' := []) rfl (e := (.if_icmp .ne 7, 3, [12], .null)) rfl rfl (fun _ _ => rfl) rfl) with ⟨c1, E⟩ | ⟨c1, E⟩
  · skip
    have E := E.pu (p := 13) (lo' := lo) (st' := [.int 0]) rfl (e := (.iconst 0, 1, [], .null)) rfl rfl (fun _ _ => rfl)
    have E := E.so (p := 14) (t := ri_isI) (i := 1) (n := 1) rfl (e := (.istore_n 1, 1, [], .null)) rfl rfl (fun _ _ => rfl) rfl
    have k2_1 : ri_lk (ri_st1 lo 1 (.int 0)) 1 = some (.int 0) := eh_self
    have k2_0 : ri_lk (ri_st1 lo 1 (.int 0)) 0 = some (.ref 0) := eh_keep (by decide) (Or.inl rfl) l0
    have E := E.pu (p := 15) (lo' := (ri_st1 lo 1 (.int 0))) (st' := [.int 0]) rfl (e := (.iconst 0, 1, [], .null)) rfl rfl (fun _ _ => rfl)
    have E := E.so (p := 16) (t := ri_isI) (i := 2) (n := 1) rfl (e := (.istore_n 2, 1, [], .null)) rfl rfl (fun _ _ => rfl) rfl
    have k3_2 : ri_lk (ri_st1 (ri_st1 lo 1 (.int 0)) 2 (.int 0)) 2 = some (.int 0) := eh_self
    have k3_0 : ri_lk (ri_st1 (ri_st1 lo 1 (.int 0)) 2 (.int 0)) 0 = some (.ref 0) := eh_keep (by decide) (Or.inl rfl) k2_0
    have k3_1 : ri_lk (ri_st1 (ri_st1 lo 1 (.int 0)) 2 (.int 0)) 1 = some (.int 0) := eh_keep (by decide) (Or.inl rfl) k2_1
    exact Or.inl ⟨c1, _, _, E, hV, rfl, ty, k3_0, k3_1, k3_2⟩
  · skip
    have E := E.pu (p := 9) (lo' := lo) (st' := [.int 1]) rfl (e := (.iconst 1, 1, [], .null)) rfl rfl (fun _ _ => rfl)
    have E := E.pu (p := 13) (lo' := lo) (st' := [.int 1]) rfl (e := (.goto 4, 3, [13], .null)) rfl rfl (fun _ _ => rfl)
    have E := E.so (p := 14) (t := ri_isI) (i := 1) (n := 1) rfl (e := (.istore_n 1, 1, [], .null)) rfl rfl (fun _ _ => rfl) rfl
    have k4_1 : ri_lk (ri_st1 lo 1 (.int 1)) 1 = some (.int 1) := eh_self
    have k4_0 : ri_lk (ri_st1 lo 1 (.int 1)) 0 = some (.ref 0) := eh_keep (by decide) (Or.inl rfl) l0
    have E := E.pu (p := 15) (lo' := (ri_st1 lo 1 (.int 1))) (st' := [.int 0]) rfl (e := (.iconst 0, 1, [], .null)) rfl rfl (fun _ _ => rfl)
    have E := E.so (p := 16) (t := ri_isI) (i := 2) (n := 1) rfl (e := (.istore_n 2, 1, [], .null)) rfl rfl (fun _ _ => rfl) rfl
    have k5_2 : ri_lk (ri_st1 (ri_st1 lo 1 (.int 1)) 2 (.int 0)) 2 = some (.int 0) := eh_self
    have k5_0 : ri_lk (ri_st1 (ri_st1 lo 1 (.int 1)) 2 (.int 0)) 0 = some (.ref 0) := eh_keep (by decide) (Or.inl rfl) k4_0
    have k5_1 : ri_lk (ri_st1 (ri_st1 lo 1 (.int 1)) 2 (.int 0)) 1 = some (.int 1) := eh_keep (by decide) (Or.inl rfl) k4_1
    exact Or.inr (⟨c1, _, _, E, hV, rfl, ty, k5_0, k5_1, k5_2⟩)
theorem nm_i {cal : eh_K} {lo : List (Nat × Value)} {h h' : ri_H} {rs : List Value} {G : eh_W} {is k : Int32} (E : eh_e cal md_163 16 lo [] h rs h') (hV : eh_V h = G) (ty : eh_ty tM G) (l0 : ri_lk lo 0 = some (.ref 0)) (l1 : ri_lk lo 1 = some (.int is)) (l2 : ri_lk lo 2 = some (.int k)) : (¬ (k.toInt < 24) ∧ rs = [.int is] ∧ eh_V h' = G ∧ eh_N h' = eh_N h) ∨ (k.toInt < 24 ∧ is = 0 ∧ ∃ hz loz, eh_e cal md_163 16 loz [] hz rs h' ∧ eh_V hz = G ∧ eh_N hz = eh_N h ∧ eh_ty tM G ∧ ri_lk loz 0 = some (.ref 0) ∧ ri_lk loz 1 = some (.int 0) ∧ ri_lk loz 2 = some (.int (k + 1))) ∨ (k.toInt < 24 ∧ ¬ (is = 0) ∧ (eh_l G 0 17) = (eh_l G 6 (k).toNatClampNeg) ∧ ∃ hz loz, eh_e cal md_163 16 loz [] hz rs h' ∧ eh_V hz = G ∧ eh_N hz = eh_N h ∧ eh_ty tM G ∧ ri_lk loz 0 = some (.ref 0) ∧ ri_lk loz 1 = some (.int 0) ∧ ri_lk loz 2 = some (.int (k + 1))) ∨ (k.toInt < 24 ∧ ¬ (is = 0) ∧ ¬ ((eh_l G 0 17) = (eh_l G 6 (k).toNatClampNeg)) ∧ ∃ hz loz, eh_e cal md_163 16 loz [] hz rs h' ∧ eh_V hz = G ∧ eh_N hz = eh_N h ∧ eh_ty tM G ∧ ri_lk loz 0 = some (.ref 0) ∧ ri_lk loz 1 = some (.int 1) ∧ ri_lk loz 2 = some (.int (k + 1))) := by
  have E := E.ld (p := 17) (t := ri_isI) (i := 2) (n := 1) (v := .int k) rfl (e := (.iload_n 2, 1, [], .null)) rfl rfl (fun _ _ => rfl) l2 rfl
  have E := E.pu (p := 19) (lo' := lo) (st' := [.int 24, .int k]) rfl (e := (.bipush 24, 2, [], .null)) rfl rfl (fun _ _ => rfl)
  rcases eh_r3 rfl (show (24 : Int32).toInt = 24 by decide) (E.br (p := 22) (c := 3) (tgt := 52) (a := k) (b := 24) (st' := []) rfl (e := (.if_icmp .ge 33, 3, [52], .null)) rfl rfl (fun _ _ => rfl) rfl) with ⟨c1, E⟩ | ⟨c1, E⟩
  · skip
    have E := E.ld (p := 53) (t := ri_isI) (i := 1) (n := 1) (v := .int is) rfl (e := (.iload_n 1, 1, [], .null)) rfl rfl (fun _ _ => rfl) l1 rfl
    obtain ⟨r1, r2⟩ := E.reti rfl (m := 1) (ax := []) (w := .null) rfl
    exact Or.inl ⟨c1, r1, ((congrArg eh_V r2).trans hV), (congrArg eh_N r2)⟩
  · skip
    have E := E.ld (p := 23) (t := ri_isI) (i := 1) (n := 1) (v := .int is) rfl (e := (.iload_n 1, 1, [], .null)) rfl rfl (fun _ _ => rfl) l1 rfl
    rcases eh_q0 (E.br (p := 26) (c := 0) (tgt := 44) (a := is) (b := 0) (st' := []) rfl (e := (.ifCond .eq 21, 3, [44], .null)) rfl rfl (fun _ _ => rfl) rfl) with ⟨c2, E⟩ | ⟨c2, E⟩
    · skip
      have E := E.pu (p := 45) (lo' := lo) (st' := [.int 0]) rfl (e := (.iconst 0, 1, [], .null)) rfl rfl (fun _ _ => rfl)
      have E := E.so (p := 46) (t := ri_isI) (i := 1) (n := 1) rfl (e := (.istore_n 1, 1, [], .null)) rfl rfl (fun _ _ => rfl) rfl
      have k3_1 : ri_lk (ri_st1 lo 1 (.int 0)) 1 = some (.int 0) := eh_self
      have k3_0 : ri_lk (ri_st1 lo 1 (.int 0)) 0 = some (.ref 0) := eh_keep (by decide) (Or.inl rfl) l0
      have k3_2 : ri_lk (ri_st1 lo 1 (.int 0)) 2 = some (.int k) := eh_keep (by decide) (Or.inl rfl) l2
      have E := E.ii (p := 49) (y := k + 1) rfl (i := 2) (n := 1) (m := 3) (ax := []) (w := .null) rfl k3_2 rfl rfl
      have k4_2 : ri_lk (ri_st1 (ri_st1 lo 1 (.int 0)) 2 (.int (k + 1))) 2 = some (.int (k + 1)) := eh_self
      have k4_0 : ri_lk (ri_st1 (ri_st1 lo 1 (.int 0)) 2 (.int (k + 1))) 0 = some (.ref 0) := eh_keep (by decide) (Or.inl rfl) k3_0
      have k4_1 : ri_lk (ri_st1 (ri_st1 lo 1 (.int 0)) 2 (.int (k + 1))) 1 = some (.int 0) := eh_keep (by decide) (Or.inl rfl) k3_1
      have E := E.pu (p := 16) (lo' := (ri_st1 (ri_st1 lo 1 (.int 0)) 2 (.int (k + 1)))) (st' := []) rfl (e := (.goto (-33), 3, [16], .null)) rfl rfl (fun _ _ => rfl)
      exact Or.inr (Or.inl ⟨c1, c2, _, _, E, hV, rfl, ty, k4_0, k4_1, k4_2⟩)
    · skip
      have E := E.ld (p := 27) (t := ri_isA) (i := 0) (n := 1) (v := .ref 0) rfl (e := (.aload_n 0, 1, [], .null)) rfl rfl (fun _ _ => rfl) l0 rfl
      have E := E.gl (y := eh_l G 0 17) (p := 30) rfl (x := 158) (m := 3) (w := .null) (t := 12) (i := 17) (u := 1341) rfl rfl hV ty rfl rfl
      have E := E.ld (p := 31) (t := ri_isA) (i := 0) (n := 1) (v := .ref 0) rfl (e := (.aload_n 0, 1, [], .null)) rfl rfl (fun _ _ => rfl) l0 rfl
      have E := E.gr (n := 6) (p := 34) rfl (x := 47) (m := 3) (w := .null) (t := 12) (i := 10) (u := 1334) rfl rfl hV ty rfl
      have E := E.ld (p := 35) (t := ri_isI) (i := 2) (n := 1) (v := .int k) rfl (e := (.iload_n 2, 1, [], .null)) rfl rfl (fun _ _ => rfl) l2 rfl
      have E := E.al (p := 36) (z := eh_l G 6 (k).toNatClampNeg) (n := (k).toNatClampNeg) rfl (e := (.laload, 1, [], .null)) rfl rfl (fun _ _ => rfl) rfl hV ty rfl rfl rfl
      have E := E.pu (p := 37) (lo' := lo) (st' := [.int (lg_cmp (eh_l G 0 17) (eh_l G 6 (k).toNatClampNeg))]) rfl (e := (.lcmp, 1, [], .null)) rfl rfl (fun _ _ => rfl)
      rcases eh_ql0 (E.br (p := 40) (c := 0) (tgt := 44) (a := lg_cmp (eh_l G 0 17) (eh_l G 6 (k).toNatClampNeg)) (b := 0) (st' := []) rfl (e := (.ifCond .eq 7, 3, [44], .null)) rfl rfl (fun _ _ => rfl) rfl) with ⟨c5, E⟩ | ⟨c5, E⟩
      · skip
        have E := E.pu (p := 45) (lo' := lo) (st' := [.int 0]) rfl (e := (.iconst 0, 1, [], .null)) rfl rfl (fun _ _ => rfl)
        have E := E.so (p := 46) (t := ri_isI) (i := 1) (n := 1) rfl (e := (.istore_n 1, 1, [], .null)) rfl rfl (fun _ _ => rfl) rfl
        have k6_1 : ri_lk (ri_st1 lo 1 (.int 0)) 1 = some (.int 0) := eh_self
        have k6_0 : ri_lk (ri_st1 lo 1 (.int 0)) 0 = some (.ref 0) := eh_keep (by decide) (Or.inl rfl) l0
        have k6_2 : ri_lk (ri_st1 lo 1 (.int 0)) 2 = some (.int k) := eh_keep (by decide) (Or.inl rfl) l2
        have E := E.ii (p := 49) (y := k + 1) rfl (i := 2) (n := 1) (m := 3) (ax := []) (w := .null) rfl k6_2 rfl rfl
        have k7_2 : ri_lk (ri_st1 (ri_st1 lo 1 (.int 0)) 2 (.int (k + 1))) 2 = some (.int (k + 1)) := eh_self
        have k7_0 : ri_lk (ri_st1 (ri_st1 lo 1 (.int 0)) 2 (.int (k + 1))) 0 = some (.ref 0) := eh_keep (by decide) (Or.inl rfl) k6_0
        have k7_1 : ri_lk (ri_st1 (ri_st1 lo 1 (.int 0)) 2 (.int (k + 1))) 1 = some (.int 0) := eh_keep (by decide) (Or.inl rfl) k6_1
        have E := E.pu (p := 16) (lo' := (ri_st1 (ri_st1 lo 1 (.int 0)) 2 (.int (k + 1)))) (st' := []) rfl (e := (.goto (-33), 3, [16], .null)) rfl rfl (fun _ _ => rfl)
        exact Or.inr (Or.inr (Or.inl ⟨c1, c2, c5, _, _, E, hV, rfl, ty, k7_0, k7_1, k7_2⟩))
      · skip
        have E := E.pu (p := 41) (lo' := lo) (st' := [.int 1]) rfl (e := (.iconst 1, 1, [], .null)) rfl rfl (fun _ _ => rfl)
        have E := E.pu (p := 45) (lo' := lo) (st' := [.int 1]) rfl (e := (.goto 4, 3, [45], .null)) rfl rfl (fun _ _ => rfl)
        have E := E.so (p := 46) (t := ri_isI) (i := 1) (n := 1) rfl (e := (.istore_n 1, 1, [], .null)) rfl rfl (fun _ _ => rfl) rfl
        have k8_1 : ri_lk (ri_st1 lo 1 (.int 1)) 1 = some (.int 1) := eh_self
        have k8_0 : ri_lk (ri_st1 lo 1 (.int 1)) 0 = some (.ref 0) := eh_keep (by decide) (Or.inl rfl) l0
        have k8_2 : ri_lk (ri_st1 lo 1 (.int 1)) 2 = some (.int k) := eh_keep (by decide) (Or.inl rfl) l2
        have E := E.ii (p := 49) (y := k + 1) rfl (i := 2) (n := 1) (m := 3) (ax := []) (w := .null) rfl k8_2 rfl rfl
        have k9_2 : ri_lk (ri_st1 (ri_st1 lo 1 (.int 1)) 2 (.int (k + 1))) 2 = some (.int (k + 1)) := eh_self
        have k9_0 : ri_lk (ri_st1 (ri_st1 lo 1 (.int 1)) 2 (.int (k + 1))) 0 = some (.ref 0) := eh_keep (by decide) (Or.inl rfl) k8_0
        have k9_1 : ri_lk (ri_st1 (ri_st1 lo 1 (.int 1)) 2 (.int (k + 1))) 1 = some (.int 1) := eh_keep (by decide) (Or.inl rfl) k8_1
        have E := E.pu (p := 16) (lo' := (ri_st1 (ri_st1 lo 1 (.int 1)) 2 (.int (k + 1)))) (st' := []) rfl (e := (.goto (-33), 3, [16], .null)) rfl rfl (fun _ _ => rfl)
        exact Or.inr (Or.inr (Or.inr (⟨c1, c2, c5, _, _, E, hV, rfl, ty, k9_0, k9_1, k9_2⟩)))
theorem fm_a {cal : eh_K} {lo : List (Nat × Value)} {h h' : ri_H} {rs : List Value} {G : eh_W} {fr ma : Int32} (E : eh_e cal md_166 0 lo [] h rs h') (hV : eh_V h = G) (ty : eh_ty tM G) (l0 : ri_lk lo 0 = some (.ref 0)) (l1 : ri_lk lo 1 = some (.int fr)) (l2 : ri_lk lo 2 = some (.int ma)) : ∃ hz loz, eh_e cal md_166 2 loz [] hz rs h' ∧ eh_V hz = G ∧ eh_N hz = eh_N h ∧ eh_ty tM G ∧ ri_lk loz 0 = some (.ref 0) ∧ ri_lk loz 1 = some (.int fr) ∧ ri_lk loz 2 = some (.int ma) ∧ ri_lk loz 3 = some (.int 0) := by
  have E := E.pu (p := 1) (lo' := lo) (st' := [.int 0]) rfl (e := (.iconst 0, 1, [], .null)) rfl rfl (fun _ _ => rfl)
  have E := E.so (p := 2) (t := ri_isI) (i := 3) (n := 1) rfl (e := (.istore_n 3, 1, [], .null)) rfl rfl (fun _ _ => rfl) rfl
  have k1_3 : ri_lk (ri_st1 lo 3 (.int 0)) 3 = some (.int 0) := eh_self
  have k1_0 : ri_lk (ri_st1 lo 3 (.int 0)) 0 = some (.ref 0) := eh_keep (by decide) (Or.inl rfl) l0
  have k1_1 : ri_lk (ri_st1 lo 3 (.int 0)) 1 = some (.int fr) := eh_keep (by decide) (Or.inl rfl) l1
  have k1_2 : ri_lk (ri_st1 lo 3 (.int 0)) 2 = some (.int ma) := eh_keep (by decide) (Or.inl rfl) l2
  exact ⟨_, _, E, hV, rfl, ty, k1_0, k1_1, k1_2, k1_3⟩
theorem fm_i {cal : eh_K} {lo : List (Nat × Value)} {h h' : ri_H} {rs : List Value} {G : eh_W} {fr ma k : Int32} (E : eh_e cal md_166 2 lo [] h rs h') (hV : eh_V h = G) (ty : eh_ty tM G) (l0 : ri_lk lo 0 = some (.ref 0)) (l1 : ri_lk lo 1 = some (.int fr)) (l2 : ri_lk lo 2 = some (.int ma)) (l3 : ri_lk lo 3 = some (.int k)) : (¬ (k.toInt < ma.toInt) ∧ rs = [.int (-1)] ∧ eh_V h' = G ∧ eh_N h' = eh_N h) ∨ (k.toInt < ma.toInt ∧ ¬ ((eh_l G 5 (fr + k).toNatClampNeg) = (eh_l G 0 17)) ∧ ∃ hz loz, eh_e cal md_166 2 loz [] hz rs h' ∧ eh_V hz = G ∧ eh_N hz = eh_N h ∧ eh_ty tM G ∧ ri_lk loz 0 = some (.ref 0) ∧ ri_lk loz 1 = some (.int fr) ∧ ri_lk loz 2 = some (.int ma) ∧ ri_lk loz 3 = some (.int (k + 1))) ∨ (k.toInt < ma.toInt ∧ (eh_l G 5 (fr + k).toNatClampNeg) = (eh_l G 0 17) ∧ rs = [.int k] ∧ eh_V h' = G ∧ eh_N h' = eh_N h) := by
  have E := E.ld (p := 3) (t := ri_isI) (i := 3) (n := 1) (v := .int k) rfl (e := (.iload_n 3, 1, [], .null)) rfl rfl (fun _ _ => rfl) l3 rfl
  have E := E.ld (p := 4) (t := ri_isI) (i := 2) (n := 1) (v := .int ma) rfl (e := (.iload_n 2, 1, [], .null)) rfl rfl (fun _ _ => rfl) l2 rfl
  rcases eh_r3 rfl rfl (E.br (p := 7) (c := 3) (tgt := 31) (a := k) (b := ma) (st' := []) rfl (e := (.if_icmp .ge 27, 3, [31], .null)) rfl rfl (fun _ _ => rfl) rfl) with ⟨c1, E⟩ | ⟨c1, E⟩
  · skip
    have E := E.pu (p := 32) (lo' := lo) (st' := [.int (-1)]) rfl (e := (.iconst (-1), 1, [], .null)) rfl rfl (fun _ _ => rfl)
    obtain ⟨r1, r2⟩ := E.reti rfl (m := 1) (ax := []) (w := .null) rfl
    exact Or.inl ⟨c1, r1, ((congrArg eh_V r2).trans hV), (congrArg eh_N r2)⟩
  · skip
    have E := E.ld (p := 8) (t := ri_isA) (i := 0) (n := 1) (v := .ref 0) rfl (e := (.aload_n 0, 1, [], .null)) rfl rfl (fun _ _ => rfl) l0 rfl
    have E := E.gr (n := 5) (p := 11) rfl (x := 43) (m := 3) (w := .null) (t := 12) (i := 9) (u := 1333) rfl rfl hV ty rfl
    have E := E.ld (p := 12) (t := ri_isI) (i := 1) (n := 1) (v := .int fr) rfl (e := (.iload_n 1, 1, [], .null)) rfl rfl (fun _ _ => rfl) l1 rfl
    have E := E.ld (p := 13) (t := ri_isI) (i := 3) (n := 1) (v := .int k) rfl (e := (.iload_n 3, 1, [], .null)) rfl rfl (fun _ _ => rfl) l3 rfl
    have E := E.pu (p := 14) (lo' := lo) (st' := [.int (fr + k), .ref 5]) rfl (e := (.iadd, 1, [], .null)) rfl rfl (fun _ _ => rfl)
    have E := E.al (p := 15) (z := eh_l G 5 (fr + k).toNatClampNeg) (n := (fr + k).toNatClampNeg) rfl (e := (.laload, 1, [], .null)) rfl rfl (fun _ _ => rfl) rfl hV ty rfl rfl rfl
    have E := E.ld (p := 16) (t := ri_isA) (i := 0) (n := 1) (v := .ref 0) rfl (e := (.aload_n 0, 1, [], .null)) rfl rfl (fun _ _ => rfl) l0 rfl
    have E := E.gl (y := eh_l G 0 17) (p := 19) rfl (x := 158) (m := 3) (w := .null) (t := 12) (i := 17) (u := 1341) rfl rfl hV ty rfl rfl
    have E := E.pu (p := 20) (lo' := lo) (st' := [.int (lg_cmp (eh_l G 5 (fr + k).toNatClampNeg) (eh_l G 0 17))]) rfl (e := (.lcmp, 1, [], .null)) rfl rfl (fun _ _ => rfl)
    rcases eh_ql1 (E.br (p := 23) (c := 1) (tgt := 25) (a := lg_cmp (eh_l G 5 (fr + k).toNatClampNeg) (eh_l G 0 17)) (b := 0) (st' := []) rfl (e := (.ifCond .ne 5, 3, [25], .null)) rfl rfl (fun _ _ => rfl) rfl) with ⟨c2, E⟩ | ⟨c2, E⟩
    · skip
      have E := E.ii (p := 28) (y := k + 1) rfl (i := 3) (n := 1) (m := 3) (ax := []) (w := .null) rfl l3 rfl rfl
      have k3_3 : ri_lk (ri_st1 lo 3 (.int (k + 1))) 3 = some (.int (k + 1)) := eh_self
      have k3_0 : ri_lk (ri_st1 lo 3 (.int (k + 1))) 0 = some (.ref 0) := eh_keep (by decide) (Or.inl rfl) l0
      have k3_1 : ri_lk (ri_st1 lo 3 (.int (k + 1))) 1 = some (.int fr) := eh_keep (by decide) (Or.inl rfl) l1
      have k3_2 : ri_lk (ri_st1 lo 3 (.int (k + 1))) 2 = some (.int ma) := eh_keep (by decide) (Or.inl rfl) l2
      have E := E.pu (p := 2) (lo' := (ri_st1 lo 3 (.int (k + 1)))) (st' := []) rfl (e := (.goto (-26), 3, [2], .null)) rfl rfl (fun _ _ => rfl)
      exact Or.inr (Or.inl ⟨c1, c2, _, _, E, hV, rfl, ty, k3_0, k3_1, k3_2, k3_3⟩)
    · skip
      have E := E.ld (p := 24) (t := ri_isI) (i := 3) (n := 1) (v := .int k) rfl (e := (.iload_n 3, 1, [], .null)) rfl rfl (fun _ _ => rfl) l3 rfl
      obtain ⟨r1, r2⟩ := E.reti rfl (m := 1) (ax := []) (w := .null) rfl
      exact Or.inr (Or.inr (⟨c1, c2, r1, ((congrArg eh_V r2).trans hV), (congrArg eh_N r2)⟩))
