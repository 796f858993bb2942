theorem yta_148 {d : Nat} {h h' : ri_H} {v : Option Value} {G : eh_W} {mo : Int32} (E : ri_calE ri_md (d + 1) 148 [.ref 0, .int mo] h = some (v, h')) (hV : eh_V h = G) (ty : eh_ty tM G) : v = none ∧ eh_V h' = eh_u (eh_u (eh_u (eh_u G 0 3 (.int (eh_i G 0 2))) 0 2 (.int 0)) 0 4 (.int 0)) 0 5 (.int mo) ∧ eh_N h' = eh_N h := by
  obtain ⟨rs, hrs, E⟩ := eh_in E (q := md_148) rfl
  have E := E.ld (p := 1) (t := ri_isA) (i := 0) (n := 1) (v := .ref 0) rfl (e := (.aload_n 0, 1, [], .null)) rfl rfl (fun _ _ => rfl) rfl rfl
  have E := E.ld (p := 2) (t := ri_isA) (i := 0) (n := 1) (v := .ref 0) rfl (e := (.aload_n 0, 1, [], .null)) rfl rfl (fun _ _ => rfl) rfl rfl
  have E := E.gi (y := eh_i G 0 2) (p := 5) rfl (x := 7) (m := 3) (w := .null) (t := 12) (i := 2) (u := 1326) rfl rfl hV ty rfl rfl
  obtain ⟨h1, hV2, hN3, E⟩ := E.gp (p := 8) rfl (x := 18) (m := 3) (w := .null) (t := 12) (i := 3) (u := 1327) (y := 0) rfl rfl hV
  have E := E.ld (p := 9) (t := ri_isA) (i := 0) (n := 1) (v := .ref 0) rfl (e := (.aload_n 0, 1, [], .null)) rfl rfl (fun _ _ => rfl) rfl rfl
  have E := E.pu (p := 10) (lo' := (ri_as 0 [.ref 0, .int mo])) (st' := [.int 0, .ref 0]) rfl (e := (.iconst 0, 1, [], .null)) rfl rfl (fun _ _ => rfl)
  obtain ⟨h4, hV5, hN6, E⟩ := E.gp (p := 13) rfl (x := 7) (m := 3) (w := .null) (t := 12) (i := 2) (u := 1326) (y := 0) rfl rfl hV2
  have E := E.ld (p := 14) (t := ri_isA) (i := 0) (n := 1) (v := .ref 0) rfl (e := (.aload_n 0, 1, [], .null)) rfl rfl (fun _ _ => rfl) rfl rfl
  have E := E.pu (p := 15) (lo' := (ri_as 0 [.ref 0, .int mo])) (st' := [.int 0, .ref 0]) rfl (e := (.iconst 0, 1, [], .null)) rfl rfl (fun _ _ => rfl)
  obtain ⟨h7, hV8, hN9, E⟩ := E.gp (p := 18) rfl (x := 21) (m := 3) (w := .null) (t := 12) (i := 4) (u := 1328) (y := 0) rfl rfl hV5
  have E := E.ld (p := 19) (t := ri_isA) (i := 0) (n := 1) (v := .ref 0) rfl (e := (.aload_n 0, 1, [], .null)) rfl rfl (fun _ _ => rfl) rfl rfl
  have E := E.ld (p := 20) (t := ri_isI) (i := 1) (n := 1) (v := .int mo) rfl (e := (.iload_n 1, 1, [], .null)) rfl rfl (fun _ _ => rfl) rfl rfl
  obtain ⟨h10, hV11, hN12, E⟩ := E.gp (p := 23) rfl (x := 24) (m := 3) (w := .null) (t := 12) (i := 5) (u := 1329) (y := 0) rfl rfl hV8
  obtain ⟨r1, r2⟩ := E.retv rfl (m := 1) (ax := []) (w := .null) rfl
  exact ⟨(by rw [← hrs, r1]; rfl), ((congrArg eh_V r2).trans hV11), ((congrArg eh_N r2).trans (hN12.trans (hN9.trans (hN6.trans hN3))))⟩
theorem yis_149 {d : Nat} {h h' : ri_H} {v : Option Value} {G : eh_W} {x0 x1 x2 : Int32} (E : ri_calE ri_md (d + 1) 149 [.int x0, .int x1, .int x2] h = some (v, h')) (hV : eh_V h = G) (ty : eh_ty tM G) : (x0.toInt < x1.toInt ∧ v = some (.int 0) ∧ eh_V h' = G ∧ eh_N h' = eh_N h) ∨ (¬ (x0.toInt < x1.toInt) ∧ x2.toInt < x0.toInt ∧ v = some (.int 0) ∧ eh_V h' = G ∧ eh_N h' = eh_N h) ∨ (¬ (x0.toInt < x1.toInt) ∧ ¬ (x2.toInt < x0.toInt) ∧ v = some (.int 1) ∧ eh_V h' = G ∧ eh_N h' = eh_N h) := by
  obtain ⟨rs, hrs, E⟩ := eh_in E (q := md_149) rfl
  have E := E.ld (p := 1) (t := ri_isI) (i := 0) (n := 1) (v := .int x0) rfl (e := (.iload_n 0, 1, [], .null)) rfl rfl (fun _ _ => rfl) rfl rfl
  have E := E.ld (p := 2) (t := ri_isI) (i := 1) (n := 1) (v := .int x1) rfl (e := (.iload_n 1, 1, [], .null)) rfl rfl (fun _ _ => rfl) rfl rfl
  rcases eh_r2 rfl rfl (E.br (p := 5) (c := 2) (tgt := 14) (a := x0) (b := x1) (st' := []) rfl (e := (.if_icmp .lt 12, 3, [14], .null)) rfl rfl (fun _ _ => rfl) rfl) with ⟨c1, E⟩ | ⟨c1, E⟩
  · skip
    have E := E.pu (p := 15) (lo' := (ri_as 0 [.int x0, .int x1, .int x2])) (st' := [.int 0]) rfl (e := (.iconst 0, 1, [], .null)) rfl rfl (fun _ _ => rfl)
    obtain ⟨r1, r2⟩ := E.reti rfl (m := 1) (ax := []) (w := .null) rfl
    exact Or.inl ⟨c1, (by rw [← hrs, r1]; rfl), ((congrArg eh_V r2).trans hV), (congrArg eh_N r2)⟩
  · skip
    have E := E.ld (p := 6) (t := ri_isI) (i := 0) (n := 1) (v := .int x0) rfl (e := (.iload_n 0, 1, [], .null)) rfl rfl (fun _ _ => rfl) rfl rfl
    have E := E.ld (p := 7) (t := ri_isI) (i := 2) (n := 1) (v := .int x2) rfl (e := (.iload_n 2, 1, [], .null)) rfl rfl (fun _ _ => rfl) rfl rfl
    rcases eh_r4 rfl rfl (E.br (p := 10) (c := 4) (tgt := 14) (a := x0) (b := x2) (st' := []) rfl (e := (.if_icmp .gt 7, 3, [14], .null)) rfl rfl (fun _ _ => rfl) rfl) with ⟨c2, E⟩ | ⟨c2, E⟩
    · skip
      have E := E.pu (p := 15) (lo' := (ri_as 0 [.int x0, .int x1, .int x2])) (st' := [.int 0]) rfl (e := (.iconst 0, 1, [], .null)) rfl rfl (fun _ _ => rfl)
      obtain ⟨r1, r2⟩ := E.reti rfl (m := 1) (ax := []) (w := .null) rfl
      exact Or.inr (Or.inl ⟨c1, c2, (by rw [← hrs, r1]; rfl), ((congrArg eh_V r2).trans hV), (congrArg eh_N r2)⟩)
    · skip
      have E := E.pu (p := 11) (lo' := (ri_as 0 [.int x0, .int x1, .int x2])) (st' := [.int 1]) rfl (e := (.iconst 1, 1, [], .null)) rfl rfl (fun _ _ => rfl)
      have E := E.pu (p := 15) (lo' := (ri_as 0 [.int x0, .int x1, .int x2])) (st' := [.int 1]) rfl (e := (.goto 4, 3, [15], .null)) rfl rfl (fun _ _ => rfl)
      obtain ⟨r1, r2⟩ := E.reti rfl (m := 1) (ax := []) (w := .null) rfl
      exact Or.inr (Or.inr (⟨c1, c2, (by rw [← hrs, r1]; rfl), ((congrArg eh_V r2).trans hV), (congrArg eh_N r2)⟩))
theorem yic_175 {d : Nat} {h h' : ri_H} {v : Option Value} {G : eh_W} {cu : Int32} (E : ri_calE ri_md (d + 2) 175 [.ref 0, .int cu] h = some (v, h')) (hV : eh_V h = G) (ty : eh_ty tM G) : (cu.toInt < 0 ∧ v = some (.int 0) ∧ eh_V h' = G ∧ eh_N h' = eh_N h) ∨ (¬ (cu.toInt < 0) ∧ ((eh_i G 2 3) - 1).toInt < cu.toInt ∧ v = some (.int 0) ∧ eh_V h' = G ∧ eh_N h' = eh_N h) ∨ (¬ (cu.toInt < 0) ∧ ¬ (((eh_i G 2 3) - 1).toInt < cu.toInt) ∧ v = some (.int 1) ∧ eh_V h' = G ∧ eh_N h' = eh_N h) := by
  obtain ⟨rs, hrs, E⟩ := eh_in E (q := md_175) rfl
  have E := E.ld (p := 1) (t := ri_isI) (i := 1) (n := 1) (v := .int cu) rfl (e := (.iload_n 1, 1, [], .null)) rfl rfl (fun _ _ => rfl) rfl rfl
  have E := E.pu (p := 2) (lo' := (ri_as 0 [.ref 0, .int cu])) (st' := [.int 0, .int cu]) rfl (e := (.iconst 0, 1, [], .null)) rfl rfl (fun _ _ => rfl)
  have E := E.ld (p := 3) (t := ri_isA) (i := 0) (n := 1) (v := .ref 0) rfl (e := (.aload_n 0, 1, [], .null)) rfl rfl (fun _ _ => rfl) rfl rfl
  have E := E.gr (n := 2) (p := 6) rfl (x := 33) (m := 3) (w := .null) (t := 12) (i := 6) (u := 1330) rfl rfl hV ty rfl
  have E := E.pu (p := 7) (lo' := (ri_as 0 [.ref 0, .int cu])) (st' := [.int 3, .ref 2, .int 0, .int cu]) rfl (e := (.iconst 3, 1, [], .null)) rfl rfl (fun _ _ => rfl)
  have E := E.ai (p := 8) (z := eh_i G 2 3) (n := 3) rfl (e := (.iaload, 1, [], .null)) rfl rfl (fun _ _ => rfl) rfl hV ty (by decide) rfl rfl
  have E := E.pu (p := 9) (lo' := (ri_as 0 [.ref 0, .int cu])) (st' := [.int 1, .int (eh_i G 2 3), .int 0, .int cu]) rfl (e := (.iconst 1, 1, [], .null)) rfl rfl (fun _ _ => rfl)
  have E := E.pu (p := 10) (lo' := (ri_as 0 [.ref 0, .int cu])) (st' := [.int ((eh_i G 2 3) - 1), .int 0, .int cu]) rfl (e := (.isub, 1, [], .null)) rfl rfl (fun _ _ => rfl)
  obtain ⟨v1, h1, X, E⟩ := E.cs (p := 13) (as := [.int cu, .int 0, .int ((eh_i G 2 3) - 1)]) (r := []) rfl (x := 177) (m := 3) (w := .null) (j := 149) (n := 3) (t := 0) (u := [1519, 1520]) rfl rfl rfl
  rcases yis_149 (d := d) X hV ty with ⟨c2, rfl, hV3, hN4⟩ | ⟨c5, c6, rfl, hV7, hN8⟩ | ⟨c9, c10, rfl, hV11, hN12⟩
  · skip
    have c2 : cu.toInt < 0 := c2
    have E : eh_e _ _ 13 (ri_as 0 [.ref 0, .int cu]) [.int 0] _ rs h' := E
    obtain ⟨r1, r2⟩ := E.reti rfl (m := 1) (ax := []) (w := .null) rfl
    exact Or.inl ⟨c2, (by rw [← hrs, r1]; rfl), ((congrArg eh_V r2).trans hV3), ((congrArg eh_N r2).trans hN4)⟩
  · skip
    have c5 : ¬ (cu.toInt < 0) := c5
    have c6 : ((eh_i G 2 3) - 1).toInt < cu.toInt := c6
    have E : eh_e _ _ 13 (ri_as 0 [.ref 0, .int cu]) [.int 0] _ rs h' := E
    obtain ⟨r1, r2⟩ := E.reti rfl (m := 1) (ax := []) (w := .null) rfl
    exact Or.inr (Or.inl ⟨c5, c6, (by rw [← hrs, r1]; rfl), ((congrArg eh_V r2).trans hV7), ((congrArg eh_N r2).trans hN8)⟩)
  · skip
    have c9 : ¬ (cu.toInt < 0) := c9
    have c10 : ¬ (((eh_i G 2 3) - 1).toInt < cu.toInt) := c10
    have E : eh_e _ _ 13 (ri_as 0 [.ref 0, .int cu]) [.int 1] _ rs h' := E
    obtain ⟨r1, r2⟩ := E.reti rfl (m := 1) (ax := []) (w := .null) rfl
    exact Or.inr (Or.inr (⟨c9, c10, (by rw [← hrs, r1]; rfl), ((congrArg eh_V r2).trans hV11), ((congrArg eh_N r2).trans hN12)⟩))
theorem ylm_a {d : Nat} {lo : List (Nat × Value)} {h h' : ri_H} {rs : List Value} {G : eh_W} (E : eh_e (ri_calE ri_md (d + 1)) md_219 0 lo [] h rs h') (hV : eh_V h = G) (ty : eh_ty tM G) (l0 : ri_lk lo 0 = some (.ref 0)) : ((eh_i G 0 2) = 0 ∧ rs = [.int (-1)] ∧ eh_V h' = eh_u (eh_u (eh_u (eh_u (eh_u G 0 0 (.int 0)) 0 3 (.int (eh_i G 0 2))) 0 2 (.int 0)) 0 4 (.int 0)) 0 5 (.int 940) ∧ eh_N h' = eh_N h) ∨ (¬ ((eh_i G 0 2) = 0) ∧ ((eh_i G 0 2) - (eh_i G 0 2) / (1 + (eh_i G 2 0)) * (1 + (eh_i G 2 0))) = 0 ∧ ∃ hz loz, eh_e (ri_calE ri_md (d + 1)) md_219 41 loz [] hz rs h' ∧ eh_V hz = eh_u (eh_u (eh_u (eh_u (eh_u G 0 0 (.int 0)) 0 3 (.int (eh_i G 0 2))) 0 2 (.int 0)) 0 4 (.int 0)) 0 5 (.int 940) ∧ eh_N hz = eh_N h ∧ eh_ty tM (eh_u (eh_u (eh_u (eh_u (eh_u G 0 0 (.int 0)) 0 3 (.int (eh_i G 0 2))) 0 2 (.int 0)) 0 4 (.int 0)) 0 5 (.int 940)) ∧ ri_lk loz 0 = some (.ref 0) ∧ ri_lk loz 1 = some (.int (1 + (eh_i G 2 0))) ∧ ri_lk loz 2 = some (.int 0)) ∨ (¬ ((eh_i G 0 2) = 0) ∧ ¬ (((eh_i G 0 2) - (eh_i G 0 2) / (1 + (eh_i G 2 0)) * (1 + (eh_i G 2 0))) = 0) ∧ rs = [.int (-1)] ∧ eh_V h' = eh_u (eh_u (eh_u (eh_u (eh_u G 0 0 (.int 0)) 0 3 (.int (eh_i G 0 2))) 0 2 (.int 0)) 0 4 (.int 0)) 0 5 (.int 940) ∧ eh_N h' = eh_N h) := by
  have E := E.ld (p := 1) (t := ri_isA) (i := 0) (n := 1) (v := .ref 0) rfl (e := (.aload_n 0, 1, [], .null)) rfl rfl (fun _ _ => rfl) l0 rfl
  have E := E.pu (p := 2) (lo' := lo) (st' := [.int 0, .ref 0]) rfl (e := (.iconst 0, 1, [], .null)) rfl rfl (fun _ _ => rfl)
  obtain ⟨h1, hV2, hN3, E⟩ := E.gp (p := 5) rfl (x := 1) (m := 3) (w := .null) (t := 12) (i := 0) (u := 1324) (y := 0) rfl rfl hV
  have E := E.ld (p := 6) (t := ri_isA) (i := 0) (n := 1) (v := .ref 0) rfl (e := (.aload_n 0, 1, [], .null)) rfl rfl (fun _ _ => rfl) l0 rfl
  have E := E.pu (p := 9) (lo' := lo) (st' := [.int 940, .ref 0]) rfl (e := (.sipush 940, 3, [], .null)) rfl rfl (fun _ _ => rfl)
  obtain ⟨v1, h4, X, E⟩ := E.cv (p := 12) (as := [.int 940]) (b := 0) (r := []) rfl (x := 221) (m := 3) (w := .null) (j := 148) (n := 1) (t := 12) (u := [1474, 34, 1476]) rfl rfl rfl
  rcases yta_148 (d := d) X hV2 (ty.ui rfl) with ⟨rfl, hV5, hN6⟩
  have hV5 : _ = eh_u (eh_u (eh_u (eh_u (eh_u G 0 0 (.int 0)) 0 3 (.int (eh_i G 0 2))) 0 2 (.int 0)) 0 4 (.int 0)) 0 5 (.int 940) := hV5
  have E : eh_e _ _ 12 lo [] _ rs h' := E
  have E := E.pu (p := 13) (lo' := lo) (st' := [.int 1]) rfl (e := (.iconst 1, 1, [], .null)) rfl rfl (fun _ _ => rfl)
  have E := E.ld (p := 14) (t := ri_isA) (i := 0) (n := 1) (v := .ref 0) rfl (e := (.aload_n 0, 1, [], .null)) rfl rfl (fun _ _ => rfl) l0 rfl
  have E := E.gr (n := 2) (p := 17) rfl (x := 33) (m := 3) (w := .null) (t := 12) (i := 6) (u := 1330) rfl rfl hV5 (((((ty.ui rfl).ui rfl).ui rfl).ui rfl).ui rfl) rfl
  have E := E.pu (p := 18) (lo' := lo) (st' := [.int 0, .ref 2, .int 1]) rfl (e := (.iconst 0, 1, [], .null)) rfl rfl (fun _ _ => rfl)
  have E := E.ai (p := 19) (z := eh_i G 2 0) (n := 0) rfl (e := (.iaload, 1, [], .null)) rfl rfl (fun _ _ => rfl) rfl hV5 (((((ty.ui rfl).ui rfl).ui rfl).ui rfl).ui rfl) (by decide) rfl rfl
  have E := E.pu (p := 20) (lo' := lo) (st' := [.int (1 + (eh_i G 2 0))]) rfl (e := (.iadd, 1, [], .null)) rfl rfl (fun _ _ => rfl)
  have E := E.so (p := 21) (t := ri_isI) (i := 1) (n := 1) rfl (e := (.istore_n 1, 1, [], .null)) rfl rfl (fun _ _ => rfl) rfl
  have k7_1 : ri_lk (ri_st1 lo 1 (.int (1 + (eh_i G 2 0)))) 1 = some (.int (1 + (eh_i G 2 0))) := eh_self
  have k7_0 : ri_lk (ri_st1 lo 1 (.int (1 + (eh_i G 2 0)))) 0 = some (.ref 0) := eh_keep (by decide) (Or.inl rfl) l0
  have E := E.ld (p := 22) (t := ri_isA) (i := 0) (n := 1) (v := .ref 0) rfl (e := (.aload_n 0, 1, [], .null)) rfl rfl (fun _ _ => rfl) k7_0 rfl
  have E := E.gi (y := eh_i G 0 2) (p := 25) rfl (x := 18) (m := 3) (w := .null) (t := 12) (i := 3) (u := 1327) rfl rfl hV5 (((((ty.ui rfl).ui rfl).ui rfl).ui rfl).ui rfl) rfl rfl
  rcases eh_q0 (E.br (p := 28) (c := 0) (tgt := 37) (a := eh_i G 0 2) (b := 0) (st' := []) rfl (e := (.ifCond .eq 12, 3, [37], .null)) rfl rfl (fun _ _ => rfl) rfl) with ⟨c8, E⟩ | ⟨c8, E⟩
  · skip
    have E := E.pu (p := 38) (lo' := (ri_st1 lo 1 (.int (1 + (eh_i G 2 0))))) (st' := [.int (-1)]) rfl (e := (.iconst (-1), 1, [], .null)) rfl rfl (fun _ _ => rfl)
    obtain ⟨r1, r2⟩ := E.reti rfl (m := 1) (ax := []) (w := .null) rfl
    exact Or.inl ⟨c8, r1, ((congrArg eh_V r2).trans hV5), ((congrArg eh_N r2).trans (hN6.trans hN3))⟩
  · skip
    have E := E.ld (p := 29) (t := ri_isA) (i := 0) (n := 1) (v := .ref 0) rfl (e := (.aload_n 0, 1, [], .null)) rfl rfl (fun _ _ => rfl) k7_0 rfl
    have E := E.gi (y := eh_i G 0 2) (p := 32) rfl (x := 18) (m := 3) (w := .null) (t := 12) (i := 3) (u := 1327) rfl rfl hV5 (((((ty.ui rfl).ui rfl).ui rfl).ui rfl).ui rfl) rfl rfl
    have E := E.ld (p := 33) (t := ri_isI) (i := 1) (n := 1) (v := .int (1 + (eh_i G 2 0))) rfl (e := (.iload_n 1, 1, [], .null)) rfl rfl (fun _ _ => rfl) k7_1 rfl
    have E := E.dv (p := 34) (v := (eh_i G 0 2) - (eh_i G 0 2) / (1 + (eh_i G 2 0)) * (1 + (eh_i G 2 0))) rfl (e := (.irem, 1, [], .null)) rfl rfl (op := fun x y => x - x / y * y) (fun _ _ => rfl) rfl rfl
    rcases eh_q0 (E.br (p := 37) (c := 0) (tgt := 39) (a := (eh_i G 0 2) - (eh_i G 0 2) / (1 + (eh_i G 2 0)) * (1 + (eh_i G 2 0))) (b := 0) (st' := []) rfl (e := (.ifCond .eq 5, 3, [39], .null)) rfl rfl (fun _ _ => rfl) rfl) with ⟨c9, E⟩ | ⟨c9, E⟩
    · skip
      have E := E.pu (p := 40) (lo' := (ri_st1 lo 1 (.int (1 + (eh_i G 2 0))))) (st' := [.int 0]) rfl (e := (.iconst 0, 1, [], .null)) rfl rfl (fun _ _ => rfl)
      have E := E.so (p := 41) (t := ri_isI) (i := 2) (n := 1) rfl (e := (.istore_n 2, 1, [], .null)) rfl rfl (fun _ _ => rfl) rfl
      have k10_2 : ri_lk (ri_st1 (ri_st1 lo 1 (.int (1 + (eh_i G 2 0)))) 2 (.int 0)) 2 = some (.int 0) := eh_self
      have k10_0 : ri_lk (ri_st1 (ri_st1 lo 1 (.int (1 + (eh_i G 2 0)))) 2 (.int 0)) 0 = some (.ref 0) := eh_keep (by decide) (Or.inl rfl) k7_0
      have k10_1 : ri_lk (ri_st1 (ri_st1 lo 1 (.int (1 + (eh_i G 2 0)))) 2 (.int 0)) 1 = some (.int (1 + (eh_i G 2 0))) := eh_keep (by decide) (Or.inl rfl) k7_1
      exact Or.inr (Or.inl ⟨c8, c9, _, _, E, hV5, (hN6.trans hN3), (((((ty.ui rfl).ui rfl).ui rfl).ui rfl).ui rfl), k10_0, k10_1, k10_2⟩)
    · skip
      have E := E.pu (p := 38) (lo' := (ri_st1 lo 1 (.int (1 + (eh_i G 2 0))))) (st' := [.int (-1)]) rfl (e := (.iconst (-1), 1, [], .null)) rfl rfl (fun _ _ => rfl)
      obtain ⟨r1, r2⟩ := E.reti rfl (m := 1) (ax := []) (w := .null) rfl
      exact Or.inr (Or.inr (⟨c8, c9, r1, ((congrArg eh_V r2).trans hV5), ((congrArg eh_N r2).trans (hN6.trans hN3))⟩))
theorem ylm_b {d : Nat} {lo : List (Nat × Value)} {h h' : ri_H} {rs : List Value} {G : eh_W} {a w : Nat} {ea i : Int32} (E : eh_e (ri_calE ri_md (d + 2)) md_219 41 lo [] h rs h') (hV : eh_V h = G) (ty : eh_ty tM G) (l0 : ri_lk lo 0 = some (.ref 0)) (l1 : ri_lk lo 1 = some (.int ea)) (l2 : ri_lk lo 2 = some (.int i)) (ia : i = nI a) (hw : eh_i G 2 0 = nI w) (w8 : w ≤ 8) (hf : i.toInt < (eh_i G 0 3).toInt → a + 1 + w ≤ 940) (hb : bRa G) : (¬ (i.toInt < (eh_i G 0 3).toInt) ∧ ∃ hz loz, eh_e (ri_calE ri_md (d + 2)) md_219 102 loz [] hz rs h' ∧ eh_V hz = G ∧ eh_N hz = eh_N h ∧ eh_ty tM G ∧ ri_lk loz 0 = some (.ref 0) ∧ ri_lk loz 1 = some (.int ea) ∧ ri_lk loz 2 = some (.int 0) ∧ ri_lk loz 3 = some (.int ((1 <<< ((eh_i G 2 4) &&& 31)) - 1)) ∧ ri_lk loz 4 = some (.int ((1 <<< ((eh_i G 2 4) &&& 31)) - 1)) ∧ ri_lk loz 5 = some (.int 0) ∧ ri_lk loz 6 = some (.int 0)) ∨ (i.toInt < (eh_i G 0 3).toInt ∧ ((eh_i G 1 (i).toNatClampNeg) &&& 255).toInt < 0 ∧ rs = [.int (-1)] ∧ eh_V h' = G ∧ eh_N h' = eh_N h) ∨ (i.toInt < (eh_i G 0 3).toInt ∧ ¬ (((eh_i G 1 (i).toNatClampNeg) &&& 255).toInt < 0) ∧ ((eh_i G 2 3) - 1).toInt < ((eh_i G 1 (i).toNatClampNeg) &&& 255).toInt ∧ rs = [.int (-1)] ∧ eh_V h' = G ∧ eh_N h' = eh_N h) ∨ (∃ (x23 : Int32), i.toInt < (eh_i G 0 3).toInt ∧ ¬ (((eh_i G 1 (i).toNatClampNeg) &&& 255).toInt < 0) ∧ ¬ (((eh_i G 2 3) - 1).toInt < ((eh_i G 1 (i).toNatClampNeg) &&& 255).toInt) ∧ ((hOK G w (a + 1) ∧ x23 = nI (hNM G w (a + 1))) ∨ (¬ hOK G w (a + 1) ∧ x23 = -1)) ∧ ¬ (x23.toInt < 0) ∧ ∃ hz loz, eh_e (ri_calE ri_md (d + 2)) md_219 41 loz [] hz rs h' ∧ eh_V hz = G ∧ eh_N hz = eh_N h ∧ eh_ty tM G ∧ ri_lk loz 0 = some (.ref 0) ∧ ri_lk loz 1 = some (.int ea) ∧ ri_lk loz 2 = some (.int (i + ea))) ∨ (∃ (x23 : Int32), i.toInt < (eh_i G 0 3).toInt ∧ ¬ (((eh_i G 1 (i).toNatClampNeg) &&& 255).toInt < 0) ∧ ¬ (((eh_i G 2 3) - 1).toInt < ((eh_i G 1 (i).toNatClampNeg) &&& 255).toInt) ∧ ((hOK G w (a + 1) ∧ x23 = nI (hNM G w (a + 1))) ∨ (¬ hOK G w (a + 1) ∧ x23 = -1)) ∧ x23.toInt < 0 ∧ rs = [.int (-1)] ∧ eh_V h' = G ∧ eh_N h' = eh_N h) := by
  have E := E.ld (p := 42) (t := ri_isI) (i := 2) (n := 1) (v := .int i) rfl (e := (.iload_n 2, 1, [], .null)) rfl rfl (fun _ _ => rfl) l2 rfl
  have E := E.ld (p := 43) (t := ri_isA) (i := 0) (n := 1) (v := .ref 0) rfl (e := (.aload_n 0, 1, [], .null)) rfl rfl (fun _ _ => rfl) l0 rfl
  have E := E.gi (y := eh_i G 0 3) (p := 46) rfl (x := 18) (m := 3) (w := .null) (t := 12) (i := 3) (u := 1327) rfl rfl hV ty rfl rfl
  rcases eh_r3 rfl rfl (E.br (p := 49) (c := 3) (tgt := 80) (a := i) (b := eh_i G 0 3) (st' := []) rfl (e := (.if_icmp .ge 34, 3, [80], .null)) rfl rfl (fun _ _ => rfl) rfl) with ⟨c1, E⟩ | ⟨c1, E⟩
  · skip
    have E := E.pu (p := 81) (lo' := lo) (st' := [.int 0]) rfl (e := (.iconst 0, 1, [], .null)) rfl rfl (fun _ _ => rfl)
    have E := E.so (p := 82) (t := ri_isI) (i := 2) (n := 1) rfl (e := (.istore_n 2, 1, [], .null)) rfl rfl (fun _ _ => rfl) rfl
    have k2_2 : ri_lk (ri_st1 lo 2 (.int 0)) 2 = some (.int 0) := eh_self
    have k2_0 : ri_lk (ri_st1 lo 2 (.int 0)) 0 = some (.ref 0) := eh_keep (by decide) (Or.inl rfl) l0
    have k2_1 : ri_lk (ri_st1 lo 2 (.int 0)) 1 = some (.int ea) := eh_keep (by decide) (Or.inl rfl) l1
    have E := E.pu (p := 83) (lo' := (ri_st1 lo 2 (.int 0))) (st' := [.int 1]) rfl (e := (.iconst 1, 1, [], .null)) rfl rfl (fun _ _ => rfl)
    have E := E.ld (p := 84) (t := ri_isA) (i := 0) (n := 1) (v := .ref 0) rfl (e := (.aload_n 0, 1, [], .null)) rfl rfl (fun _ _ => rfl) k2_0 rfl
    have E := E.gr (n := 2) (p := 87) rfl (x := 33) (m := 3) (w := .null) (t := 12) (i := 6) (u := 1330) rfl rfl hV ty rfl
    have E := E.pu (p := 88) (lo' := (ri_st1 lo 2 (.int 0))) (st' := [.int 4, .ref 2, .int 1]) rfl (e := (.iconst 4, 1, [], .null)) rfl rfl (fun _ _ => rfl)
    have E := E.ai (p := 89) (z := eh_i G 2 4) (n := 4) rfl (e := (.iaload, 1, [], .null)) rfl rfl (fun _ _ => rfl) rfl hV ty (by decide) rfl rfl
    have E := E.pu (p := 90) (lo' := (ri_st1 lo 2 (.int 0))) (st' := [.int (1 <<< ((eh_i G 2 4) &&& 31))]) rfl (e := (.ishl, 1, [], .null)) rfl rfl (fun _ _ => rfl)
    have E := E.pu (p := 91) (lo' := (ri_st1 lo 2 (.int 0))) (st' := [.int 1, .int (1 <<< ((eh_i G 2 4) &&& 31))]) rfl (e := (.iconst 1, 1, [], .null)) rfl rfl (fun _ _ => rfl)
    have E := E.pu (p := 92) (lo' := (ri_st1 lo 2 (.int 0))) (st' := [.int ((1 <<< ((eh_i G 2 4) &&& 31)) - 1)]) rfl (e := (.isub, 1, [], .null)) rfl rfl (fun _ _ => rfl)
    have E := E.so (p := 93) (t := ri_isI) (i := 3) (n := 1) rfl (e := (.istore_n 3, 1, [], .null)) rfl rfl (fun _ _ => rfl) rfl
    have k3_3 : ri_lk (ri_st1 (ri_st1 lo 2 (.int 0)) 3 (.int ((1 <<< ((eh_i G 2 4) &&& 31)) - 1))) 3 = some (.int ((1 <<< ((eh_i G 2 4) &&& 31)) - 1)) := eh_self
    have k3_0 : ri_lk (ri_st1 (ri_st1 lo 2 (.int 0)) 3 (.int ((1 <<< ((eh_i G 2 4) &&& 31)) - 1))) 0 = some (.ref 0) := eh_keep (by decide) (Or.inl rfl) k2_0
    have k3_1 : ri_lk (ri_st1 (ri_st1 lo 2 (.int 0)) 3 (.int ((1 <<< ((eh_i G 2 4) &&& 31)) - 1))) 1 = some (.int ea) := eh_keep (by decide) (Or.inl rfl) k2_1
    have k3_2 : ri_lk (ri_st1 (ri_st1 lo 2 (.int 0)) 3 (.int ((1 <<< ((eh_i G 2 4) &&& 31)) - 1))) 2 = some (.int 0) := eh_keep (by decide) (Or.inl rfl) k2_2
    have E := E.ld (p := 94) (t := ri_isI) (i := 3) (n := 1) (v := .int ((1 <<< ((eh_i G 2 4) &&& 31)) - 1)) rfl (e := (.iload_n 3, 1, [], .null)) rfl rfl (fun _ _ => rfl) k3_3 rfl
    have E := E.so (p := 96) (t := ri_isI) (i := 4) (n := 2) rfl (e := (.istore 4, 2, [], .null)) rfl rfl (fun _ _ => rfl) rfl
    have k4_4 : ri_lk (ri_st1 (ri_st1 (ri_st1 lo 2 (.int 0)) 3 (.int ((1 <<< ((eh_i G 2 4) &&& 31)) - 1))) 4 (.int ((1 <<< ((eh_i G 2 4) &&& 31)) - 1))) 4 = some (.int ((1 <<< ((eh_i G 2 4) &&& 31)) - 1)) := eh_self
    have k4_0 : ri_lk (ri_st1 (ri_st1 (ri_st1 lo 2 (.int 0)) 3 (.int ((1 <<< ((eh_i G 2 4) &&& 31)) - 1))) 4 (.int ((1 <<< ((eh_i G 2 4) &&& 31)) - 1))) 0 = some (.ref 0) := eh_keep (by decide) (Or.inl rfl) k3_0
    have k4_1 : ri_lk (ri_st1 (ri_st1 (ri_st1 lo 2 (.int 0)) 3 (.int ((1 <<< ((eh_i G 2 4) &&& 31)) - 1))) 4 (.int ((1 <<< ((eh_i G 2 4) &&& 31)) - 1))) 1 = some (.int ea) := eh_keep (by decide) (Or.inl rfl) k3_1
    have k4_2 : ri_lk (ri_st1 (ri_st1 (ri_st1 lo 2 (.int 0)) 3 (.int ((1 <<< ((eh_i G 2 4) &&& 31)) - 1))) 4 (.int ((1 <<< ((eh_i G 2 4) &&& 31)) - 1))) 2 = some (.int 0) := eh_keep (by decide) (Or.inl rfl) k3_2
    have k4_3 : ri_lk (ri_st1 (ri_st1 (ri_st1 lo 2 (.int 0)) 3 (.int ((1 <<< ((eh_i G 2 4) &&& 31)) - 1))) 4 (.int ((1 <<< ((eh_i G 2 4) &&& 31)) - 1))) 3 = some (.int ((1 <<< ((eh_i G 2 4) &&& 31)) - 1)) := eh_keep (by decide) (Or.inl rfl) k3_3
    have E := E.pu (p := 97) (lo' := (ri_st1 (ri_st1 (ri_st1 lo 2 (.int 0)) 3 (.int ((1 <<< ((eh_i G 2 4) &&& 31)) - 1))) 4 (.int ((1 <<< ((eh_i G 2 4) &&& 31)) - 1)))) (st' := [.int 0]) rfl (e := (.iconst 0, 1, [], .null)) rfl rfl (fun _ _ => rfl)
    have E := E.so (p := 99) (t := ri_isI) (i := 5) (n := 2) rfl (e := (.istore 5, 2, [], .null)) rfl rfl (fun _ _ => rfl) rfl
    have k5_5 : ri_lk (ri_st1 (ri_st1 (ri_st1 (ri_st1 lo 2 (.int 0)) 3 (.int ((1 <<< ((eh_i G 2 4) &&& 31)) - 1))) 4 (.int ((1 <<< ((eh_i G 2 4) &&& 31)) - 1))) 5 (.int 0)) 5 = some (.int 0) := eh_self
    have k5_0 : ri_lk (ri_st1 (ri_st1 (ri_st1 (ri_st1 lo 2 (.int 0)) 3 (.int ((1 <<< ((eh_i G 2 4) &&& 31)) - 1))) 4 (.int ((1 <<< ((eh_i G 2 4) &&& 31)) - 1))) 5 (.int 0)) 0 = some (.ref 0) := eh_keep (by decide) (Or.inl rfl) k4_0
    have k5_1 : ri_lk (ri_st1 (ri_st1 (ri_st1 (ri_st1 lo 2 (.int 0)) 3 (.int ((1 <<< ((eh_i G 2 4) &&& 31)) - 1))) 4 (.int ((1 <<< ((eh_i G 2 4) &&& 31)) - 1))) 5 (.int 0)) 1 = some (.int ea) := eh_keep (by decide) (Or.inl rfl) k4_1
    have k5_2 : ri_lk (ri_st1 (ri_st1 (ri_st1 (ri_st1 lo 2 (.int 0)) 3 (.int ((1 <<< ((eh_i G 2 4) &&& 31)) - 1))) 4 (.int ((1 <<< ((eh_i G 2 4) &&& 31)) - 1))) 5 (.int 0)) 2 = some (.int 0) := eh_keep (by decide) (Or.inl rfl) k4_2
    have k5_3 : ri_lk (ri_st1 (ri_st1 (ri_st1 (ri_st1 lo 2 (.int 0)) 3 (.int ((1 <<< ((eh_i G 2 4) &&& 31)) - 1))) 4 (.int ((1 <<< ((eh_i G 2 4) &&& 31)) - 1))) 5 (.int 0)) 3 = some (.int ((1 <<< ((eh_i G 2 4) &&& 31)) - 1)) := eh_keep (by decide) (Or.inl rfl) k4_3
    have k5_4 : ri_lk (ri_st1 (ri_st1 (ri_st1 (ri_st1 lo 2 (.int 0)) 3 (.int ((1 <<< ((eh_i G 2 4) &&& 31)) - 1))) 4 (.int ((1 <<< ((eh_i G 2 4) &&& 31)) - 1))) 5 (.int 0)) 4 = some (.int ((1 <<< ((eh_i G 2 4) &&& 31)) - 1)) := eh_keep (by decide) (Or.inl rfl) k4_4
    have E := E.pu (p := 100) (lo' := (ri_st1 (ri_st1 (ri_st1 (ri_st1 lo 2 (.int 0)) 3 (.int ((1 <<< ((eh_i G 2 4) &&& 31)) - 1))) 4 (.int ((1 <<< ((eh_i G 2 4) &&& 31)) - 1))) 5 (.int 0))) (st' := [.int 0]) rfl (e := (.iconst 0, 1, [], .null)) rfl rfl (fun _ _ => rfl)
    have E := E.so (p := 102) (t := ri_isI) (i := 6) (n := 2) rfl (e := (.istore 6, 2, [], .null)) rfl rfl (fun _ _ => rfl) rfl
    have k6_6 : ri_lk (ri_st1 (ri_st1 (ri_st1 (ri_st1 (ri_st1 lo 2 (.int 0)) 3 (.int ((1 <<< ((eh_i G 2 4) &&& 31)) - 1))) 4 (.int ((1 <<< ((eh_i G 2 4) &&& 31)) - 1))) 5 (.int 0)) 6 (.int 0)) 6 = some (.int 0) := eh_self
    have k6_0 : ri_lk (ri_st1 (ri_st1 (ri_st1 (ri_st1 (ri_st1 lo 2 (.int 0)) 3 (.int ((1 <<< ((eh_i G 2 4) &&& 31)) - 1))) 4 (.int ((1 <<< ((eh_i G 2 4) &&& 31)) - 1))) 5 (.int 0)) 6 (.int 0)) 0 = some (.ref 0) := eh_keep (by decide) (Or.inl rfl) k5_0
    have k6_1 : ri_lk (ri_st1 (ri_st1 (ri_st1 (ri_st1 (ri_st1 lo 2 (.int 0)) 3 (.int ((1 <<< ((eh_i G 2 4) &&& 31)) - 1))) 4 (.int ((1 <<< ((eh_i G 2 4) &&& 31)) - 1))) 5 (.int 0)) 6 (.int 0)) 1 = some (.int ea) := eh_keep (by decide) (Or.inl rfl) k5_1
    have k6_2 : ri_lk (ri_st1 (ri_st1 (ri_st1 (ri_st1 (ri_st1 lo 2 (.int 0)) 3 (.int ((1 <<< ((eh_i G 2 4) &&& 31)) - 1))) 4 (.int ((1 <<< ((eh_i G 2 4) &&& 31)) - 1))) 5 (.int 0)) 6 (.int 0)) 2 = some (.int 0) := eh_keep (by decide) (Or.inl rfl) k5_2
    have k6_3 : ri_lk (ri_st1 (ri_st1 (ri_st1 (ri_st1 (ri_st1 lo 2 (.int 0)) 3 (.int ((1 <<< ((eh_i G 2 4) &&& 31)) - 1))) 4 (.int ((1 <<< ((eh_i G 2 4) &&& 31)) - 1))) 5 (.int 0)) 6 (.int 0)) 3 = some (.int ((1 <<< ((eh_i G 2 4) &&& 31)) - 1)) := eh_keep (by decide) (Or.inl rfl) k5_3
    have k6_4 : ri_lk (ri_st1 (ri_st1 (ri_st1 (ri_st1 (ri_st1 lo 2 (.int 0)) 3 (.int ((1 <<< ((eh_i G 2 4) &&& 31)) - 1))) 4 (.int ((1 <<< ((eh_i G 2 4) &&& 31)) - 1))) 5 (.int 0)) 6 (.int 0)) 4 = some (.int ((1 <<< ((eh_i G 2 4) &&& 31)) - 1)) := eh_keep (by decide) (Or.inl rfl) k5_4
    have k6_5 : ri_lk (ri_st1 (ri_st1 (ri_st1 (ri_st1 (ri_st1 lo 2 (.int 0)) 3 (.int ((1 <<< ((eh_i G 2 4) &&& 31)) - 1))) 4 (.int ((1 <<< ((eh_i G 2 4) &&& 31)) - 1))) 5 (.int 0)) 6 (.int 0)) 5 = some (.int 0) := eh_keep (by decide) (Or.inl rfl) k5_5
    exact Or.inl ⟨c1, _, _, E, hV, rfl, ty, k6_0, k6_1, k6_2, k6_3, k6_4, k6_5, k6_6⟩
  · skip
    have E := E.ld (p := 50) (t := ri_isA) (i := 0) (n := 1) (v := .ref 0) rfl (e := (.aload_n 0, 1, [], .null)) rfl rfl (fun _ _ => rfl) l0 rfl
    have E := E.ld (p := 51) (t := ri_isA) (i := 0) (n := 1) (v := .ref 0) rfl (e := (.aload_n 0, 1, [], .null)) rfl rfl (fun _ _ => rfl) l0 rfl
    have E := E.ld (p := 52) (t := ri_isI) (i := 2) (n := 1) (v := .int i) rfl (e := (.iload_n 2, 1, [], .null)) rfl rfl (fun _ _ => rfl) l2 rfl
    obtain ⟨v1, h7, X, E⟩ := E.cv (p := 55) (as := [.int i]) (b := 0) (r := [.ref 0]) rfl (x := 329) (m := 3) (w := .null) (j := 152) (n := 1) (t := 12) (u := [1729, 78, 1731]) rfl rfl rfl
    rcases yoc_152 (d := d + 1) X hV ty with ⟨rfl, hV8, hN9⟩
    have E : eh_e _ _ 55 lo [.int ((eh_i G 1 (i).toNatClampNeg) &&& 255), .ref 0] _ rs h' := E
    obtain ⟨v1, h10, X, E⟩ := E.cv (p := 58) (as := [.int ((eh_i G 1 (i).toNatClampNeg) &&& 255)]) (b := 0) (r := []) rfl (x := 302) (m := 3) (w := .null) (j := 175) (n := 1) (t := 12) (u := [1634, 63, 1636]) rfl rfl rfl
    rcases yic_175 (d := d) X hV8 ty with ⟨c11, rfl, hV12, hN13⟩ | ⟨c14, c15, rfl, hV16, hN17⟩ | ⟨c18, c19, rfl, hV20, hN21⟩
    · skip
      have c11 : ((eh_i G 1 (i).toNatClampNeg) &&& 255).toInt < 0 := c11
      have E : eh_e _ _ 58 lo [.int 0] _ rs h' := E
      have E := E.brt (c := 0) (tgt := 71) (a := 0) (b := 0) (st' := []) rfl (e := (.ifCond .eq 13, 3, [71], .null)) rfl rfl (fun _ _ => rfl) (by decide)
      have E := E.pu (p := 72) (lo' := lo) (st' := [.int (-1)]) rfl (e := (.iconst (-1), 1, [], .null)) rfl rfl (fun _ _ => rfl)
      obtain ⟨r1, r2⟩ := E.reti rfl (m := 1) (ax := []) (w := .null) rfl
      exact Or.inr (Or.inl ⟨c1, c11, r1, ((congrArg eh_V r2).trans hV12), ((congrArg eh_N r2).trans (hN13.trans hN9))⟩)
    · skip
      have c14 : ¬ (((eh_i G 1 (i).toNatClampNeg) &&& 255).toInt < 0) := c14
      have c15 : ((eh_i G 2 3) - 1).toInt < ((eh_i G 1 (i).toNatClampNeg) &&& 255).toInt := c15
      have E : eh_e _ _ 58 lo [.int 0] _ rs h' := E
      have E := E.brt (c := 0) (tgt := 71) (a := 0) (b := 0) (st' := []) rfl (e := (.ifCond .eq 13, 3, [71], .null)) rfl rfl (fun _ _ => rfl) (by decide)
      have E := E.pu (p := 72) (lo' := lo) (st' := [.int (-1)]) rfl (e := (.iconst (-1), 1, [], .null)) rfl rfl (fun _ _ => rfl)
      obtain ⟨r1, r2⟩ := E.reti rfl (m := 1) (ax := []) (w := .null) rfl
      exact Or.inr (Or.inr (Or.inl ⟨c1, c14, c15, r1, ((congrArg eh_V r2).trans hV16), ((congrArg eh_N r2).trans (hN17.trans hN9))⟩))
    · skip
      have c18 : ¬ (((eh_i G 1 (i).toNatClampNeg) &&& 255).toInt < 0) := c18
      have c19 : ¬ (((eh_i G 2 3) - 1).toInt < ((eh_i G 1 (i).toNatClampNeg) &&& 255).toInt) := c19
      have E : eh_e _ _ 58 lo [.int 1] _ rs h' := E
      have E := E.brf (p := 61) (c := 0) (tgt := 71) (a := 1) (b := 0) (st' := []) rfl (e := (.ifCond .eq 13, 3, [71], .null)) rfl rfl (fun _ _ => rfl) (by decide) rfl
      have E := E.ld (p := 62) (t := ri_isA) (i := 0) (n := 1) (v := .ref 0) rfl (e := (.aload_n 0, 1, [], .null)) rfl rfl (fun _ _ => rfl) l0 rfl
      have E := E.ld (p := 63) (t := ri_isI) (i := 2) (n := 1) (v := .int i) rfl (e := (.iload_n 2, 1, [], .null)) rfl rfl (fun _ _ => rfl) l2 rfl
      have E := E.pu (p := 64) (lo' := lo) (st' := [.int 1, .int i, .ref 0]) rfl (e := (.iconst 1, 1, [], .null)) rfl rfl (fun _ _ => rfl)
      have E := E.pu (p := 65) (lo' := lo) (st' := [.int (i + 1), .ref 0]) rfl (e := (.iadd, 1, [], .null)) rfl rfl (fun _ _ => rfl)
      obtain ⟨v1, h22, X, E⟩ := E.cv (p := 68) (as := [.int (i + 1)]) (b := 0) (r := []) rfl (x := 332) (m := 3) (w := .null) (j := 217) (n := 1) (t := 12) (u := [1733, 79, 1735]) rfl rfl rfl
      rcases yhm_217 (d := d) X hV20 ty (fr_e ia) hw w8 (hf c1) hb with ⟨x23, c24, rfl, hV25, hN26⟩
      have c24 : (hOK G w (a + 1) ∧ x23 = nI (hNM G w (a + 1))) ∨ (¬ hOK G w (a + 1) ∧ x23 = -1) := c24
      have E : eh_e _ _ 68 lo [.int x23] _ rs h' := E
      rcases eh_r3 rfl (show (0 : Int32).toInt = 0 by decide) (E.br (p := 71) (c := 3) (tgt := 73) (a := x23) (b := 0) (st' := []) rfl (e := (.ifCond .ge 5, 3, [73], .null)) rfl rfl (fun _ _ => rfl) rfl) with ⟨c27, E⟩ | ⟨c27, E⟩
      · skip
        have E := E.ld (p := 74) (t := ri_isI) (i := 2) (n := 1) (v := .int i) rfl (e := (.iload_n 2, 1, [], .null)) rfl rfl (fun _ _ => rfl) l2 rfl
        have E := E.ld (p := 75) (t := ri_isI) (i := 1) (n := 1) (v := .int ea) rfl (e := (.iload_n 1, 1, [], .null)) rfl rfl (fun _ _ => rfl) l1 rfl
        have E := E.pu (p := 76) (lo' := lo) (st' := [.int (i + ea)]) rfl (e := (.iadd, 1, [], .null)) rfl rfl (fun _ _ => rfl)
        have E := E.so (p := 77) (t := ri_isI) (i := 2) (n := 1) rfl (e := (.istore_n 2, 1, [], .null)) rfl rfl (fun _ _ => rfl) rfl
        have k28_2 : ri_lk (ri_st1 lo 2 (.int (i + ea))) 2 = some (.int (i + ea)) := eh_self
        have k28_0 : ri_lk (ri_st1 lo 2 (.int (i + ea))) 0 = some (.ref 0) := eh_keep (by decide) (Or.inl rfl) l0
        have k28_1 : ri_lk (ri_st1 lo 2 (.int (i + ea))) 1 = some (.int ea) := eh_keep (by decide) (Or.inl rfl) l1
        have E := E.pu (p := 41) (lo' := (ri_st1 lo 2 (.int (i + ea)))) (st' := []) rfl (e := (.goto (-36), 3, [41], .null)) rfl rfl (fun _ _ => rfl)
        exact Or.inr (Or.inr (Or.inr (Or.inl ⟨x23, c1, c18, c19, c24, c27, _, _, E, hV25, (hN26.trans (hN21.trans hN9)), ty, k28_0, k28_1, k28_2⟩)))
      · skip
        have E := E.pu (p := 72) (lo' := lo) (st' := [.int (-1)]) rfl (e := (.iconst (-1), 1, [], .null)) rfl rfl (fun _ _ => rfl)
        obtain ⟨r1, r2⟩ := E.reti rfl (m := 1) (ax := []) (w := .null) rfl
        exact Or.inr (Or.inr (Or.inr (Or.inr (⟨x23, c1, c18, c19, c24, c27, r1, ((congrArg eh_V r2).trans hV25), ((congrArg eh_N r2).trans (hN26.trans (hN21.trans hN9)))⟩))))
