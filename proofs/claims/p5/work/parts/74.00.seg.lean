theorem sp_78 {d : Nat} {h h' : ri_H} {v : Option Value} {G : eh_W} {w : Int32} (E : ri_calE ri_md (d + 1) 78 [.ref 2, .int w] h = some (v, h')) (hV : eh_V h = G) (ty : eh_ty tC G) : v = some (.int 0) ∧ eh_V h' = eh_u (eh_u G 2 9 (.int w)) 2 10 (.int (eh_i G 2 6)) ∧ eh_N h' = eh_N h := by
  obtain ⟨rs, hrs, E⟩ := eh_in E (q := md_78) rfl
  have E := E.ld (p := 1) (t := ri_isA) (i := 0) (n := 1) (v := .ref 2) rfl (e := (.aload_n 0, 1, [], .null)) rfl rfl (fun _ _ => rfl) rfl rfl
  have E := E.ld (p := 2) (t := ri_isI) (i := 1) (n := 1) (v := .int w) rfl (e := (.iload_n 1, 1, [], .null)) rfl rfl (fun _ _ => rfl) rfl rfl
  obtain ⟨h1, hV2, hN3, E⟩ := E.gp (p := 5) rfl (x := 38) (m := 3) (w := .null) (t := 8) (i := 9) (u := 204) (y := 0) rfl rfl hV
  have E := E.ld (p := 6) (t := ri_isA) (i := 0) (n := 1) (v := .ref 2) rfl (e := (.aload_n 0, 1, [], .null)) rfl rfl (fun _ _ => rfl) rfl rfl
  have E := E.ld (p := 7) (t := ri_isA) (i := 0) (n := 1) (v := .ref 2) rfl (e := (.aload_n 0, 1, [], .null)) rfl rfl (fun _ _ => rfl) rfl rfl
  have E := E.gi (y := eh_i G 2 6) (p := 10) rfl (x := 28) (m := 3) (w := .null) (t := 8) (i := 6) (u := 196) rfl rfl hV2 (ty.ui rfl) rfl rfl
  obtain ⟨h4, hV5, hN6, E⟩ := E.gp (p := 13) rfl (x := 41) (m := 3) (w := .null) (t := 8) (i := 10) (u := 206) (y := 0) rfl rfl hV2
  have E := E.pu (p := 14) (lo' := (ri_as 0 [.ref 2, .int w])) (st' := [.int 0]) rfl (e := (.iconst 0, 1, [], .null)) rfl rfl (fun _ _ => rfl)
  obtain ⟨r1, r2⟩ := E.reti rfl (m := 1) (ax := []) (w := .null) rfl
  exact ⟨(by rw [← hrs, r1]; rfl), ((congrArg eh_V r2).trans hV5), ((congrArg eh_N r2).trans (hN6.trans hN3))⟩
theorem sp_79 {d : Nat} {h h' : ri_H} {v : Option Value} {G : eh_W} {w : Int32} (E : ri_calE ri_md (d + 1) 79 [.ref 2, .int w] h = some (v, h')) (hV : eh_V h = G) (ty : eh_ty tC G) : (¬ ((eh_i G 2 5) = 2) ∧ v = some (.int 0) ∧ eh_V h' = G ∧ eh_N h' = eh_N h) ∨ ((eh_i G 2 5) = 2 ∧ ¬ ((eh_i G 2 7) = w) ∧ v = some (.int 0) ∧ eh_V h' = G ∧ eh_N h' = eh_N h) ∨ ((eh_i G 2 5) = 2 ∧ (eh_i G 2 7) = w ∧ v = some (.int 1) ∧ eh_V h' = G ∧ eh_N h' = eh_N h) := by
  obtain ⟨rs, hrs, E⟩ := eh_in E (q := md_79) rfl
  have E := E.ld (p := 1) (t := ri_isA) (i := 0) (n := 1) (v := .ref 2) rfl (e := (.aload_n 0, 1, [], .null)) rfl rfl (fun _ _ => rfl) rfl rfl
  have E := E.gi (y := eh_i G 2 5) (p := 4) rfl (x := 25) (m := 3) (w := .null) (t := 8) (i := 5) (u := 192) rfl rfl hV ty rfl rfl
  have E := E.pu (p := 5) (lo' := (ri_as 0 [.ref 2, .int w])) (st' := [.int 2, .int (eh_i G 2 5)]) rfl (e := (.iconst 2, 1, [], .null)) rfl rfl (fun _ _ => rfl)
  rcases eh_q1 (E.br (p := 8) (c := 1) (tgt := 20) (a := eh_i G 2 5) (b := 2) (st' := []) rfl (e := (.if_icmp .ne 15, 3, [20], .null)) rfl rfl (fun _ _ => rfl) rfl) with ⟨c1, E⟩ | ⟨c1, E⟩
  · skip
    have E := E.pu (p := 21) (lo' := (ri_as 0 [.ref 2, .int w])) (st' := [.int 0]) rfl (e := (.iconst 0, 1, [], .null)) rfl rfl (fun _ _ => rfl)
    obtain ⟨r1, r2⟩ := E.reti rfl (m := 1) (ax := []) (w := .null) rfl
    exact Or.inl ⟨c1, (by rw [← hrs, r1]; rfl), ((congrArg eh_V r2).trans hV), (congrArg eh_N r2)⟩
  · skip
    have E := E.ld (p := 9) (t := ri_isA) (i := 0) (n := 1) (v := .ref 2) rfl (e := (.aload_n 0, 1, [], .null)) rfl rfl (fun _ _ => rfl) rfl rfl
    have E := E.gi (y := eh_i G 2 7) (p := 12) rfl (x := 31) (m := 3) (w := .null) (t := 8) (i := 7) (u := 197) rfl rfl hV ty rfl rfl
    have E := E.ld (p := 13) (t := ri_isI) (i := 1) (n := 1) (v := .int w) rfl (e := (.iload_n 1, 1, [], .null)) rfl rfl (fun _ _ => rfl) rfl rfl
    rcases eh_q1 (E.br (p := 16) (c := 1) (tgt := 20) (a := eh_i G 2 7) (b := w) (st' := []) rfl (e := (.if_icmp .ne 7, 3, [20], .null)) rfl rfl (fun _ _ => rfl) rfl) with ⟨c2, E⟩ | ⟨c2, E⟩
    · skip
      have E := E.pu (p := 21) (lo' := (ri_as 0 [.ref 2, .int w])) (st' := [.int 0]) rfl (e := (.iconst 0, 1, [], .null)) rfl rfl (fun _ _ => rfl)
      obtain ⟨r1, r2⟩ := E.reti rfl (m := 1) (ax := []) (w := .null) rfl
      exact Or.inr (Or.inl ⟨c1, c2, (by rw [← hrs, r1]; rfl), ((congrArg eh_V r2).trans hV), (congrArg eh_N r2)⟩)
    · skip
      have E := E.pu (p := 17) (lo' := (ri_as 0 [.ref 2, .int w])) (st' := [.int 1]) rfl (e := (.iconst 1, 1, [], .null)) rfl rfl (fun _ _ => rfl)
      have E := E.pu (p := 21) (lo' := (ri_as 0 [.ref 2, .int w])) (st' := [.int 1]) rfl (e := (.goto 4, 3, [21], .null)) rfl rfl (fun _ _ => rfl)
      obtain ⟨r1, r2⟩ := E.reti rfl (m := 1) (ax := []) (w := .null) rfl
      exact Or.inr (Or.inr (⟨c1, c2, (by rw [← hrs, r1]; rfl), ((congrArg eh_V r2).trans hV), (congrArg eh_N r2)⟩))
theorem sp_80 {d : Nat} {h h' : ri_H} {v : Option Value} {G : eh_W} {w : Int32} (E : ri_calE ri_md (d + 1) 80 [.ref 2, .int w] h = some (v, h')) (hV : eh_V h = G) (ty : eh_ty tC G) : (¬ ((eh_i G 2 5) = 5) ∧ v = some (.int 0) ∧ eh_V h' = G ∧ eh_N h' = eh_N h) ∨ ((eh_i G 2 5) = 5 ∧ ¬ ((eh_i G 2 7) = w) ∧ v = some (.int 0) ∧ eh_V h' = G ∧ eh_N h' = eh_N h) ∨ ((eh_i G 2 5) = 5 ∧ (eh_i G 2 7) = w ∧ v = some (.int 1) ∧ eh_V h' = G ∧ eh_N h' = eh_N h) := by
  obtain ⟨rs, hrs, E⟩ := eh_in E (q := md_80) rfl
  have E := E.ld (p := 1) (t := ri_isA) (i := 0) (n := 1) (v := .ref 2) rfl (e := (.aload_n 0, 1, [], .null)) rfl rfl (fun _ _ => rfl) rfl rfl
  have E := E.gi (y := eh_i G 2 5) (p := 4) rfl (x := 25) (m := 3) (w := .null) (t := 8) (i := 5) (u := 192) rfl rfl hV ty rfl rfl
  have E := E.pu (p := 5) (lo' := (ri_as 0 [.ref 2, .int w])) (st' := [.int 5, .int (eh_i G 2 5)]) rfl (e := (.iconst 5, 1, [], .null)) rfl rfl (fun _ _ => rfl)
  rcases eh_q1 (E.br (p := 8) (c := 1) (tgt := 20) (a := eh_i G 2 5) (b := 5) (st' := []) rfl (e := (.if_icmp .ne 15, 3, [20], .null)) rfl rfl (fun _ _ => rfl) rfl) with ⟨c1, E⟩ | ⟨c1, E⟩
  · skip
    have E := E.pu (p := 21) (lo' := (ri_as 0 [.ref 2, .int w])) (st' := [.int 0]) rfl (e := (.iconst 0, 1, [], .null)) rfl rfl (fun _ _ => rfl)
    obtain ⟨r1, r2⟩ := E.reti rfl (m := 1) (ax := []) (w := .null) rfl
    exact Or.inl ⟨c1, (by rw [← hrs, r1]; rfl), ((congrArg eh_V r2).trans hV), (congrArg eh_N r2)⟩
  · skip
    have E := E.ld (p := 9) (t := ri_isA) (i := 0) (n := 1) (v := .ref 2) rfl (e := (.aload_n 0, 1, [], .null)) rfl rfl (fun _ _ => rfl) rfl rfl
    have E := E.gi (y := eh_i G 2 7) (p := 12) rfl (x := 31) (m := 3) (w := .null) (t := 8) (i := 7) (u := 197) rfl rfl hV ty rfl rfl
    have E := E.ld (p := 13) (t := ri_isI) (i := 1) (n := 1) (v := .int w) rfl (e := (.iload_n 1, 1, [], .null)) rfl rfl (fun _ _ => rfl) rfl rfl
    rcases eh_q1 (E.br (p := 16) (c := 1) (tgt := 20) (a := eh_i G 2 7) (b := w) (st' := []) rfl (e := (.if_icmp .ne 7, 3, [20], .null)) rfl rfl (fun _ _ => rfl) rfl) with ⟨c2, E⟩ | ⟨c2, E⟩
    · skip
      have E := E.pu (p := 21) (lo' := (ri_as 0 [.ref 2, .int w])) (st' := [.int 0]) rfl (e := (.iconst 0, 1, [], .null)) rfl rfl (fun _ _ => rfl)
      obtain ⟨r1, r2⟩ := E.reti rfl (m := 1) (ax := []) (w := .null) rfl
      exact Or.inr (Or.inl ⟨c1, c2, (by rw [← hrs, r1]; rfl), ((congrArg eh_V r2).trans hV), (congrArg eh_N r2)⟩)
    · skip
      have E := E.pu (p := 17) (lo' := (ri_as 0 [.ref 2, .int w])) (st' := [.int 1]) rfl (e := (.iconst 1, 1, [], .null)) rfl rfl (fun _ _ => rfl)
      have E := E.pu (p := 21) (lo' := (ri_as 0 [.ref 2, .int w])) (st' := [.int 1]) rfl (e := (.goto 4, 3, [21], .null)) rfl rfl (fun _ _ => rfl)
      obtain ⟨r1, r2⟩ := E.reti rfl (m := 1) (ax := []) (w := .null) rfl
      exact Or.inr (Or.inr (⟨c1, c2, (by rw [← hrs, r1]; rfl), ((congrArg eh_V r2).trans hV), (congrArg eh_N r2)⟩))
theorem sp_82 {d : Nat} {h h' : ri_H} {v : Option Value} {G : eh_W} {b : Nat → Int32} {n m : Nat} {w : Int32} (E : ri_calE ri_md (d + 3) 82 [.ref 2, .int w] h = some (v, h')) (hV : eh_V h = G) (iv : iC b n m G) : (¬ ((eh_i G 2 5) = 5) ∧ v = some (.int 0) ∧ eh_V h' = eh_u (eh_u G 2 9 (.int 1)) 2 10 (.int (eh_i G 2 6)) ∧ eh_N h' = eh_N h ∧ iC b n m (eh_u (eh_u G 2 9 (.int 1)) 2 10 (.int (eh_i G 2 6)))) ∨ ((eh_i G 2 5) = 5 ∧ ¬ ((eh_i G 2 7) = w) ∧ v = some (.int 0) ∧ eh_V h' = eh_u (eh_u G 2 9 (.int 1)) 2 10 (.int (eh_i G 2 6)) ∧ eh_N h' = eh_N h ∧ iC b n m (eh_u (eh_u G 2 9 (.int 1)) 2 10 (.int (eh_i G 2 6)))) ∨ (∃ (h1 : ri_H), ∃ (h19 : ri_H), (eh_i G 2 5) = 5 ∧ (eh_i G 2 7) = w ∧ eh_V h1 = G ∧ ri_calE ri_md (d + 2) 74 [.ref 2] h1 = some (none, h19) ∧ iC b n m (eh_V h19) ∧ v = some (.int 1) ∧ eh_V h' = (eh_V h19) ∧ eh_N h' = eh_N h ∧ iC b n m (eh_V h19)) := by
  obtain ⟨rs, hrs, E⟩ := eh_in E (q := md_82) rfl
  have E := E.ld (p := 1) (t := ri_isA) (i := 0) (n := 1) (v := .ref 2) rfl (e := (.aload_n 0, 1, [], .null)) rfl rfl (fun _ _ => rfl) rfl rfl
  have E := E.ld (p := 2) (t := ri_isI) (i := 1) (n := 1) (v := .int w) rfl (e := (.iload_n 1, 1, [], .null)) rfl rfl (fun _ _ => rfl) rfl rfl
  obtain ⟨v1, h1, X, E⟩ := E.cv (p := 5) (as := [.int w]) (b := 2) (r := []) rfl (x := 87) (m := 3) (w := .null) (j := 80) (n := 1) (t := 8) (u := [739, 741, 740]) rfl rfl rfl
  rcases sp_80 (d := d + 1) X hV (iv.1) with ⟨c2, rfl, hV3, hN4⟩ | ⟨c5, c6, rfl, hV7, hN8⟩ | ⟨c9, c10, rfl, hV11, hN12⟩
  · skip
    have c2 : ¬ ((eh_i G 2 5) = 5) := c2
    have E : eh_e _ _ 5 (ri_as 0 [.ref 2, .int w]) [.int 0] _ rs h' := E
    have E := E.brf (p := 8) (c := 1) (tgt := 14) (a := 0) (b := 0) (st' := []) rfl (e := (.ifCond .ne 9, 3, [14], .null)) rfl rfl (fun _ _ => rfl) (by decide) rfl
    have E := E.ld (p := 9) (t := ri_isA) (i := 0) (n := 1) (v := .ref 2) rfl (e := (.aload_n 0, 1, [], .null)) rfl rfl (fun _ _ => rfl) rfl rfl
    have E := E.pu (p := 10) (lo' := (ri_as 0 [.ref 2, .int w])) (st' := [.int 1, .ref 2]) rfl (e := (.iconst 1, 1, [], .null)) rfl rfl (fun _ _ => rfl)
    obtain ⟨v1, h13, X, E⟩ := E.cv (p := 13) (as := [.int 1]) (b := 2) (r := []) rfl (x := 84) (m := 3) (w := .null) (j := 78) (n := 1) (t := 8) (u := [700, 678, 677]) rfl rfl rfl
    rcases sp_78 (d := d + 1) X hV3 (iv.1) with ⟨rfl, hV14, hN15⟩
    have hV14 : _ = eh_u (eh_u G 2 9 (.int 1)) 2 10 (.int (eh_i G 2 6)) := hV14
    have E : eh_e _ _ 13 (ri_as 0 [.ref 2, .int w]) [.int 0] _ rs h' := E
    obtain ⟨r1, r2⟩ := E.reti rfl (m := 1) (ax := []) (w := .null) rfl
    exact Or.inl ⟨c2, (by rw [← hrs, r1]; rfl), ((congrArg eh_V r2).trans hV14), ((congrArg eh_N r2).trans (hN15.trans hN4)), (iC_u (iC_u iv ((iv.1).ui rfl) rfl) (((iv.1).ui rfl).ui rfl) rfl)⟩
  · skip
    have c5 : (eh_i G 2 5) = 5 := c5
    have c6 : ¬ ((eh_i G 2 7) = w) := c6
    have E : eh_e _ _ 5 (ri_as 0 [.ref 2, .int w]) [.int 0] _ rs h' := E
    have E := E.brf (p := 8) (c := 1) (tgt := 14) (a := 0) (b := 0) (st' := []) rfl (e := (.ifCond .ne 9, 3, [14], .null)) rfl rfl (fun _ _ => rfl) (by decide) rfl
    have E := E.ld (p := 9) (t := ri_isA) (i := 0) (n := 1) (v := .ref 2) rfl (e := (.aload_n 0, 1, [], .null)) rfl rfl (fun _ _ => rfl) rfl rfl
    have E := E.pu (p := 10) (lo' := (ri_as 0 [.ref 2, .int w])) (st' := [.int 1, .ref 2]) rfl (e := (.iconst 1, 1, [], .null)) rfl rfl (fun _ _ => rfl)
    obtain ⟨v1, h16, X, E⟩ := E.cv (p := 13) (as := [.int 1]) (b := 2) (r := []) rfl (x := 84) (m := 3) (w := .null) (j := 78) (n := 1) (t := 8) (u := [700, 678, 677]) rfl rfl rfl
    rcases sp_78 (d := d + 1) X hV7 (iv.1) with ⟨rfl, hV17, hN18⟩
    have hV17 : _ = eh_u (eh_u G 2 9 (.int 1)) 2 10 (.int (eh_i G 2 6)) := hV17
    have E : eh_e _ _ 13 (ri_as 0 [.ref 2, .int w]) [.int 0] _ rs h' := E
    obtain ⟨r1, r2⟩ := E.reti rfl (m := 1) (ax := []) (w := .null) rfl
    exact Or.inr (Or.inl ⟨c5, c6, (by rw [← hrs, r1]; rfl), ((congrArg eh_V r2).trans hV17), ((congrArg eh_N r2).trans (hN18.trans hN8)), (iC_u (iC_u iv ((iv.1).ui rfl) rfl) (((iv.1).ui rfl).ui rfl) rfl)⟩)
  · skip
    have c9 : (eh_i G 2 5) = 5 := c9
    have c10 : (eh_i G 2 7) = w := c10
    have E : eh_e _ _ 5 (ri_as 0 [.ref 2, .int w]) [.int 1] _ rs h' := E
    have E := E.brt (c := 1) (tgt := 14) (a := 1) (b := 0) (st' := []) rfl (e := (.ifCond .ne 9, 3, [14], .null)) rfl rfl (fun _ _ => rfl) (by decide)
    have E := E.ld (p := 15) (t := ri_isA) (i := 0) (n := 1) (v := .ref 2) rfl (e := (.aload_n 0, 1, [], .null)) rfl rfl (fun _ _ => rfl) rfl rfl
    obtain ⟨v1, h19, X, E⟩ := E.cv (p := 18) (as := []) (b := 2) (r := []) rfl (x := 67) (m := 3) (w := .null) (j := 74) (n := 0) (t := 8) (u := [646, 648, 647]) rfl rfl rfl
    obtain ⟨rfl, ivk20, hNk20⟩ := tp_74 (d := d) X (by rw [hV11]; exact iv)
    have Xk20 := X
    have E : eh_e _ _ 18 (ri_as 0 [.ref 2, .int w]) [] h19 rs h' := E
    have E := E.pu (p := 19) (lo' := (ri_as 0 [.ref 2, .int w])) (st' := [.int 1]) rfl (e := (.iconst 1, 1, [], .null)) rfl rfl (fun _ _ => rfl)
    obtain ⟨r1, r2⟩ := E.reti rfl (m := 1) (ax := []) (w := .null) rfl
    exact Or.inr (Or.inr (⟨h1, h19, c9, c10, hV11, Xk20, ivk20, (by rw [← hrs, r1]; rfl), ((congrArg eh_V r2).trans (rfl : eh_V h19 = eh_V h19)), ((congrArg eh_N r2).trans (hNk20.trans hN12)), ivk20⟩))
theorem tp_82 {d : Nat} {h h' : ri_H} {v : Option Value} {b : Nat → Int32} {n m : Nat} {w : Int32} (E : ri_calE ri_md (d + 3) 82 [.ref 2, .int w] h = some (v, h')) (iv : iC b n m (eh_V h)) : ∃ x : Int32, v = some (.int x) ∧ iC b n m (eh_V h') ∧ eh_N h' = eh_N h := by
  rcases sp_82 E rfl iv with ⟨_, r1, r2, r3, r4⟩ | ⟨_, _, r1, r2, r3, r4⟩ | ⟨_, _, _, _, _, _, _, r1, r2, r3, r4⟩
  · exact ⟨_, r1, by rw [r2]; exact r4, r3⟩
  · exact ⟨_, r1, by rw [r2]; exact r4, r3⟩
  · exact ⟨_, r1, by rw [r2]; exact r4, r3⟩
theorem sp_81 {d : Nat} {h h' : ri_H} {v : Option Value} {G : eh_W} {b : Nat → Int32} {n m : Nat} {w : Int32} (E : ri_calE ri_md (d + 3) 81 [.ref 2, .int w] h = some (v, h')) (hV : eh_V h = G) (iv : iC b n m G) : (¬ ((eh_i G 2 5) = 2) ∧ v = some (.int 0) ∧ eh_V h' = eh_u (eh_u G 2 9 (.int 1)) 2 10 (.int (eh_i G 2 6)) ∧ eh_N h' = eh_N h ∧ iC b n m (eh_u (eh_u G 2 9 (.int 1)) 2 10 (.int (eh_i G 2 6)))) ∨ ((eh_i G 2 5) = 2 ∧ ¬ ((eh_i G 2 7) = w) ∧ v = some (.int 0) ∧ eh_V h' = eh_u (eh_u G 2 9 (.int 1)) 2 10 (.int (eh_i G 2 6)) ∧ eh_N h' = eh_N h ∧ iC b n m (eh_u (eh_u G 2 9 (.int 1)) 2 10 (.int (eh_i G 2 6)))) ∨ (∃ (h1 : ri_H), ∃ (h19 : ri_H), (eh_i G 2 5) = 2 ∧ (eh_i G 2 7) = w ∧ eh_V h1 = G ∧ ri_calE ri_md (d + 2) 74 [.ref 2] h1 = some (none, h19) ∧ iC b n m (eh_V h19) ∧ v = some (.int 1) ∧ eh_V h' = (eh_V h19) ∧ eh_N h' = eh_N h ∧ iC b n m (eh_V h19)) := by
  obtain ⟨rs, hrs, E⟩ := eh_in E (q := md_81) rfl
  have E := E.ld (p := 1) (t := ri_isA) (i := 0) (n := 1) (v := .ref 2) rfl (e := (.aload_n 0, 1, [], .null)) rfl rfl (fun _ _ => rfl) rfl rfl
  have E := E.ld (p := 2) (t := ri_isI) (i := 1) (n := 1) (v := .int w) rfl (e := (.iload_n 1, 1, [], .null)) rfl rfl (fun _ _ => rfl) rfl rfl
  obtain ⟨v1, h1, X, E⟩ := E.cv (p := 5) (as := [.int w]) (b := 2) (r := []) rfl (x := 81) (m := 3) (w := .null) (j := 79) (n := 1) (t := 8) (u := [1085, 1076, 1075]) rfl rfl rfl
  rcases sp_79 (d := d + 1) X hV (iv.1) with ⟨c2, rfl, hV3, hN4⟩ | ⟨c5, c6, rfl, hV7, hN8⟩ | ⟨c9, c10, rfl, hV11, hN12⟩
  · skip
    have c2 : ¬ ((eh_i G 2 5) = 2) := c2
    have E : eh_e _ _ 5 (ri_as 0 [.ref 2, .int w]) [.int 0] _ rs h' := E
    have E := E.brf (p := 8) (c := 1) (tgt := 14) (a := 0) (b := 0) (st' := []) rfl (e := (.ifCond .ne 9, 3, [14], .null)) rfl rfl (fun _ _ => rfl) (by decide) rfl
    have E := E.ld (p := 9) (t := ri_isA) (i := 0) (n := 1) (v := .ref 2) rfl (e := (.aload_n 0, 1, [], .null)) rfl rfl (fun _ _ => rfl) rfl rfl
    have E := E.pu (p := 10) (lo' := (ri_as 0 [.ref 2, .int w])) (st' := [.int 1, .ref 2]) rfl (e := (.iconst 1, 1, [], .null)) rfl rfl (fun _ _ => rfl)
    obtain ⟨v1, h13, X, E⟩ := E.cv (p := 13) (as := [.int 1]) (b := 2) (r := []) rfl (x := 84) (m := 3) (w := .null) (j := 78) (n := 1) (t := 8) (u := [700, 678, 677]) rfl rfl rfl
    rcases sp_78 (d := d + 1) X hV3 (iv.1) with ⟨rfl, hV14, hN15⟩
    have hV14 : _ = eh_u (eh_u G 2 9 (.int 1)) 2 10 (.int (eh_i G 2 6)) := hV14
    have E : eh_e _ _ 13 (ri_as 0 [.ref 2, .int w]) [.int 0] _ rs h' := E
    obtain ⟨r1, r2⟩ := E.reti rfl (m := 1) (ax := []) (w := .null) rfl
    exact Or.inl ⟨c2, (by rw [← hrs, r1]; rfl), ((congrArg eh_V r2).trans hV14), ((congrArg eh_N r2).trans (hN15.trans hN4)), (iC_u (iC_u iv ((iv.1).ui rfl) rfl) (((iv.1).ui rfl).ui rfl) rfl)⟩
  · skip
    have c5 : (eh_i G 2 5) = 2 := c5
    have c6 : ¬ ((eh_i G 2 7) = w) := c6
    have E : eh_e _ _ 5 (ri_as 0 [.ref 2, .int w]) [.int 0] _ rs h' := E
    have E := E.brf (p := 8) (c := 1) (tgt := 14) (a := 0) (b := 0) (st' := []) rfl (e := (.ifCond .ne 9, 3, [14], .null)) rfl rfl (fun _ _ => rfl) (by decide) rfl
    have E := E.ld (p := 9) (t := ri_isA) (i := 0) (n := 1) (v := .ref 2) rfl (e := (.aload_n 0, 1, [], .null)) rfl rfl (fun _ _ => rfl) rfl rfl
    have E := E.pu (p := 10) (lo' := (ri_as 0 [.ref 2, .int w])) (st' := [.int 1, .ref 2]) rfl (e := (.iconst 1, 1, [], .null)) rfl rfl (fun _ _ => rfl)
    obtain ⟨v1, h16, X, E⟩ := E.cv (p := 13) (as := [.int 1]) (b := 2) (r := []) rfl (x := 84) (m := 3) (w := .null) (j := 78) (n := 1) (t := 8) (u := [700, 678, 677]) rfl rfl rfl
    rcases sp_78 (d := d + 1) X hV7 (iv.1) with ⟨rfl, hV17, hN18⟩
    have hV17 : _ = eh_u (eh_u G 2 9 (.int 1)) 2 10 (.int (eh_i G 2 6)) := hV17
    have E : eh_e _ _ 13 (ri_as 0 [.ref 2, .int w]) [.int 0] _ rs h' := E
    obtain ⟨r1, r2⟩ := E.reti rfl (m := 1) (ax := []) (w := .null) rfl
    exact Or.inr (Or.inl ⟨c5, c6, (by rw [← hrs, r1]; rfl), ((congrArg eh_V r2).trans hV17), ((congrArg eh_N r2).trans (hN18.trans hN8)), (iC_u (iC_u iv ((iv.1).ui rfl) rfl) (((iv.1).ui rfl).ui rfl) rfl)⟩)
  · skip
    have c9 : (eh_i G 2 5) = 2 := c9
    have c10 : (eh_i G 2 7) = w := c10
    have E : eh_e _ _ 5 (ri_as 0 [.ref 2, .int w]) [.int 1] _ rs h' := E
    have E := E.brt (c := 1) (tgt := 14) (a := 1) (b := 0) (st' := []) rfl (e := (.ifCond .ne 9, 3, [14], .null)) rfl rfl (fun _ _ => rfl) (by decide)
    have E := E.ld (p := 15) (t := ri_isA) (i := 0) (n := 1) (v := .ref 2) rfl (e := (.aload_n 0, 1, [], .null)) rfl rfl (fun _ _ => rfl) rfl rfl
    obtain ⟨v1, h19, X, E⟩ := E.cv (p := 18) (as := []) (b := 2) (r := []) rfl (x := 67) (m := 3) (w := .null) (j := 74) (n := 0) (t := 8) (u := [646, 648, 647]) rfl rfl rfl
    obtain ⟨rfl, ivk20, hNk20⟩ := tp_74 (d := d) X (by rw [hV11]; exact iv)
    have Xk20 := X
    have E : eh_e _ _ 18 (ri_as 0 [.ref 2, .int w]) [] h19 rs h' := E
    have E := E.pu (p := 19) (lo' := (ri_as 0 [.ref 2, .int w])) (st' := [.int 1]) rfl (e := (.iconst 1, 1, [], .null)) rfl rfl (fun _ _ => rfl)
    obtain ⟨r1, r2⟩ := E.reti rfl (m := 1) (ax := []) (w := .null) rfl
    exact Or.inr (Or.inr (⟨h1, h19, c9, c10, hV11, Xk20, ivk20, (by rw [← hrs, r1]; rfl), ((congrArg eh_V r2).trans (rfl : eh_V h19 = eh_V h19)), ((congrArg eh_N r2).trans (hNk20.trans hN12)), ivk20⟩))
theorem tp_81 {d : Nat} {h h' : ri_H} {v : Option Value} {b : Nat → Int32} {n m : Nat} {w : Int32} (E : ri_calE ri_md (d + 3) 81 [.ref 2, .int w] h = some (v, h')) (iv : iC b n m (eh_V h)) : ∃ x : Int32, v = some (.int x) ∧ iC b n m (eh_V h') ∧ eh_N h' = eh_N h := by
  rcases sp_81 E rfl iv with ⟨_, r1, r2, r3, r4⟩ | ⟨_, _, r1, r2, r3, r4⟩ | ⟨_, _, _, _, _, _, _, r1, r2, r3, r4⟩
  · exact ⟨_, r1, by rw [r2]; exact r4, r3⟩
  · exact ⟨_, r1, by rw [r2]; exact r4, r3⟩
  · exact ⟨_, r1, by rw [r2]; exact r4, r3⟩
theorem sp_83 {d : Nat} {h h' : ri_H} {v : Option Value} {G : eh_W} {b : Nat → Int32} {n m : Nat} {w0 w1 : Int32} (E : ri_calE ri_md (d + 3) 83 [.ref 2, .int w0, .int w1] h = some (v, h')) (hV : eh_V h = G) (iv : iC b n m G) : ((eh_i G 2 5) = 4 ∧ (eh_i G 2 7).toInt < w0.toInt ∧ v = some (.int (-1)) ∧ eh_V h' = eh_u (eh_u G 2 9 (.int 2)) 2 10 (.int (eh_i G 2 6)) ∧ eh_N h' = eh_N h ∧ iC b n m (eh_u (eh_u G 2 9 (.int 2)) 2 10 (.int (eh_i G 2 6)))) ∨ (∃ (h8 : ri_H), (eh_i G 2 5) = 4 ∧ ¬ ((eh_i G 2 7).toInt < w0.toInt) ∧ ¬ (w1.toInt < (eh_i G 2 7).toInt) ∧ ri_calE ri_md (d + 2) 74 [.ref 2] h = some (none, h8) ∧ iC b n m (eh_V h8) ∧ v = some (.int (eh_i G 2 7)) ∧ eh_V h' = (eh_V h8) ∧ eh_N h' = eh_N h ∧ iC b n m (eh_V h8)) ∨ ((eh_i G 2 5) = 4 ∧ ¬ ((eh_i G 2 7).toInt < w0.toInt) ∧ w1.toInt < (eh_i G 2 7).toInt ∧ v = some (.int (-1)) ∧ eh_V h' = eh_u (eh_u G 2 9 (.int 2)) 2 10 (.int (eh_i G 2 6)) ∧ eh_N h' = eh_N h ∧ iC b n m (eh_u (eh_u G 2 9 (.int 2)) 2 10 (.int (eh_i G 2 6)))) ∨ (¬ ((eh_i G 2 5) = 4) ∧ v = some (.int (-1)) ∧ eh_V h' = eh_u (eh_u G 2 9 (.int 1)) 2 10 (.int (eh_i G 2 6)) ∧ eh_N h' = eh_N h ∧ iC b n m (eh_u (eh_u G 2 9 (.int 1)) 2 10 (.int (eh_i G 2 6)))) := by
  obtain ⟨rs, hrs, E⟩ := eh_in E (q := md_83) rfl
  have E := E.ld (p := 1) (t := ri_isA) (i := 0) (n := 1) (v := .ref 2) rfl (e := (.aload_n 0, 1, [], .null)) rfl rfl (fun _ _ => rfl) rfl rfl
  have E := E.gi (y := eh_i G 2 5) (p := 4) rfl (x := 25) (m := 3) (w := .null) (t := 8) (i := 5) (u := 192) rfl rfl hV (iv.1) rfl rfl
  have E := E.pu (p := 5) (lo' := (ri_as 0 [.ref 2, .int w0, .int w1])) (st' := [.int 4, .int (eh_i G 2 5)]) rfl (e := (.iconst 4, 1, [], .null)) rfl rfl (fun _ _ => rfl)
  rcases eh_q0 (E.br (p := 8) (c := 0) (tgt := 16) (a := eh_i G 2 5) (b := 4) (st' := []) rfl (e := (.if_icmp .eq 11, 3, [16], .null)) rfl rfl (fun _ _ => rfl) rfl) with ⟨c1, E⟩ | ⟨c1, E⟩
  · skip
    have E := E.ld (p := 17) (t := ri_isA) (i := 0) (n := 1) (v := .ref 2) rfl (e := (.aload_n 0, 1, [], .null)) rfl rfl (fun _ _ => rfl) rfl rfl
    have E := E.gi (y := eh_i G 2 7) (p := 20) rfl (x := 31) (m := 3) (w := .null) (t := 8) (i := 7) (u := 197) rfl rfl hV (iv.1) rfl rfl
    have E := E.ld (p := 21) (t := ri_isI) (i := 1) (n := 1) (v := .int w0) rfl (e := (.iload_n 1, 1, [], .null)) rfl rfl (fun _ _ => rfl) rfl rfl
    rcases eh_r2 rfl rfl (E.br (p := 24) (c := 2) (tgt := 32) (a := eh_i G 2 7) (b := w0) (st' := []) rfl (e := (.if_icmp .lt 11, 3, [32], .null)) rfl rfl (fun _ _ => rfl) rfl) with ⟨c2, E⟩ | ⟨c2, E⟩
    · skip
      have E := E.ld (p := 33) (t := ri_isA) (i := 0) (n := 1) (v := .ref 2) rfl (e := (.aload_n 0, 1, [], .null)) rfl rfl (fun _ _ => rfl) rfl rfl
      have E := E.pu (p := 34) (lo' := (ri_as 0 [.ref 2, .int w0, .int w1])) (st' := [.int 2, .ref 2]) rfl (e := (.iconst 2, 1, [], .null)) rfl rfl (fun _ _ => rfl)
      obtain ⟨v1, h3, X, E⟩ := E.cv (p := 37) (as := [.int 2]) (b := 2) (r := []) rfl (x := 84) (m := 3) (w := .null) (j := 78) (n := 1) (t := 8) (u := [700, 678, 677]) rfl rfl rfl
      rcases sp_78 (d := d + 1) X hV (iv.1) with ⟨rfl, hV4, hN5⟩
      have hV4 : _ = eh_u (eh_u G 2 9 (.int 2)) 2 10 (.int (eh_i G 2 6)) := hV4
      have E : eh_e _ _ 37 (ri_as 0 [.ref 2, .int w0, .int w1]) [.int 0] _ rs h' := E
      have E := E.pu (p := 38) (lo' := (ri_as 0 [.ref 2, .int w0, .int w1])) (st' := []) rfl (e := (.pop, 1, [], .null)) rfl rfl (fun _ _ => rfl)
      have E := E.pu (p := 39) (lo' := (ri_as 0 [.ref 2, .int w0, .int w1])) (st' := [.int (-1)]) rfl (e := (.iconst (-1), 1, [], .null)) rfl rfl (fun _ _ => rfl)
      obtain ⟨r1, r2⟩ := E.reti rfl (m := 1) (ax := []) (w := .null) rfl
      exact Or.inl ⟨c1, c2, (by rw [← hrs, r1]; rfl), ((congrArg eh_V r2).trans hV4), ((congrArg eh_N r2).trans hN5), (iC_u (iC_u iv ((iv.1).ui rfl) rfl) (((iv.1).ui rfl).ui rfl) rfl)⟩
    · skip
      have E := E.ld (p := 25) (t := ri_isA) (i := 0) (n := 1) (v := .ref 2) rfl (e := (.aload_n 0, 1, [], .null)) rfl rfl (fun _ _ => rfl) rfl rfl
      have E := E.gi (y := eh_i G 2 7) (p := 28) rfl (x := 31) (m := 3) (w := .null) (t := 8) (i := 7) (u := 197) rfl rfl hV (iv.1) rfl rfl
      have E := E.ld (p := 29) (t := ri_isI) (i := 2) (n := 1) (v := .int w1) rfl (e := (.iload_n 2, 1, [], .null)) rfl rfl (fun _ _ => rfl) rfl rfl
      rcases eh_r5 rfl rfl (E.br (p := 32) (c := 5) (tgt := 40) (a := eh_i G 2 7) (b := w1) (st' := []) rfl (e := (.if_icmp .le 11, 3, [40], .null)) rfl rfl (fun _ _ => rfl) rfl) with ⟨c6, E⟩ | ⟨c6, E⟩
      · skip
        have E := E.ld (p := 41) (t := ri_isA) (i := 0) (n := 1) (v := .ref 2) rfl (e := (.aload_n 0, 1, [], .null)) rfl rfl (fun _ _ => rfl) rfl rfl
        have E := E.gi (y := eh_i G 2 7) (p := 44) rfl (x := 31) (m := 3) (w := .null) (t := 8) (i := 7) (u := 197) rfl rfl hV (iv.1) rfl rfl
        have E := E.so (p := 45) (t := ri_isI) (i := 3) (n := 1) rfl (e := (.istore_n 3, 1, [], .null)) rfl rfl (fun _ _ => rfl) rfl
        have k7_3 : ri_lk (ri_st1 (ri_as 0 [.ref 2, .int w0, .int w1]) 3 (.int (eh_i G 2 7))) 3 = some (.int (eh_i G 2 7)) := eh_self
        have k7_0 : ri_lk (ri_st1 (ri_as 0 [.ref 2, .int w0, .int w1]) 3 (.int (eh_i G 2 7))) 0 = some (.ref 2) := eh_keep (by decide) (Or.inl rfl) rfl
        have k7_1 : ri_lk (ri_st1 (ri_as 0 [.ref 2, .int w0, .int w1]) 3 (.int (eh_i G 2 7))) 1 = some (.int w0) := eh_keep (by decide) (Or.inl rfl) rfl
        have k7_2 : ri_lk (ri_st1 (ri_as 0 [.ref 2, .int w0, .int w1]) 3 (.int (eh_i G 2 7))) 2 = some (.int w1) := eh_keep (by decide) (Or.inl rfl) rfl
        have E := E.ld (p := 46) (t := ri_isA) (i := 0) (n := 1) (v := .ref 2) rfl (e := (.aload_n 0, 1, [], .null)) rfl rfl (fun _ _ => rfl) k7_0 rfl
        obtain ⟨v1, h8, X, E⟩ := E.cv (p := 49) (as := []) (b := 2) (r := []) rfl (x := 67) (m := 3) (w := .null) (j := 74) (n := 0) (t := 8) (u := [646, 648, 647]) rfl rfl rfl
        obtain ⟨rfl, ivk9, hNk9⟩ := tp_74 (d := d) X (by rw [hV]; exact iv)
        have Xk9 := X
        have E : eh_e _ _ 49 (ri_st1 (ri_as 0 [.ref 2, .int w0, .int w1]) 3 (.int (eh_i G 2 7))) [] h8 rs h' := E
        have E := E.ld (p := 50) (t := ri_isI) (i := 3) (n := 1) (v := .int (eh_i G 2 7)) rfl (e := (.iload_n 3, 1, [], .null)) rfl rfl (fun _ _ => rfl) k7_3 rfl
        obtain ⟨r1, r2⟩ := E.reti rfl (m := 1) (ax := []) (w := .null) rfl
        exact Or.inr (Or.inl ⟨h8, c1, c2, c6, Xk9, ivk9, (by rw [← hrs, r1]; rfl), ((congrArg eh_V r2).trans (rfl : eh_V h8 = eh_V h8)), ((congrArg eh_N r2).trans hNk9), ivk9⟩)
      · skip
        have E := E.ld (p := 33) (t := ri_isA) (i := 0) (n := 1) (v := .ref 2) rfl (e := (.aload_n 0, 1, [], .null)) rfl rfl (fun _ _ => rfl) rfl rfl
        have E := E.pu (p := 34) (lo' := (ri_as 0 [.ref 2, .int w0, .int w1])) (st' := [.int 2, .ref 2]) rfl (e := (.iconst 2, 1, [], .null)) rfl rfl (fun _ _ => rfl)
        obtain ⟨v1, h10, X, E⟩ := E.cv (p := 37) (as := [.int 2]) (b := 2) (r := []) rfl (x := 84) (m := 3) (w := .null) (j := 78) (n := 1) (t := 8) (u := [700, 678, 677]) rfl rfl rfl
        rcases sp_78 (d := d + 1) X hV (iv.1) with ⟨rfl, hV11, hN12⟩
        have hV11 : _ = eh_u (eh_u G 2 9 (.int 2)) 2 10 (.int (eh_i G 2 6)) := hV11
        have E : eh_e _ _ 37 (ri_as 0 [.ref 2, .int w0, .int w1]) [.int 0] _ rs h' := E
        have E := E.pu (p := 38) (lo' := (ri_as 0 [.ref 2, .int w0, .int w1])) (st' := []) rfl (e := (.pop, 1, [], .null)) rfl rfl (fun _ _ => rfl)
        have E := E.pu (p := 39) (lo' := (ri_as 0 [.ref 2, .int w0, .int w1])) (st' := [.int (-1)]) rfl (e := (.iconst (-1), 1, [], .null)) rfl rfl (fun _ _ => rfl)
        obtain ⟨r1, r2⟩ := E.reti rfl (m := 1) (ax := []) (w := .null) rfl
        exact Or.inr (Or.inr (Or.inl ⟨c1, c2, c6, (by rw [← hrs, r1]; rfl), ((congrArg eh_V r2).trans hV11), ((congrArg eh_N r2).trans hN12), (iC_u (iC_u iv ((iv.1).ui rfl) rfl) (((iv.1).ui rfl).ui rfl) rfl)⟩))
  · skip
    have E := E.ld (p := 9) (t := ri_isA) (i := 0) (n := 1) (v := .ref 2) rfl (e := (.aload_n 0, 1, [], .null)) rfl rfl (fun _ _ => rfl) rfl rfl
    have E := E.pu (p := 10) (lo' := (ri_as 0 [.ref 2, .int w0, .int w1])) (st' := [.int 1, .ref 2]) rfl (e := (.iconst 1, 1, [], .null)) rfl rfl (fun _ _ => rfl)
    obtain ⟨v1, h13, X, E⟩ := E.cv (p := 13) (as := [.int 1]) (b := 2) (r := []) rfl (x := 84) (m := 3) (w := .null) (j := 78) (n := 1) (t := 8) (u := [700, 678, 677]) rfl rfl rfl
    rcases sp_78 (d := d + 1) X hV (iv.1) with ⟨rfl, hV14, hN15⟩
    have hV14 : _ = eh_u (eh_u G 2 9 (.int 1)) 2 10 (.int (eh_i G 2 6)) := hV14
    have E : eh_e _ _ 13 (ri_as 0 [.ref 2, .int w0, .int w1]) [.int 0] _ rs h' := E
    have E := E.pu (p := 14) (lo' := (ri_as 0 [.ref 2, .int w0, .int w1])) (st' := []) rfl (e := (.pop, 1, [], .null)) rfl rfl (fun _ _ => rfl)
    have E := E.pu (p := 15) (lo' := (ri_as 0 [.ref 2, .int w0, .int w1])) (st' := [.int (-1)]) rfl (e := (.iconst (-1), 1, [], .null)) rfl rfl (fun _ _ => rfl)
    obtain ⟨r1, r2⟩ := E.reti rfl (m := 1) (ax := []) (w := .null) rfl
    exact Or.inr (Or.inr (Or.inr (⟨c1, (by rw [← hrs, r1]; rfl), ((congrArg eh_V r2).trans hV14), ((congrArg eh_N r2).trans hN15), (iC_u (iC_u iv ((iv.1).ui rfl) rfl) (((iv.1).ui rfl).ui rfl) rfl)⟩)))
theorem tp_83 {d : Nat} {h h' : ri_H} {v : Option Value} {b : Nat → Int32} {n m : Nat} {w0 : Int32} {w1 : Int32} (E : ri_calE ri_md (d + 3) 83 [.ref 2, .int w0, .int w1] h = some (v, h')) (iv : iC b n m (eh_V h)) : ∃ x : Int32, v = some (.int x) ∧ iC b n m (eh_V h') ∧ eh_N h' = eh_N h := by
  rcases sp_83 E rfl iv with ⟨_, _, r1, r2, r3, r4⟩ | ⟨_, _, _, _, _, _, r1, r2, r3, r4⟩ | ⟨_, _, _, r1, r2, r3, r4⟩ | ⟨_, r1, r2, r3, r4⟩
  · exact ⟨_, r1, by rw [r2]; exact r4, r3⟩
  · exact ⟨_, r1, by rw [r2]; exact r4, r3⟩
  · exact ⟨_, r1, by rw [r2]; exact r4, r3⟩
  · exact ⟨_, r1, by rw [r2]; exact r4, r3⟩
theorem fc_a {cal : eh_K} {lo : List (Nat × Value)} {h h' : ri_H} {rs : List Value} {G : eh_W} {co : Int64} (E : eh_e cal md_29 0 lo [] h rs h') (hV : eh_V h = G) (ty : eh_ty tC G) (l0 : ri_lk lo 0 = some (.ref 5)) (l1 : ri_lk lo 1 = some (.long co)) : ∃ hz loz, eh_e cal md_29 2 loz [] hz rs h' ∧ eh_V hz = G ∧ eh_N hz = eh_N h ∧ eh_ty tC G ∧ ri_lk loz 0 = some (.ref 5) ∧ ri_lk loz 1 = some (.long co) ∧ ri_lk loz 3 = some (.int 0) := by
  have E := E.pu (p := 1) (lo' := lo) (st' := [.int 0]) rfl (e := (.iconst 0, 1, [], .null)) rfl rfl (fun _ _ => rfl)
  have E := E.so (p := 2) (t := ri_isI) (i := 3) (n := 1) rfl (e := (.istore_n 3, 1, [], .null)) rfl rfl (fun _ _ => rfl) rfl
  have k1_3 : ri_lk (ri_st1 lo 3 (.int 0)) 3 = some (.int 0) := eh_self
  have k1_0 : ri_lk (ri_st1 lo 3 (.int 0)) 0 = some (.ref 5) := eh_keep (by decide) (Or.inl rfl) l0
  have k1_1 : ri_lk (ri_st1 lo 3 (.int 0)) 1 = some (.long co) := eh_keep (by decide) (Or.inr (by decide)) l1
  exact ⟨_, _, E, hV, rfl, ty, k1_0, k1_1, k1_3⟩
theorem fc_i {cal : eh_K} {lo : List (Nat × Value)} {h h' : ri_H} {rs : List Value} {G : eh_W} {co : Int64} {k : Int32} (E : eh_e cal md_29 2 lo [] h rs h') (hV : eh_V h = G) (ty : eh_ty tC G) (l0 : ri_lk lo 0 = some (.ref 5)) (l1 : ri_lk lo 1 = some (.long co)) (l3 : ri_lk lo 3 = some (.int k)) : (¬ (k.toInt < (eh_i G 5 12).toInt) ∧ rs = [.int (-1)] ∧ eh_V h' = G ∧ eh_N h' = eh_N h) ∨ (k.toInt < (eh_i G 5 12).toInt ∧ ¬ ((eh_l G 14 (k).toNatClampNeg) = co) ∧ ∃ hz loz, eh_e cal md_29 2 loz [] hz rs h' ∧ eh_V hz = G ∧ eh_N hz = eh_N h ∧ eh_ty tC G ∧ ri_lk loz 0 = some (.ref 5) ∧ ri_lk loz 1 = some (.long co) ∧ ri_lk loz 3 = some (.int (k + 1))) ∨ (k.toInt < (eh_i G 5 12).toInt ∧ (eh_l G 14 (k).toNatClampNeg) = co ∧ rs = [.int k] ∧ eh_V h' = G ∧ eh_N h' = eh_N h) := by
  have E := E.ld (p := 3) (t := ri_isI) (i := 3) (n := 1) (v := .int k) rfl (e := (.iload_n 3, 1, [], .null)) rfl rfl (fun _ _ => rfl) l3 rfl
  have E := E.ld (p := 4) (t := ri_isA) (i := 0) (n := 1) (v := .ref 5) rfl (e := (.aload_n 0, 1, [], .null)) rfl rfl (fun _ _ => rfl) l0 rfl
  have E := E.gi (y := eh_i G 5 12) (p := 7) rfl (x := 58) (m := 3) (w := .null) (t := 4) (i := 12) (u := 293) rfl rfl hV ty rfl rfl
  rcases eh_r3 rfl rfl (E.br (p := 10) (c := 3) (tgt := 29) (a := k) (b := eh_i G 5 12) (st' := []) rfl (e := (.if_icmp .ge 22, 3, [29], .null)) rfl rfl (fun _ _ => rfl) rfl) with ⟨c1, E⟩ | ⟨c1, E⟩
  · skip
    have E := E.pu (p := 30) (lo' := lo) (st' := [.int (-1)]) rfl (e := (.iconst (-1), 1, [], .null)) rfl rfl (fun _ _ => rfl)
    obtain ⟨r1, r2⟩ := E.reti rfl (m := 1) (ax := []) (w := .null) rfl
    exact Or.inl ⟨c1, r1, ((congrArg eh_V r2).trans hV), (congrArg eh_N r2)⟩
  · skip
    have E := E.ld (p := 11) (t := ri_isA) (i := 0) (n := 1) (v := .ref 5) rfl (e := (.aload_n 0, 1, [], .null)) rfl rfl (fun _ _ => rfl) l0 rfl
    have E := E.gr (n := 14) (p := 14) rfl (x := 48) (m := 3) (w := .null) (t := 4) (i := 9) (u := 286) rfl rfl hV ty rfl
    have E := E.ld (p := 15) (t := ri_isI) (i := 3) (n := 1) (v := .int k) rfl (e := (.iload_n 3, 1, [], .null)) rfl rfl (fun _ _ => rfl) l3 rfl
    have E := E.al (p := 16) (z := eh_l G 14 (k).toNatClampNeg) (n := (k).toNatClampNeg) rfl (e := (.laload, 1, [], .null)) rfl rfl (fun _ _ => rfl) rfl hV ty rfl rfl rfl
    have E := E.ld (p := 17) (t := ri_isL) (i := 1) (n := 1) (v := .long co) rfl (e := (.lload_n 1, 1, [], .null)) rfl rfl (fun _ _ => rfl) l1 rfl
    have E := E.pu (p := 18) (lo' := lo) (st' := [.int (lg_cmp (eh_l G 14 (k).toNatClampNeg) co)]) rfl (e := (.lcmp, 1, [], .null)) rfl rfl (fun _ _ => rfl)
    rcases eh_ql1 (E.br (p := 21) (c := 1) (tgt := 23) (a := lg_cmp (eh_l G 14 (k).toNatClampNeg) co) (b := 0) (st' := []) rfl (e := (.ifCond .ne 5, 3, [23], .null)) rfl rfl (fun _ _ => rfl) rfl) with ⟨c2, E⟩ | ⟨c2, E⟩
    · skip
      have E := E.ii (p := 26) (y := k + 1) rfl (i := 3) (n := 1) (m := 3) (ax := []) (w := .null) rfl l3 rfl rfl
      have k3_3 : ri_lk (ri_st1 lo 3 (.int (k + 1))) 3 = some (.int (k + 1)) := eh_self
      have k3_0 : ri_lk (ri_st1 lo 3 (.int (k + 1))) 0 = some (.ref 5) := eh_keep (by decide) (Or.inl rfl) l0
      have k3_1 : ri_lk (ri_st1 lo 3 (.int (k + 1))) 1 = some (.long co) := eh_keep (by decide) (Or.inr (by decide)) l1
      have E := E.pu (p := 2) (lo' := (ri_st1 lo 3 (.int (k + 1)))) (st' := []) rfl (e := (.goto (-24), 3, [2], .null)) rfl rfl (fun _ _ => rfl)
      exact Or.inr (Or.inl ⟨c1, c2, _, _, E, hV, rfl, ty, k3_0, k3_1, k3_3⟩)
    · skip
      have E := E.ld (p := 22) (t := ri_isI) (i := 3) (n := 1) (v := .int k) rfl (e := (.iload_n 3, 1, [], .null)) rfl rfl (fun _ _ => rfl) l3 rfl
      obtain ⟨r1, r2⟩ := E.reti rfl (m := 1) (ax := []) (w := .null) rfl
      exact Or.inr (Or.inr (⟨c1, c2, r1, ((congrArg eh_V r2).trans hV), (congrArg eh_N r2)⟩))
