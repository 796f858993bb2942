theorem xt_26 {d : Nat} {h h' : ri_H} {v : Option Value} {G : eh_W} {so nu : Int32} (E : ri_calE ri_md (d + 1) 26 [.ref 23, .int so, .int nu] h = some (v, h')) (hV : eh_V h = G) (ty : eh_ty tC G) : (nu.toInt < 0 ∧ v = some (.int 0) ∧ eh_V h' = G ∧ eh_N h' = eh_N h) ∨ (¬ (nu.toInt < 0) ∧ ¬ (nu.toInt < (eh_i G 25 (so).toNatClampNeg).toInt) ∧ v = some (.int 0) ∧ eh_V h' = G ∧ eh_N h' = eh_N h) ∨ (¬ (nu.toInt < 0) ∧ nu.toInt < (eh_i G 25 (so).toNatClampNeg).toInt ∧ v = some (.int 1) ∧ eh_V h' = G ∧ eh_N h' = eh_N h) := by
  obtain ⟨rs, hrs, E⟩ := eh_in E (q := md_26) rfl
  have E := E.ld (p := 1) (t := ri_isI) (i := 2) (n := 1) (v := .int nu) rfl (e := (.iload_n 2, 1, [], .null)) rfl rfl (fun _ _ => rfl) rfl rfl
  rcases eh_r2 rfl (show (0 : Int32).toInt = 0 by decide) (E.br (p := 4) (c := 2) (tgt := 18) (a := nu) (b := 0) (st' := []) rfl (e := (.ifCond .lt 17, 3, [18], .null)) rfl rfl (fun _ _ => rfl) rfl) with ⟨c1, E⟩ | ⟨c1, E⟩
  · skip
    have E := E.pu (p := 19) (lo' := (ri_as 0 [.ref 23, .int so, .int nu])) (st' := [.int 0]) rfl (e := (.iconst 0, 1, [], .null)) rfl rfl (fun _ _ => rfl)
    obtain ⟨r1, r2⟩ := E.reti rfl (m := 1) (ax := []) (w := .null) rfl
    exact Or.inl ⟨c1, (by rw [← hrs, r1]; rfl), ((congrArg eh_V r2).trans hV), (congrArg eh_N r2)⟩
  · skip
    have E := E.ld (p := 5) (t := ri_isI) (i := 2) (n := 1) (v := .int nu) rfl (e := (.iload_n 2, 1, [], .null)) rfl rfl (fun _ _ => rfl) rfl rfl
    have E := E.ld (p := 6) (t := ri_isA) (i := 0) (n := 1) (v := .ref 23) rfl (e := (.aload_n 0, 1, [], .null)) rfl rfl (fun _ _ => rfl) rfl rfl
    have E := E.gr (n := 25) (p := 9) rfl (x := 27) (m := 3) (w := .null) (t := 4) (i := 2) (u := 262) rfl rfl hV ty rfl
    have E := E.ld (p := 10) (t := ri_isI) (i := 1) (n := 1) (v := .int so) rfl (e := (.iload_n 1, 1, [], .null)) rfl rfl (fun _ _ => rfl) rfl rfl
    have E := E.ai (p := 11) (z := eh_i G 25 (so).toNatClampNeg) (n := (so).toNatClampNeg) rfl (e := (.iaload, 1, [], .null)) rfl rfl (fun _ _ => rfl) rfl hV ty rfl rfl rfl
    rcases eh_r3 rfl rfl (E.br (p := 14) (c := 3) (tgt := 18) (a := nu) (b := eh_i G 25 (so).toNatClampNeg) (st' := []) rfl (e := (.if_icmp .ge 7, 3, [18], .null)) rfl rfl (fun _ _ => rfl) rfl) with ⟨c2, E⟩ | ⟨c2, E⟩
    · skip
      have E := E.pu (p := 19) (lo' := (ri_as 0 [.ref 23, .int so, .int nu])) (st' := [.int 0]) rfl (e := (.iconst 0, 1, [], .null)) rfl rfl (fun _ _ => rfl)
      obtain ⟨r1, r2⟩ := E.reti rfl (m := 1) (ax := []) (w := .null) rfl
      exact Or.inr (Or.inl ⟨c1, c2, (by rw [← hrs, r1]; rfl), ((congrArg eh_V r2).trans hV), (congrArg eh_N r2)⟩)
    · skip
      have E := E.pu (p := 15) (lo' := (ri_as 0 [.ref 23, .int so, .int nu])) (st' := [.int 1]) rfl (e := (.iconst 1, 1, [], .null)) rfl rfl (fun _ _ => rfl)
      have E := E.pu (p := 19) (lo' := (ri_as 0 [.ref 23, .int so, .int nu])) (st' := [.int 1]) rfl (e := (.goto 4, 3, [19], .null)) rfl rfl (fun _ _ => rfl)
      obtain ⟨r1, r2⟩ := E.reti rfl (m := 1) (ax := []) (w := .null) rfl
      exact Or.inr (Or.inr (⟨c1, c2, (by rw [← hrs, r1]; rfl), ((congrArg eh_V r2).trans hV), (congrArg eh_N r2)⟩))
theorem xt_28 {d : Nat} {h h' : ri_H} {v : Option Value} {G : eh_W} {se : Int32} (E : ri_calE ri_md (d + 1) 28 [.ref 23, .int se] h = some (v, h')) (hV : eh_V h = G) (ty : eh_ty tC G) : (se.toInt < 0 ∧ v = some (.int 0) ∧ eh_V h' = G ∧ eh_N h' = eh_N h) ∨ (¬ (se.toInt < 0) ∧ ¬ (se.toInt < (1 <<< ((eh_i G 25 1) &&& 31)).toInt) ∧ v = some (.int 0) ∧ eh_V h' = G ∧ eh_N h' = eh_N h) ∨ (¬ (se.toInt < 0) ∧ se.toInt < (1 <<< ((eh_i G 25 1) &&& 31)).toInt ∧ v = some (.int 1) ∧ eh_V h' = G ∧ eh_N h' = eh_N h) := by
  obtain ⟨rs, hrs, E⟩ := eh_in E (q := md_28) rfl
  have E := E.ld (p := 1) (t := ri_isI) (i := 1) (n := 1) (v := .int se) rfl (e := (.iload_n 1, 1, [], .null)) rfl rfl (fun _ _ => rfl) rfl rfl
  rcases eh_r2 rfl (show (0 : Int32).toInt = 0 by decide) (E.br (p := 4) (c := 2) (tgt := 20) (a := se) (b := 0) (st' := []) rfl (e := (.ifCond .lt 19, 3, [20], .null)) rfl rfl (fun _ _ => rfl) rfl) with ⟨c1, E⟩ | ⟨c1, E⟩
  · skip
    have E := E.pu (p := 21) (lo' := (ri_as 0 [.ref 23, .int se])) (st' := [.int 0]) rfl (e := (.iconst 0, 1, [], .null)) rfl rfl (fun _ _ => rfl)
    obtain ⟨r1, r2⟩ := E.reti rfl (m := 1) (ax := []) (w := .null) rfl
    exact Or.inl ⟨c1, (by rw [← hrs, r1]; rfl), ((congrArg eh_V r2).trans hV), (congrArg eh_N r2)⟩
  · skip
    have E := E.ld (p := 5) (t := ri_isI) (i := 1) (n := 1) (v := .int se) rfl (e := (.iload_n 1, 1, [], .null)) rfl rfl (fun _ _ => rfl) rfl rfl
    have E := E.pu (p := 6) (lo' := (ri_as 0 [.ref 23, .int se])) (st' := [.int 1, .int se]) rfl (e := (.iconst 1, 1, [], .null)) rfl rfl (fun _ _ => rfl)
    have E := E.ld (p := 7) (t := ri_isA) (i := 0) (n := 1) (v := .ref 23) rfl (e := (.aload_n 0, 1, [], .null)) rfl rfl (fun _ _ => rfl) rfl rfl
    have E := E.gr (n := 25) (p := 10) rfl (x := 27) (m := 3) (w := .null) (t := 4) (i := 2) (u := 262) rfl rfl hV ty rfl
    have E := E.pu (p := 11) (lo' := (ri_as 0 [.ref 23, .int se])) (st' := [.int 1, .ref 25, .int 1, .int se]) rfl (e := (.iconst 1, 1, [], .null)) rfl rfl (fun _ _ => rfl)
    have E := E.ai (p := 12) (z := eh_i G 25 1) (n := 1) rfl (e := (.iaload, 1, [], .null)) rfl rfl (fun _ _ => rfl) rfl hV ty (by decide) rfl rfl
    have E := E.pu (p := 13) (lo' := (ri_as 0 [.ref 23, .int se])) (st' := [.int (1 <<< ((eh_i G 25 1) &&& 31)), .int se]) rfl (e := (.ishl, 1, [], .null)) rfl rfl (fun _ _ => rfl)
    rcases eh_r3 rfl rfl (E.br (p := 16) (c := 3) (tgt := 20) (a := se) (b := 1 <<< ((eh_i G 25 1) &&& 31)) (st' := []) rfl (e := (.if_icmp .ge 7, 3, [20], .null)) rfl rfl (fun _ _ => rfl) rfl) with ⟨c2, E⟩ | ⟨c2, E⟩
    · skip
      have E := E.pu (p := 21) (lo' := (ri_as 0 [.ref 23, .int se])) (st' := [.int 0]) rfl (e := (.iconst 0, 1, [], .null)) rfl rfl (fun _ _ => rfl)
      obtain ⟨r1, r2⟩ := E.reti rfl (m := 1) (ax := []) (w := .null) rfl
      exact Or.inr (Or.inl ⟨c1, c2, (by rw [← hrs, r1]; rfl), ((congrArg eh_V r2).trans hV), (congrArg eh_N r2)⟩)
    · skip
      have E := E.pu (p := 17) (lo' := (ri_as 0 [.ref 23, .int se])) (st' := [.int 1]) rfl (e := (.iconst 1, 1, [], .null)) rfl rfl (fun _ _ => rfl)
      have E := E.pu (p := 21) (lo' := (ri_as 0 [.ref 23, .int se])) (st' := [.int 1]) rfl (e := (.goto 4, 3, [21], .null)) rfl rfl (fun _ _ => rfl)
      obtain ⟨r1, r2⟩ := E.reti rfl (m := 1) (ax := []) (w := .null) rfl
      exact Or.inr (Or.inr (⟨c1, c2, (by rw [← hrs, r1]; rfl), ((congrArg eh_V r2).trans hV), (congrArg eh_N r2)⟩))
theorem xt_149 {d : Nat} {h h' : ri_H} {v : Option Value} {G : eh_W} {x0 x1 x2 : Int32} (E : ri_calE ri_md (d + 1) 149 [.int x0, .int x1, .int x2] h = some (v, h')) (hV : eh_V h = G) (ty : eh_ty tM G) : (x0.toInt < x1.toInt ∧ v = some (.int 0) ∧ eh_V h' = G ∧ eh_N h' = eh_N h) ∨ (¬ (x0.toInt < x1.toInt) ∧ x2.toInt < x0.toInt ∧ v = some (.int 0) ∧ eh_V h' = G ∧ eh_N h' = eh_N h) ∨ (¬ (x0.toInt < x1.toInt) ∧ ¬ (x2.toInt < x0.toInt) ∧ v = some (.int 1) ∧ eh_V h' = G ∧ eh_N h' = eh_N h) := by
  obtain ⟨rs, hrs, E⟩ := eh_in E (q := md_149) rfl
  have E := E.ld (p := 1) (t := ri_isI) (i := 0) (n := 1) (v := .int x0) rfl (e := (.iload_n 0, 1, [], .null)) rfl rfl (fun _ _ => rfl) rfl rfl
  have E := E.ld (p := 2) (t := ri_isI) (i := 1) (n := 1) (v := .int x1) rfl (e := (.iload_n 1, 1, [], .null)) rfl rfl (fun _ _ => rfl) rfl rfl
  rcases eh_r2 rfl rfl (E.br (p := 5) (c := 2) (tgt := 14) (a := x0) (b := x1) (st' := []) rfl (e := (.if_icmp .lt 12, 3, [14], .null)) rfl rfl (fun _ _ => rfl) rfl) with ⟨c1, E⟩ | ⟨c1, E⟩
  · skip
    have E := E.pu (p := 15) (lo' := (ri_as 0 [.int x0, .int x1, .int x2])) (st' := [.int 0]) rfl (e := (.iconst 0, 1, [], .null)) rfl rfl (fun _ _ => rfl)
    obtain ⟨r1, r2⟩ := E.reti rfl (m := 1) (ax := []) (w := .null) rfl
    exact Or.inl ⟨c1, (by rw [← hrs, r1]; rfl), ((congrArg eh_V r2).trans hV), (congrArg eh_N r2)⟩
  · skip
    have E := E.ld (p := 6) (t := ri_isI) (i := 0) (n := 1) (v := .int x0) rfl (e := (.iload_n 0, 1, [], .null)) rfl rfl (fun _ _ => rfl) rfl rfl
    have E := E.ld (p := 7) (t := ri_isI) (i := 2) (n := 1) (v := .int x2) rfl (e := (.iload_n 2, 1, [], .null)) rfl rfl (fun _ _ => rfl) rfl rfl
    rcases eh_r4 rfl rfl (E.br (p := 10) (c := 4) (tgt := 14) (a := x0) (b := x2) (st' := []) rfl (e := (.if_icmp .gt 7, 3, [14], .null)) rfl rfl (fun _ _ => rfl) rfl) with ⟨c2, E⟩ | ⟨c2, E⟩
    · skip
      have E := E.pu (p := 15) (lo' := (ri_as 0 [.int x0, .int x1, .int x2])) (st' := [.int 0]) rfl (e := (.iconst 0, 1, [], .null)) rfl rfl (fun _ _ => rfl)
      obtain ⟨r1, r2⟩ := E.reti rfl (m := 1) (ax := []) (w := .null) rfl
      exact Or.inr (Or.inl ⟨c1, c2, (by rw [← hrs, r1]; rfl), ((congrArg eh_V r2).trans hV), (congrArg eh_N r2)⟩)
    · skip
      have E := E.pu (p := 11) (lo' := (ri_as 0 [.int x0, .int x1, .int x2])) (st' := [.int 1]) rfl (e := (.iconst 1, 1, [], .null)) rfl rfl (fun _ _ => rfl)
      have E := E.pu (p := 15) (lo' := (ri_as 0 [.int x0, .int x1, .int x2])) (st' := [.int 1]) rfl (e := (.goto 4, 3, [15], .null)) rfl rfl (fun _ _ => rfl)
      obtain ⟨r1, r2⟩ := E.reti rfl (m := 1) (ax := []) (w := .null) rfl
      exact Or.inr (Or.inr (⟨c1, c2, (by rw [← hrs, r1]; rfl), ((congrArg eh_V r2).trans hV), (congrArg eh_N r2)⟩))
theorem xt_175 {d : Nat} {h h' : ri_H} {v : Option Value} {G : eh_W} {cu : Int32} (E : ri_calE ri_md (d + 2) 175 [.ref 0, .int cu] h = some (v, h')) (hV : eh_V h = G) (ty : eh_ty tM G) : (cu.toInt < 0 ∧ v = some (.int 0) ∧ eh_V h' = G ∧ eh_N h' = eh_N h) ∨ (¬ (cu.toInt < 0) ∧ ((eh_i G 2 3) - 1).toInt < cu.toInt ∧ v = some (.int 0) ∧ eh_V h' = G ∧ eh_N h' = eh_N h) ∨ (¬ (cu.toInt < 0) ∧ ¬ (((eh_i G 2 3) - 1).toInt < cu.toInt) ∧ v = some (.int 1) ∧ eh_V h' = G ∧ eh_N h' = eh_N h) := by
  obtain ⟨rs, hrs, E⟩ := eh_in E (q := md_175) rfl
  have E := E.ld (p := 1) (t := ri_isI) (i := 1) (n := 1) (v := .int cu) rfl (e := (.iload_n 1, 1, [], .null)) rfl rfl (fun _ _ => rfl) rfl rfl
  have E := E.pu (p := 2) (lo' := (ri_as 0 [.ref 0, .int cu])) (st' := [.int 0, .int cu]) rfl (e := (.iconst 0, 1, [], .null)) rfl rfl (fun _ _ => rfl)
  have E := E.ld (p := 3) (t := ri_isA) (i := 0) (n := 1) (v := .ref 0) rfl (e := (.aload_n 0, 1, [], .null)) rfl rfl (fun _ _ => rfl) rfl rfl
  have E := E.gr (n := 2) (p := 6) rfl (x := 33) (m := 3) (w := .null) (t := 12) (i := 6) (u := 1330) rfl rfl hV ty rfl
  have E := E.pu (p := 7) (lo' := (ri_as 0 [.ref 0, .int cu])) (st' := [.int 3, .ref 2, .int 0, .int cu]) rfl (e := (.iconst 3, 1, [], .null)) rfl rfl (fun _ _ => rfl)
  have E := E.ai (p := 8) (z := eh_i G 2 3) (n := 3) rfl (e := (.iaload, 1, [], .null)) rfl rfl (fun _ _ => rfl) rfl hV ty (by decide) rfl rfl
  have E := E.pu (p := 9) (lo' := (ri_as 0 [.ref 0, .int cu])) (st' := [.int 1, .int (eh_i G 2 3), .int 0, .int cu]) rfl (e := (.iconst 1, 1, [], .null)) rfl rfl (fun _ _ => rfl)
  have E := E.pu (p := 10) (lo' := (ri_as 0 [.ref 0, .int cu])) (st' := [.int ((eh_i G 2 3) - 1), .int 0, .int cu]) rfl (e := (.isub, 1, [], .null)) rfl rfl (fun _ _ => rfl)
  obtain ⟨v1, h1, X, E⟩ := E.cs (p := 13) (as := [.int cu, .int 0, .int ((eh_i G 2 3) - 1)]) (r := []) rfl (x := 177) (m := 3) (w := .null) (j := 149) (n := 3) (t := 0) (u := [1519, 1520]) rfl rfl rfl
  rcases xt_149 (d := d) X hV ty with ⟨c2, rfl, hV3, hN4⟩ | ⟨c5, c6, rfl, hV7, hN8⟩ | ⟨c9, c10, rfl, hV11, hN12⟩
  · skip
    have c2 : cu.toInt < 0 := c2
    have E : eh_e _ _ 13 (ri_as 0 [.ref 0, .int cu]) [.int 0] _ rs h' := E
    obtain ⟨r1, r2⟩ := E.reti rfl (m := 1) (ax := []) (w := .null) rfl
    exact Or.inl ⟨c2, (by rw [← hrs, r1]; rfl), ((congrArg eh_V r2).trans hV3), ((congrArg eh_N r2).trans hN4)⟩
  · skip
    have c5 : ¬ (cu.toInt < 0) := c5
    have c6 : ((eh_i G 2 3) - 1).toInt < cu.toInt := c6
    have E : eh_e _ _ 13 (ri_as 0 [.ref 0, .int cu]) [.int 0] _ rs h' := E
    obtain ⟨r1, r2⟩ := E.reti rfl (m := 1) (ax := []) (w := .null) rfl
    exact Or.inr (Or.inl ⟨c5, c6, (by rw [← hrs, r1]; rfl), ((congrArg eh_V r2).trans hV7), ((congrArg eh_N r2).trans hN8)⟩)
  · skip
    have c9 : ¬ (cu.toInt < 0) := c9
    have c10 : ¬ (((eh_i G 2 3) - 1).toInt < cu.toInt) := c10
    have E : eh_e _ _ 13 (ri_as 0 [.ref 0, .int cu]) [.int 1] _ rs h' := E
    obtain ⟨r1, r2⟩ := E.reti rfl (m := 1) (ax := []) (w := .null) rfl
    exact Or.inr (Or.inr (⟨c9, c10, (by rw [← hrs, r1]; rfl), ((congrArg eh_V r2).trans hV11), ((congrArg eh_N r2).trans hN12)⟩))
theorem xt_179 {d : Nat} {h h' : ri_H} {v : Option Value} {G : eh_W} {se : Int32} (E : ri_calE ri_md (d + 1) 179 [.ref 0, .int se] h = some (v, h')) (hV : eh_V h = G) (ty : eh_ty tM G) : (se.toInt < 0 ∧ v = some (.int 0) ∧ eh_V h' = G ∧ eh_N h' = eh_N h) ∨ (¬ (se.toInt < 0) ∧ ¬ (se.toInt < (1 <<< ((eh_i G 2 4) &&& 31)).toInt) ∧ v = some (.int 0) ∧ eh_V h' = G ∧ eh_N h' = eh_N h) ∨ (¬ (se.toInt < 0) ∧ se.toInt < (1 <<< ((eh_i G 2 4) &&& 31)).toInt ∧ v = some (.int 1) ∧ eh_V h' = G ∧ eh_N h' = eh_N h) := by
  obtain ⟨rs, hrs, E⟩ := eh_in E (q := md_179) rfl
  have E := E.ld (p := 1) (t := ri_isI) (i := 1) (n := 1) (v := .int se) rfl (e := (.iload_n 1, 1, [], .null)) rfl rfl (fun _ _ => rfl) rfl rfl
  rcases eh_r2 rfl (show (0 : Int32).toInt = 0 by decide) (E.br (p := 4) (c := 2) (tgt := 20) (a := se) (b := 0) (st' := []) rfl (e := (.ifCond .lt 19, 3, [20], .null)) rfl rfl (fun _ _ => rfl) rfl) with ⟨c1, E⟩ | ⟨c1, E⟩
  · skip
    have E := E.pu (p := 21) (lo' := (ri_as 0 [.ref 0, .int se])) (st' := [.int 0]) rfl (e := (.iconst 0, 1, [], .null)) rfl rfl (fun _ _ => rfl)
    obtain ⟨r1, r2⟩ := E.reti rfl (m := 1) (ax := []) (w := .null) rfl
    exact Or.inl ⟨c1, (by rw [← hrs, r1]; rfl), ((congrArg eh_V r2).trans hV), (congrArg eh_N r2)⟩
  · skip
    have E := E.ld (p := 5) (t := ri_isI) (i := 1) (n := 1) (v := .int se) rfl (e := (.iload_n 1, 1, [], .null)) rfl rfl (fun _ _ => rfl) rfl rfl
    have E := E.pu (p := 6) (lo' := (ri_as 0 [.ref 0, .int se])) (st' := [.int 1, .int se]) rfl (e := (.iconst 1, 1, [], .null)) rfl rfl (fun _ _ => rfl)
    have E := E.ld (p := 7) (t := ri_isA) (i := 0) (n := 1) (v := .ref 0) rfl (e := (.aload_n 0, 1, [], .null)) rfl rfl (fun _ _ => rfl) rfl rfl
    have E := E.gr (n := 2) (p := 10) rfl (x := 33) (m := 3) (w := .null) (t := 12) (i := 6) (u := 1330) rfl rfl hV ty rfl
    have E := E.pu (p := 11) (lo' := (ri_as 0 [.ref 0, .int se])) (st' := [.int 4, .ref 2, .int 1, .int se]) rfl (e := (.iconst 4, 1, [], .null)) rfl rfl (fun _ _ => rfl)
    have E := E.ai (p := 12) (z := eh_i G 2 4) (n := 4) rfl (e := (.iaload, 1, [], .null)) rfl rfl (fun _ _ => rfl) rfl hV ty (by decide) rfl rfl
    have E := E.pu (p := 13) (lo' := (ri_as 0 [.ref 0, .int se])) (st' := [.int (1 <<< ((eh_i G 2 4) &&& 31)), .int se]) rfl (e := (.ishl, 1, [], .null)) rfl rfl (fun _ _ => rfl)
    rcases eh_r3 rfl rfl (E.br (p := 16) (c := 3) (tgt := 20) (a := se) (b := 1 <<< ((eh_i G 2 4) &&& 31)) (st' := []) rfl (e := (.if_icmp .ge 7, 3, [20], .null)) rfl rfl (fun _ _ => rfl) rfl) with ⟨c2, E⟩ | ⟨c2, E⟩
    · skip
      have E := E.pu (p := 21) (lo' := (ri_as 0 [.ref 0, .int se])) (st' := [.int 0]) rfl (e := (.iconst 0, 1, [], .null)) rfl rfl (fun _ _ => rfl)
      obtain ⟨r1, r2⟩ := E.reti rfl (m := 1) (ax := []) (w := .null) rfl
      exact Or.inr (Or.inl ⟨c1, c2, (by rw [← hrs, r1]; rfl), ((congrArg eh_V r2).trans hV), (congrArg eh_N r2)⟩)
    · skip
      have E := E.pu (p := 17) (lo' := (ri_as 0 [.ref 0, .int se])) (st' := [.int 1]) rfl (e := (.iconst 1, 1, [], .null)) rfl rfl (fun _ _ => rfl)
      have E := E.pu (p := 21) (lo' := (ri_as 0 [.ref 0, .int se])) (st' := [.int 1]) rfl (e := (.goto 4, 3, [21], .null)) rfl rfl (fun _ _ => rfl)
      obtain ⟨r1, r2⟩ := E.reti rfl (m := 1) (ax := []) (w := .null) rfl
      exact Or.inr (Or.inr (⟨c1, c2, (by rw [← hrs, r1]; rfl), ((congrArg eh_V r2).trans hV), (congrArg eh_N r2)⟩))
theorem do_c {d : Nat} {h h' : ri_H} {v : Option Value} {G : eh_W} {cu se : Int32} (E : ri_calE ri_md (d + 2) 117 [.ref 0, .int cu, .int se] h = some (v, h')) (hV : eh_V h = G) (ty : eh_ty tC G) : (cu.toInt < 0 ∧ v = some (.int (-1)) ∧ eh_V h' = G ∧ eh_N h' = eh_N h) ∨ (¬ (cu.toInt < 0) ∧ ¬ (cu.toInt < (eh_i G 25 0).toInt) ∧ v = some (.int (-1)) ∧ eh_V h' = G ∧ eh_N h' = eh_N h) ∨ (¬ (cu.toInt < 0) ∧ cu.toInt < (eh_i G 25 0).toInt ∧ se.toInt < 0 ∧ v = some (.int (-1)) ∧ eh_V h' = G ∧ eh_N h' = eh_N h) ∨ (¬ (cu.toInt < 0) ∧ cu.toInt < (eh_i G 25 0).toInt ∧ ¬ (se.toInt < 0) ∧ ¬ (se.toInt < (1 <<< ((eh_i G 25 1) &&& 31)).toInt) ∧ v = some (.int (-1)) ∧ eh_V h' = G ∧ eh_N h' = eh_N h) ∨ (¬ (cu.toInt < 0) ∧ cu.toInt < (eh_i G 25 0).toInt ∧ ¬ (se.toInt < 0) ∧ se.toInt < (1 <<< ((eh_i G 25 1) &&& 31)).toInt ∧ ∃ h1, eh_V h1 = G ∧ eh_N h1 = eh_N h ∧ eh_ty tC G ∧ ri_calE ri_md (d + 1) 33 [.ref 23, .int cu, .int se] h1 = some (v, h')) := by
  obtain ⟨rs, hrs, E⟩ := eh_in E (q := md_117) rfl
  have E := E.ld (p := 1) (t := ri_isA) (i := 0) (n := 1) (v := .ref 0) rfl (e := (.aload_n 0, 1, [], .null)) rfl rfl (fun _ _ => rfl) rfl rfl
  have E := E.gr (n := 23) (p := 4) rfl (x := 45) (m := 3) (w := .null) (t := 11) (i := 5) (u := 572) rfl rfl hV ty rfl
  have E := E.pu (p := 5) (lo' := (ri_as 0 [.ref 0, .int cu, .int se])) (st' := [.int 0, .ref 23]) rfl (e := (.iconst 0, 1, [], .null)) rfl rfl (fun _ _ => rfl)
  have E := E.ld (p := 6) (t := ri_isI) (i := 1) (n := 1) (v := .int cu) rfl (e := (.iload_n 1, 1, [], .null)) rfl rfl (fun _ _ => rfl) rfl rfl
  obtain ⟨v1, h1, X, E⟩ := E.cv (p := 9) (as := [.int 0, .int cu]) (b := 23) (r := []) rfl (x := 146) (m := 3) (w := .null) (j := 26) (n := 2) (t := 4) (u := [767, 769, 768]) rfl rfl rfl
  rcases xt_26 (d := d) X hV ty with ⟨c2, rfl, hV3, hN4⟩ | ⟨c5, c6, rfl, hV7, hN8⟩ | ⟨c9, c10, rfl, hV11, hN12⟩
  · skip
    have c2 : cu.toInt < 0 := c2
    have E : eh_e _ _ 9 (ri_as 0 [.ref 0, .int cu, .int se]) [.int 0] _ rs h' := E
    have E := E.brt (c := 0) (tgt := 23) (a := 0) (b := 0) (st' := []) rfl (e := (.ifCond .eq 14, 3, [23], .null)) rfl rfl (fun _ _ => rfl) (by decide)
    have E := E.pu (p := 24) (lo' := (ri_as 0 [.ref 0, .int cu, .int se])) (st' := [.int (-1)]) rfl (e := (.iconst (-1), 1, [], .null)) rfl rfl (fun _ _ => rfl)
    obtain ⟨r1, r2⟩ := E.reti rfl (m := 1) (ax := []) (w := .null) rfl
    exact Or.inl ⟨c2, (by rw [← hrs, r1]; rfl), ((congrArg eh_V r2).trans hV3), ((congrArg eh_N r2).trans hN4)⟩
  · skip
    have c5 : ¬ (cu.toInt < 0) := c5
    have c6 : ¬ (cu.toInt < (eh_i G 25 0).toInt) := c6
    have E : eh_e _ _ 9 (ri_as 0 [.ref 0, .int cu, .int se]) [.int 0] _ rs h' := E
    have E := E.brt (c := 0) (tgt := 23) (a := 0) (b := 0) (st' := []) rfl (e := (.ifCond .eq 14, 3, [23], .null)) rfl rfl (fun _ _ => rfl) (by decide)
    have E := E.pu (p := 24) (lo' := (ri_as 0 [.ref 0, .int cu, .int se])) (st' := [.int (-1)]) rfl (e := (.iconst (-1), 1, [], .null)) rfl rfl (fun _ _ => rfl)
    obtain ⟨r1, r2⟩ := E.reti rfl (m := 1) (ax := []) (w := .null) rfl
    exact Or.inr (Or.inl ⟨c5, c6, (by rw [← hrs, r1]; rfl), ((congrArg eh_V r2).trans hV7), ((congrArg eh_N r2).trans hN8)⟩)
  · skip
    have c9 : ¬ (cu.toInt < 0) := c9
    have c10 : cu.toInt < (eh_i G 25 0).toInt := c10
    have E : eh_e _ _ 9 (ri_as 0 [.ref 0, .int cu, .int se]) [.int 1] _ rs h' := E
    have E := E.brf (p := 12) (c := 0) (tgt := 23) (a := 1) (b := 0) (st' := []) rfl (e := (.ifCond .eq 14, 3, [23], .null)) rfl rfl (fun _ _ => rfl) (by decide) rfl
    have E := E.ld (p := 13) (t := ri_isA) (i := 0) (n := 1) (v := .ref 0) rfl (e := (.aload_n 0, 1, [], .null)) rfl rfl (fun _ _ => rfl) rfl rfl
    have E := E.gr (n := 23) (p := 16) rfl (x := 45) (m := 3) (w := .null) (t := 11) (i := 5) (u := 572) rfl rfl hV11 ty rfl
    have E := E.ld (p := 17) (t := ri_isI) (i := 2) (n := 1) (v := .int se) rfl (e := (.iload_n 2, 1, [], .null)) rfl rfl (fun _ _ => rfl) rfl rfl
    obtain ⟨v1, h13, X, E⟩ := E.cv (p := 20) (as := [.int se]) (b := 23) (r := []) rfl (x := 264) (m := 3) (w := .null) (j := 28) (n := 1) (t := 4) (u := [904, 906, 905]) rfl rfl rfl
    rcases xt_28 (d := d) X hV11 ty with ⟨c14, rfl, hV15, hN16⟩ | ⟨c17, c18, rfl, hV19, hN20⟩ | ⟨c21, c22, rfl, hV23, hN24⟩
    · skip
      have c14 : se.toInt < 0 := c14
      have E : eh_e _ _ 20 (ri_as 0 [.ref 0, .int cu, .int se]) [.int 0] _ rs h' := E
      have E := E.brf (p := 23) (c := 1) (tgt := 25) (a := 0) (b := 0) (st' := []) rfl (e := (.ifCond .ne 5, 3, [25], .null)) rfl rfl (fun _ _ => rfl) (by decide) rfl
      have E := E.pu (p := 24) (lo' := (ri_as 0 [.ref 0, .int cu, .int se])) (st' := [.int (-1)]) rfl (e := (.iconst (-1), 1, [], .null)) rfl rfl (fun _ _ => rfl)
      obtain ⟨r1, r2⟩ := E.reti rfl (m := 1) (ax := []) (w := .null) rfl
      exact Or.inr (Or.inr (Or.inl ⟨c9, c10, c14, (by rw [← hrs, r1]; rfl), ((congrArg eh_V r2).trans hV15), ((congrArg eh_N r2).trans (hN16.trans hN12))⟩))
    · skip
      have c17 : ¬ (se.toInt < 0) := c17
      have c18 : ¬ (se.toInt < (1 <<< ((eh_i G 25 1) &&& 31)).toInt) := c18
      have E : eh_e _ _ 20 (ri_as 0 [.ref 0, .int cu, .int se]) [.int 0] _ rs h' := E
      have E := E.brf (p := 23) (c := 1) (tgt := 25) (a := 0) (b := 0) (st' := []) rfl (e := (.ifCond .ne 5, 3, [25], .null)) rfl rfl (fun _ _ => rfl) (by decide) rfl
      have E := E.pu (p := 24) (lo' := (ri_as 0 [.ref 0, .int cu, .int se])) (st' := [.int (-1)]) rfl (e := (.iconst (-1), 1, [], .null)) rfl rfl (fun _ _ => rfl)
      obtain ⟨r1, r2⟩ := E.reti rfl (m := 1) (ax := []) (w := .null) rfl
      exact Or.inr (Or.inr (Or.inr (Or.inl ⟨c9, c10, c17, c18, (by rw [← hrs, r1]; rfl), ((congrArg eh_V r2).trans hV19), ((congrArg eh_N r2).trans (hN20.trans hN12))⟩)))
    · skip
      have c21 : ¬ (se.toInt < 0) := c21
      have c22 : se.toInt < (1 <<< ((eh_i G 25 1) &&& 31)).toInt := c22
      have E : eh_e _ _ 20 (ri_as 0 [.ref 0, .int cu, .int se]) [.int 1] _ rs h' := E
      have E := E.brt (c := 1) (tgt := 25) (a := 1) (b := 0) (st' := []) rfl (e := (.ifCond .ne 5, 3, [25], .null)) rfl rfl (fun _ _ => rfl) (by decide)
      have E := E.ld (p := 26) (t := ri_isA) (i := 0) (n := 1) (v := .ref 0) rfl (e := (.aload_n 0, 1, [], .null)) rfl rfl (fun _ _ => rfl) rfl rfl
      have E := E.gr (n := 23) (p := 29) rfl (x := 45) (m := 3) (w := .null) (t := 11) (i := 5) (u := 572) rfl rfl hV23 ty rfl
      have E := E.ld (p := 30) (t := ri_isI) (i := 1) (n := 1) (v := .int cu) rfl (e := (.iload_n 1, 1, [], .null)) rfl rfl (fun _ _ => rfl) rfl rfl
      have E := E.ld (p := 31) (t := ri_isI) (i := 2) (n := 1) (v := .int se) rfl (e := (.iload_n 2, 1, [], .null)) rfl rfl (fun _ _ => rfl) rfl rfl
      obtain ⟨v1, h25, X, E⟩ := E.cv (p := 34) (as := [.int cu, .int se]) (b := 23) (r := []) rfl (x := 267) (m := 3) (w := .null) (j := 33) (n := 2) (t := 4) (u := [908, 836, 835]) rfl rfl rfl
      obtain ⟨r1, r2⟩ := E.rett rfl (m := 1) (ax := []) (w := .null) rfl
      have r3 : v1 = v := r1.symm.trans hrs
      subst r3
      subst r2
      exact Or.inr (Or.inr (Or.inr (Or.inr (⟨c9, c10, c21, c22, _, hV23, (hN24.trans hN12), ty, X⟩))))
theorem do_m {d : Nat} {h h' : ri_H} {v : Option Value} {G : eh_W} {cu se : Int32} (E : ri_calE ri_md (d + 3) 213 [.ref 0, .int cu, .int se] h = some (v, h')) (hV : eh_V h = G) (ty : eh_ty tM G) : (cu.toInt < 0 ∧ v = some (.int (-1)) ∧ eh_V h' = eh_u G 0 0 (.int 0) ∧ eh_N h' = eh_N h) ∨ (¬ (cu.toInt < 0) ∧ ((eh_i G 2 3) - 1).toInt < cu.toInt ∧ v = some (.int (-1)) ∧ eh_V h' = eh_u G 0 0 (.int 0) ∧ eh_N h' = eh_N h) ∨ (¬ (cu.toInt < 0) ∧ ¬ (((eh_i G 2 3) - 1).toInt < cu.toInt) ∧ se.toInt < 0 ∧ v = some (.int (-1)) ∧ eh_V h' = eh_u G 0 0 (.int 0) ∧ eh_N h' = eh_N h) ∨ (¬ (cu.toInt < 0) ∧ ¬ (((eh_i G 2 3) - 1).toInt < cu.toInt) ∧ ¬ (se.toInt < 0) ∧ ¬ (se.toInt < (1 <<< ((eh_i G 2 4) &&& 31)).toInt) ∧ v = some (.int (-1)) ∧ eh_V h' = eh_u G 0 0 (.int 0) ∧ eh_N h' = eh_N h) ∨ (¬ (cu.toInt < 0) ∧ ¬ (((eh_i G 2 3) - 1).toInt < cu.toInt) ∧ ¬ (se.toInt < 0) ∧ se.toInt < (1 <<< ((eh_i G 2 4) &&& 31)).toInt ∧ ∃ h1, eh_V h1 = eh_u G 0 0 (.int 0) ∧ eh_N h1 = eh_N h ∧ eh_ty tM (eh_u G 0 0 (.int 0)) ∧ ri_calE ri_md (d + 2) 192 [.ref 0, .int cu, .int se] h1 = some (v, h')) := by
  obtain ⟨rs, hrs, E⟩ := eh_in E (q := md_213) rfl
  have E := E.ld (p := 1) (t := ri_isA) (i := 0) (n := 1) (v := .ref 0) rfl (e := (.aload_n 0, 1, [], .null)) rfl rfl (fun _ _ => rfl) rfl rfl
  have E := E.pu (p := 2) (lo' := (ri_as 0 [.ref 0, .int cu, .int se])) (st' := [.int 0, .ref 0]) rfl (e := (.iconst 0, 1, [], .null)) rfl rfl (fun _ _ => rfl)
  obtain ⟨h1, hV2, hN3, E⟩ := E.gp (p := 5) rfl (x := 1) (m := 3) (w := .null) (t := 12) (i := 0) (u := 1324) (y := 0) rfl rfl hV
  have E := E.ld (p := 6) (t := ri_isA) (i := 0) (n := 1) (v := .ref 0) rfl (e := (.aload_n 0, 1, [], .null)) rfl rfl (fun _ _ => rfl) rfl rfl
  have E := E.ld (p := 7) (t := ri_isI) (i := 1) (n := 1) (v := .int cu) rfl (e := (.iload_n 1, 1, [], .null)) rfl rfl (fun _ _ => rfl) rfl rfl
  obtain ⟨v1, h4, X, E⟩ := E.cv (p := 10) (as := [.int cu]) (b := 0) (r := []) rfl (x := 302) (m := 3) (w := .null) (j := 175) (n := 1) (t := 12) (u := [1634, 63, 1636]) rfl rfl rfl
  rcases xt_175 (d := d) X hV2 (ty.ui rfl) with ⟨c5, rfl, hV6, hN7⟩ | ⟨c8, c9, rfl, hV10, hN11⟩ | ⟨c12, c13, rfl, hV14, hN15⟩
  · skip
    have c5 : cu.toInt < 0 := c5
    have E : eh_e _ _ 10 (ri_as 0 [.ref 0, .int cu, .int se]) [.int 0] _ rs h' := E
    have E := E.brt (c := 0) (tgt := 30) (a := 0) (b := 0) (st' := []) rfl (e := (.ifCond .eq 20, 3, [30], .null)) rfl rfl (fun _ _ => rfl) (by decide)
    have E := E.pu (p := 31) (lo' := (ri_as 0 [.ref 0, .int cu, .int se])) (st' := [.int (-1)]) rfl (e := (.iconst (-1), 1, [], .null)) rfl rfl (fun _ _ => rfl)
    obtain ⟨r1, r2⟩ := E.reti rfl (m := 1) (ax := []) (w := .null) rfl
    exact Or.inl ⟨c5, (by rw [← hrs, r1]; rfl), ((congrArg eh_V r2).trans hV6), ((congrArg eh_N r2).trans (hN7.trans hN3))⟩
  · skip
    have c8 : ¬ (cu.toInt < 0) := c8
    have c9 : ((eh_i G 2 3) - 1).toInt < cu.toInt := c9
    have E : eh_e _ _ 10 (ri_as 0 [.ref 0, .int cu, .int se]) [.int 0] _ rs h' := E
    have E := E.brt (c := 0) (tgt := 30) (a := 0) (b := 0) (st' := []) rfl (e := (.ifCond .eq 20, 3, [30], .null)) rfl rfl (fun _ _ => rfl) (by decide)
    have E := E.pu (p := 31) (lo' := (ri_as 0 [.ref 0, .int cu, .int se])) (st' := [.int (-1)]) rfl (e := (.iconst (-1), 1, [], .null)) rfl rfl (fun _ _ => rfl)
    obtain ⟨r1, r2⟩ := E.reti rfl (m := 1) (ax := []) (w := .null) rfl
    exact Or.inr (Or.inl ⟨c8, c9, (by rw [← hrs, r1]; rfl), ((congrArg eh_V r2).trans hV10), ((congrArg eh_N r2).trans (hN11.trans hN3))⟩)
  · skip
    have c12 : ¬ (cu.toInt < 0) := c12
    have c13 : ¬ (((eh_i G 2 3) - 1).toInt < cu.toInt) := c13
    have E : eh_e _ _ 10 (ri_as 0 [.ref 0, .int cu, .int se]) [.int 1] _ rs h' := E
    have E := E.brf (p := 13) (c := 0) (tgt := 30) (a := 1) (b := 0) (st' := []) rfl (e := (.ifCond .eq 20, 3, [30], .null)) rfl rfl (fun _ _ => rfl) (by decide) rfl
    have E := E.ld (p := 14) (t := ri_isA) (i := 0) (n := 1) (v := .ref 0) rfl (e := (.aload_n 0, 1, [], .null)) rfl rfl (fun _ _ => rfl) rfl rfl
    have E := E.ld (p := 15) (t := ri_isI) (i := 2) (n := 1) (v := .int se) rfl (e := (.iload_n 2, 1, [], .null)) rfl rfl (fun _ _ => rfl) rfl rfl
    obtain ⟨v1, h16, X, E⟩ := E.cv (p := 18) (as := [.int se]) (b := 0) (r := []) rfl (x := 320) (m := 3) (w := .null) (j := 179) (n := 1) (t := 12) (u := [1701, 75, 1703]) rfl rfl rfl
    rcases xt_179 (d := d + 1) X hV14 (ty.ui rfl) with ⟨c17, rfl, hV18, hN19⟩ | ⟨c20, c21, rfl, hV22, hN23⟩ | ⟨c24, c25, rfl, hV26, hN27⟩
    · skip
      have c17 : se.toInt < 0 := c17
      have E : eh_e _ _ 18 (ri_as 0 [.ref 0, .int cu, .int se]) [.int 0] _ rs h' := E
      have E := E.brt (c := 0) (tgt := 30) (a := 0) (b := 0) (st' := []) rfl (e := (.ifCond .eq 12, 3, [30], .null)) rfl rfl (fun _ _ => rfl) (by decide)
      have E := E.pu (p := 31) (lo' := (ri_as 0 [.ref 0, .int cu, .int se])) (st' := [.int (-1)]) rfl (e := (.iconst (-1), 1, [], .null)) rfl rfl (fun _ _ => rfl)
      obtain ⟨r1, r2⟩ := E.reti rfl (m := 1) (ax := []) (w := .null) rfl
      exact Or.inr (Or.inr (Or.inl ⟨c12, c13, c17, (by rw [← hrs, r1]; rfl), ((congrArg eh_V r2).trans hV18), ((congrArg eh_N r2).trans (hN19.trans (hN15.trans hN3)))⟩))
    · skip
      have c20 : ¬ (se.toInt < 0) := c20
      have c21 : ¬ (se.toInt < (1 <<< ((eh_i G 2 4) &&& 31)).toInt) := c21
      have E : eh_e _ _ 18 (ri_as 0 [.ref 0, .int cu, .int se]) [.int 0] _ rs h' := E
      have E := E.brt (c := 0) (tgt := 30) (a := 0) (b := 0) (st' := []) rfl (e := (.ifCond .eq 12, 3, [30], .null)) rfl rfl (fun _ _ => rfl) (by decide)
      have E := E.pu (p := 31) (lo' := (ri_as 0 [.ref 0, .int cu, .int se])) (st' := [.int (-1)]) rfl (e := (.iconst (-1), 1, [], .null)) rfl rfl (fun _ _ => rfl)
      obtain ⟨r1, r2⟩ := E.reti rfl (m := 1) (ax := []) (w := .null) rfl
      exact Or.inr (Or.inr (Or.inr (Or.inl ⟨c12, c13, c20, c21, (by rw [← hrs, r1]; rfl), ((congrArg eh_V r2).trans hV22), ((congrArg eh_N r2).trans (hN23.trans (hN15.trans hN3)))⟩)))
    · skip
      have c24 : ¬ (se.toInt < 0) := c24
      have c25 : se.toInt < (1 <<< ((eh_i G 2 4) &&& 31)).toInt := c25
      have E : eh_e _ _ 18 (ri_as 0 [.ref 0, .int cu, .int se]) [.int 1] _ rs h' := E
      have E := E.brf (p := 21) (c := 0) (tgt := 30) (a := 1) (b := 0) (st' := []) rfl (e := (.ifCond .eq 12, 3, [30], .null)) rfl rfl (fun _ _ => rfl) (by decide) rfl
      have E := E.ld (p := 22) (t := ri_isA) (i := 0) (n := 1) (v := .ref 0) rfl (e := (.aload_n 0, 1, [], .null)) rfl rfl (fun _ _ => rfl) rfl rfl
      have E := E.ld (p := 23) (t := ri_isI) (i := 1) (n := 1) (v := .int cu) rfl (e := (.iload_n 1, 1, [], .null)) rfl rfl (fun _ _ => rfl) rfl rfl
      have E := E.ld (p := 24) (t := ri_isI) (i := 2) (n := 1) (v := .int se) rfl (e := (.iload_n 2, 1, [], .null)) rfl rfl (fun _ _ => rfl) rfl rfl
      obtain ⟨v1, h28, X, E⟩ := E.cv (p := 27) (as := [.int cu, .int se]) (b := 0) (r := []) rfl (x := 323) (m := 3) (w := .null) (j := 192) (n := 2) (t := 12) (u := [1705, 76, 1707]) rfl rfl rfl
      have E := E.pu (p := 31) (lo' := (ri_as 0 [.ref 0, .int cu, .int se])) (st' := v1.toList ++ []) rfl (e := (.goto 4, 3, [31], .null)) rfl rfl (fun _ _ => rfl)
      obtain ⟨r1, r2⟩ := E.rett rfl (m := 1) (ax := []) (w := .null) rfl
      have r3 : v1 = v := r1.symm.trans hrs
      subst r3
      subst r2
      exact Or.inr (Or.inr (Or.inr (Or.inr (⟨c12, c13, c24, c25, _, hV26, (hN27.trans (hN15.trans hN3)), (ty.ui rfl), X⟩))))
theorem ws_c {d : Nat} {h h' : ri_H} {v : Option Value} {G : eh_W} {cu se : Int32} (E : ri_calE ri_md (d + 2) 118 [.ref 0, .int cu, .int se] h = some (v, h')) (hV : eh_V h = G) (ty : eh_ty tC G) : (cu.toInt < 0 ∧ v = some (.int (-1)) ∧ eh_V h' = G ∧ eh_N h' = eh_N h) ∨ (¬ (cu.toInt < 0) ∧ ¬ (cu.toInt < (eh_i G 25 0).toInt) ∧ v = some (.int (-1)) ∧ eh_V h' = G ∧ eh_N h' = eh_N h) ∨ (¬ (cu.toInt < 0) ∧ cu.toInt < (eh_i G 25 0).toInt ∧ se.toInt < 0 ∧ v = some (.int (-1)) ∧ eh_V h' = G ∧ eh_N h' = eh_N h) ∨ (¬ (cu.toInt < 0) ∧ cu.toInt < (eh_i G 25 0).toInt ∧ ¬ (se.toInt < 0) ∧ ¬ (se.toInt < (1 <<< ((eh_i G 25 1) &&& 31)).toInt) ∧ v = some (.int (-1)) ∧ eh_V h' = G ∧ eh_N h' = eh_N h) ∨ (¬ (cu.toInt < 0) ∧ cu.toInt < (eh_i G 25 0).toInt ∧ ¬ (se.toInt < 0) ∧ se.toInt < (1 <<< ((eh_i G 25 1) &&& 31)).toInt ∧ ∃ h1, eh_V h1 = G ∧ eh_N h1 = eh_N h ∧ eh_ty tC G ∧ ri_calE ri_md (d + 1) 34 [.ref 23, .int cu, .int se] h1 = some (v, h')) := by
  obtain ⟨rs, hrs, E⟩ := eh_in E (q := md_118) rfl
  have E := E.ld (p := 1) (t := ri_isA) (i := 0) (n := 1) (v := .ref 0) rfl (e := (.aload_n 0, 1, [], .null)) rfl rfl (fun _ _ => rfl) rfl rfl
  have E := E.gr (n := 23) (p := 4) rfl (x := 45) (m := 3) (w := .null) (t := 11) (i := 5) (u := 572) rfl rfl hV ty rfl
  have E := E.pu (p := 5) (lo' := (ri_as 0 [.ref 0, .int cu, .int se])) (st' := [.int 0, .ref 23]) rfl (e := (.iconst 0, 1, [], .null)) rfl rfl (fun _ _ => rfl)
  have E := E.ld (p := 6) (t := ri_isI) (i := 1) (n := 1) (v := .int cu) rfl (e := (.iload_n 1, 1, [], .null)) rfl rfl (fun _ _ => rfl) rfl rfl
  obtain ⟨v1, h1, X, E⟩ := E.cv (p := 9) (as := [.int 0, .int cu]) (b := 23) (r := []) rfl (x := 146) (m := 3) (w := .null) (j := 26) (n := 2) (t := 4) (u := [767, 769, 768]) rfl rfl rfl
  rcases xt_26 (d := d) X hV ty with ⟨c2, rfl, hV3, hN4⟩ | ⟨c5, c6, rfl, hV7, hN8⟩ | ⟨c9, c10, rfl, hV11, hN12⟩
  · skip
    have c2 : cu.toInt < 0 := c2
    have E : eh_e _ _ 9 (ri_as 0 [.ref 0, .int cu, .int se]) [.int 0] _ rs h' := E
    have E := E.brt (c := 0) (tgt := 23) (a := 0) (b := 0) (st' := []) rfl (e := (.ifCond .eq 14, 3, [23], .null)) rfl rfl (fun _ _ => rfl) (by decide)
    have E := E.pu (p := 24) (lo' := (ri_as 0 [.ref 0, .int cu, .int se])) (st' := [.int (-1)]) rfl (e := (.iconst (-1), 1, [], .null)) rfl rfl (fun _ _ => rfl)
    obtain ⟨r1, r2⟩ := E.reti rfl (m := 1) (ax := []) (w := .null) rfl
    exact Or.inl ⟨c2, (by rw [← hrs, r1]; rfl), ((congrArg eh_V r2).trans hV3), ((congrArg eh_N r2).trans hN4)⟩
  · skip
    have c5 : ¬ (cu.toInt < 0) := c5
    have c6 : ¬ (cu.toInt < (eh_i G 25 0).toInt) := c6
    have E : eh_e _ _ 9 (ri_as 0 [.ref 0, .int cu, .int se]) [.int 0] _ rs h' := E
    have E := E.brt (c := 0) (tgt := 23) (a := 0) (b := 0) (st' := []) rfl (e := (.ifCond .eq 14, 3, [23], .null)) rfl rfl (fun _ _ => rfl) (by decide)
    have E := E.pu (p := 24) (lo' := (ri_as 0 [.ref 0, .int cu, .int se])) (st' := [.int (-1)]) rfl (e := (.iconst (-1), 1, [], .null)) rfl rfl (fun _ _ => rfl)
    obtain ⟨r1, r2⟩ := E.reti rfl (m := 1) (ax := []) (w := .null) rfl
    exact Or.inr (Or.inl ⟨c5, c6, (by rw [← hrs, r1]; rfl), ((congrArg eh_V r2).trans hV7), ((congrArg eh_N r2).trans hN8)⟩)
  · skip
    have c9 : ¬ (cu.toInt < 0) := c9
    have c10 : cu.toInt < (eh_i G 25 0).toInt := c10
    have E : eh_e _ _ 9 (ri_as 0 [.ref 0, .int cu, .int se]) [.int 1] _ rs h' := E
    have E := E.brf (p := 12) (c := 0) (tgt := 23) (a := 1) (b := 0) (st' := []) rfl (e := (.ifCond .eq 14, 3, [23], .null)) rfl rfl (fun _ _ => rfl) (by decide) rfl
    have E := E.ld (p := 13) (t := ri_isA) (i := 0) (n := 1) (v := .ref 0) rfl (e := (.aload_n 0, 1, [], .null)) rfl rfl (fun _ _ => rfl) rfl rfl
    have E := E.gr (n := 23) (p := 16) rfl (x := 45) (m := 3) (w := .null) (t := 11) (i := 5) (u := 572) rfl rfl hV11 ty rfl
    have E := E.ld (p := 17) (t := ri_isI) (i := 2) (n := 1) (v := .int se) rfl (e := (.iload_n 2, 1, [], .null)) rfl rfl (fun _ _ => rfl) rfl rfl
    obtain ⟨v1, h13, X, E⟩ := E.cv (p := 20) (as := [.int se]) (b := 23) (r := []) rfl (x := 264) (m := 3) (w := .null) (j := 28) (n := 1) (t := 4) (u := [904, 906, 905]) rfl rfl rfl
    rcases xt_28 (d := d) X hV11 ty with ⟨c14, rfl, hV15, hN16⟩ | ⟨c17, c18, rfl, hV19, hN20⟩ | ⟨c21, c22, rfl, hV23, hN24⟩
    · skip
      have c14 : se.toInt < 0 := c14
      have E : eh_e _ _ 20 (ri_as 0 [.ref 0, .int cu, .int se]) [.int 0] _ rs h' := E
      have E := E.brf (p := 23) (c := 1) (tgt := 25) (a := 0) (b := 0) (st' := []) rfl (e := (.ifCond .ne 5, 3, [25], .null)) rfl rfl (fun _ _ => rfl) (by decide) rfl
      have E := E.pu (p := 24) (lo' := (ri_as 0 [.ref 0, .int cu, .int se])) (st' := [.int (-1)]) rfl (e := (.iconst (-1), 1, [], .null)) rfl rfl (fun _ _ => rfl)
      obtain ⟨r1, r2⟩ := E.reti rfl (m := 1) (ax := []) (w := .null) rfl
      exact Or.inr (Or.inr (Or.inl ⟨c9, c10, c14, (by rw [← hrs, r1]; rfl), ((congrArg eh_V r2).trans hV15), ((congrArg eh_N r2).trans (hN16.trans hN12))⟩))
    · skip
      have c17 : ¬ (se.toInt < 0) := c17
      have c18 : ¬ (se.toInt < (1 <<< ((eh_i G 25 1) &&& 31)).toInt) := c18
      have E : eh_e _ _ 20 (ri_as 0 [.ref 0, .int cu, .int se]) [.int 0] _ rs h' := E
      have E := E.brf (p := 23) (c := 1) (tgt := 25) (a := 0) (b := 0) (st' := []) rfl (e := (.ifCond .ne 5, 3, [25], .null)) rfl rfl (fun _ _ => rfl) (by decide) rfl
      have E := E.pu (p := 24) (lo' := (ri_as 0 [.ref 0, .int cu, .int se])) (st' := [.int (-1)]) rfl (e := (.iconst (-1), 1, [], .null)) rfl rfl (fun _ _ => rfl)
      obtain ⟨r1, r2⟩ := E.reti rfl (m := 1) (ax := []) (w := .null) rfl
      exact Or.inr (Or.inr (Or.inr (Or.inl ⟨c9, c10, c17, c18, (by rw [← hrs, r1]; rfl), ((congrArg eh_V r2).trans hV19), ((congrArg eh_N r2).trans (hN20.trans hN12))⟩)))
    · skip
      have c21 : ¬ (se.toInt < 0) := c21
      have c22 : se.toInt < (1 <<< ((eh_i G 25 1) &&& 31)).toInt := c22
      have E : eh_e _ _ 20 (ri_as 0 [.ref 0, .int cu, .int se]) [.int 1] _ rs h' := E
      have E := E.brt (c := 1) (tgt := 25) (a := 1) (b := 0) (st' := []) rfl (e := (.ifCond .ne 5, 3, [25], .null)) rfl rfl (fun _ _ => rfl) (by decide)
      have E := E.ld (p := 26) (t := ri_isA) (i := 0) (n := 1) (v := .ref 0) rfl (e := (.aload_n 0, 1, [], .null)) rfl rfl (fun _ _ => rfl) rfl rfl
      have E := E.gr (n := 23) (p := 29) rfl (x := 45) (m := 3) (w := .null) (t := 11) (i := 5) (u := 572) rfl rfl hV23 ty rfl
      have E := E.ld (p := 30) (t := ri_isI) (i := 1) (n := 1) (v := .int cu) rfl (e := (.iload_n 1, 1, [], .null)) rfl rfl (fun _ _ => rfl) rfl rfl
      have E := E.ld (p := 31) (t := ri_isI) (i := 2) (n := 1) (v := .int se) rfl (e := (.iload_n 2, 1, [], .null)) rfl rfl (fun _ _ => rfl) rfl rfl
      obtain ⟨v1, h25, X, E⟩ := E.cv (p := 34) (as := [.int cu, .int se]) (b := 23) (r := []) rfl (x := 270) (m := 3) (w := .null) (j := 34) (n := 2) (t := 4) (u := [913, 840, 839]) rfl rfl rfl
      obtain ⟨r1, r2⟩ := E.rett rfl (m := 1) (ax := []) (w := .null) rfl
      have r3 : v1 = v := r1.symm.trans hrs
      subst r3
      subst r2
      exact Or.inr (Or.inr (Or.inr (Or.inr (⟨c9, c10, c21, c22, _, hV23, (hN24.trans hN12), ty, X⟩))))
theorem ws_m {d : Nat} {h h' : ri_H} {v : Option Value} {G : eh_W} {cu se : Int32} (E : ri_calE ri_md (d + 3) 214 [.ref 0, .int cu, .int se] h = some (v, h')) (hV : eh_V h = G) (ty : eh_ty tM G) : (cu.toInt < 0 ∧ v = some (.int (-1)) ∧ eh_V h' = eh_u G 0 0 (.int 0) ∧ eh_N h' = eh_N h) ∨ (¬ (cu.toInt < 0) ∧ ((eh_i G 2 3) - 1).toInt < cu.toInt ∧ v = some (.int (-1)) ∧ eh_V h' = eh_u G 0 0 (.int 0) ∧ eh_N h' = eh_N h) ∨ (¬ (cu.toInt < 0) ∧ ¬ (((eh_i G 2 3) - 1).toInt < cu.toInt) ∧ se.toInt < 0 ∧ v = some (.int (-1)) ∧ eh_V h' = eh_u G 0 0 (.int 0) ∧ eh_N h' = eh_N h) ∨ (¬ (cu.toInt < 0) ∧ ¬ (((eh_i G 2 3) - 1).toInt < cu.toInt) ∧ ¬ (se.toInt < 0) ∧ ¬ (se.toInt < (1 <<< ((eh_i G 2 4) &&& 31)).toInt) ∧ v = some (.int (-1)) ∧ eh_V h' = eh_u G 0 0 (.int 0) ∧ eh_N h' = eh_N h) ∨ (¬ (cu.toInt < 0) ∧ ¬ (((eh_i G 2 3) - 1).toInt < cu.toInt) ∧ ¬ (se.toInt < 0) ∧ se.toInt < (1 <<< ((eh_i G 2 4) &&& 31)).toInt ∧ ∃ h1, eh_V h1 = eh_u G 0 0 (.int 0) ∧ eh_N h1 = eh_N h ∧ eh_ty tM (eh_u G 0 0 (.int 0)) ∧ ri_calE ri_md (d + 2) 193 [.ref 0, .int cu, .int se] h1 = some (v, h')) := by
  obtain ⟨rs, hrs, E⟩ := eh_in E (q := md_214) rfl
  have E := E.ld (p := 1) (t := ri_isA) (i := 0) (n := 1) (v := .ref 0) rfl (e := (.aload_n 0, 1, [], .null)) rfl rfl (fun _ _ => rfl) rfl rfl
  have E := E.pu (p := 2) (lo' := (ri_as 0 [.ref 0, .int cu, .int se])) (st' := [.int 0, .ref 0]) rfl (e := (.iconst 0, 1, [], .null)) rfl rfl (fun _ _ => rfl)
  obtain ⟨h1, hV2, hN3, E⟩ := E.gp (p := 5) rfl (x := 1) (m := 3) (w := .null) (t := 12) (i := 0) (u := 1324) (y := 0) rfl rfl hV
  have E := E.ld (p := 6) (t := ri_isA) (i := 0) (n := 1) (v := .ref 0) rfl (e := (.aload_n 0, 1, [], .null)) rfl rfl (fun _ _ => rfl) rfl rfl
  have E := E.ld (p := 7) (t := ri_isI) (i := 1) (n := 1) (v := .int cu) rfl (e := (.iload_n 1, 1, [], .null)) rfl rfl (fun _ _ => rfl) rfl rfl
  obtain ⟨v1, h4, X, E⟩ := E.cv (p := 10) (as := [.int cu]) (b := 0) (r := []) rfl (x := 302) (m := 3) (w := .null) (j := 175) (n := 1) (t := 12) (u := [1634, 63, 1636]) rfl rfl rfl
  rcases xt_175 (d := d) X hV2 (ty.ui rfl) with ⟨c5, rfl, hV6, hN7⟩ | ⟨c8, c9, rfl, hV10, hN11⟩ | ⟨c12, c13, rfl, hV14, hN15⟩
  · skip
    have c5 : cu.toInt < 0 := c5
    have E : eh_e _ _ 10 (ri_as 0 [.ref 0, .int cu, .int se]) [.int 0] _ rs h' := E
    have E := E.brt (c := 0) (tgt := 30) (a := 0) (b := 0) (st' := []) rfl (e := (.ifCond .eq 20, 3, [30], .null)) rfl rfl (fun _ _ => rfl) (by decide)
    have E := E.pu (p := 31) (lo' := (ri_as 0 [.ref 0, .int cu, .int se])) (st' := [.int (-1)]) rfl (e := (.iconst (-1), 1, [], .null)) rfl rfl (fun _ _ => rfl)
    obtain ⟨r1, r2⟩ := E.reti rfl (m := 1) (ax := []) (w := .null) rfl
    exact Or.inl ⟨c5, (by rw [← hrs, r1]; rfl), ((congrArg eh_V r2).trans hV6), ((congrArg eh_N r2).trans (hN7.trans hN3))⟩
  · skip
    have c8 : ¬ (cu.toInt < 0) := c8
    have c9 : ((eh_i G 2 3) - 1).toInt < cu.toInt := c9
    have E : eh_e _ _ 10 (ri_as 0 [.ref 0, .int cu, .int se]) [.int 0] _ rs h' := E
    have E := E.brt (c := 0) (tgt := 30) (a := 0) (b := 0) (st' := []) rfl (e := (.ifCond .eq 20, 3, [30], .null)) rfl rfl (fun _ _ => rfl) (by decide)
    have E := E.pu (p := 31) (lo' := (ri_as 0 [.ref 0, .int cu, .int se])) (st' := [.int (-1)]) rfl (e := (.iconst (-1), 1, [], .null)) rfl rfl (fun _ _ => rfl)
    obtain ⟨r1, r2⟩ := E.reti rfl (m := 1) (ax := []) (w := .null) rfl
    exact Or.inr (Or.inl ⟨c8, c9, (by rw [← hrs, r1]; rfl), ((congrArg eh_V r2).trans hV10), ((congrArg eh_N r2).trans (hN11.trans hN3))⟩)
  · skip
    have c12 : ¬ (cu.toInt < 0) := c12
    have c13 : ¬ (((eh_i G 2 3) - 1).toInt < cu.toInt) := c13
    have E : eh_e _ _ 10 (ri_as 0 [.ref 0, .int cu, .int se]) [.int 1] _ rs h' := E
    have E := E.brf (p := 13) (c := 0) (tgt := 30) (a := 1) (b := 0) (st' := []) rfl (e := (.ifCond .eq 20, 3, [30], .null)) rfl rfl (fun _ _ => rfl) (by decide) rfl
    have E := E.ld (p := 14) (t := ri_isA) (i := 0) (n := 1) (v := .ref 0) rfl (e := (.aload_n 0, 1, [], .null)) rfl rfl (fun _ _ => rfl) rfl rfl
    have E := E.ld (p := 15) (t := ri_isI) (i := 2) (n := 1) (v := .int se) rfl (e := (.iload_n 2, 1, [], .null)) rfl rfl (fun _ _ => rfl) rfl rfl
    obtain ⟨v1, h16, X, E⟩ := E.cv (p := 18) (as := [.int se]) (b := 0) (r := []) rfl (x := 320) (m := 3) (w := .null) (j := 179) (n := 1) (t := 12) (u := [1701, 75, 1703]) rfl rfl rfl
    rcases xt_179 (d := d + 1) X hV14 (ty.ui rfl) with ⟨c17, rfl, hV18, hN19⟩ | ⟨c20, c21, rfl, hV22, hN23⟩ | ⟨c24, c25, rfl, hV26, hN27⟩
    · skip
      have c17 : se.toInt < 0 := c17
      have E : eh_e _ _ 18 (ri_as 0 [.ref 0, .int cu, .int se]) [.int 0] _ rs h' := E
      have E := E.brt (c := 0) (tgt := 30) (a := 0) (b := 0) (st' := []) rfl (e := (.ifCond .eq 12, 3, [30], .null)) rfl rfl (fun _ _ => rfl) (by decide)
      have E := E.pu (p := 31) (lo' := (ri_as 0 [.ref 0, .int cu, .int se])) (st' := [.int (-1)]) rfl (e := (.iconst (-1), 1, [], .null)) rfl rfl (fun _ _ => rfl)
      obtain ⟨r1, r2⟩ := E.reti rfl (m := 1) (ax := []) (w := .null) rfl
      exact Or.inr (Or.inr (Or.inl ⟨c12, c13, c17, (by rw [← hrs, r1]; rfl), ((congrArg eh_V r2).trans hV18), ((congrArg eh_N r2).trans (hN19.trans (hN15.trans hN3)))⟩))
    · skip
      have c20 : ¬ (se.toInt < 0) := c20
      have c21 : ¬ (se.toInt < (1 <<< ((eh_i G 2 4) &&& 31)).toInt) := c21
      have E : eh_e _ _ 18 (ri_as 0 [.ref 0, .int cu, .int se]) [.int 0] _ rs h' := E
      have E := E.brt (c := 0) (tgt := 30) (a := 0) (b := 0) (st' := []) rfl (e := (.ifCond .eq 12, 3, [30], .null)) rfl rfl (fun _ _ => rfl) (by decide)
      have E := E.pu (p := 31) (lo' := (ri_as 0 [.ref 0, .int cu, .int se])) (st' := [.int (-1)]) rfl (e := (.iconst (-1), 1, [], .null)) rfl rfl (fun _ _ => rfl)
      obtain ⟨r1, r2⟩ := E.reti rfl (m := 1) (ax := []) (w := .null) rfl
      exact Or.inr (Or.inr (Or.inr (Or.inl ⟨c12, c13, c20, c21, (by rw [← hrs, r1]; rfl), ((congrArg eh_V r2).trans hV22), ((congrArg eh_N r2).trans (hN23.trans (hN15.trans hN3)))⟩)))
    · skip
      have c24 : ¬ (se.toInt < 0) := c24
      have c25 : se.toInt < (1 <<< ((eh_i G 2 4) &&& 31)).toInt := c25
      have E : eh_e _ _ 18 (ri_as 0 [.ref 0, .int cu, .int se]) [.int 1] _ rs h' := E
      have E := E.brf (p := 21) (c := 0) (tgt := 30) (a := 1) (b := 0) (st' := []) rfl (e := (.ifCond .eq 12, 3, [30], .null)) rfl rfl (fun _ _ => rfl) (by decide) rfl
      have E := E.ld (p := 22) (t := ri_isA) (i := 0) (n := 1) (v := .ref 0) rfl (e := (.aload_n 0, 1, [], .null)) rfl rfl (fun _ _ => rfl) rfl rfl
      have E := E.ld (p := 23) (t := ri_isI) (i := 1) (n := 1) (v := .int cu) rfl (e := (.iload_n 1, 1, [], .null)) rfl rfl (fun _ _ => rfl) rfl rfl
      have E := E.ld (p := 24) (t := ri_isI) (i := 2) (n := 1) (v := .int se) rfl (e := (.iload_n 2, 1, [], .null)) rfl rfl (fun _ _ => rfl) rfl rfl
      obtain ⟨v1, h28, X, E⟩ := E.cv (p := 27) (as := [.int cu, .int se]) (b := 0) (r := []) rfl (x := 326) (m := 3) (w := .null) (j := 193) (n := 2) (t := 12) (u := [1713, 77, 1715]) rfl rfl rfl
      have E := E.pu (p := 31) (lo' := (ri_as 0 [.ref 0, .int cu, .int se])) (st' := v1.toList ++ []) rfl (e := (.goto 4, 3, [31], .null)) rfl rfl (fun _ _ => rfl)
      obtain ⟨r1, r2⟩ := E.rett rfl (m := 1) (ax := []) (w := .null) rfl
      have r3 : v1 = v := r1.symm.trans hrs
      subst r3
      subst r2
      exact Or.inr (Or.inr (Or.inr (Or.inr (⟨c12, c13, c24, c25, _, hV26, (hN27.trans (hN15.trans hN3)), (ty.ui rfl), X⟩))))
