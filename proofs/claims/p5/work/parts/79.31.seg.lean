theorem ha_26 {d : Nat} {h h' : ri_H} {v : Option Value} {G : eh_W} {so nu : Int32} (E : ri_calE ri_md (d + 1) 26 [.ref 23, .int so, .int nu] h = some (v, h')) (hV : eh_V h = G) (ty : eh_ty tC G) : (nu.toInt < 0 ∧ v = some (.int 0) ∧ eh_V h' = G ∧ eh_N h' = eh_N h) ∨ (¬ (nu.toInt < 0) ∧ ¬ (nu.toInt < (eh_i G 25 (so).toNatClampNeg).toInt) ∧ v = some (.int 0) ∧ eh_V h' = G ∧ eh_N h' = eh_N h) ∨ (¬ (nu.toInt < 0) ∧ nu.toInt < (eh_i G 25 (so).toNatClampNeg).toInt ∧ v = some (.int 1) ∧ eh_V h' = G ∧ eh_N h' = eh_N h) := by
  obtain ⟨rs, hrs, E⟩ := eh_in E (q := md_26) rfl
  have E := E.ld (p := 1) (t := ri_isI) (i := 2) (n := 1) (v := .int nu) rfl (e := (.iload_n 2, 1, [], .null)) rfl rfl (fun _ _ => rfl) rfl rfl
  rcases eh_r2 rfl (show (0 : Int32).toInt = 0 by decide) (E.br (p := 4) (c := 2) (tgt := 18) (a := nu) (b := 0) (st' := []) rfl (e := (.ifCond .lt 17, 3, [18], .null)) rfl rfl (fun _ _ => rfl) rfl) with ⟨c1, E⟩ | ⟨c1, E⟩
  · skip
    have E := E.pu (p := 19) (lo' := (ri_as 0 [.ref 23, .int so, .int nu])) (st' := [.int 0]) rfl (e := (.iconst 0, 1, [], .null)) rfl rfl (fun _ _ => rfl)
    obtain ⟨r1, r2⟩ := E.reti rfl (m := 1) (ax := []) (w := .null) rfl
    exact Or.inl ⟨c1, (by rw [← hrs, r1]; rfl), ((congrArg eh_V r2).trans hV), (congrArg eh_N r2)⟩
  · skip
    have E := E.ld (p := 5) (t := ri_isI) (i := 2) (n := 1) (v := .int nu) rfl (e := (.iload_n 2, 1, [], .null)) rfl rfl (fun _ _ => rfl) rfl rfl
    have E := E.ld (p := 6) (t := ri_isA) (i := 0) (n := 1) (v := .ref 23) rfl (e := (.aload_n 0, 1, [], .null)) rfl rfl (fun _ _ => rfl) rfl rfl
    have E := E.gr (n := 25) (p := 9) rfl (x := 27) (m := 3) (w := .null) (t := 4) (i := 2) (u := 262) rfl rfl hV ty rfl
    have E := E.ld (p := 10) (t := ri_isI) (i := 1) (n := 1) (v := .int so) rfl (e := (.iload_n 1, 1, [], .null)) rfl rfl (fun _ _ => rfl) rfl rfl
    have E := E.ai (p := 11) (z := eh_i G 25 (so).toNatClampNeg) (n := (so).toNatClampNeg) rfl (e := (.iaload, 1, [], .null)) rfl rfl (fun _ _ => rfl) rfl hV ty rfl rfl rfl
    rcases eh_r3 rfl rfl (E.br (p := 14) (c := 3) (tgt := 18) (a := nu) (b := eh_i G 25 (so).toNatClampNeg) (st' := []) rfl (e := (.if_icmp .ge 7, 3, [18], .null)) rfl rfl (fun _ _ => rfl) rfl) with ⟨c2, E⟩ | ⟨c2, E⟩
    · skip
      have E := E.pu (p := 19) (lo' := (ri_as 0 [.ref 23, .int so, .int nu])) (st' := [.int 0]) rfl (e := (.iconst 0, 1, [], .null)) rfl rfl (fun _ _ => rfl)
      obtain ⟨r1, r2⟩ := E.reti rfl (m := 1) (ax := []) (w := .null) rfl
      exact Or.inr (Or.inl ⟨c1, c2, (by rw [← hrs, r1]; rfl), ((congrArg eh_V r2).trans hV), (congrArg eh_N r2)⟩)
    · skip
      have E := E.pu (p := 15) (lo' := (ri_as 0 [.ref 23, .int so, .int nu])) (st' := [.int 1]) rfl (e := (.iconst 1, 1, [], .null)) rfl rfl (fun _ _ => rfl)
      have E := E.pu (p := 19) (lo' := (ri_as 0 [.ref 23, .int so, .int nu])) (st' := [.int 1]) rfl (e := (.goto 4, 3, [19], .null)) rfl rfl (fun _ _ => rfl)
      obtain ⟨r1, r2⟩ := E.reti rfl (m := 1) (ax := []) (w := .null) rfl
      exact Or.inr (Or.inr (⟨c1, c2, (by rw [← hrs, r1]; rfl), ((congrArg eh_V r2).trans hV), (congrArg eh_N r2)⟩))
theorem st_c {d : Nat} {h h' : ri_H} {v : Option Value} {G : eh_W} {l i : Int32} (E : ri_calE ri_md (d + 2) 108 [.ref 0, .int l, .int i] h = some (v, h')) (hV : eh_V h = G) (ty : eh_ty tC G) : (l.toInt < 0 ∧ v = some (.int (-1)) ∧ eh_V h' = G ∧ eh_N h' = eh_N h) ∨ (¬ (l.toInt < 0) ∧ ¬ (l.toInt < (eh_i G 25 1).toInt) ∧ v = some (.int (-1)) ∧ eh_V h' = G ∧ eh_N h' = eh_N h) ∨ (¬ (l.toInt < 0) ∧ l.toInt < (eh_i G 25 1).toInt ∧ i.toInt < 0 ∧ v = some (.int (-1)) ∧ eh_V h' = G ∧ eh_N h' = eh_N h) ∨ (¬ (l.toInt < 0) ∧ l.toInt < (eh_i G 25 1).toInt ∧ ¬ (i.toInt < 0) ∧ i.toInt < (eh_i G 28 (l).toNatClampNeg).toInt ∧ v = some (.int (eh_i G 29 ((l * 8) + i).toNatClampNeg)) ∧ eh_V h' = G ∧ eh_N h' = eh_N h) ∨ (¬ (l.toInt < 0) ∧ l.toInt < (eh_i G 25 1).toInt ∧ ¬ (i.toInt < 0) ∧ ¬ (i.toInt < (eh_i G 28 (l).toNatClampNeg).toInt) ∧ v = some (.int (-1)) ∧ eh_V h' = G ∧ eh_N h' = eh_N h) := by
  obtain ⟨rs, hrs, E⟩ := eh_in E (q := md_108) rfl
  have E := E.ld (p := 1) (t := ri_isA) (i := 0) (n := 1) (v := .ref 0) rfl (e := (.aload_n 0, 1, [], .null)) rfl rfl (fun _ _ => rfl) rfl rfl
  have E := E.gr (n := 23) (p := 4) rfl (x := 45) (m := 3) (w := .null) (t := 11) (i := 5) (u := 572) rfl rfl hV ty rfl
  have E := E.pu (p := 5) (lo' := (ri_as 0 [.ref 0, .int l, .int i])) (st' := [.int 1, .ref 23]) rfl (e := (.iconst 1, 1, [], .null)) rfl rfl (fun _ _ => rfl)
  have E := E.ld (p := 6) (t := ri_isI) (i := 1) (n := 1) (v := .int l) rfl (e := (.iload_n 1, 1, [], .null)) rfl rfl (fun _ _ => rfl) rfl rfl
  obtain ⟨v1, h1, X, E⟩ := E.cv (p := 9) (as := [.int 1, .int l]) (b := 23) (r := []) rfl (x := 146) (m := 3) (w := .null) (j := 26) (n := 2) (t := 4) (u := [767, 769, 768]) rfl rfl rfl
  rcases ha_26 (d := d) X hV ty with ⟨c2, rfl, hV3, hN4⟩ | ⟨c5, c6, rfl, hV7, hN8⟩ | ⟨c9, c10, rfl, hV11, hN12⟩
  · skip
    have c2 : l.toInt < 0 := c2
    have E : eh_e _ _ 9 (ri_as 0 [.ref 0, .int l, .int i]) [.int 0] _ rs h' := E
    have E := E.brt (c := 0) (tgt := 29) (a := 0) (b := 0) (st' := []) rfl (e := (.ifCond .eq 20, 3, [29], .null)) rfl rfl (fun _ _ => rfl) (by decide)
    have E := E.pu (p := 30) (lo' := (ri_as 0 [.ref 0, .int l, .int i])) (st' := [.int (-1)]) rfl (e := (.iconst (-1), 1, [], .null)) rfl rfl (fun _ _ => rfl)
    obtain ⟨r1, r2⟩ := E.reti rfl (m := 1) (ax := []) (w := .null) rfl
    exact Or.inl ⟨c2, (by rw [← hrs, r1]; rfl), ((congrArg eh_V r2).trans hV3), ((congrArg eh_N r2).trans hN4)⟩
  · skip
    have c5 : ¬ (l.toInt < 0) := c5
    have c6 : ¬ (l.toInt < (eh_i G 25 1).toInt) := c6
    have E : eh_e _ _ 9 (ri_as 0 [.ref 0, .int l, .int i]) [.int 0] _ rs h' := E
    have E := E.brt (c := 0) (tgt := 29) (a := 0) (b := 0) (st' := []) rfl (e := (.ifCond .eq 20, 3, [29], .null)) rfl rfl (fun _ _ => rfl) (by decide)
    have E := E.pu (p := 30) (lo' := (ri_as 0 [.ref 0, .int l, .int i])) (st' := [.int (-1)]) rfl (e := (.iconst (-1), 1, [], .null)) rfl rfl (fun _ _ => rfl)
    obtain ⟨r1, r2⟩ := E.reti rfl (m := 1) (ax := []) (w := .null) rfl
    exact Or.inr (Or.inl ⟨c5, c6, (by rw [← hrs, r1]; rfl), ((congrArg eh_V r2).trans hV7), ((congrArg eh_N r2).trans hN8)⟩)
  · skip
    have c9 : ¬ (l.toInt < 0) := c9
    have c10 : l.toInt < (eh_i G 25 1).toInt := c10
    have E : eh_e _ _ 9 (ri_as 0 [.ref 0, .int l, .int i]) [.int 1] _ rs h' := E
    have E := E.brf (p := 12) (c := 0) (tgt := 29) (a := 1) (b := 0) (st' := []) rfl (e := (.ifCond .eq 20, 3, [29], .null)) rfl rfl (fun _ _ => rfl) (by decide) rfl
    have E := E.ld (p := 13) (t := ri_isI) (i := 2) (n := 1) (v := .int i) rfl (e := (.iload_n 2, 1, [], .null)) rfl rfl (fun _ _ => rfl) rfl rfl
    rcases eh_r2 rfl (show (0 : Int32).toInt = 0 by decide) (E.br (p := 16) (c := 2) (tgt := 29) (a := i) (b := 0) (st' := []) rfl (e := (.ifCond .lt 16, 3, [29], .null)) rfl rfl (fun _ _ => rfl) rfl) with ⟨c13, E⟩ | ⟨c13, E⟩
    · skip
      have E := E.pu (p := 30) (lo' := (ri_as 0 [.ref 0, .int l, .int i])) (st' := [.int (-1)]) rfl (e := (.iconst (-1), 1, [], .null)) rfl rfl (fun _ _ => rfl)
      obtain ⟨r1, r2⟩ := E.reti rfl (m := 1) (ax := []) (w := .null) rfl
      exact Or.inr (Or.inr (Or.inl ⟨c9, c10, c13, (by rw [← hrs, r1]; rfl), ((congrArg eh_V r2).trans hV11), ((congrArg eh_N r2).trans hN12)⟩))
    · skip
      have E := E.ld (p := 17) (t := ri_isI) (i := 2) (n := 1) (v := .int i) rfl (e := (.iload_n 2, 1, [], .null)) rfl rfl (fun _ _ => rfl) rfl rfl
      have E := E.ld (p := 18) (t := ri_isA) (i := 0) (n := 1) (v := .ref 0) rfl (e := (.aload_n 0, 1, [], .null)) rfl rfl (fun _ _ => rfl) rfl rfl
      have E := E.gr (n := 23) (p := 21) rfl (x := 45) (m := 3) (w := .null) (t := 11) (i := 5) (u := 572) rfl rfl hV11 ty rfl
      have E := E.gr (n := 28) (p := 24) rfl (x := 160) (m := 3) (w := .null) (t := 4) (i := 5) (u := 278) rfl rfl hV11 ty rfl
      have E := E.ld (p := 25) (t := ri_isI) (i := 1) (n := 1) (v := .int l) rfl (e := (.iload_n 1, 1, [], .null)) rfl rfl (fun _ _ => rfl) rfl rfl
      have E := E.ai (p := 26) (z := eh_i G 28 (l).toNatClampNeg) (n := (l).toNatClampNeg) rfl (e := (.iaload, 1, [], .null)) rfl rfl (fun _ _ => rfl) rfl hV11 ty rfl rfl rfl
      rcases eh_r2 rfl rfl (E.br (p := 29) (c := 2) (tgt := 31) (a := i) (b := eh_i G 28 (l).toNatClampNeg) (st' := []) rfl (e := (.if_icmp .lt 5, 3, [31], .null)) rfl rfl (fun _ _ => rfl) rfl) with ⟨c14, E⟩ | ⟨c14, E⟩
      · skip
        have E := E.ld (p := 32) (t := ri_isA) (i := 0) (n := 1) (v := .ref 0) rfl (e := (.aload_n 0, 1, [], .null)) rfl rfl (fun _ _ => rfl) rfl rfl
        have E := E.gr (n := 23) (p := 35) rfl (x := 45) (m := 3) (w := .null) (t := 11) (i := 5) (u := 572) rfl rfl hV11 ty rfl
        have E := E.gr (n := 29) (p := 38) rfl (x := 181) (m := 3) (w := .null) (t := 4) (i := 6) (u := 281) rfl rfl hV11 ty rfl
        have E := E.ld (p := 39) (t := ri_isI) (i := 1) (n := 1) (v := .int l) rfl (e := (.iload_n 1, 1, [], .null)) rfl rfl (fun _ _ => rfl) rfl rfl
        have E := E.pu (p := 41) (lo' := (ri_as 0 [.ref 0, .int l, .int i])) (st' := [.int 8, .int l, .ref 29]) rfl (e := (.bipush 8, 2, [], .null)) rfl rfl (fun _ _ => rfl)
        have E := E.pu (p := 42) (lo' := (ri_as 0 [.ref 0, .int l, .int i])) (st' := [.int (l * 8), .ref 29]) rfl (e := (.imul, 1, [], .null)) rfl rfl (fun _ _ => rfl)
        have E := E.ld (p := 43) (t := ri_isI) (i := 2) (n := 1) (v := .int i) rfl (e := (.iload_n 2, 1, [], .null)) rfl rfl (fun _ _ => rfl) rfl rfl
        have E := E.pu (p := 44) (lo' := (ri_as 0 [.ref 0, .int l, .int i])) (st' := [.int ((l * 8) + i), .ref 29]) rfl (e := (.iadd, 1, [], .null)) rfl rfl (fun _ _ => rfl)
        have E := E.ai (p := 45) (z := eh_i G 29 ((l * 8) + i).toNatClampNeg) (n := ((l * 8) + i).toNatClampNeg) rfl (e := (.iaload, 1, [], .null)) rfl rfl (fun _ _ => rfl) rfl hV11 ty rfl rfl rfl
        obtain ⟨r1, r2⟩ := E.reti rfl (m := 1) (ax := []) (w := .null) rfl
        exact Or.inr (Or.inr (Or.inr (Or.inl ⟨c9, c10, c13, c14, (by rw [← hrs, r1]; rfl), ((congrArg eh_V r2).trans hV11), ((congrArg eh_N r2).trans hN12)⟩)))
      · skip
        have E := E.pu (p := 30) (lo' := (ri_as 0 [.ref 0, .int l, .int i])) (st' := [.int (-1)]) rfl (e := (.iconst (-1), 1, [], .null)) rfl rfl (fun _ _ => rfl)
        obtain ⟨r1, r2⟩ := E.reti rfl (m := 1) (ax := []) (w := .null) rfl
        exact Or.inr (Or.inr (Or.inr (Or.inr (⟨c9, c10, c13, c14, (by rw [← hrs, r1]; rfl), ((congrArg eh_V r2).trans hV11), ((congrArg eh_N r2).trans hN12)⟩))))
theorem is_176 {d : Nat} {h h' : ri_H} {v : Option Value} {G : eh_W} {k : Int32} (E : ri_calE ri_md (d + 2) 176 [.ref 0, .int k] h = some (v, h')) (hV : eh_V h = G) (ty : eh_ty tM G) : (k.toInt < 0 ∧ v = some (.int 0) ∧ eh_V h' = G ∧ eh_N h' = eh_N h) ∨ (¬ (k.toInt < 0) ∧ ((eh_i G 2 4) - 1).toInt < k.toInt ∧ v = some (.int 0) ∧ eh_V h' = G ∧ eh_N h' = eh_N h) ∨ (¬ (k.toInt < 0) ∧ ¬ (((eh_i G 2 4) - 1).toInt < k.toInt) ∧ v = some (.int 1) ∧ eh_V h' = G ∧ eh_N h' = eh_N h) := by
  obtain ⟨rs, hrs, E⟩ := eh_in E (q := md_176) rfl
  have E := E.ld (p := 1) (t := ri_isI) (i := 1) (n := 1) (v := .int k) rfl (e := (.iload_n 1, 1, [], .null)) rfl rfl (fun _ _ => rfl) rfl rfl
  have E := E.pu (p := 2) (lo' := (ri_as 0 [.ref 0, .int k])) (st' := [.int 0, .int k]) rfl (e := (.iconst 0, 1, [], .null)) rfl rfl (fun _ _ => rfl)
  have E := E.ld (p := 3) (t := ri_isA) (i := 0) (n := 1) (v := .ref 0) rfl (e := (.aload_n 0, 1, [], .null)) rfl rfl (fun _ _ => rfl) rfl rfl
  have E := E.gr (n := 2) (p := 6) rfl (x := 33) (m := 3) (w := .null) (t := 12) (i := 6) (u := 1330) rfl rfl hV ty rfl
  have E := E.pu (p := 7) (lo' := (ri_as 0 [.ref 0, .int k])) (st' := [.int 4, .ref 2, .int 0, .int k]) rfl (e := (.iconst 4, 1, [], .null)) rfl rfl (fun _ _ => rfl)
  have E := E.ai (p := 8) (z := eh_i G 2 4) (n := 4) rfl (e := (.iaload, 1, [], .null)) rfl rfl (fun _ _ => rfl) rfl hV ty (by decide) rfl rfl
  have E := E.pu (p := 9) (lo' := (ri_as 0 [.ref 0, .int k])) (st' := [.int 1, .int (eh_i G 2 4), .int 0, .int k]) rfl (e := (.iconst 1, 1, [], .null)) rfl rfl (fun _ _ => rfl)
  have E := E.pu (p := 10) (lo' := (ri_as 0 [.ref 0, .int k])) (st' := [.int ((eh_i G 2 4) - 1), .int 0, .int k]) rfl (e := (.isub, 1, [], .null)) rfl rfl (fun _ _ => rfl)
  obtain ⟨v1, h1, X, E⟩ := E.cs (p := 13) (as := [.int k, .int 0, .int ((eh_i G 2 4) - 1)]) (r := []) rfl (x := 177) (m := 3) (w := .null) (j := 149) (n := 3) (t := 0) (u := [1519, 1520]) rfl rfl rfl
  rcases sp_149 (d := d) X hV ty with ⟨c2, rfl, hV3, hN4⟩ | ⟨c5, c6, rfl, hV7, hN8⟩ | ⟨c9, c10, rfl, hV11, hN12⟩
  · skip
    have c2 : k.toInt < 0 := c2
    have E : eh_e _ _ 13 (ri_as 0 [.ref 0, .int k]) [.int 0] _ rs h' := E
    obtain ⟨r1, r2⟩ := E.reti rfl (m := 1) (ax := []) (w := .null) rfl
    exact Or.inl ⟨c2, (by rw [← hrs, r1]; rfl), ((congrArg eh_V r2).trans hV3), ((congrArg eh_N r2).trans hN4)⟩
  · skip
    have c5 : ¬ (k.toInt < 0) := c5
    have c6 : ((eh_i G 2 4) - 1).toInt < k.toInt := c6
    have E : eh_e _ _ 13 (ri_as 0 [.ref 0, .int k]) [.int 0] _ rs h' := E
    obtain ⟨r1, r2⟩ := E.reti rfl (m := 1) (ax := []) (w := .null) rfl
    exact Or.inr (Or.inl ⟨c5, c6, (by rw [← hrs, r1]; rfl), ((congrArg eh_V r2).trans hV7), ((congrArg eh_N r2).trans hN8)⟩)
  · skip
    have c9 : ¬ (k.toInt < 0) := c9
    have c10 : ¬ (((eh_i G 2 4) - 1).toInt < k.toInt) := c10
    have E : eh_e _ _ 13 (ri_as 0 [.ref 0, .int k]) [.int 1] _ rs h' := E
    obtain ⟨r1, r2⟩ := E.reti rfl (m := 1) (ax := []) (w := .null) rfl
    exact Or.inr (Or.inr (⟨c9, c10, (by rw [← hrs, r1]; rfl), ((congrArg eh_V r2).trans hV11), ((congrArg eh_N r2).trans hN12)⟩))
theorem st_m {d : Nat} {h h' : ri_H} {v : Option Value} {G : eh_W} {l i : Int32} (E : ri_calE ri_md (d + 3) 186 [.ref 0, .int l, .int i] h = some (v, h')) (hV : eh_V h = G) (ty : eh_ty tM G) : (l.toInt < 0 ∧ v = some (.int (-1)) ∧ eh_V h' = eh_u G 0 0 (.int 0) ∧ eh_N h' = eh_N h) ∨ (¬ (l.toInt < 0) ∧ ((eh_i G 2 4) - 1).toInt < l.toInt ∧ v = some (.int (-1)) ∧ eh_V h' = eh_u G 0 0 (.int 0) ∧ eh_N h' = eh_N h) ∨ (¬ (l.toInt < 0) ∧ ¬ (((eh_i G 2 4) - 1).toInt < l.toInt) ∧ i.toInt < 0 ∧ v = some (.int (-1)) ∧ eh_V h' = eh_u G 0 0 (.int 0) ∧ eh_N h' = eh_N h) ∨ (¬ (l.toInt < 0) ∧ ¬ (((eh_i G 2 4) - 1).toInt < l.toInt) ∧ ¬ (i.toInt < 0) ∧ ((eh_i G 2 (18 + l).toNatClampNeg) - 1).toInt < i.toInt ∧ v = some (.int (-1)) ∧ eh_V h' = eh_u G 0 0 (.int 0) ∧ eh_N h' = eh_N h) ∨ (¬ (l.toInt < 0) ∧ ¬ (((eh_i G 2 4) - 1).toInt < l.toInt) ∧ ¬ (i.toInt < 0) ∧ ¬ (((eh_i G 2 (18 + l).toNatClampNeg) - 1).toInt < i.toInt) ∧ v = some (.int (eh_i G 2 ((26 + (8 * l)) + i).toNatClampNeg)) ∧ eh_V h' = eh_u G 0 0 (.int 0) ∧ eh_N h' = eh_N h) := by
  obtain ⟨rs, hrs, E⟩ := eh_in E (q := md_186) rfl
  have E := E.ld (p := 1) (t := ri_isA) (i := 0) (n := 1) (v := .ref 0) rfl (e := (.aload_n 0, 1, [], .null)) rfl rfl (fun _ _ => rfl) rfl rfl
  have E := E.pu (p := 2) (lo' := (ri_as 0 [.ref 0, .int l, .int i])) (st' := [.int 0, .ref 0]) rfl (e := (.iconst 0, 1, [], .null)) rfl rfl (fun _ _ => rfl)
  obtain ⟨h1, hV2, hN3, E⟩ := E.gp (p := 5) rfl (x := 1) (m := 3) (w := .null) (t := 12) (i := 0) (u := 1324) (y := 0) rfl rfl hV
  have E := E.ld (p := 6) (t := ri_isA) (i := 0) (n := 1) (v := .ref 0) rfl (e := (.aload_n 0, 1, [], .null)) rfl rfl (fun _ _ => rfl) rfl rfl
  have E := E.ld (p := 7) (t := ri_isI) (i := 1) (n := 1) (v := .int l) rfl (e := (.iload_n 1, 1, [], .null)) rfl rfl (fun _ _ => rfl) rfl rfl
  obtain ⟨v1, h4, X, E⟩ := E.cv (p := 10) (as := [.int l]) (b := 0) (r := []) rfl (x := 239) (m := 3) (w := .null) (j := 176) (n := 1) (t := 12) (u := [1558, 50, 1560]) rfl rfl rfl
  rcases is_176 (d := d) X hV2 (ty.ui rfl) with ⟨c5, rfl, hV6, hN7⟩ | ⟨c8, c9, rfl, hV10, hN11⟩ | ⟨c12, c13, rfl, hV14, hN15⟩
  · skip
    have c5 : l.toInt < 0 := c5
    have E : eh_e _ _ 10 (ri_as 0 [.ref 0, .int l, .int i]) [.int 0] _ rs h' := E
    have E := E.brt (c := 0) (tgt := 49) (a := 0) (b := 0) (st' := []) rfl (e := (.ifCond .eq 39, 3, [49], .null)) rfl rfl (fun _ _ => rfl) (by decide)
    have E := E.pu (p := 50) (lo' := (ri_as 0 [.ref 0, .int l, .int i])) (st' := [.int (-1)]) rfl (e := (.iconst (-1), 1, [], .null)) rfl rfl (fun _ _ => rfl)
    obtain ⟨r1, r2⟩ := E.reti rfl (m := 1) (ax := []) (w := .null) rfl
    exact Or.inl ⟨c5, (by rw [← hrs, r1]; rfl), ((congrArg eh_V r2).trans hV6), ((congrArg eh_N r2).trans (hN7.trans hN3))⟩
  · skip
    have c8 : ¬ (l.toInt < 0) := c8
    have c9 : ((eh_i G 2 4) - 1).toInt < l.toInt := c9
    have E : eh_e _ _ 10 (ri_as 0 [.ref 0, .int l, .int i]) [.int 0] _ rs h' := E
    have E := E.brt (c := 0) (tgt := 49) (a := 0) (b := 0) (st' := []) rfl (e := (.ifCond .eq 39, 3, [49], .null)) rfl rfl (fun _ _ => rfl) (by decide)
    have E := E.pu (p := 50) (lo' := (ri_as 0 [.ref 0, .int l, .int i])) (st' := [.int (-1)]) rfl (e := (.iconst (-1), 1, [], .null)) rfl rfl (fun _ _ => rfl)
    obtain ⟨r1, r2⟩ := E.reti rfl (m := 1) (ax := []) (w := .null) rfl
    exact Or.inr (Or.inl ⟨c8, c9, (by rw [← hrs, r1]; rfl), ((congrArg eh_V r2).trans hV10), ((congrArg eh_N r2).trans (hN11.trans hN3))⟩)
  · skip
    have c12 : ¬ (l.toInt < 0) := c12
    have c13 : ¬ (((eh_i G 2 4) - 1).toInt < l.toInt) := c13
    have E : eh_e _ _ 10 (ri_as 0 [.ref 0, .int l, .int i]) [.int 1] _ rs h' := E
    have E := E.brf (p := 13) (c := 0) (tgt := 49) (a := 1) (b := 0) (st' := []) rfl (e := (.ifCond .eq 39, 3, [49], .null)) rfl rfl (fun _ _ => rfl) (by decide) rfl
    have E := E.ld (p := 14) (t := ri_isI) (i := 2) (n := 1) (v := .int i) rfl (e := (.iload_n 2, 1, [], .null)) rfl rfl (fun _ _ => rfl) rfl rfl
    have E := E.pu (p := 15) (lo' := (ri_as 0 [.ref 0, .int l, .int i])) (st' := [.int 0, .int i]) rfl (e := (.iconst 0, 1, [], .null)) rfl rfl (fun _ _ => rfl)
    have E := E.ld (p := 16) (t := ri_isA) (i := 0) (n := 1) (v := .ref 0) rfl (e := (.aload_n 0, 1, [], .null)) rfl rfl (fun _ _ => rfl) rfl rfl
    have E := E.gr (n := 2) (p := 19) rfl (x := 33) (m := 3) (w := .null) (t := 12) (i := 6) (u := 1330) rfl rfl hV14 (ty.ui rfl) rfl
    have E := E.pu (p := 21) (lo' := (ri_as 0 [.ref 0, .int l, .int i])) (st' := [.int 18, .ref 2, .int 0, .int i]) rfl (e := (.bipush 18, 2, [], .null)) rfl rfl (fun _ _ => rfl)
    have E := E.ld (p := 22) (t := ri_isI) (i := 1) (n := 1) (v := .int l) rfl (e := (.iload_n 1, 1, [], .null)) rfl rfl (fun _ _ => rfl) rfl rfl
    have E := E.pu (p := 23) (lo' := (ri_as 0 [.ref 0, .int l, .int i])) (st' := [.int (18 + l), .ref 2, .int 0, .int i]) rfl (e := (.iadd, 1, [], .null)) rfl rfl (fun _ _ => rfl)
    have E := E.ai (p := 24) (z := eh_i G 2 (18 + l).toNatClampNeg) (n := (18 + l).toNatClampNeg) rfl (e := (.iaload, 1, [], .null)) rfl rfl (fun _ _ => rfl) rfl hV14 (ty.ui rfl) rfl rfl rfl
    have E := E.pu (p := 25) (lo' := (ri_as 0 [.ref 0, .int l, .int i])) (st' := [.int 1, .int (eh_i G 2 (18 + l).toNatClampNeg), .int 0, .int i]) rfl (e := (.iconst 1, 1, [], .null)) rfl rfl (fun _ _ => rfl)
    have E := E.pu (p := 26) (lo' := (ri_as 0 [.ref 0, .int l, .int i])) (st' := [.int ((eh_i G 2 (18 + l).toNatClampNeg) - 1), .int 0, .int i]) rfl (e := (.isub, 1, [], .null)) rfl rfl (fun _ _ => rfl)
    obtain ⟨v1, h16, X, E⟩ := E.cs (p := 29) (as := [.int i, .int 0, .int ((eh_i G 2 (18 + l).toNatClampNeg) - 1)]) (r := []) rfl (x := 177) (m := 3) (w := .null) (j := 149) (n := 3) (t := 0) (u := [1519, 1520]) rfl rfl rfl
    rcases sp_149 (d := d + 1) X hV14 (ty.ui rfl) with ⟨c17, rfl, hV18, hN19⟩ | ⟨c20, c21, rfl, hV22, hN23⟩ | ⟨c24, c25, rfl, hV26, hN27⟩
    · skip
      have c17 : i.toInt < 0 := c17
      have E : eh_e _ _ 29 (ri_as 0 [.ref 0, .int l, .int i]) [.int 0] _ rs h' := E
      have E := E.brt (c := 0) (tgt := 49) (a := 0) (b := 0) (st' := []) rfl (e := (.ifCond .eq 20, 3, [49], .null)) rfl rfl (fun _ _ => rfl) (by decide)
      have E := E.pu (p := 50) (lo' := (ri_as 0 [.ref 0, .int l, .int i])) (st' := [.int (-1)]) rfl (e := (.iconst (-1), 1, [], .null)) rfl rfl (fun _ _ => rfl)
      obtain ⟨r1, r2⟩ := E.reti rfl (m := 1) (ax := []) (w := .null) rfl
      exact Or.inr (Or.inr (Or.inl ⟨c12, c13, c17, (by rw [← hrs, r1]; rfl), ((congrArg eh_V r2).trans hV18), ((congrArg eh_N r2).trans (hN19.trans (hN15.trans hN3)))⟩))
    · skip
      have c20 : ¬ (i.toInt < 0) := c20
      have c21 : ((eh_i G 2 (18 + l).toNatClampNeg) - 1).toInt < i.toInt := c21
      have E : eh_e _ _ 29 (ri_as 0 [.ref 0, .int l, .int i]) [.int 0] _ rs h' := E
      have E := E.brt (c := 0) (tgt := 49) (a := 0) (b := 0) (st' := []) rfl (e := (.ifCond .eq 20, 3, [49], .null)) rfl rfl (fun _ _ => rfl) (by decide)
      have E := E.pu (p := 50) (lo' := (ri_as 0 [.ref 0, .int l, .int i])) (st' := [.int (-1)]) rfl (e := (.iconst (-1), 1, [], .null)) rfl rfl (fun _ _ => rfl)
      obtain ⟨r1, r2⟩ := E.reti rfl (m := 1) (ax := []) (w := .null) rfl
      exact Or.inr (Or.inr (Or.inr (Or.inl ⟨c12, c13, c20, c21, (by rw [← hrs, r1]; rfl), ((congrArg eh_V r2).trans hV22), ((congrArg eh_N r2).trans (hN23.trans (hN15.trans hN3)))⟩)))
    · skip
      have c24 : ¬ (i.toInt < 0) := c24
      have c25 : ¬ (((eh_i G 2 (18 + l).toNatClampNeg) - 1).toInt < i.toInt) := c25
      have E : eh_e _ _ 29 (ri_as 0 [.ref 0, .int l, .int i]) [.int 1] _ rs h' := E
      have E := E.brf (p := 32) (c := 0) (tgt := 49) (a := 1) (b := 0) (st' := []) rfl (e := (.ifCond .eq 20, 3, [49], .null)) rfl rfl (fun _ _ => rfl) (by decide) rfl
      have E := E.ld (p := 33) (t := ri_isA) (i := 0) (n := 1) (v := .ref 0) rfl (e := (.aload_n 0, 1, [], .null)) rfl rfl (fun _ _ => rfl) rfl rfl
      have E := E.gr (n := 2) (p := 36) rfl (x := 33) (m := 3) (w := .null) (t := 12) (i := 6) (u := 1330) rfl rfl hV26 (ty.ui rfl) rfl
      have E := E.pu (p := 38) (lo' := (ri_as 0 [.ref 0, .int l, .int i])) (st' := [.int 26, .ref 2]) rfl (e := (.bipush 26, 2, [], .null)) rfl rfl (fun _ _ => rfl)
      have E := E.pu (p := 40) (lo' := (ri_as 0 [.ref 0, .int l, .int i])) (st' := [.int 8, .int 26, .ref 2]) rfl (e := (.bipush 8, 2, [], .null)) rfl rfl (fun _ _ => rfl)
      have E := E.ld (p := 41) (t := ri_isI) (i := 1) (n := 1) (v := .int l) rfl (e := (.iload_n 1, 1, [], .null)) rfl rfl (fun _ _ => rfl) rfl rfl
      have E := E.pu (p := 42) (lo' := (ri_as 0 [.ref 0, .int l, .int i])) (st' := [.int (8 * l), .int 26, .ref 2]) rfl (e := (.imul, 1, [], .null)) rfl rfl (fun _ _ => rfl)
      have E := E.pu (p := 43) (lo' := (ri_as 0 [.ref 0, .int l, .int i])) (st' := [.int (26 + (8 * l)), .ref 2]) rfl (e := (.iadd, 1, [], .null)) rfl rfl (fun _ _ => rfl)
      have E := E.ld (p := 44) (t := ri_isI) (i := 2) (n := 1) (v := .int i) rfl (e := (.iload_n 2, 1, [], .null)) rfl rfl (fun _ _ => rfl) rfl rfl
      have E := E.pu (p := 45) (lo' := (ri_as 0 [.ref 0, .int l, .int i])) (st' := [.int ((26 + (8 * l)) + i), .ref 2]) rfl (e := (.iadd, 1, [], .null)) rfl rfl (fun _ _ => rfl)
      have E := E.ai (p := 46) (z := eh_i G 2 ((26 + (8 * l)) + i).toNatClampNeg) (n := ((26 + (8 * l)) + i).toNatClampNeg) rfl (e := (.iaload, 1, [], .null)) rfl rfl (fun _ _ => rfl) rfl hV26 (ty.ui rfl) rfl rfl rfl
      have E := E.pu (p := 50) (lo' := (ri_as 0 [.ref 0, .int l, .int i])) (st' := [.int (eh_i G 2 ((26 + (8 * l)) + i).toNatClampNeg)]) rfl (e := (.goto 4, 3, [50], .null)) rfl rfl (fun _ _ => rfl)
      obtain ⟨r1, r2⟩ := E.reti rfl (m := 1) (ax := []) (w := .null) rfl
      exact Or.inr (Or.inr (Or.inr (Or.inr (⟨c12, c13, c24, c25, (by rw [← hrs, r1]; rfl), ((congrArg eh_V r2).trans hV26), ((congrArg eh_N r2).trans (hN27.trans (hN15.trans hN3)))⟩))))
