theorem sp_102 {d : Nat} {h h' : ri_H} {v : Option Value} {G : eh_W} {v0 : Int32} (E : ri_calE ri_md (d + 1) 102 [.ref 0, .int v0] h = some (v, h')) (hV : eh_V h = G) (ty : eh_ty tC G) : (¬ ((eh_i G 0 1).toInt < 940) ∧ v = none ∧ eh_V h' = G ∧ eh_N h' = eh_N h) ∨ ((eh_i G 0 1).toInt < 940 ∧ ¬ (((eh_i G 0 1) + 1).toInt < 940) ∧ v = none ∧ eh_V h' = eh_u (eh_u G 1 (eh_i G 0 1).toNatClampNeg (.int ((((v0.toUInt32 >>> ((24 : Int32).toUInt32 &&& Int32.toUInt32 31)).toInt32).toInt8.toInt32).toInt8.toInt32))) 0 1 (.int ((eh_i G 0 1) + 1)) ∧ eh_N h' = eh_N h) ∨ ((eh_i G 0 1).toInt < 940 ∧ ((eh_i G 0 1) + 1).toInt < 940 ∧ ¬ ((((eh_i G 0 1) + 1) + 1).toInt < 940) ∧ v = none ∧ eh_V h' = eh_u (eh_u (eh_u (eh_u G 1 (eh_i G 0 1).toNatClampNeg (.int ((((v0.toUInt32 >>> ((24 : Int32).toUInt32 &&& Int32.toUInt32 31)).toInt32).toInt8.toInt32).toInt8.toInt32))) 0 1 (.int ((eh_i G 0 1) + 1))) 1 ((eh_i G 0 1) + 1).toNatClampNeg (.int ((((v0.toUInt32 >>> ((16 : Int32).toUInt32 &&& Int32.toUInt32 31)).toInt32).toInt8.toInt32).toInt8.toInt32))) 0 1 (.int (((eh_i G 0 1) + 1) + 1)) ∧ eh_N h' = eh_N h) ∨ ((eh_i G 0 1).toInt < 940 ∧ ((eh_i G 0 1) + 1).toInt < 940 ∧ (((eh_i G 0 1) + 1) + 1).toInt < 940 ∧ ¬ (((((eh_i G 0 1) + 1) + 1) + 1).toInt < 940) ∧ v = none ∧ eh_V h' = eh_u (eh_u (eh_u (eh_u (eh_u (eh_u G 1 (eh_i G 0 1).toNatClampNeg (.int ((((v0.toUInt32 >>> ((24 : Int32).toUInt32 &&& Int32.toUInt32 31)).toInt32).toInt8.toInt32).toInt8.toInt32))) 0 1 (.int ((eh_i G 0 1) + 1))) 1 ((eh_i G 0 1) + 1).toNatClampNeg (.int ((((v0.toUInt32 >>> ((16 : Int32).toUInt32 &&& Int32.toUInt32 31)).toInt32).toInt8.toInt32).toInt8.toInt32))) 0 1 (.int (((eh_i G 0 1) + 1) + 1))) 1 (((eh_i G 0 1) + 1) + 1).toNatClampNeg (.int ((((v0.toUInt32 >>> ((8 : Int32).toUInt32 &&& Int32.toUInt32 31)).toInt32).toInt8.toInt32).toInt8.toInt32))) 0 1 (.int ((((eh_i G 0 1) + 1) + 1) + 1)) ∧ eh_N h' = eh_N h) ∨ ((eh_i G 0 1).toInt < 940 ∧ ((eh_i G 0 1) + 1).toInt < 940 ∧ (((eh_i G 0 1) + 1) + 1).toInt < 940 ∧ ((((eh_i G 0 1) + 1) + 1) + 1).toInt < 940 ∧ v = none ∧ eh_V h' = eh_u (eh_u (eh_u (eh_u (eh_u (eh_u (eh_u (eh_u G 1 (eh_i G 0 1).toNatClampNeg (.int ((((v0.toUInt32 >>> ((24 : Int32).toUInt32 &&& Int32.toUInt32 31)).toInt32).toInt8.toInt32).toInt8.toInt32))) 0 1 (.int ((eh_i G 0 1) + 1))) 1 ((eh_i G 0 1) + 1).toNatClampNeg (.int ((((v0.toUInt32 >>> ((16 : Int32).toUInt32 &&& Int32.toUInt32 31)).toInt32).toInt8.toInt32).toInt8.toInt32))) 0 1 (.int (((eh_i G 0 1) + 1) + 1))) 1 (((eh_i G 0 1) + 1) + 1).toNatClampNeg (.int ((((v0.toUInt32 >>> ((8 : Int32).toUInt32 &&& Int32.toUInt32 31)).toInt32).toInt8.toInt32).toInt8.toInt32))) 0 1 (.int ((((eh_i G 0 1) + 1) + 1) + 1))) 1 ((((eh_i G 0 1) + 1) + 1) + 1).toNatClampNeg (.int ((((v0.toUInt32 >>> ((0 : Int32).toUInt32 &&& Int32.toUInt32 31)).toInt32).toInt8.toInt32).toInt8.toInt32))) 0 1 (.int (((((eh_i G 0 1) + 1) + 1) + 1) + 1)) ∧ eh_N h' = eh_N h) := by
  obtain ⟨rs, hrs, E⟩ := eh_in E (q := md_102) rfl
  have E := E.pu (p := 2) (lo' := (ri_as 0 [.ref 0, .int v0])) (st' := [.int 24]) rfl (e := (.bipush 24, 2, [], .null)) rfl rfl (fun _ _ => rfl)
  have E := E.so (p := 3) (t := ri_isI) (i := 2) (n := 1) rfl (e := (.istore_n 2, 1, [], .null)) rfl rfl (fun _ _ => rfl) rfl
  have k1_2 : ri_lk (ri_st1 (ri_as 0 [.ref 0, .int v0]) 2 (.int 24)) 2 = some (.int 24) := eh_self
  have k1_0 : ri_lk (ri_st1 (ri_as 0 [.ref 0, .int v0]) 2 (.int 24)) 0 = some (.ref 0) := eh_keep (by decide) (Or.inl rfl) rfl
  have k1_1 : ri_lk (ri_st1 (ri_as 0 [.ref 0, .int v0]) 2 (.int 24)) 1 = some (.int v0) := eh_keep (by decide) (Or.inl rfl) rfl
  have E := E.ld (p := 4) (t := ri_isI) (i := 2) (n := 1) (v := .int 24) rfl (e := (.iload_n 2, 1, [], .null)) rfl rfl (fun _ _ => rfl) k1_2 rfl
  have E := E.brf (p := 7) (c := 2) (tgt := 46) (a := 24) (b := 0) (st' := []) rfl (e := (.ifCond .lt 42, 3, [46], .null)) rfl rfl (fun _ _ => rfl) (by decide) rfl
  have E := E.ld (p := 8) (t := ri_isA) (i := 0) (n := 1) (v := .ref 0) rfl (e := (.aload_n 0, 1, [], .null)) rfl rfl (fun _ _ => rfl) k1_0 rfl
  have E := E.gi (y := eh_i G 0 1) (p := 11) rfl (x := 13) (m := 3) (w := .null) (t := 11) (i := 1) (u := 568) rfl rfl hV ty rfl rfl
  have E := E.pu (p := 14) (lo' := (ri_st1 (ri_as 0 [.ref 0, .int v0]) 2 (.int 24))) (st' := [.int 940, .int (eh_i G 0 1)]) rfl (e := (.sipush 940, 3, [], .null)) rfl rfl (fun _ _ => rfl)
  rcases eh_r3 rfl (show (940 : Int32).toInt = 940 by decide) (E.br (p := 17) (c := 3) (tgt := 46) (a := eh_i G 0 1) (b := 940) (st' := []) rfl (e := (.if_icmp .ge 32, 3, [46], .null)) rfl rfl (fun _ _ => rfl) rfl) with ⟨c2, E⟩ | ⟨c2, E⟩
  · skip
    obtain ⟨r1, r2⟩ := E.retv rfl (m := 1) (ax := []) (w := .null) rfl
    exact Or.inl ⟨c2, (by rw [← hrs, r1]; rfl), ((congrArg eh_V r2).trans hV), (congrArg eh_N r2)⟩
  · skip
    have E := E.ld (p := 18) (t := ri_isA) (i := 0) (n := 1) (v := .ref 0) rfl (e := (.aload_n 0, 1, [], .null)) rfl rfl (fun _ _ => rfl) k1_0 rfl
    have E := E.gr (n := 1) (p := 21) rfl (x := 9) (m := 3) (w := .null) (t := 11) (i := 0) (u := 567) rfl rfl hV ty rfl
    have E := E.ld (p := 22) (t := ri_isA) (i := 0) (n := 1) (v := .ref 0) rfl (e := (.aload_n 0, 1, [], .null)) rfl rfl (fun _ _ => rfl) k1_0 rfl
    have E := E.gi (y := eh_i G 0 1) (p := 25) rfl (x := 13) (m := 3) (w := .null) (t := 11) (i := 1) (u := 568) rfl rfl hV ty rfl rfl
    have E := E.ld (p := 26) (t := ri_isI) (i := 1) (n := 1) (v := .int v0) rfl (e := (.iload_n 1, 1, [], .null)) rfl rfl (fun _ _ => rfl) k1_1 rfl
    have E := E.ld (p := 27) (t := ri_isI) (i := 2) (n := 1) (v := .int 24) rfl (e := (.iload_n 2, 1, [], .null)) rfl rfl (fun _ _ => rfl) k1_2 rfl
    have E := E.pu (p := 28) (lo' := (ri_st1 (ri_as 0 [.ref 0, .int v0]) 2 (.int 24))) (st' := [.int ((v0.toUInt32 >>> ((24 : Int32).toUInt32 &&& Int32.toUInt32 31)).toInt32), .int (eh_i G 0 1), .ref 1]) rfl (e := (.iushr, 1, [], .null)) rfl rfl (fun _ _ => rfl)
    have E := E.pu (p := 29) (lo' := (ri_st1 (ri_as 0 [.ref 0, .int v0]) 2 (.int 24))) (st' := [.int (((v0.toUInt32 >>> ((24 : Int32).toUInt32 &&& Int32.toUInt32 31)).toInt32).toInt8.toInt32), .int (eh_i G 0 1), .ref 1]) rfl (e := (.i2b, 1, [], .null)) rfl rfl (fun _ _ => rfl)
    obtain ⟨h3, hV4, hN5, E⟩ := E.bw (p := 30) (n := (eh_i G 0 1).toNatClampNeg) rfl (m := 1) (ax := []) (w := .null) rfl rfl hV rfl
    have E := E.ld (p := 31) (t := ri_isA) (i := 0) (n := 1) (v := .ref 0) rfl (e := (.aload_n 0, 1, [], .null)) rfl rfl (fun _ _ => rfl) k1_0 rfl
    have E := E.pu (p := 32) (lo' := (ri_st1 (ri_as 0 [.ref 0, .int v0]) 2 (.int 24))) (st' := [.ref 0, .ref 0]) rfl (e := (.dup, 1, [], .null)) rfl rfl (fun _ _ => rfl)
    have E := E.gi (y := eh_i G 0 1) (p := 35) rfl (x := 13) (m := 3) (w := .null) (t := 11) (i := 1) (u := 568) rfl rfl hV4 (ty.ui rfl) rfl rfl
    have E := E.pu (p := 36) (lo' := (ri_st1 (ri_as 0 [.ref 0, .int v0]) 2 (.int 24))) (st' := [.int 1, .int (eh_i G 0 1), .ref 0]) rfl (e := (.iconst 1, 1, [], .null)) rfl rfl (fun _ _ => rfl)
    have E := E.pu (p := 37) (lo' := (ri_st1 (ri_as 0 [.ref 0, .int v0]) 2 (.int 24))) (st' := [.int ((eh_i G 0 1) + 1), .ref 0]) rfl (e := (.iadd, 1, [], .null)) rfl rfl (fun _ _ => rfl)
    obtain ⟨h6, hV7, hN8, E⟩ := E.gp (p := 40) rfl (x := 13) (m := 3) (w := .null) (t := 11) (i := 1) (u := 568) (y := 0) rfl rfl hV4
    have E := E.ii (p := 43) (y := 16) rfl (i := 2) (n := (-8)) (m := 3) (ax := []) (w := .null) rfl k1_2 (by decide) rfl
    have k9_2 : ri_lk (ri_st1 (ri_st1 (ri_as 0 [.ref 0, .int v0]) 2 (.int 24)) 2 (.int 16)) 2 = some (.int 16) := eh_self
    have k9_0 : ri_lk (ri_st1 (ri_st1 (ri_as 0 [.ref 0, .int v0]) 2 (.int 24)) 2 (.int 16)) 0 = some (.ref 0) := eh_keep (by decide) (Or.inl rfl) k1_0
    have k9_1 : ri_lk (ri_st1 (ri_st1 (ri_as 0 [.ref 0, .int v0]) 2 (.int 24)) 2 (.int 16)) 1 = some (.int v0) := eh_keep (by decide) (Or.inl rfl) k1_1
    have E := E.pu (p := 3) (lo' := (ri_st1 (ri_st1 (ri_as 0 [.ref 0, .int v0]) 2 (.int 24)) 2 (.int 16))) (st' := []) rfl (e := (.goto (-40), 3, [3], .null)) rfl rfl (fun _ _ => rfl)
    have E := E.ld (p := 4) (t := ri_isI) (i := 2) (n := 1) (v := .int 16) rfl (e := (.iload_n 2, 1, [], .null)) rfl rfl (fun _ _ => rfl) k9_2 rfl
    have E := E.brf (p := 7) (c := 2) (tgt := 46) (a := 16) (b := 0) (st' := []) rfl (e := (.ifCond .lt 42, 3, [46], .null)) rfl rfl (fun _ _ => rfl) (by decide) rfl
    have E := E.ld (p := 8) (t := ri_isA) (i := 0) (n := 1) (v := .ref 0) rfl (e := (.aload_n 0, 1, [], .null)) rfl rfl (fun _ _ => rfl) k9_0 rfl
    have E := E.gi (y := (eh_i G 0 1) + 1) (p := 11) rfl (x := 13) (m := 3) (w := .null) (t := 11) (i := 1) (u := 568) rfl rfl hV7 ((ty.ui rfl).ui rfl) rfl rfl
    have E := E.pu (p := 14) (lo' := (ri_st1 (ri_st1 (ri_as 0 [.ref 0, .int v0]) 2 (.int 24)) 2 (.int 16))) (st' := [.int 940, .int ((eh_i G 0 1) + 1)]) rfl (e := (.sipush 940, 3, [], .null)) rfl rfl (fun _ _ => rfl)
    rcases eh_r3 rfl (show (940 : Int32).toInt = 940 by decide) (E.br (p := 17) (c := 3) (tgt := 46) (a := (eh_i G 0 1) + 1) (b := 940) (st' := []) rfl (e := (.if_icmp .ge 32, 3, [46], .null)) rfl rfl (fun _ _ => rfl) rfl) with ⟨c10, E⟩ | ⟨c10, E⟩
    · skip
      obtain ⟨r1, r2⟩ := E.retv rfl (m := 1) (ax := []) (w := .null) rfl
      exact Or.inr (Or.inl ⟨c2, c10, (by rw [← hrs, r1]; rfl), ((congrArg eh_V r2).trans hV7), ((congrArg eh_N r2).trans (hN8.trans hN5))⟩)
    · skip
      have E := E.ld (p := 18) (t := ri_isA) (i := 0) (n := 1) (v := .ref 0) rfl (e := (.aload_n 0, 1, [], .null)) rfl rfl (fun _ _ => rfl) k9_0 rfl
      have E := E.gr (n := 1) (p := 21) rfl (x := 9) (m := 3) (w := .null) (t := 11) (i := 0) (u := 567) rfl rfl hV7 ((ty.ui rfl).ui rfl) rfl
      have E := E.ld (p := 22) (t := ri_isA) (i := 0) (n := 1) (v := .ref 0) rfl (e := (.aload_n 0, 1, [], .null)) rfl rfl (fun _ _ => rfl) k9_0 rfl
      have E := E.gi (y := (eh_i G 0 1) + 1) (p := 25) rfl (x := 13) (m := 3) (w := .null) (t := 11) (i := 1) (u := 568) rfl rfl hV7 ((ty.ui rfl).ui rfl) rfl rfl
      have E := E.ld (p := 26) (t := ri_isI) (i := 1) (n := 1) (v := .int v0) rfl (e := (.iload_n 1, 1, [], .null)) rfl rfl (fun _ _ => rfl) k9_1 rfl
      have E := E.ld (p := 27) (t := ri_isI) (i := 2) (n := 1) (v := .int 16) rfl (e := (.iload_n 2, 1, [], .null)) rfl rfl (fun _ _ => rfl) k9_2 rfl
      have E := E.pu (p := 28) (lo' := (ri_st1 (ri_st1 (ri_as 0 [.ref 0, .int v0]) 2 (.int 24)) 2 (.int 16))) (st' := [.int ((v0.toUInt32 >>> ((16 : Int32).toUInt32 &&& Int32.toUInt32 31)).toInt32), .int ((eh_i G 0 1) + 1), .ref 1]) rfl (e := (.iushr, 1, [], .null)) rfl rfl (fun _ _ => rfl)
      have E := E.pu (p := 29) (lo' := (ri_st1 (ri_st1 (ri_as 0 [.ref 0, .int v0]) 2 (.int 24)) 2 (.int 16))) (st' := [.int (((v0.toUInt32 >>> ((16 : Int32).toUInt32 &&& Int32.toUInt32 31)).toInt32).toInt8.toInt32), .int ((eh_i G 0 1) + 1), .ref 1]) rfl (e := (.i2b, 1, [], .null)) rfl rfl (fun _ _ => rfl)
      obtain ⟨h11, hV12, hN13, E⟩ := E.bw (p := 30) (n := ((eh_i G 0 1) + 1).toNatClampNeg) rfl (m := 1) (ax := []) (w := .null) rfl rfl hV7 rfl
      have E := E.ld (p := 31) (t := ri_isA) (i := 0) (n := 1) (v := .ref 0) rfl (e := (.aload_n 0, 1, [], .null)) rfl rfl (fun _ _ => rfl) k9_0 rfl
      have E := E.pu (p := 32) (lo' := (ri_st1 (ri_st1 (ri_as 0 [.ref 0, .int v0]) 2 (.int 24)) 2 (.int 16))) (st' := [.ref 0, .ref 0]) rfl (e := (.dup, 1, [], .null)) rfl rfl (fun _ _ => rfl)
      have E := E.gi (y := (eh_i G 0 1) + 1) (p := 35) rfl (x := 13) (m := 3) (w := .null) (t := 11) (i := 1) (u := 568) rfl rfl hV12 (((ty.ui rfl).ui rfl).ui rfl) rfl rfl
      have E := E.pu (p := 36) (lo' := (ri_st1 (ri_st1 (ri_as 0 [.ref 0, .int v0]) 2 (.int 24)) 2 (.int 16))) (st' := [.int 1, .int ((eh_i G 0 1) + 1), .ref 0]) rfl (e := (.iconst 1, 1, [], .null)) rfl rfl (fun _ _ => rfl)
      have E := E.pu (p := 37) (lo' := (ri_st1 (ri_st1 (ri_as 0 [.ref 0, .int v0]) 2 (.int 24)) 2 (.int 16))) (st' := [.int (((eh_i G 0 1) + 1) + 1), .ref 0]) rfl (e := (.iadd, 1, [], .null)) rfl rfl (fun _ _ => rfl)
      obtain ⟨h14, hV15, hN16, E⟩ := E.gp (p := 40) rfl (x := 13) (m := 3) (w := .null) (t := 11) (i := 1) (u := 568) (y := 0) rfl rfl hV12
      have E := E.ii (p := 43) (y := 8) rfl (i := 2) (n := (-8)) (m := 3) (ax := []) (w := .null) rfl k9_2 (by decide) rfl
      have k17_2 : ri_lk (ri_st1 (ri_st1 (ri_st1 (ri_as 0 [.ref 0, .int v0]) 2 (.int 24)) 2 (.int 16)) 2 (.int 8)) 2 = some (.int 8) := eh_self
      have k17_0 : ri_lk (ri_st1 (ri_st1 (ri_st1 (ri_as 0 [.ref 0, .int v0]) 2 (.int 24)) 2 (.int 16)) 2 (.int 8)) 0 = some (.ref 0) := eh_keep (by decide) (Or.inl rfl) k9_0
      have k17_1 : ri_lk (ri_st1 (ri_st1 (ri_st1 (ri_as 0 [.ref 0, .int v0]) 2 (.int 24)) 2 (.int 16)) 2 (.int 8)) 1 = some (.int v0) := eh_keep (by decide) (Or.inl rfl) k9_1
      have E := E.pu (p := 3) (lo' := (ri_st1 (ri_st1 (ri_st1 (ri_as 0 [.ref 0, .int v0]) 2 (.int 24)) 2 (.int 16)) 2 (.int 8))) (st' := []) rfl (e := (.goto (-40), 3, [3], .null)) rfl rfl (fun _ _ => rfl)
      have E := E.ld (p := 4) (t := ri_isI) (i := 2) (n := 1) (v := .int 8) rfl (e := (.iload_n 2, 1, [], .null)) rfl rfl (fun _ _ => rfl) k17_2 rfl
      have E := E.brf (p := 7) (c := 2) (tgt := 46) (a := 8) (b := 0) (st' := []) rfl (e := (.ifCond .lt 42, 3, [46], .null)) rfl rfl (fun _ _ => rfl) (by decide) rfl
      have E := E.ld (p := 8) (t := ri_isA) (i := 0) (n := 1) (v := .ref 0) rfl (e := (.aload_n 0, 1, [], .null)) rfl rfl (fun _ _ => rfl) k17_0 rfl
      have E := E.gi (y := ((eh_i G 0 1) + 1) + 1) (p := 11) rfl (x := 13) (m := 3) (w := .null) (t := 11) (i := 1) (u := 568) rfl rfl hV15 ((((ty.ui rfl).ui rfl).ui rfl).ui rfl) rfl rfl
      have E := E.pu (p := 14) (lo' := (ri_st1 (ri_st1 (ri_st1 (ri_as 0 [.ref 0, .int v0]) 2 (.int 24)) 2 (.int 16)) 2 (.int 8))) (st' := [.int 940, .int (((eh_i G 0 1) + 1) + 1)]) rfl (e := (.sipush 940, 3, [], .null)) rfl rfl (fun _ _ => rfl)
      rcases eh_r3 rfl (show (940 : Int32).toInt = 940 by decide) (E.br (p := 17) (c := 3) (tgt := 46) (a := ((eh_i G 0 1) + 1) + 1) (b := 940) (st' := []) rfl (e := (.if_icmp .ge 32, 3, [46], .null)) rfl rfl (fun _ _ => rfl) rfl) with ⟨c18, E⟩ | ⟨c18, E⟩
      · skip
        obtain ⟨r1, r2⟩ := E.retv rfl (m := 1) (ax := []) (w := .null) rfl
        exact Or.inr (Or.inr (Or.inl ⟨c2, c10, c18, (by rw [← hrs, r1]; rfl), ((congrArg eh_V r2).trans hV15), ((congrArg eh_N r2).trans (hN16.trans (hN13.trans (hN8.trans hN5))))⟩))
      · skip
        have E := E.ld (p := 18) (t := ri_isA) (i := 0) (n := 1) (v := .ref 0) rfl (e := (.aload_n 0, 1, [], .null)) rfl rfl (fun _ _ => rfl) k17_0 rfl
        have E := E.gr (n := 1) (p := 21) rfl (x := 9) (m := 3) (w := .null) (t := 11) (i := 0) (u := 567) rfl rfl hV15 ((((ty.ui rfl).ui rfl).ui rfl).ui rfl) rfl
        have E := E.ld (p := 22) (t := ri_isA) (i := 0) (n := 1) (v := .ref 0) rfl (e := (.aload_n 0, 1, [], .null)) rfl rfl (fun _ _ => rfl) k17_0 rfl
        have E := E.gi (y := ((eh_i G 0 1) + 1) + 1) (p := 25) rfl (x := 13) (m := 3) (w := .null) (t := 11) (i := 1) (u := 568) rfl rfl hV15 ((((ty.ui rfl).ui rfl).ui rfl).ui rfl) rfl rfl
        have E := E.ld (p := 26) (t := ri_isI) (i := 1) (n := 1) (v := .int v0) rfl (e := (.iload_n 1, 1, [], .null)) rfl rfl (fun _ _ => rfl) k17_1 rfl
        have E := E.ld (p := 27) (t := ri_isI) (i := 2) (n := 1) (v := .int 8) rfl (e := (.iload_n 2, 1, [], .null)) rfl rfl (fun _ _ => rfl) k17_2 rfl
        have E := E.pu (p := 28) (lo' := (ri_st1 (ri_st1 (ri_st1 (ri_as 0 [.ref 0, .int v0]) 2 (.int 24)) 2 (.int 16)) 2 (.int 8))) (st' := [.int ((v0.toUInt32 >>> ((8 : Int32).toUInt32 &&& Int32.toUInt32 31)).toInt32), .int (((eh_i G 0 1) + 1) + 1), .ref 1]) rfl (e := (.iushr, 1, [], .null)) rfl rfl (fun _ _ => rfl)
        have E := E.pu (p := 29) (lo' := (ri_st1 (ri_st1 (ri_st1 (ri_as 0 [.ref 0, .int v0]) 2 (.int 24)) 2 (.int 16)) 2 (.int 8))) (st' := [.int (((v0.toUInt32 >>> ((8 : Int32).toUInt32 &&& Int32.toUInt32 31)).toInt32).toInt8.toInt32), .int (((eh_i G 0 1) + 1) + 1), .ref 1]) rfl (e := (.i2b, 1, [], .null)) rfl rfl (fun _ _ => rfl)
        obtain ⟨h19, hV20, hN21, E⟩ := E.bw (p := 30) (n := (((eh_i G 0 1) + 1) + 1).toNatClampNeg) rfl (m := 1) (ax := []) (w := .null) rfl rfl hV15 rfl
        have E := E.ld (p := 31) (t := ri_isA) (i := 0) (n := 1) (v := .ref 0) rfl (e := (.aload_n 0, 1, [], .null)) rfl rfl (fun _ _ => rfl) k17_0 rfl
        have E := E.pu (p := 32) (lo' := (ri_st1 (ri_st1 (ri_st1 (ri_as 0 [.ref 0, .int v0]) 2 (.int 24)) 2 (.int 16)) 2 (.int 8))) (st' := [.ref 0, .ref 0]) rfl (e := (.dup, 1, [], .null)) rfl rfl (fun _ _ => rfl)
        have E := E.gi (y := ((eh_i G 0 1) + 1) + 1) (p := 35) rfl (x := 13) (m := 3) (w := .null) (t := 11) (i := 1) (u := 568) rfl rfl hV20 (((((ty.ui rfl).ui rfl).ui rfl).ui rfl).ui rfl) rfl rfl
        have E := E.pu (p := 36) (lo' := (ri_st1 (ri_st1 (ri_st1 (ri_as 0 [.ref 0, .int v0]) 2 (.int 24)) 2 (.int 16)) 2 (.int 8))) (st' := [.int 1, .int (((eh_i G 0 1) + 1) + 1), .ref 0]) rfl (e := (.iconst 1, 1, [], .null)) rfl rfl (fun _ _ => rfl)
        have E := E.pu (p := 37) (lo' := (ri_st1 (ri_st1 (ri_st1 (ri_as 0 [.ref 0, .int v0]) 2 (.int 24)) 2 (.int 16)) 2 (.int 8))) (st' := [.int ((((eh_i G 0 1) + 1) + 1) + 1), .ref 0]) rfl (e := (.iadd, 1, [], .null)) rfl rfl (fun _ _ => rfl)
        obtain ⟨h22, hV23, hN24, E⟩ := E.gp (p := 40) rfl (x := 13) (m := 3) (w := .null) (t := 11) (i := 1) (u := 568) (y := 0) rfl rfl hV20
        have E := E.ii (p := 43) (y := 0) rfl (i := 2) (n := (-8)) (m := 3) (ax := []) (w := .null) rfl k17_2 (by decide) rfl
        have k25_2 : ri_lk (ri_st1 (ri_st1 (ri_st1 (ri_st1 (ri_as 0 [.ref 0, .int v0]) 2 (.int 24)) 2 (.int 16)) 2 (.int 8)) 2 (.int 0)) 2 = some (.int 0) := eh_self
        have k25_0 : ri_lk (ri_st1 (ri_st1 (ri_st1 (ri_st1 (ri_as 0 [.ref 0, .int v0]) 2 (.int 24)) 2 (.int 16)) 2 (.int 8)) 2 (.int 0)) 0 = some (.ref 0) := eh_keep (by decide) (Or.inl rfl) k17_0
        have k25_1 : ri_lk (ri_st1 (ri_st1 (ri_st1 (ri_st1 (ri_as 0 [.ref 0, .int v0]) 2 (.int 24)) 2 (.int 16)) 2 (.int 8)) 2 (.int 0)) 1 = some (.int v0) := eh_keep (by decide) (Or.inl rfl) k17_1
        have E := E.pu (p := 3) (lo' := (ri_st1 (ri_st1 (ri_st1 (ri_st1 (ri_as 0 [.ref 0, .int v0]) 2 (.int 24)) 2 (.int 16)) 2 (.int 8)) 2 (.int 0))) (st' := []) rfl (e := (.goto (-40), 3, [3], .null)) rfl rfl (fun _ _ => rfl)
        have E := E.ld (p := 4) (t := ri_isI) (i := 2) (n := 1) (v := .int 0) rfl (e := (.iload_n 2, 1, [], .null)) rfl rfl (fun _ _ => rfl) k25_2 rfl
        have E := E.brf (p := 7) (c := 2) (tgt := 46) (a := 0) (b := 0) (st' := []) rfl (e := (.ifCond .lt 42, 3, [46], .null)) rfl rfl (fun _ _ => rfl) (by decide) rfl
        have E := E.ld (p := 8) (t := ri_isA) (i := 0) (n := 1) (v := .ref 0) rfl (e := (.aload_n 0, 1, [], .null)) rfl rfl (fun _ _ => rfl) k25_0 rfl
        have E := E.gi (y := (((eh_i G 0 1) + 1) + 1) + 1) (p := 11) rfl (x := 13) (m := 3) (w := .null) (t := 11) (i := 1) (u := 568) rfl rfl hV23 ((((((ty.ui rfl).ui rfl).ui rfl).ui rfl).ui rfl).ui rfl) rfl rfl
        have E := E.pu (p := 14) (lo' := (ri_st1 (ri_st1 (ri_st1 (ri_st1 (ri_as 0 [.ref 0, .int v0]) 2 (.int 24)) 2 (.int 16)) 2 (.int 8)) 2 (.int 0))) (st' := [.int 940, .int ((((eh_i G 0 1) + 1) + 1) + 1)]) rfl (e := (.sipush 940, 3, [], .null)) rfl rfl (fun _ _ => rfl)
        rcases eh_r3 rfl (show (940 : Int32).toInt = 940 by decide) (E.br (p := 17) (c := 3) (tgt := 46) (a := (((eh_i G 0 1) + 1) + 1) + 1) (b := 940) (st' := []) rfl (e := (.if_icmp .ge 32, 3, [46], .null)) rfl rfl (fun _ _ => rfl) rfl) with ⟨c26, E⟩ | ⟨c26, E⟩
        · skip
          obtain ⟨r1, r2⟩ := E.retv rfl (m := 1) (ax := []) (w := .null) rfl
          exact Or.inr (Or.inr (Or.inr (Or.inl ⟨c2, c10, c18, c26, (by rw [← hrs, r1]; rfl), ((congrArg eh_V r2).trans hV23), ((congrArg eh_N r2).trans (hN24.trans (hN21.trans (hN16.trans (hN13.trans (hN8.trans hN5))))))⟩)))
        · skip
          have E := E.ld (p := 18) (t := ri_isA) (i := 0) (n := 1) (v := .ref 0) rfl (e := (.aload_n 0, 1, [], .null)) rfl rfl (fun _ _ => rfl) k25_0 rfl
          have E := E.gr (n := 1) (p := 21) rfl (x := 9) (m := 3) (w := .null) (t := 11) (i := 0) (u := 567) rfl rfl hV23 ((((((ty.ui rfl).ui rfl).ui rfl).ui rfl).ui rfl).ui rfl) rfl
          have E := E.ld (p := 22) (t := ri_isA) (i := 0) (n := 1) (v := .ref 0) rfl (e := (.aload_n 0, 1, [], .null)) rfl rfl (fun _ _ => rfl) k25_0 rfl
          have E := E.gi (y := (((eh_i G 0 1) + 1) + 1) + 1) (p := 25) rfl (x := 13) (m := 3) (w := .null) (t := 11) (i := 1) (u := 568) rfl rfl hV23 ((((((ty.ui rfl).ui rfl).ui rfl).ui rfl).ui rfl).ui rfl) rfl rfl
          have E := E.ld (p := 26) (t := ri_isI) (i := 1) (n := 1) (v := .int v0) rfl (e := (.iload_n 1, 1, [], .null)) rfl rfl (fun _ _ => rfl) k25_1 rfl
          have E := E.ld (p := 27) (t := ri_isI) (i := 2) (n := 1) (v := .int 0) rfl (e := (.iload_n 2, 1, [], .null)) rfl rfl (fun _ _ => rfl) k25_2 rfl
          have E := E.pu (p := 28) (lo' := (ri_st1 (ri_st1 (ri_st1 (ri_st1 (ri_as 0 [.ref 0, .int v0]) 2 (.int 24)) 2 (.int 16)) 2 (.int 8)) 2 (.int 0))) (st' := [.int ((v0.toUInt32 >>> ((0 : Int32).toUInt32 &&& Int32.toUInt32 31)).toInt32), .int ((((eh_i G 0 1) + 1) + 1) + 1), .ref 1]) rfl (e := (.iushr, 1, [], .null)) rfl rfl (fun _ _ => rfl)
          have E := E.pu (p := 29) (lo' := (ri_st1 (ri_st1 (ri_st1 (ri_st1 (ri_as 0 [.ref 0, .int v0]) 2 (.int 24)) 2 (.int 16)) 2 (.int 8)) 2 (.int 0))) (st' := [.int (((v0.toUInt32 >>> ((0 : Int32).toUInt32 &&& Int32.toUInt32 31)).toInt32).toInt8.toInt32), .int ((((eh_i G 0 1) + 1) + 1) + 1), .ref 1]) rfl (e := (.i2b, 1, [], .null)) rfl rfl (fun _ _ => rfl)
          obtain ⟨h27, hV28, hN29, E⟩ := E.bw (p := 30) (n := ((((eh_i G 0 1) + 1) + 1) + 1).toNatClampNeg) rfl (m := 1) (ax := []) (w := .null) rfl rfl hV23 rfl
          have E := E.ld (p := 31) (t := ri_isA) (i := 0) (n := 1) (v := .ref 0) rfl (e := (.aload_n 0, 1, [], .null)) rfl rfl (fun _ _ => rfl) k25_0 rfl
          have E := E.pu (p := 32) (lo' := (ri_st1 (ri_st1 (ri_st1 (ri_st1 (ri_as 0 [.ref 0, .int v0]) 2 (.int 24)) 2 (.int 16)) 2 (.int 8)) 2 (.int 0))) (st' := [.ref 0, .ref 0]) rfl (e := (.dup, 1, [], .null)) rfl rfl (fun _ _ => rfl)
          have E := E.gi (y := (((eh_i G 0 1) + 1) + 1) + 1) (p := 35) rfl (x := 13) (m := 3) (w := .null) (t := 11) (i := 1) (u := 568) rfl rfl hV28 (((((((ty.ui rfl).ui rfl).ui rfl).ui rfl).ui rfl).ui rfl).ui rfl) rfl rfl
          have E := E.pu (p := 36) (lo' := (ri_st1 (ri_st1 (ri_st1 (ri_st1 (ri_as 0 [.ref 0, .int v0]) 2 (.int 24)) 2 (.int 16)) 2 (.int 8)) 2 (.int 0))) (st' := [.int 1, .int ((((eh_i G 0 1) + 1) + 1) + 1), .ref 0]) rfl (e := (.iconst 1, 1, [], .null)) rfl rfl (fun _ _ => rfl)
          have E := E.pu (p := 37) (lo' := (ri_st1 (ri_st1 (ri_st1 (ri_st1 (ri_as 0 [.ref 0, .int v0]) 2 (.int 24)) 2 (.int 16)) 2 (.int 8)) 2 (.int 0))) (st' := [.int (((((eh_i G 0 1) + 1) + 1) + 1) + 1), .ref 0]) rfl (e := (.iadd, 1, [], .null)) rfl rfl (fun _ _ => rfl)
          obtain ⟨h30, hV31, hN32, E⟩ := E.gp (p := 40) rfl (x := 13) (m := 3) (w := .null) (t := 11) (i := 1) (u := 568) (y := 0) rfl rfl hV28
          have E := E.ii (p := 43) (y := (-8)) rfl (i := 2) (n := (-8)) (m := 3) (ax := []) (w := .null) rfl k25_2 (by decide) rfl
          have k33_2 : ri_lk (ri_st1 (ri_st1 (ri_st1 (ri_st1 (ri_st1 (ri_as 0 [.ref 0, .int v0]) 2 (.int 24)) 2 (.int 16)) 2 (.int 8)) 2 (.int 0)) 2 (.int (-8))) 2 = some (.int (-8)) := eh_self
          have k33_0 : ri_lk (ri_st1 (ri_st1 (ri_st1 (ri_st1 (ri_st1 (ri_as 0 [.ref 0, .int v0]) 2 (.int 24)) 2 (.int 16)) 2 (.int 8)) 2 (.int 0)) 2 (.int (-8))) 0 = some (.ref 0) := eh_keep (by decide) (Or.inl rfl) k25_0
          have k33_1 : ri_lk (ri_st1 (ri_st1 (ri_st1 (ri_st1 (ri_st1 (ri_as 0 [.ref 0, .int v0]) 2 (.int 24)) 2 (.int 16)) 2 (.int 8)) 2 (.int 0)) 2 (.int (-8))) 1 = some (.int v0) := eh_keep (by decide) (Or.inl rfl) k25_1
          have E := E.pu (p := 3) (lo' := (ri_st1 (ri_st1 (ri_st1 (ri_st1 (ri_st1 (ri_as 0 [.ref 0, .int v0]) 2 (.int 24)) 2 (.int 16)) 2 (.int 8)) 2 (.int 0)) 2 (.int (-8)))) (st' := []) rfl (e := (.goto (-40), 3, [3], .null)) rfl rfl (fun _ _ => rfl)
          have E := E.ld (p := 4) (t := ri_isI) (i := 2) (n := 1) (v := .int (-8)) rfl (e := (.iload_n 2, 1, [], .null)) rfl rfl (fun _ _ => rfl) k33_2 rfl
          have E := E.brt (c := 2) (tgt := 46) (a := (-8)) (b := 0) (st' := []) rfl (e := (.ifCond .lt 42, 3, [46], .null)) rfl rfl (fun _ _ => rfl) (by decide)
          obtain ⟨r1, r2⟩ := E.retv rfl (m := 1) (ax := []) (w := .null) rfl
          exact Or.inr (Or.inr (Or.inr (Or.inr (⟨c2, c10, c18, c26, (by rw [← hrs, r1]; rfl), ((congrArg eh_V r2).trans hV31), ((congrArg eh_N r2).trans (hN32.trans (hN29.trans (hN24.trans (hN21.trans (hN16.trans (hN13.trans (hN8.trans hN5))))))))⟩))))
theorem sp_146 {d : Nat} {h h' : ri_H} {v : Option Value} {G : eh_W} {v0 : Int32} (E : ri_calE ri_md (d + 1) 146 [.ref 0, .int v0] h = some (v, h')) (hV : eh_V h = G) (ty : eh_ty tM G) : v = none ∧ eh_V h' = eh_u (eh_u (eh_u (eh_u (eh_u (eh_u (eh_u (eh_u G 1 (eh_i G 0 2).toNatClampNeg (.int (((v0 >>> (24 &&& 31)).toInt8.toInt32).toInt8.toInt32))) 0 2 (.int ((eh_i G 0 2) + 1))) 1 ((eh_i G 0 2) + 1).toNatClampNeg (.int (((v0 >>> (16 &&& 31)).toInt8.toInt32).toInt8.toInt32))) 0 2 (.int (((eh_i G 0 2) + 1) + 1))) 1 (((eh_i G 0 2) + 1) + 1).toNatClampNeg (.int (((v0 >>> (8 &&& 31)).toInt8.toInt32).toInt8.toInt32))) 0 2 (.int ((((eh_i G 0 2) + 1) + 1) + 1))) 1 ((((eh_i G 0 2) + 1) + 1) + 1).toNatClampNeg (.int (((v0 >>> (0 &&& 31)).toInt8.toInt32).toInt8.toInt32))) 0 2 (.int (((((eh_i G 0 2) + 1) + 1) + 1) + 1)) ∧ eh_N h' = eh_N h := by
  obtain ⟨rs, hrs, E⟩ := eh_in E (q := md_146) rfl
  have E := E.pu (p := 2) (lo' := (ri_as 0 [.ref 0, .int v0])) (st' := [.int 24]) rfl (e := (.bipush 24, 2, [], .null)) rfl rfl (fun _ _ => rfl)
  have E := E.so (p := 3) (t := ri_isI) (i := 2) (n := 1) rfl (e := (.istore_n 2, 1, [], .null)) rfl rfl (fun _ _ => rfl) rfl
  have k1_2 : ri_lk (ri_st1 (ri_as 0 [.ref 0, .int v0]) 2 (.int 24)) 2 = some (.int 24) := eh_self
  have k1_0 : ri_lk (ri_st1 (ri_as 0 [.ref 0, .int v0]) 2 (.int 24)) 0 = some (.ref 0) := eh_keep (by decide) (Or.inl rfl) rfl
  have k1_1 : ri_lk (ri_st1 (ri_as 0 [.ref 0, .int v0]) 2 (.int 24)) 1 = some (.int v0) := eh_keep (by decide) (Or.inl rfl) rfl
  have E := E.ld (p := 4) (t := ri_isI) (i := 2) (n := 1) (v := .int 24) rfl (e := (.iload_n 2, 1, [], .null)) rfl rfl (fun _ _ => rfl) k1_2 rfl
  have E := E.brf (p := 7) (c := 2) (tgt := 36) (a := 24) (b := 0) (st' := []) rfl (e := (.ifCond .lt 32, 3, [36], .null)) rfl rfl (fun _ _ => rfl) (by decide) rfl
  have E := E.ld (p := 8) (t := ri_isA) (i := 0) (n := 1) (v := .ref 0) rfl (e := (.aload_n 0, 1, [], .null)) rfl rfl (fun _ _ => rfl) k1_0 rfl
  have E := E.gr (n := 1) (p := 11) rfl (x := 14) (m := 3) (w := .null) (t := 12) (i := 1) (u := 1325) rfl rfl hV ty rfl
  have E := E.ld (p := 12) (t := ri_isA) (i := 0) (n := 1) (v := .ref 0) rfl (e := (.aload_n 0, 1, [], .null)) rfl rfl (fun _ _ => rfl) k1_0 rfl
  have E := E.gi (y := eh_i G 0 2) (p := 15) rfl (x := 7) (m := 3) (w := .null) (t := 12) (i := 2) (u := 1326) rfl rfl hV ty rfl rfl
  have E := E.ld (p := 16) (t := ri_isI) (i := 1) (n := 1) (v := .int v0) rfl (e := (.iload_n 1, 1, [], .null)) rfl rfl (fun _ _ => rfl) k1_1 rfl
  have E := E.ld (p := 17) (t := ri_isI) (i := 2) (n := 1) (v := .int 24) rfl (e := (.iload_n 2, 1, [], .null)) rfl rfl (fun _ _ => rfl) k1_2 rfl
  have E := E.pu (p := 18) (lo' := (ri_st1 (ri_as 0 [.ref 0, .int v0]) 2 (.int 24))) (st' := [.int (v0 >>> (24 &&& 31)), .int (eh_i G 0 2), .ref 1]) rfl (e := (.ishr, 1, [], .null)) rfl rfl (fun _ _ => rfl)
  have E := E.pu (p := 19) (lo' := (ri_st1 (ri_as 0 [.ref 0, .int v0]) 2 (.int 24))) (st' := [.int ((v0 >>> (24 &&& 31)).toInt8.toInt32), .int (eh_i G 0 2), .ref 1]) rfl (e := (.i2b, 1, [], .null)) rfl rfl (fun _ _ => rfl)
  obtain ⟨h2, hV3, hN4, E⟩ := E.bw (p := 20) (n := (eh_i G 0 2).toNatClampNeg) rfl (m := 1) (ax := []) (w := .null) rfl rfl hV rfl
  have E := E.ld (p := 21) (t := ri_isA) (i := 0) (n := 1) (v := .ref 0) rfl (e := (.aload_n 0, 1, [], .null)) rfl rfl (fun _ _ => rfl) k1_0 rfl
  have E := E.pu (p := 22) (lo' := (ri_st1 (ri_as 0 [.ref 0, .int v0]) 2 (.int 24))) (st' := [.ref 0, .ref 0]) rfl (e := (.dup, 1, [], .null)) rfl rfl (fun _ _ => rfl)
  have E := E.gi (y := eh_i G 0 2) (p := 25) rfl (x := 7) (m := 3) (w := .null) (t := 12) (i := 2) (u := 1326) rfl rfl hV3 (ty.ui rfl) rfl rfl
  have E := E.pu (p := 26) (lo' := (ri_st1 (ri_as 0 [.ref 0, .int v0]) 2 (.int 24))) (st' := [.int 1, .int (eh_i G 0 2), .ref 0]) rfl (e := (.iconst 1, 1, [], .null)) rfl rfl (fun _ _ => rfl)
  have E := E.pu (p := 27) (lo' := (ri_st1 (ri_as 0 [.ref 0, .int v0]) 2 (.int 24))) (st' := [.int ((eh_i G 0 2) + 1), .ref 0]) rfl (e := (.iadd, 1, [], .null)) rfl rfl (fun _ _ => rfl)
  obtain ⟨h5, hV6, hN7, E⟩ := E.gp (p := 30) rfl (x := 7) (m := 3) (w := .null) (t := 12) (i := 2) (u := 1326) (y := 0) rfl rfl hV3
  have E := E.ii (p := 33) (y := 16) rfl (i := 2) (n := (-8)) (m := 3) (ax := []) (w := .null) rfl k1_2 (by decide) rfl
  have k8_2 : ri_lk (ri_st1 (ri_st1 (ri_as 0 [.ref 0, .int v0]) 2 (.int 24)) 2 (.int 16)) 2 = some (.int 16) := eh_self
  have k8_0 : ri_lk (ri_st1 (ri_st1 (ri_as 0 [.ref 0, .int v0]) 2 (.int 24)) 2 (.int 16)) 0 = some (.ref 0) := eh_keep (by decide) (Or.inl rfl) k1_0
  have k8_1 : ri_lk (ri_st1 (ri_st1 (ri_as 0 [.ref 0, .int v0]) 2 (.int 24)) 2 (.int 16)) 1 = some (.int v0) := eh_keep (by decide) (Or.inl rfl) k1_1
  have E := E.pu (p := 3) (lo' := (ri_st1 (ri_st1 (ri_as 0 [.ref 0, .int v0]) 2 (.int 24)) 2 (.int 16))) (st' := []) rfl (e := (.goto (-30), 3, [3], .null)) rfl rfl (fun _ _ => rfl)
  have E := E.ld (p := 4) (t := ri_isI) (i := 2) (n := 1) (v := .int 16) rfl (e := (.iload_n 2, 1, [], .null)) rfl rfl (fun _ _ => rfl) k8_2 rfl
  have E := E.brf (p := 7) (c := 2) (tgt := 36) (a := 16) (b := 0) (st' := []) rfl (e := (.ifCond .lt 32, 3, [36], .null)) rfl rfl (fun _ _ => rfl) (by decide) rfl
  have E := E.ld (p := 8) (t := ri_isA) (i := 0) (n := 1) (v := .ref 0) rfl (e := (.aload_n 0, 1, [], .null)) rfl rfl (fun _ _ => rfl) k8_0 rfl
  have E := E.gr (n := 1) (p := 11) rfl (x := 14) (m := 3) (w := .null) (t := 12) (i := 1) (u := 1325) rfl rfl hV6 ((ty.ui rfl).ui rfl) rfl
  have E := E.ld (p := 12) (t := ri_isA) (i := 0) (n := 1) (v := .ref 0) rfl (e := (.aload_n 0, 1, [], .null)) rfl rfl (fun _ _ => rfl) k8_0 rfl
  have E := E.gi (y := (eh_i G 0 2) + 1) (p := 15) rfl (x := 7) (m := 3) (w := .null) (t := 12) (i := 2) (u := 1326) rfl rfl hV6 ((ty.ui rfl).ui rfl) rfl rfl
  have E := E.ld (p := 16) (t := ri_isI) (i := 1) (n := 1) (v := .int v0) rfl (e := (.iload_n 1, 1, [], .null)) rfl rfl (fun _ _ => rfl) k8_1 rfl
  have E := E.ld (p := 17) (t := ri_isI) (i := 2) (n := 1) (v := .int 16) rfl (e := (.iload_n 2, 1, [], .null)) rfl rfl (fun _ _ => rfl) k8_2 rfl
  have E := E.pu (p := 18) (lo' := (ri_st1 (ri_st1 (ri_as 0 [.ref 0, .int v0]) 2 (.int 24)) 2 (.int 16))) (st' := [.int (v0 >>> (16 &&& 31)), .int ((eh_i G 0 2) + 1), .ref 1]) rfl (e := (.ishr, 1, [], .null)) rfl rfl (fun _ _ => rfl)
  have E := E.pu (p := 19) (lo' := (ri_st1 (ri_st1 (ri_as 0 [.ref 0, .int v0]) 2 (.int 24)) 2 (.int 16))) (st' := [.int ((v0 >>> (16 &&& 31)).toInt8.toInt32), .int ((eh_i G 0 2) + 1), .ref 1]) rfl (e := (.i2b, 1, [], .null)) rfl rfl (fun _ _ => rfl)
  obtain ⟨h9, hV10, hN11, E⟩ := E.bw (p := 20) (n := ((eh_i G 0 2) + 1).toNatClampNeg) rfl (m := 1) (ax := []) (w := .null) rfl rfl hV6 rfl
  have E := E.ld (p := 21) (t := ri_isA) (i := 0) (n := 1) (v := .ref 0) rfl (e := (.aload_n 0, 1, [], .null)) rfl rfl (fun _ _ => rfl) k8_0 rfl
  have E := E.pu (p := 22) (lo' := (ri_st1 (ri_st1 (ri_as 0 [.ref 0, .int v0]) 2 (.int 24)) 2 (.int 16))) (st' := [.ref 0, .ref 0]) rfl (e := (.dup, 1, [], .null)) rfl rfl (fun _ _ => rfl)
  have E := E.gi (y := (eh_i G 0 2) + 1) (p := 25) rfl (x := 7) (m := 3) (w := .null) (t := 12) (i := 2) (u := 1326) rfl rfl hV10 (((ty.ui rfl).ui rfl).ui rfl) rfl rfl
  have E := E.pu (p := 26) (lo' := (ri_st1 (ri_st1 (ri_as 0 [.ref 0, .int v0]) 2 (.int 24)) 2 (.int 16))) (st' := [.int 1, .int ((eh_i G 0 2) + 1), .ref 0]) rfl (e := (.iconst 1, 1, [], .null)) rfl rfl (fun _ _ => rfl)
  have E := E.pu (p := 27) (lo' := (ri_st1 (ri_st1 (ri_as 0 [.ref 0, .int v0]) 2 (.int 24)) 2 (.int 16))) (st' := [.int (((eh_i G 0 2) + 1) + 1), .ref 0]) rfl (e := (.iadd, 1, [], .null)) rfl rfl (fun _ _ => rfl)
  obtain ⟨h12, hV13, hN14, E⟩ := E.gp (p := 30) rfl (x := 7) (m := 3) (w := .null) (t := 12) (i := 2) (u := 1326) (y := 0) rfl rfl hV10
  have E := E.ii (p := 33) (y := 8) rfl (i := 2) (n := (-8)) (m := 3) (ax := []) (w := .null) rfl k8_2 (by decide) rfl
  have k15_2 : ri_lk (ri_st1 (ri_st1 (ri_st1 (ri_as 0 [.ref 0, .int v0]) 2 (.int 24)) 2 (.int 16)) 2 (.int 8)) 2 = some (.int 8) := eh_self
  have k15_0 : ri_lk (ri_st1 (ri_st1 (ri_st1 (ri_as 0 [.ref 0, .int v0]) 2 (.int 24)) 2 (.int 16)) 2 (.int 8)) 0 = some (.ref 0) := eh_keep (by decide) (Or.inl rfl) k8_0
  have k15_1 : ri_lk (ri_st1 (ri_st1 (ri_st1 (ri_as 0 [.ref 0, .int v0]) 2 (.int 24)) 2 (.int 16)) 2 (.int 8)) 1 = some (.int v0) := eh_keep (by decide) (Or.inl rfl) k8_1
  have E := E.pu (p := 3) (lo' := (ri_st1 (ri_st1 (ri_st1 (ri_as 0 [.ref 0, .int v0]) 2 (.int 24)) 2 (.int 16)) 2 (.int 8))) (st' := []) rfl (e := (.goto (-30), 3, [3], .null)) rfl rfl (fun _ _ => rfl)
  have E := E.ld (p := 4) (t := ri_isI) (i := 2) (n := 1) (v := .int 8) rfl (e := (.iload_n 2, 1, [], .null)) rfl rfl (fun _ _ => rfl) k15_2 rfl
  have E := E.brf (p := 7) (c := 2) (tgt := 36) (a := 8) (b := 0) (st' := []) rfl (e := (.ifCond .lt 32, 3, [36], .null)) rfl rfl (fun _ _ => rfl) (by decide) rfl
  have E := E.ld (p := 8) (t := ri_isA) (i := 0) (n := 1) (v := .ref 0) rfl (e := (.aload_n 0, 1, [], .null)) rfl rfl (fun _ _ => rfl) k15_0 rfl
  have E := E.gr (n := 1) (p := 11) rfl (x := 14) (m := 3) (w := .null) (t := 12) (i := 1) (u := 1325) rfl rfl hV13 ((((ty.ui rfl).ui rfl).ui rfl).ui rfl) rfl
  have E := E.ld (p := 12) (t := ri_isA) (i := 0) (n := 1) (v := .ref 0) rfl (e := (.aload_n 0, 1, [], .null)) rfl rfl (fun _ _ => rfl) k15_0 rfl
  have E := E.gi (y := ((eh_i G 0 2) + 1) + 1) (p := 15) rfl (x := 7) (m := 3) (w := .null) (t := 12) (i := 2) (u := 1326) rfl rfl hV13 ((((ty.ui rfl).ui rfl).ui rfl).ui rfl) rfl rfl
  have E := E.ld (p := 16) (t := ri_isI) (i := 1) (n := 1) (v := .int v0) rfl (e := (.iload_n 1, 1, [], .null)) rfl rfl (fun _ _ => rfl) k15_1 rfl
  have E := E.ld (p := 17) (t := ri_isI) (i := 2) (n := 1) (v := .int 8) rfl (e := (.iload_n 2, 1, [], .null)) rfl rfl (fun _ _ => rfl) k15_2 rfl
  have E := E.pu (p := 18) (lo' := (ri_st1 (ri_st1 (ri_st1 (ri_as 0 [.ref 0, .int v0]) 2 (.int 24)) 2 (.int 16)) 2 (.int 8))) (st' := [.int (v0 >>> (8 &&& 31)), .int (((eh_i G 0 2) + 1) + 1), .ref 1]) rfl (e := (.ishr, 1, [], .null)) rfl rfl (fun _ _ => rfl)
  have E := E.pu (p := 19) (lo' := (ri_st1 (ri_st1 (ri_st1 (ri_as 0 [.ref 0, .int v0]) 2 (.int 24)) 2 (.int 16)) 2 (.int 8))) (st' := [.int ((v0 >>> (8 &&& 31)).toInt8.toInt32), .int (((eh_i G 0 2) + 1) + 1), .ref 1]) rfl (e := (.i2b, 1, [], .null)) rfl rfl (fun _ _ => rfl)
  obtain ⟨h16, hV17, hN18, E⟩ := E.bw (p := 20) (n := (((eh_i G 0 2) + 1) + 1).toNatClampNeg) rfl (m := 1) (ax := []) (w := .null) rfl rfl hV13 rfl
  have E := E.ld (p := 21) (t := ri_isA) (i := 0) (n := 1) (v := .ref 0) rfl (e := (.aload_n 0, 1, [], .null)) rfl rfl (fun _ _ => rfl) k15_0 rfl
  have E := E.pu (p := 22) (lo' := (ri_st1 (ri_st1 (ri_st1 (ri_as 0 [.ref 0, .int v0]) 2 (.int 24)) 2 (.int 16)) 2 (.int 8))) (st' := [.ref 0, .ref 0]) rfl (e := (.dup, 1, [], .null)) rfl rfl (fun _ _ => rfl)
  have E := E.gi (y := ((eh_i G 0 2) + 1) + 1) (p := 25) rfl (x := 7) (m := 3) (w := .null) (t := 12) (i := 2) (u := 1326) rfl rfl hV17 (((((ty.ui rfl).ui rfl).ui rfl).ui rfl).ui rfl) rfl rfl
  have E := E.pu (p := 26) (lo' := (ri_st1 (ri_st1 (ri_st1 (ri_as 0 [.ref 0, .int v0]) 2 (.int 24)) 2 (.int 16)) 2 (.int 8))) (st' := [.int 1, .int (((eh_i G 0 2) + 1) + 1), .ref 0]) rfl (e := (.iconst 1, 1, [], .null)) rfl rfl (fun _ _ => rfl)
  have E := E.pu (p := 27) (lo' := (ri_st1 (ri_st1 (ri_st1 (ri_as 0 [.ref 0, .int v0]) 2 (.int 24)) 2 (.int 16)) 2 (.int 8))) (st' := [.int ((((eh_i G 0 2) + 1) + 1) + 1), .ref 0]) rfl (e := (.iadd, 1, [], .null)) rfl rfl (fun _ _ => rfl)
  obtain ⟨h19, hV20, hN21, E⟩ := E.gp (p := 30) rfl (x := 7) (m := 3) (w := .null) (t := 12) (i := 2) (u := 1326) (y := 0) rfl rfl hV17
  have E := E.ii (p := 33) (y := 0) rfl (i := 2) (n := (-8)) (m := 3) (ax := []) (w := .null) rfl k15_2 (by decide) rfl
  have k22_2 : ri_lk (ri_st1 (ri_st1 (ri_st1 (ri_st1 (ri_as 0 [.ref 0, .int v0]) 2 (.int 24)) 2 (.int 16)) 2 (.int 8)) 2 (.int 0)) 2 = some (.int 0) := eh_self
  have k22_0 : ri_lk (ri_st1 (ri_st1 (ri_st1 (ri_st1 (ri_as 0 [.ref 0, .int v0]) 2 (.int 24)) 2 (.int 16)) 2 (.int 8)) 2 (.int 0)) 0 = some (.ref 0) := eh_keep (by decide) (Or.inl rfl) k15_0
  have k22_1 : ri_lk (ri_st1 (ri_st1 (ri_st1 (ri_st1 (ri_as 0 [.ref 0, .int v0]) 2 (.int 24)) 2 (.int 16)) 2 (.int 8)) 2 (.int 0)) 1 = some (.int v0) := eh_keep (by decide) (Or.inl rfl) k15_1
  have E := E.pu (p := 3) (lo' := (ri_st1 (ri_st1 (ri_st1 (ri_st1 (ri_as 0 [.ref 0, .int v0]) 2 (.int 24)) 2 (.int 16)) 2 (.int 8)) 2 (.int 0))) (st' := []) rfl (e := (.goto (-30), 3, [3], .null)) rfl rfl (fun _ _ => rfl)
  have E := E.ld (p := 4) (t := ri_isI) (i := 2) (n := 1) (v := .int 0) rfl (e := (.iload_n 2, 1, [], .null)) rfl rfl (fun _ _ => rfl) k22_2 rfl
  have E := E.brf (p := 7) (c := 2) (tgt := 36) (a := 0) (b := 0) (st' := []) rfl (e := (.ifCond .lt 32, 3, [36], .null)) rfl rfl (fun _ _ => rfl) (by decide) rfl
  have E := E.ld (p := 8) (t := ri_isA) (i := 0) (n := 1) (v := .ref 0) rfl (e := (.aload_n 0, 1, [], .null)) rfl rfl (fun _ _ => rfl) k22_0 rfl
  have E := E.gr (n := 1) (p := 11) rfl (x := 14) (m := 3) (w := .null) (t := 12) (i := 1) (u := 1325) rfl rfl hV20 ((((((ty.ui rfl).ui rfl).ui rfl).ui rfl).ui rfl).ui rfl) rfl
  have E := E.ld (p := 12) (t := ri_isA) (i := 0) (n := 1) (v := .ref 0) rfl (e := (.aload_n 0, 1, [], .null)) rfl rfl (fun _ _ => rfl) k22_0 rfl
  have E := E.gi (y := (((eh_i G 0 2) + 1) + 1) + 1) (p := 15) rfl (x := 7) (m := 3) (w := .null) (t := 12) (i := 2) (u := 1326) rfl rfl hV20 ((((((ty.ui rfl).ui rfl).ui rfl).ui rfl).ui rfl).ui rfl) rfl rfl
  have E := E.ld (p := 16) (t := ri_isI) (i := 1) (n := 1) (v := .int v0) rfl (e := (.iload_n 1, 1, [], .null)) rfl rfl (fun _ _ => rfl) k22_1 rfl
  have E := E.ld (p := 17) (t := ri_isI) (i := 2) (n := 1) (v := .int 0) rfl (e := (.iload_n 2, 1, [], .null)) rfl rfl (fun _ _ => rfl) k22_2 rfl
  have E := E.pu (p := 18) (lo' := (ri_st1 (ri_st1 (ri_st1 (ri_st1 (ri_as 0 [.ref 0, .int v0]) 2 (.int 24)) 2 (.int 16)) 2 (.int 8)) 2 (.int 0))) (st' := [.int (v0 >>> (0 &&& 31)), .int ((((eh_i G 0 2) + 1) + 1) + 1), .ref 1]) rfl (e := (.ishr, 1, [], .null)) rfl rfl (fun _ _ => rfl)
  have E := E.pu (p := 19) (lo' := (ri_st1 (ri_st1 (ri_st1 (ri_st1 (ri_as 0 [.ref 0, .int v0]) 2 (.int 24)) 2 (.int 16)) 2 (.int 8)) 2 (.int 0))) (st' := [.int ((v0 >>> (0 &&& 31)).toInt8.toInt32), .int ((((eh_i G 0 2) + 1) + 1) + 1), .ref 1]) rfl (e := (.i2b, 1, [], .null)) rfl rfl (fun _ _ => rfl)
  obtain ⟨h23, hV24, hN25, E⟩ := E.bw (p := 20) (n := ((((eh_i G 0 2) + 1) + 1) + 1).toNatClampNeg) rfl (m := 1) (ax := []) (w := .null) rfl rfl hV20 rfl
  have E := E.ld (p := 21) (t := ri_isA) (i := 0) (n := 1) (v := .ref 0) rfl (e := (.aload_n 0, 1, [], .null)) rfl rfl (fun _ _ => rfl) k22_0 rfl
  have E := E.pu (p := 22) (lo' := (ri_st1 (ri_st1 (ri_st1 (ri_st1 (ri_as 0 [.ref 0, .int v0]) 2 (.int 24)) 2 (.int 16)) 2 (.int 8)) 2 (.int 0))) (st' := [.ref 0, .ref 0]) rfl (e := (.dup, 1, [], .null)) rfl rfl (fun _ _ => rfl)
  have E := E.gi (y := (((eh_i G 0 2) + 1) + 1) + 1) (p := 25) rfl (x := 7) (m := 3) (w := .null) (t := 12) (i := 2) (u := 1326) rfl rfl hV24 (((((((ty.ui rfl).ui rfl).ui rfl).ui rfl).ui rfl).ui rfl).ui rfl) rfl rfl
  have E := E.pu (p := 26) (lo' := (ri_st1 (ri_st1 (ri_st1 (ri_st1 (ri_as 0 [.ref 0, .int v0]) 2 (.int 24)) 2 (.int 16)) 2 (.int 8)) 2 (.int 0))) (st' := [.int 1, .int ((((eh_i G 0 2) + 1) + 1) + 1), .ref 0]) rfl (e := (.iconst 1, 1, [], .null)) rfl rfl (fun _ _ => rfl)
  have E := E.pu (p := 27) (lo' := (ri_st1 (ri_st1 (ri_st1 (ri_st1 (ri_as 0 [.ref 0, .int v0]) 2 (.int 24)) 2 (.int 16)) 2 (.int 8)) 2 (.int 0))) (st' := [.int (((((eh_i G 0 2) + 1) + 1) + 1) + 1), .ref 0]) rfl (e := (.iadd, 1, [], .null)) rfl rfl (fun _ _ => rfl)
  obtain ⟨h26, hV27, hN28, E⟩ := E.gp (p := 30) rfl (x := 7) (m := 3) (w := .null) (t := 12) (i := 2) (u := 1326) (y := 0) rfl rfl hV24
  have E := E.ii (p := 33) (y := (-8)) rfl (i := 2) (n := (-8)) (m := 3) (ax := []) (w := .null) rfl k22_2 (by decide) rfl
  have k29_2 : ri_lk (ri_st1 (ri_st1 (ri_st1 (ri_st1 (ri_st1 (ri_as 0 [.ref 0, .int v0]) 2 (.int 24)) 2 (.int 16)) 2 (.int 8)) 2 (.int 0)) 2 (.int (-8))) 2 = some (.int (-8)) := eh_self
  have k29_0 : ri_lk (ri_st1 (ri_st1 (ri_st1 (ri_st1 (ri_st1 (ri_as 0 [.ref 0, .int v0]) 2 (.int 24)) 2 (.int 16)) 2 (.int 8)) 2 (.int 0)) 2 (.int (-8))) 0 = some (.ref 0) := eh_keep (by decide) (Or.inl rfl) k22_0
  have k29_1 : ri_lk (ri_st1 (ri_st1 (ri_st1 (ri_st1 (ri_st1 (ri_as 0 [.ref 0, .int v0]) 2 (.int 24)) 2 (.int 16)) 2 (.int 8)) 2 (.int 0)) 2 (.int (-8))) 1 = some (.int v0) := eh_keep (by decide) (Or.inl rfl) k22_1
  have E := E.pu (p := 3) (lo' := (ri_st1 (ri_st1 (ri_st1 (ri_st1 (ri_st1 (ri_as 0 [.ref 0, .int v0]) 2 (.int 24)) 2 (.int 16)) 2 (.int 8)) 2 (.int 0)) 2 (.int (-8)))) (st' := []) rfl (e := (.goto (-30), 3, [3], .null)) rfl rfl (fun _ _ => rfl)
  have E := E.ld (p := 4) (t := ri_isI) (i := 2) (n := 1) (v := .int (-8)) rfl (e := (.iload_n 2, 1, [], .null)) rfl rfl (fun _ _ => rfl) k29_2 rfl
  have E := E.brt (c := 2) (tgt := 36) (a := (-8)) (b := 0) (st' := []) rfl (e := (.ifCond .lt 32, 3, [36], .null)) rfl rfl (fun _ _ => rfl) (by decide)
  obtain ⟨r1, r2⟩ := E.retv rfl (m := 1) (ax := []) (w := .null) rfl
  exact ⟨(by rw [← hrs, r1]; rfl), ((congrArg eh_V r2).trans hV27), ((congrArg eh_N r2).trans (hN28.trans (hN25.trans (hN21.trans (hN18.trans (hN14.trans (hN11.trans (hN7.trans hN4))))))))⟩
