theorem xb_32 {d : Nat} {h h' : ri_H} {v : Option Value} {G : eh_W} {x0 x1 : Int32} (E : ri_calE ri_md (d + 1) 32 [.int x0, .int x1] h = some (v, h')) (hV : eh_V h = G) (ty : eh_ty tC G) : v = some (.int (((x0 &&& 21845) + (x1 &&& 21845)) ^^^ ((x0 ^^^ x1) &&& 43690))) ∧ eh_V h' = G ∧ eh_N h' = eh_N h := by
  obtain ⟨rs, hrs, E⟩ := eh_in E (q := md_32) rfl
  have E := E.ld (p := 1) (t := ri_isI) (i := 0) (n := 1) (v := .int x0) rfl (e := (.iload_n 0, 1, [], .null)) rfl rfl (fun _ _ => rfl) rfl rfl
  have E := E.pu (p := 4) (lo' := (ri_as 0 [.int x0, .int x1])) (st' := [.int 21845, .int x0]) rfl (e := (.sipush 21845, 3, [], .null)) rfl rfl (fun _ _ => rfl)
  have E := E.pu (p := 5) (lo' := (ri_as 0 [.int x0, .int x1])) (st' := [.int (x0 &&& 21845)]) rfl (e := (.iand, 1, [], .null)) rfl rfl (fun _ _ => rfl)
  have E := E.ld (p := 6) (t := ri_isI) (i := 1) (n := 1) (v := .int x1) rfl (e := (.iload_n 1, 1, [], .null)) rfl rfl (fun _ _ => rfl) rfl rfl
  have E := E.pu (p := 9) (lo' := (ri_as 0 [.int x0, .int x1])) (st' := [.int 21845, .int x1, .int (x0 &&& 21845)]) rfl (e := (.sipush 21845, 3, [], .null)) rfl rfl (fun _ _ => rfl)
  have E := E.pu (p := 10) (lo' := (ri_as 0 [.int x0, .int x1])) (st' := [.int (x1 &&& 21845), .int (x0 &&& 21845)]) rfl (e := (.iand, 1, [], .null)) rfl rfl (fun _ _ => rfl)
  have E := E.pu (p := 11) (lo' := (ri_as 0 [.int x0, .int x1])) (st' := [.int ((x0 &&& 21845) + (x1 &&& 21845))]) rfl (e := (.iadd, 1, [], .null)) rfl rfl (fun _ _ => rfl)
  have E := E.ld (p := 12) (t := ri_isI) (i := 0) (n := 1) (v := .int x0) rfl (e := (.iload_n 0, 1, [], .null)) rfl rfl (fun _ _ => rfl) rfl rfl
  have E := E.ld (p := 13) (t := ri_isI) (i := 1) (n := 1) (v := .int x1) rfl (e := (.iload_n 1, 1, [], .null)) rfl rfl (fun _ _ => rfl) rfl rfl
  have E := E.pu (p := 14) (lo' := (ri_as 0 [.int x0, .int x1])) (st' := [.int (x0 ^^^ x1), .int ((x0 &&& 21845) + (x1 &&& 21845))]) rfl (e := (.ixor, 1, [], .null)) rfl rfl (fun _ _ => rfl)
  have E := E.pu (p := 16) (lo' := (ri_as 0 [.int x0, .int x1])) (st' := [.int 43690, .int (x0 ^^^ x1), .int ((x0 &&& 21845) + (x1 &&& 21845))]) rfl (e := (.ldc 74, 2, [717], .int 43690)) rfl rfl (fun _ _ => rfl)
  have E := E.pu (p := 17) (lo' := (ri_as 0 [.int x0, .int x1])) (st' := [.int ((x0 ^^^ x1) &&& 43690), .int ((x0 &&& 21845) + (x1 &&& 21845))]) rfl (e := (.iand, 1, [], .null)) rfl rfl (fun _ _ => rfl)
  have E := E.pu (p := 18) (lo' := (ri_as 0 [.int x0, .int x1])) (st' := [.int (((x0 &&& 21845) + (x1 &&& 21845)) ^^^ ((x0 ^^^ x1) &&& 43690))]) rfl (e := (.ixor, 1, [], .null)) rfl rfl (fun _ _ => rfl)
  obtain ⟨r1, r2⟩ := E.reti rfl (m := 1) (ax := []) (w := .null) rfl
  exact ⟨(by rw [← hrs, r1]; rfl), ((congrArg eh_V r2).trans hV), (congrArg eh_N r2)⟩
theorem xb_a {cal : eh_K} {lo : List (Nat × Value)} {h h' : ri_H} {rs : List Value} {G : eh_W} {cu se : Int32} (E : eh_e cal md_33 0 lo [] h rs h') (hV : eh_V h = G) (ty : eh_ty tC G) (l0 : ri_lk lo 0 = some (.ref 23)) (l1 : ri_lk lo 1 = some (.int cu)) (l2 : ri_lk lo 2 = some (.int se)) : ∃ hz loz, eh_e cal md_33 5 loz [] hz rs h' ∧ eh_V hz = G ∧ eh_N hz = eh_N h ∧ eh_ty tC G ∧ ri_lk loz 0 = some (.ref 23) ∧ ri_lk loz 1 = some (.int cu) ∧ ri_lk loz 2 = some (.int se) ∧ ri_lk loz 3 = some (.int 0) ∧ ri_lk loz 4 = some (.int 0) := by
  have E := E.pu (p := 1) (lo' := lo) (st' := [.int 0]) rfl (e := (.iconst 0, 1, [], .null)) rfl rfl (fun _ _ => rfl)
  have E := E.so (p := 2) (t := ri_isI) (i := 3) (n := 1) rfl (e := (.istore_n 3, 1, [], .null)) rfl rfl (fun _ _ => rfl) rfl
  have k1_3 : ri_lk (ri_st1 lo 3 (.int 0)) 3 = some (.int 0) := eh_self
  have k1_0 : ri_lk (ri_st1 lo 3 (.int 0)) 0 = some (.ref 23) := eh_keep (by decide) (Or.inl rfl) l0
  have k1_1 : ri_lk (ri_st1 lo 3 (.int 0)) 1 = some (.int cu) := eh_keep (by decide) (Or.inl rfl) l1
  have k1_2 : ri_lk (ri_st1 lo 3 (.int 0)) 2 = some (.int se) := eh_keep (by decide) (Or.inl rfl) l2
  have E := E.pu (p := 3) (lo' := (ri_st1 lo 3 (.int 0))) (st' := [.int 0]) rfl (e := (.iconst 0, 1, [], .null)) rfl rfl (fun _ _ => rfl)
  have E := E.so (p := 5) (t := ri_isI) (i := 4) (n := 2) rfl (e := (.istore 4, 2, [], .null)) rfl rfl (fun _ _ => rfl) rfl
  have k2_4 : ri_lk (ri_st1 (ri_st1 lo 3 (.int 0)) 4 (.int 0)) 4 = some (.int 0) := eh_self
  have k2_0 : ri_lk (ri_st1 (ri_st1 lo 3 (.int 0)) 4 (.int 0)) 0 = some (.ref 23) := eh_keep (by decide) (Or.inl rfl) k1_0
  have k2_1 : ri_lk (ri_st1 (ri_st1 lo 3 (.int 0)) 4 (.int 0)) 1 = some (.int cu) := eh_keep (by decide) (Or.inl rfl) k1_1
  have k2_2 : ri_lk (ri_st1 (ri_st1 lo 3 (.int 0)) 4 (.int 0)) 2 = some (.int se) := eh_keep (by decide) (Or.inl rfl) k1_2
  have k2_3 : ri_lk (ri_st1 (ri_st1 lo 3 (.int 0)) 4 (.int 0)) 3 = some (.int 0) := eh_keep (by decide) (Or.inl rfl) k1_3
  exact ⟨_, _, E, hV, rfl, ty, k2_0, k2_1, k2_2, k2_3, k2_4⟩
theorem xb_l {d : Nat} {lo : List (Nat × Value)} {h h' : ri_H} {rs : List Value} {G : eh_W} {cu se hs l : Int32} (E : eh_e (ri_calE ri_md (d + 1)) md_33 5 lo [] h rs h') (hV : eh_V h = G) (ty : eh_ty tC G) (l0 : ri_lk lo 0 = some (.ref 23)) (l1 : ri_lk lo 1 = some (.int cu)) (l2 : ri_lk lo 2 = some (.int se)) (l3 : ri_lk lo 3 = some (.int hs)) (l4 : ri_lk lo 4 = some (.int l)) : (¬ (l.toInt < (eh_i G 25 1).toInt) ∧ rs = [.int hs] ∧ eh_V h' = G ∧ eh_N h' = eh_N h) ∨ (l.toInt < (eh_i G 25 1).toInt ∧ ¬ (((se &&& (eh_i G 27 (cu).toNatClampNeg)) >>> (l &&& 31)) = 0) ∧ ¬ ((((se &&& (eh_i G 27 (cu).toNatClampNeg)) >>> (l &&& 31)) &&& 1) = 1) ∧ ∃ hz loz, eh_e (ri_calE ri_md (d + 1)) md_33 5 loz [] hz rs h' ∧ eh_V hz = G ∧ eh_N hz = eh_N h ∧ eh_ty tC G ∧ ri_lk loz 0 = some (.ref 23) ∧ ri_lk loz 1 = some (.int cu) ∧ ri_lk loz 2 = some (.int se) ∧ ri_lk loz 3 = some (.int hs) ∧ ri_lk loz 4 = some (.int (l + 1))) ∨ (l.toInt < (eh_i G 25 1).toInt ∧ ¬ (((se &&& (eh_i G 27 (cu).toNatClampNeg)) >>> (l &&& 31)) = 0) ∧ (((se &&& (eh_i G 27 (cu).toNatClampNeg)) >>> (l &&& 31)) &&& 1) = 1 ∧ ∃ hz loz, eh_e (ri_calE ri_md (d + 1)) md_33 5 loz [] hz rs h' ∧ eh_V hz = G ∧ eh_N hz = eh_N h ∧ eh_ty tC G ∧ ri_lk loz 0 = some (.ref 23) ∧ ri_lk loz 1 = some (.int cu) ∧ ri_lk loz 2 = some (.int se) ∧ ri_lk loz 3 = some (.int (((hs &&& 21845) + ((eh_i G 30 (l).toNatClampNeg) &&& 21845)) ^^^ ((hs ^^^ (eh_i G 30 (l).toNatClampNeg)) &&& 43690))) ∧ ri_lk loz 4 = some (.int (l + 1))) ∨ (l.toInt < (eh_i G 25 1).toInt ∧ ((se &&& (eh_i G 27 (cu).toNatClampNeg)) >>> (l &&& 31)) = 0 ∧ rs = [.int hs] ∧ eh_V h' = G ∧ eh_N h' = eh_N h) := by
  have E := E.ld (p := 7) (t := ri_isI) (i := 4) (n := 2) (v := .int l) rfl (e := (.iload 4, 2, [], .null)) rfl rfl (fun _ _ => rfl) l4 rfl
  have E := E.ld (p := 8) (t := ri_isA) (i := 0) (n := 1) (v := .ref 23) rfl (e := (.aload_n 0, 1, [], .null)) rfl rfl (fun _ _ => rfl) l0 rfl
  have E := E.gr (n := 25) (p := 11) rfl (x := 27) (m := 3) (w := .null) (t := 4) (i := 2) (u := 262) rfl rfl hV ty rfl
  have E := E.pu (p := 12) (lo' := lo) (st' := [.int 1, .ref 25, .int l]) rfl (e := (.iconst 1, 1, [], .null)) rfl rfl (fun _ _ => rfl)
  have E := E.ai (p := 13) (z := eh_i G 25 1) (n := 1) rfl (e := (.iaload, 1, [], .null)) rfl rfl (fun _ _ => rfl) rfl hV ty (by decide) rfl rfl
  rcases eh_r3 rfl rfl (E.br (p := 16) (c := 3) (tgt := 68) (a := l) (b := eh_i G 25 1) (st' := []) rfl (e := (.if_icmp .ge 55, 3, [68], .null)) rfl rfl (fun _ _ => rfl) rfl) with ⟨c1, E⟩ | ⟨c1, E⟩
  · skip
    have E := E.ld (p := 69) (t := ri_isI) (i := 3) (n := 1) (v := .int hs) rfl (e := (.iload_n 3, 1, [], .null)) rfl rfl (fun _ _ => rfl) l3 rfl
    obtain ⟨r1, r2⟩ := E.reti rfl (m := 1) (ax := []) (w := .null) rfl
    exact Or.inl ⟨c1, r1, ((congrArg eh_V r2).trans hV), (congrArg eh_N r2)⟩
  · skip
    have E := E.ld (p := 17) (t := ri_isI) (i := 2) (n := 1) (v := .int se) rfl (e := (.iload_n 2, 1, [], .null)) rfl rfl (fun _ _ => rfl) l2 rfl
    have E := E.ld (p := 18) (t := ri_isA) (i := 0) (n := 1) (v := .ref 23) rfl (e := (.aload_n 0, 1, [], .null)) rfl rfl (fun _ _ => rfl) l0 rfl
    have E := E.gr (n := 27) (p := 21) rfl (x := 33) (m := 3) (w := .null) (t := 4) (i := 4) (u := 272) rfl rfl hV ty rfl
    have E := E.ld (p := 22) (t := ri_isI) (i := 1) (n := 1) (v := .int cu) rfl (e := (.iload_n 1, 1, [], .null)) rfl rfl (fun _ _ => rfl) l1 rfl
    have E := E.ai (p := 23) (z := eh_i G 27 (cu).toNatClampNeg) (n := (cu).toNatClampNeg) rfl (e := (.iaload, 1, [], .null)) rfl rfl (fun _ _ => rfl) rfl hV ty rfl rfl rfl
    have E := E.pu (p := 24) (lo' := lo) (st' := [.int (se &&& (eh_i G 27 (cu).toNatClampNeg))]) rfl (e := (.iand, 1, [], .null)) rfl rfl (fun _ _ => rfl)
    have E := E.ld (p := 26) (t := ri_isI) (i := 4) (n := 2) (v := .int l) rfl (e := (.iload 4, 2, [], .null)) rfl rfl (fun _ _ => rfl) l4 rfl
    have E := E.pu (p := 27) (lo' := lo) (st' := [.int ((se &&& (eh_i G 27 (cu).toNatClampNeg)) >>> (l &&& 31))]) rfl (e := (.ishr, 1, [], .null)) rfl rfl (fun _ _ => rfl)
    rcases eh_q1 (E.br (p := 30) (c := 1) (tgt := 33) (a := (se &&& (eh_i G 27 (cu).toNatClampNeg)) >>> (l &&& 31)) (b := 0) (st' := []) rfl (e := (.ifCond .ne 6, 3, [33], .null)) rfl rfl (fun _ _ => rfl) rfl) with ⟨c2, E⟩ | ⟨c2, E⟩
    · skip
      have E := E.ld (p := 34) (t := ri_isI) (i := 2) (n := 1) (v := .int se) rfl (e := (.iload_n 2, 1, [], .null)) rfl rfl (fun _ _ => rfl) l2 rfl
      have E := E.ld (p := 35) (t := ri_isA) (i := 0) (n := 1) (v := .ref 23) rfl (e := (.aload_n 0, 1, [], .null)) rfl rfl (fun _ _ => rfl) l0 rfl
      have E := E.gr (n := 27) (p := 38) rfl (x := 33) (m := 3) (w := .null) (t := 4) (i := 4) (u := 272) rfl rfl hV ty rfl
      have E := E.ld (p := 39) (t := ri_isI) (i := 1) (n := 1) (v := .int cu) rfl (e := (.iload_n 1, 1, [], .null)) rfl rfl (fun _ _ => rfl) l1 rfl
      have E := E.ai (p := 40) (z := eh_i G 27 (cu).toNatClampNeg) (n := (cu).toNatClampNeg) rfl (e := (.iaload, 1, [], .null)) rfl rfl (fun _ _ => rfl) rfl hV ty rfl rfl rfl
      have E := E.pu (p := 41) (lo' := lo) (st' := [.int (se &&& (eh_i G 27 (cu).toNatClampNeg))]) rfl (e := (.iand, 1, [], .null)) rfl rfl (fun _ _ => rfl)
      have E := E.ld (p := 43) (t := ri_isI) (i := 4) (n := 2) (v := .int l) rfl (e := (.iload 4, 2, [], .null)) rfl rfl (fun _ _ => rfl) l4 rfl
      have E := E.pu (p := 44) (lo' := lo) (st' := [.int ((se &&& (eh_i G 27 (cu).toNatClampNeg)) >>> (l &&& 31))]) rfl (e := (.ishr, 1, [], .null)) rfl rfl (fun _ _ => rfl)
      have E := E.pu (p := 45) (lo' := lo) (st' := [.int 1, .int ((se &&& (eh_i G 27 (cu).toNatClampNeg)) >>> (l &&& 31))]) rfl (e := (.iconst 1, 1, [], .null)) rfl rfl (fun _ _ => rfl)
      have E := E.pu (p := 46) (lo' := lo) (st' := [.int (((se &&& (eh_i G 27 (cu).toNatClampNeg)) >>> (l &&& 31)) &&& 1)]) rfl (e := (.iand, 1, [], .null)) rfl rfl (fun _ _ => rfl)
      have E := E.pu (p := 47) (lo' := lo) (st' := [.int 1, .int (((se &&& (eh_i G 27 (cu).toNatClampNeg)) >>> (l &&& 31)) &&& 1)]) rfl (e := (.iconst 1, 1, [], .null)) rfl rfl (fun _ _ => rfl)
      rcases eh_q1 (E.br (p := 50) (c := 1) (tgt := 62) (a := ((se &&& (eh_i G 27 (cu).toNatClampNeg)) >>> (l &&& 31)) &&& 1) (b := 1) (st' := []) rfl (e := (.if_icmp .ne 15, 3, [62], .null)) rfl rfl (fun _ _ => rfl) rfl) with ⟨c3, E⟩ | ⟨c3, E⟩
      · skip
        have E := E.ii (p := 65) (y := l + 1) rfl (i := 4) (n := 1) (m := 3) (ax := []) (w := .null) rfl l4 rfl rfl
        have k4_4 : ri_lk (ri_st1 lo 4 (.int (l + 1))) 4 = some (.int (l + 1)) := eh_self
        have k4_0 : ri_lk (ri_st1 lo 4 (.int (l + 1))) 0 = some (.ref 23) := eh_keep (by decide) (Or.inl rfl) l0
        have k4_1 : ri_lk (ri_st1 lo 4 (.int (l + 1))) 1 = some (.int cu) := eh_keep (by decide) (Or.inl rfl) l1
        have k4_2 : ri_lk (ri_st1 lo 4 (.int (l + 1))) 2 = some (.int se) := eh_keep (by decide) (Or.inl rfl) l2
        have k4_3 : ri_lk (ri_st1 lo 4 (.int (l + 1))) 3 = some (.int hs) := eh_keep (by decide) (Or.inl rfl) l3
        have E := E.pu (p := 5) (lo' := (ri_st1 lo 4 (.int (l + 1)))) (st' := []) rfl (e := (.goto (-60), 3, [5], .null)) rfl rfl (fun _ _ => rfl)
        exact Or.inr (Or.inl ⟨c1, c2, c3, _, _, E, hV, rfl, ty, k4_0, k4_1, k4_2, k4_3, k4_4⟩)
      · skip
        have E := E.ld (p := 51) (t := ri_isI) (i := 3) (n := 1) (v := .int hs) rfl (e := (.iload_n 3, 1, [], .null)) rfl rfl (fun _ _ => rfl) l3 rfl
        have E := E.ld (p := 52) (t := ri_isA) (i := 0) (n := 1) (v := .ref 23) rfl (e := (.aload_n 0, 1, [], .null)) rfl rfl (fun _ _ => rfl) l0 rfl
        have E := E.gr (n := 30) (p := 55) rfl (x := 42) (m := 3) (w := .null) (t := 4) (i := 7) (u := 282) rfl rfl hV ty rfl
        have E := E.ld (p := 57) (t := ri_isI) (i := 4) (n := 2) (v := .int l) rfl (e := (.iload 4, 2, [], .null)) rfl rfl (fun _ _ => rfl) l4 rfl
        have E := E.ai (p := 58) (z := eh_i G 30 (l).toNatClampNeg) (n := (l).toNatClampNeg) rfl (e := (.iaload, 1, [], .null)) rfl rfl (fun _ _ => rfl) rfl hV ty rfl rfl rfl
        obtain ⟨v1, h5, X, E⟩ := E.cs (p := 61) (as := [.int hs, .int (eh_i G 30 (l).toNatClampNeg)]) (r := []) rfl (x := 70) (m := 3) (w := .null) (j := 32) (n := 2) (t := 0) (u := [714, 715]) rfl rfl rfl
        rcases xb_32 (d := d) X hV ty with ⟨rfl, hV6, hN7⟩
        have E : eh_e _ _ 61 lo [.int (((hs &&& 21845) + ((eh_i G 30 (l).toNatClampNeg) &&& 21845)) ^^^ ((hs ^^^ (eh_i G 30 (l).toNatClampNeg)) &&& 43690))] _ rs h' := E
        have E := E.so (p := 62) (t := ri_isI) (i := 3) (n := 1) rfl (e := (.istore_n 3, 1, [], .null)) rfl rfl (fun _ _ => rfl) rfl
        have k8_3 : ri_lk (ri_st1 lo 3 (.int (((hs &&& 21845) + ((eh_i G 30 (l).toNatClampNeg) &&& 21845)) ^^^ ((hs ^^^ (eh_i G 30 (l).toNatClampNeg)) &&& 43690)))) 3 = some (.int (((hs &&& 21845) + ((eh_i G 30 (l).toNatClampNeg) &&& 21845)) ^^^ ((hs ^^^ (eh_i G 30 (l).toNatClampNeg)) &&& 43690))) := eh_self
        have k8_0 : ri_lk (ri_st1 lo 3 (.int (((hs &&& 21845) + ((eh_i G 30 (l).toNatClampNeg) &&& 21845)) ^^^ ((hs ^^^ (eh_i G 30 (l).toNatClampNeg)) &&& 43690)))) 0 = some (.ref 23) := eh_keep (by decide) (Or.inl rfl) l0
        have k8_1 : ri_lk (ri_st1 lo 3 (.int (((hs &&& 21845) + ((eh_i G 30 (l).toNatClampNeg) &&& 21845)) ^^^ ((hs ^^^ (eh_i G 30 (l).toNatClampNeg)) &&& 43690)))) 1 = some (.int cu) := eh_keep (by decide) (Or.inl rfl) l1
        have k8_2 : ri_lk (ri_st1 lo 3 (.int (((hs &&& 21845) + ((eh_i G 30 (l).toNatClampNeg) &&& 21845)) ^^^ ((hs ^^^ (eh_i G 30 (l).toNatClampNeg)) &&& 43690)))) 2 = some (.int se) := eh_keep (by decide) (Or.inl rfl) l2
        have k8_4 : ri_lk (ri_st1 lo 3 (.int (((hs &&& 21845) + ((eh_i G 30 (l).toNatClampNeg) &&& 21845)) ^^^ ((hs ^^^ (eh_i G 30 (l).toNatClampNeg)) &&& 43690)))) 4 = some (.int l) := eh_keep (by decide) (Or.inl rfl) l4
        have E := E.ii (p := 65) (y := l + 1) rfl (i := 4) (n := 1) (m := 3) (ax := []) (w := .null) rfl k8_4 rfl rfl
        have k9_4 : ri_lk (ri_st1 (ri_st1 lo 3 (.int (((hs &&& 21845) + ((eh_i G 30 (l).toNatClampNeg) &&& 21845)) ^^^ ((hs ^^^ (eh_i G 30 (l).toNatClampNeg)) &&& 43690)))) 4 (.int (l + 1))) 4 = some (.int (l + 1)) := eh_self
        have k9_0 : ri_lk (ri_st1 (ri_st1 lo 3 (.int (((hs &&& 21845) + ((eh_i G 30 (l).toNatClampNeg) &&& 21845)) ^^^ ((hs ^^^ (eh_i G 30 (l).toNatClampNeg)) &&& 43690)))) 4 (.int (l + 1))) 0 = some (.ref 23) := eh_keep (by decide) (Or.inl rfl) k8_0
        have k9_1 : ri_lk (ri_st1 (ri_st1 lo 3 (.int (((hs &&& 21845) + ((eh_i G 30 (l).toNatClampNeg) &&& 21845)) ^^^ ((hs ^^^ (eh_i G 30 (l).toNatClampNeg)) &&& 43690)))) 4 (.int (l + 1))) 1 = some (.int cu) := eh_keep (by decide) (Or.inl rfl) k8_1
        have k9_2 : ri_lk (ri_st1 (ri_st1 lo 3 (.int (((hs &&& 21845) + ((eh_i G 30 (l).toNatClampNeg) &&& 21845)) ^^^ ((hs ^^^ (eh_i G 30 (l).toNatClampNeg)) &&& 43690)))) 4 (.int (l + 1))) 2 = some (.int se) := eh_keep (by decide) (Or.inl rfl) k8_2
        have k9_3 : ri_lk (ri_st1 (ri_st1 lo 3 (.int (((hs &&& 21845) + ((eh_i G 30 (l).toNatClampNeg) &&& 21845)) ^^^ ((hs ^^^ (eh_i G 30 (l).toNatClampNeg)) &&& 43690)))) 4 (.int (l + 1))) 3 = some (.int (((hs &&& 21845) + ((eh_i G 30 (l).toNatClampNeg) &&& 21845)) ^^^ ((hs ^^^ (eh_i G 30 (l).toNatClampNeg)) &&& 43690))) := eh_keep (by decide) (Or.inl rfl) k8_3
        have E := E.pu (p := 5) (lo' := (ri_st1 (ri_st1 lo 3 (.int (((hs &&& 21845) + ((eh_i G 30 (l).toNatClampNeg) &&& 21845)) ^^^ ((hs ^^^ (eh_i G 30 (l).toNatClampNeg)) &&& 43690)))) 4 (.int (l + 1)))) (st' := []) rfl (e := (.goto (-60), 3, [5], .null)) rfl rfl (fun _ _ => rfl)
        exact Or.inr (Or.inr (Or.inl ⟨c1, c2, c3, _, _, E, hV6, hN7, ty, k9_0, k9_1, k9_2, k9_3, k9_4⟩))
    · skip
      have E := E.pu (p := 68) (lo' := lo) (st' := []) rfl (e := (.goto 38, 3, [68], .null)) rfl rfl (fun _ _ => rfl)
      have E := E.ld (p := 69) (t := ri_isI) (i := 3) (n := 1) (v := .int hs) rfl (e := (.iload_n 3, 1, [], .null)) rfl rfl (fun _ _ => rfl) l3 rfl
      obtain ⟨r1, r2⟩ := E.reti rfl (m := 1) (ax := []) (w := .null) rfl
      exact Or.inr (Or.inr (Or.inr (⟨c1, c2, r1, ((congrArg eh_V r2).trans hV), (congrArg eh_N r2)⟩)))
