theorem xs_38 {d : Nat} {h h' : ri_H} {v : Option Value} {G : eh_W} {l m : Int32} (E : ri_calE ri_md (d + 2) 38 [.ref 23, .int l, .int m] h = some (v, h')) (hV : eh_V h = G) (ty : eh_ty tC G) : ((eh_i G 30 (l).toNatClampNeg) = 0 ∧ v = some (.int 0) ∧ eh_V h' = G ∧ eh_N h' = eh_N h) ∨ (¬ ((eh_i G 30 (l).toNatClampNeg) = 0) ∧ (eh_i G 30 (m).toNatClampNeg) = 0 ∧ v = some (.int 0) ∧ eh_V h' = G ∧ eh_N h' = eh_N h) ∨ (¬ ((eh_i G 30 (l).toNatClampNeg) = 0) ∧ ¬ ((eh_i G 30 (m).toNatClampNeg) = 0) ∧ ¬ (((((eh_i G 30 (l).toNatClampNeg) &&& 21845) + ((eh_i G 30 (m).toNatClampNeg) &&& 21845)) ^^^ (((eh_i G 30 (l).toNatClampNeg) ^^^ (eh_i G 30 (m).toNatClampNeg)) &&& 43690)) = 0) ∧ v = some (.int 0) ∧ eh_V h' = G ∧ eh_N h' = eh_N h) ∨ (¬ ((eh_i G 30 (l).toNatClampNeg) = 0) ∧ ¬ ((eh_i G 30 (m).toNatClampNeg) = 0) ∧ ((((eh_i G 30 (l).toNatClampNeg) &&& 21845) + ((eh_i G 30 (m).toNatClampNeg) &&& 21845)) ^^^ (((eh_i G 30 (l).toNatClampNeg) ^^^ (eh_i G 30 (m).toNatClampNeg)) &&& 43690)) = 0 ∧ v = some (.int 1) ∧ eh_V h' = G ∧ eh_N h' = eh_N h) := by
  obtain ⟨rs, hrs, E⟩ := eh_in E (q := md_38) rfl
  have E := E.ld (p := 1) (t := ri_isA) (i := 0) (n := 1) (v := .ref 23) rfl (e := (.aload_n 0, 1, [], .null)) rfl rfl (fun _ _ => rfl) rfl rfl
  have E := E.gr (n := 30) (p := 4) rfl (x := 42) (m := 3) (w := .null) (t := 4) (i := 7) (u := 282) rfl rfl hV ty rfl
  have E := E.ld (p := 5) (t := ri_isI) (i := 1) (n := 1) (v := .int l) rfl (e := (.iload_n 1, 1, [], .null)) rfl rfl (fun _ _ => rfl) rfl rfl
  have E := E.ai (p := 6) (z := eh_i G 30 (l).toNatClampNeg) (n := (l).toNatClampNeg) rfl (e := (.iaload, 1, [], .null)) rfl rfl (fun _ _ => rfl) rfl hV ty rfl rfl rfl
  rcases eh_q0 (E.br (p := 9) (c := 0) (tgt := 40) (a := eh_i G 30 (l).toNatClampNeg) (b := 0) (st' := []) rfl (e := (.ifCond .eq 34, 3, [40], .null)) rfl rfl (fun _ _ => rfl) rfl) with ⟨c1, E⟩ | ⟨c1, E⟩
  · skip
    have E := E.pu (p := 41) (lo' := (ri_as 0 [.ref 23, .int l, .int m])) (st' := [.int 0]) rfl (e := (.iconst 0, 1, [], .null)) rfl rfl (fun _ _ => rfl)
    obtain ⟨r1, r2⟩ := E.reti rfl (m := 1) (ax := []) (w := .null) rfl
    exact Or.inl ⟨c1, (by rw [← hrs, r1]; rfl), ((congrArg eh_V r2).trans hV), (congrArg eh_N r2)⟩
  · skip
    have E := E.ld (p := 10) (t := ri_isA) (i := 0) (n := 1) (v := .ref 23) rfl (e := (.aload_n 0, 1, [], .null)) rfl rfl (fun _ _ => rfl) rfl rfl
    have E := E.gr (n := 30) (p := 13) rfl (x := 42) (m := 3) (w := .null) (t := 4) (i := 7) (u := 282) rfl rfl hV ty rfl
    have E := E.ld (p := 14) (t := ri_isI) (i := 2) (n := 1) (v := .int m) rfl (e := (.iload_n 2, 1, [], .null)) rfl rfl (fun _ _ => rfl) rfl rfl
    have E := E.ai (p := 15) (z := eh_i G 30 (m).toNatClampNeg) (n := (m).toNatClampNeg) rfl (e := (.iaload, 1, [], .null)) rfl rfl (fun _ _ => rfl) rfl hV ty rfl rfl rfl
    rcases eh_q0 (E.br (p := 18) (c := 0) (tgt := 40) (a := eh_i G 30 (m).toNatClampNeg) (b := 0) (st' := []) rfl (e := (.ifCond .eq 25, 3, [40], .null)) rfl rfl (fun _ _ => rfl) rfl) with ⟨c2, E⟩ | ⟨c2, E⟩
    · skip
      have E := E.pu (p := 41) (lo' := (ri_as 0 [.ref 23, .int l, .int m])) (st' := [.int 0]) rfl (e := (.iconst 0, 1, [], .null)) rfl rfl (fun _ _ => rfl)
      obtain ⟨r1, r2⟩ := E.reti rfl (m := 1) (ax := []) (w := .null) rfl
      exact Or.inr (Or.inl ⟨c1, c2, (by rw [← hrs, r1]; rfl), ((congrArg eh_V r2).trans hV), (congrArg eh_N r2)⟩)
    · skip
      have E := E.ld (p := 19) (t := ri_isA) (i := 0) (n := 1) (v := .ref 23) rfl (e := (.aload_n 0, 1, [], .null)) rfl rfl (fun _ _ => rfl) rfl rfl
      have E := E.gr (n := 30) (p := 22) rfl (x := 42) (m := 3) (w := .null) (t := 4) (i := 7) (u := 282) rfl rfl hV ty rfl
      have E := E.ld (p := 23) (t := ri_isI) (i := 1) (n := 1) (v := .int l) rfl (e := (.iload_n 1, 1, [], .null)) rfl rfl (fun _ _ => rfl) rfl rfl
      have E := E.ai (p := 24) (z := eh_i G 30 (l).toNatClampNeg) (n := (l).toNatClampNeg) rfl (e := (.iaload, 1, [], .null)) rfl rfl (fun _ _ => rfl) rfl hV ty rfl rfl rfl
      have E := E.ld (p := 25) (t := ri_isA) (i := 0) (n := 1) (v := .ref 23) rfl (e := (.aload_n 0, 1, [], .null)) rfl rfl (fun _ _ => rfl) rfl rfl
      have E := E.gr (n := 30) (p := 28) rfl (x := 42) (m := 3) (w := .null) (t := 4) (i := 7) (u := 282) rfl rfl hV ty rfl
      have E := E.ld (p := 29) (t := ri_isI) (i := 2) (n := 1) (v := .int m) rfl (e := (.iload_n 2, 1, [], .null)) rfl rfl (fun _ _ => rfl) rfl rfl
      have E := E.ai (p := 30) (z := eh_i G 30 (m).toNatClampNeg) (n := (m).toNatClampNeg) rfl (e := (.iaload, 1, [], .null)) rfl rfl (fun _ _ => rfl) rfl hV ty rfl rfl rfl
      obtain ⟨v1, h3, X, E⟩ := E.cs (p := 33) (as := [.int (eh_i G 30 (l).toNatClampNeg), .int (eh_i G 30 (m).toNatClampNeg)]) (r := []) rfl (x := 70) (m := 3) (w := .null) (j := 32) (n := 2) (t := 0) (u := [714, 715]) rfl rfl rfl
      rcases xb_32 (d := d) X hV ty with ⟨rfl, hV4, hN5⟩
      have E : eh_e _ _ 33 (ri_as 0 [.ref 23, .int l, .int m]) [.int ((((eh_i G 30 (l).toNatClampNeg) &&& 21845) + ((eh_i G 30 (m).toNatClampNeg) &&& 21845)) ^^^ (((eh_i G 30 (l).toNatClampNeg) ^^^ (eh_i G 30 (m).toNatClampNeg)) &&& 43690))] _ rs h' := E
      rcases eh_q1 (E.br (p := 36) (c := 1) (tgt := 40) (a := (((eh_i G 30 (l).toNatClampNeg) &&& 21845) + ((eh_i G 30 (m).toNatClampNeg) &&& 21845)) ^^^ (((eh_i G 30 (l).toNatClampNeg) ^^^ (eh_i G 30 (m).toNatClampNeg)) &&& 43690)) (b := 0) (st' := []) rfl (e := (.ifCond .ne 7, 3, [40], .null)) rfl rfl (fun _ _ => rfl) rfl) with ⟨c6, E⟩ | ⟨c6, E⟩
      · skip
        have E := E.pu (p := 41) (lo' := (ri_as 0 [.ref 23, .int l, .int m])) (st' := [.int 0]) rfl (e := (.iconst 0, 1, [], .null)) rfl rfl (fun _ _ => rfl)
        obtain ⟨r1, r2⟩ := E.reti rfl (m := 1) (ax := []) (w := .null) rfl
        exact Or.inr (Or.inr (Or.inl ⟨c1, c2, c6, (by rw [← hrs, r1]; rfl), ((congrArg eh_V r2).trans hV4), ((congrArg eh_N r2).trans hN5)⟩))
      · skip
        have E := E.pu (p := 37) (lo' := (ri_as 0 [.ref 23, .int l, .int m])) (st' := [.int 1]) rfl (e := (.iconst 1, 1, [], .null)) rfl rfl (fun _ _ => rfl)
        have E := E.pu (p := 41) (lo' := (ri_as 0 [.ref 23, .int l, .int m])) (st' := [.int 1]) rfl (e := (.goto 4, 3, [41], .null)) rfl rfl (fun _ _ => rfl)
        obtain ⟨r1, r2⟩ := E.reti rfl (m := 1) (ax := []) (w := .null) rfl
        exact Or.inr (Or.inr (Or.inr (⟨c1, c2, c6, (by rw [← hrs, r1]; rfl), ((congrArg eh_V r2).trans hV4), ((congrArg eh_N r2).trans hN5)⟩)))
theorem pb_a {cal : eh_K} {lo : List (Nat × Value)} {h h' : ri_H} {rs : List Value} {G : eh_W} {k : Int32} (E : eh_e cal md_130 0 lo [] h rs h') (hV : eh_V h = G) (ty : eh_ty tC G) (l0 : ri_lk lo 0 = some (.ref 0)) (l1 : ri_lk lo 1 = some (.int k)) (l2 : ri_lk lo 2 = some (.int 1)) : ∃ hz loz, eh_e cal md_130 16 loz [] hz rs h' ∧ eh_V hz = G ∧ eh_N hz = eh_N h ∧ eh_ty tC G ∧ ri_lk loz 0 = some (.ref 0) ∧ ri_lk loz 1 = some (.int k) ∧ ri_lk loz 2 = some (.int 1) ∧ ri_lk loz 3 = some (.int 0) ∧ ri_lk loz 4 = some (.int (eh_i G 25 1)) ∧ ri_lk loz 5 = some (.int 0) := by
  have E := E.pu (p := 1) (lo' := lo) (st' := [.int 0]) rfl (e := (.iconst 0, 1, [], .null)) rfl rfl (fun _ _ => rfl)
  have E := E.so (p := 2) (t := ri_isI) (i := 3) (n := 1) rfl (e := (.istore_n 3, 1, [], .null)) rfl rfl (fun _ _ => rfl) rfl
  have k1_3 : ri_lk (ri_st1 lo 3 (.int 0)) 3 = some (.int 0) := eh_self
  have k1_0 : ri_lk (ri_st1 lo 3 (.int 0)) 0 = some (.ref 0) := eh_keep (by decide) (Or.inl rfl) l0
  have k1_1 : ri_lk (ri_st1 lo 3 (.int 0)) 1 = some (.int k) := eh_keep (by decide) (Or.inl rfl) l1
  have k1_2 : ri_lk (ri_st1 lo 3 (.int 0)) 2 = some (.int 1) := eh_keep (by decide) (Or.inl rfl) l2
  have E := E.ld (p := 3) (t := ri_isA) (i := 0) (n := 1) (v := .ref 0) rfl (e := (.aload_n 0, 1, [], .null)) rfl rfl (fun _ _ => rfl) k1_0 rfl
  have E := E.gr (n := 23) (p := 6) rfl (x := 45) (m := 3) (w := .null) (t := 11) (i := 5) (u := 572) rfl rfl hV ty rfl
  have E := E.gr (n := 25) (p := 9) rfl (x := 273) (m := 3) (w := .null) (t := 4) (i := 2) (u := 268) rfl rfl hV ty rfl
  have E := E.pu (p := 10) (lo' := (ri_st1 lo 3 (.int 0))) (st' := [.int 1, .ref 25]) rfl (e := (.iconst 1, 1, [], .null)) rfl rfl (fun _ _ => rfl)
  have E := E.ai (p := 11) (z := eh_i G 25 1) (n := 1) rfl (e := (.iaload, 1, [], .null)) rfl rfl (fun _ _ => rfl) rfl hV ty (by decide) rfl rfl
  have E := E.so (p := 13) (t := ri_isI) (i := 4) (n := 2) rfl (e := (.istore 4, 2, [], .null)) rfl rfl (fun _ _ => rfl) rfl
  have k2_4 : ri_lk (ri_st1 (ri_st1 lo 3 (.int 0)) 4 (.int (eh_i G 25 1))) 4 = some (.int (eh_i G 25 1)) := eh_self
  have k2_0 : ri_lk (ri_st1 (ri_st1 lo 3 (.int 0)) 4 (.int (eh_i G 25 1))) 0 = some (.ref 0) := eh_keep (by decide) (Or.inl rfl) k1_0
  have k2_1 : ri_lk (ri_st1 (ri_st1 lo 3 (.int 0)) 4 (.int (eh_i G 25 1))) 1 = some (.int k) := eh_keep (by decide) (Or.inl rfl) k1_1
  have k2_2 : ri_lk (ri_st1 (ri_st1 lo 3 (.int 0)) 4 (.int (eh_i G 25 1))) 2 = some (.int 1) := eh_keep (by decide) (Or.inl rfl) k1_2
  have k2_3 : ri_lk (ri_st1 (ri_st1 lo 3 (.int 0)) 4 (.int (eh_i G 25 1))) 3 = some (.int 0) := eh_keep (by decide) (Or.inl rfl) k1_3
  have E := E.pu (p := 14) (lo' := (ri_st1 (ri_st1 lo 3 (.int 0)) 4 (.int (eh_i G 25 1)))) (st' := [.int 0]) rfl (e := (.iconst 0, 1, [], .null)) rfl rfl (fun _ _ => rfl)
  have E := E.so (p := 16) (t := ri_isI) (i := 5) (n := 2) rfl (e := (.istore 5, 2, [], .null)) rfl rfl (fun _ _ => rfl) rfl
  have k3_5 : ri_lk (ri_st1 (ri_st1 (ri_st1 lo 3 (.int 0)) 4 (.int (eh_i G 25 1))) 5 (.int 0)) 5 = some (.int 0) := eh_self
  have k3_0 : ri_lk (ri_st1 (ri_st1 (ri_st1 lo 3 (.int 0)) 4 (.int (eh_i G 25 1))) 5 (.int 0)) 0 = some (.ref 0) := eh_keep (by decide) (Or.inl rfl) k2_0
  have k3_1 : ri_lk (ri_st1 (ri_st1 (ri_st1 lo 3 (.int 0)) 4 (.int (eh_i G 25 1))) 5 (.int 0)) 1 = some (.int k) := eh_keep (by decide) (Or.inl rfl) k2_1
  have k3_2 : ri_lk (ri_st1 (ri_st1 (ri_st1 lo 3 (.int 0)) 4 (.int (eh_i G 25 1))) 5 (.int 0)) 2 = some (.int 1) := eh_keep (by decide) (Or.inl rfl) k2_2
  have k3_3 : ri_lk (ri_st1 (ri_st1 (ri_st1 lo 3 (.int 0)) 4 (.int (eh_i G 25 1))) 5 (.int 0)) 3 = some (.int 0) := eh_keep (by decide) (Or.inl rfl) k2_3
  have k3_4 : ri_lk (ri_st1 (ri_st1 (ri_st1 lo 3 (.int 0)) 4 (.int (eh_i G 25 1))) 5 (.int 0)) 4 = some (.int (eh_i G 25 1)) := eh_keep (by decide) (Or.inl rfl) k2_4
  exact ⟨_, _, E, hV, rfl, ty, k3_0, k3_1, k3_2, k3_3, k3_4, k3_5⟩
theorem pb_o {cal : eh_K} {lo : List (Nat × Value)} {h h' : ri_H} {rs : List Value} {G : eh_W} {k n c l : Int32} (E : eh_e cal md_130 16 lo [] h rs h') (hV : eh_V h = G) (ty : eh_ty tC G) (l0 : ri_lk lo 0 = some (.ref 0)) (l1 : ri_lk lo 1 = some (.int k)) (l2 : ri_lk lo 2 = some (.int 1)) (l3 : ri_lk lo 3 = some (.int n)) (l4 : ri_lk lo 4 = some (.int c)) (l5 : ri_lk lo 5 = some (.int l)) : (¬ (l.toInt < c.toInt) ∧ ∃ hz loz, eh_e cal md_130 106 loz [] hz rs h' ∧ eh_V hz = G ∧ eh_N hz = eh_N h ∧ eh_ty tC G ∧ ri_lk loz 0 = some (.ref 0) ∧ ri_lk loz 1 = some (.int k) ∧ ri_lk loz 2 = some (.int 1) ∧ ri_lk loz 3 = some (.int n) ∧ ri_lk loz 4 = some (.int c) ∧ ri_lk loz 5 = some (.int l)) ∨ (l.toInt < c.toInt ∧ ∃ hz loz, eh_e cal md_130 29 loz [] hz rs h' ∧ eh_V hz = G ∧ eh_N hz = eh_N h ∧ eh_ty tC G ∧ ri_lk loz 0 = some (.ref 0) ∧ ri_lk loz 1 = some (.int k) ∧ ri_lk loz 2 = some (.int 1) ∧ ri_lk loz 3 = some (.int n) ∧ ri_lk loz 4 = some (.int c) ∧ ri_lk loz 5 = some (.int l) ∧ ri_lk loz 6 = some (.int (l + 1))) := by
  have E := E.ld (p := 18) (t := ri_isI) (i := 5) (n := 2) (v := .int l) rfl (e := (.iload 5, 2, [], .null)) rfl rfl (fun _ _ => rfl) l5 rfl
  have E := E.ld (p := 20) (t := ri_isI) (i := 4) (n := 2) (v := .int c) rfl (e := (.iload 4, 2, [], .null)) rfl rfl (fun _ _ => rfl) l4 rfl
  rcases eh_r3 rfl rfl (E.br (p := 23) (c := 3) (tgt := 106) (a := l) (b := c) (st' := []) rfl (e := (.if_icmp .ge 86, 3, [106], .null)) rfl rfl (fun _ _ => rfl) rfl) with ⟨c1, E⟩ | ⟨c1, E⟩
  · skip
    exact Or.inl ⟨c1, _, _, E, hV, rfl, ty, l0, l1, l2, l3, l4, l5⟩
  · skip
    have E := E.ld (p := 25) (t := ri_isI) (i := 5) (n := 2) (v := .int l) rfl (e := (.iload 5, 2, [], .null)) rfl rfl (fun _ _ => rfl) l5 rfl
    have E := E.pu (p := 26) (lo' := lo) (st' := [.int 1, .int l]) rfl (e := (.iconst 1, 1, [], .null)) rfl rfl (fun _ _ => rfl)
    have E := E.pu (p := 27) (lo' := lo) (st' := [.int (l + 1)]) rfl (e := (.iadd, 1, [], .null)) rfl rfl (fun _ _ => rfl)
    have E := E.so (p := 29) (t := ri_isI) (i := 6) (n := 2) rfl (e := (.istore 6, 2, [], .null)) rfl rfl (fun _ _ => rfl) rfl
    have k2_6 : ri_lk (ri_st1 lo 6 (.int (l + 1))) 6 = some (.int (l + 1)) := eh_self
    have k2_0 : ri_lk (ri_st1 lo 6 (.int (l + 1))) 0 = some (.ref 0) := eh_keep (by decide) (Or.inl rfl) l0
    have k2_1 : ri_lk (ri_st1 lo 6 (.int (l + 1))) 1 = some (.int k) := eh_keep (by decide) (Or.inl rfl) l1
    have k2_2 : ri_lk (ri_st1 lo 6 (.int (l + 1))) 2 = some (.int 1) := eh_keep (by decide) (Or.inl rfl) l2
    have k2_3 : ri_lk (ri_st1 lo 6 (.int (l + 1))) 3 = some (.int n) := eh_keep (by decide) (Or.inl rfl) l3
    have k2_4 : ri_lk (ri_st1 lo 6 (.int (l + 1))) 4 = some (.int c) := eh_keep (by decide) (Or.inl rfl) l4
    have k2_5 : ri_lk (ri_st1 lo 6 (.int (l + 1))) 5 = some (.int l) := eh_keep (by decide) (Or.inl rfl) l5
    exact Or.inr (⟨c1, _, _, E, hV, rfl, ty, k2_0, k2_1, k2_2, k2_3, k2_4, k2_5, k2_6⟩)
theorem pb_i {d : Nat} {lo : List (Nat × Value)} {h h' : ri_H} {rs : List Value} {G : eh_W} {k n c l m : Int32} (E : eh_e (ri_calE ri_md (d + 2)) md_130 29 lo [] h rs h') (hV : eh_V h = G) (ty : eh_ty tC G) (l0 : ri_lk lo 0 = some (.ref 0)) (l1 : ri_lk lo 1 = some (.int k)) (l2 : ri_lk lo 2 = some (.int 1)) (l3 : ri_lk lo 3 = some (.int n)) (l4 : ri_lk lo 4 = some (.int c)) (l5 : ri_lk lo 5 = some (.int l)) (l6 : ri_lk lo 6 = some (.int m)) : (¬ (m.toInt < c.toInt) ∧ ∃ hz loz, eh_e (ri_calE ri_md (d + 2)) md_130 100 loz [] hz rs h' ∧ eh_V hz = G ∧ eh_N hz = eh_N h ∧ eh_ty tC G ∧ ri_lk loz 0 = some (.ref 0) ∧ ri_lk loz 1 = some (.int k) ∧ ri_lk loz 2 = some (.int 1) ∧ ri_lk loz 3 = some (.int n) ∧ ri_lk loz 4 = some (.int c) ∧ ri_lk loz 5 = some (.int l) ∧ ri_lk loz 6 = some (.int m)) ∨ (m.toInt < c.toInt ∧ ¬ ((eh_i G 26 (l).toNatClampNeg) = (eh_i G 26 (m).toNatClampNeg)) ∧ ∃ hz loz, eh_e (ri_calE ri_md (d + 2)) md_130 29 loz [] hz rs h' ∧ eh_V hz = G ∧ eh_N hz = eh_N h ∧ eh_ty tC G ∧ ri_lk loz 0 = some (.ref 0) ∧ ri_lk loz 1 = some (.int k) ∧ ri_lk loz 2 = some (.int 1) ∧ ri_lk loz 3 = some (.int n) ∧ ri_lk loz 4 = some (.int c) ∧ ri_lk loz 5 = some (.int l) ∧ ri_lk loz 6 = some (.int (m + 1))) ∨ (m.toInt < c.toInt ∧ (eh_i G 26 (l).toNatClampNeg) = (eh_i G 26 (m).toNatClampNeg) ∧ (eh_i G 30 (l).toNatClampNeg) = 0 ∧ ∃ hz loz, eh_e (ri_calE ri_md (d + 2)) md_130 29 loz [] hz rs h' ∧ eh_V hz = G ∧ eh_N hz = eh_N h ∧ eh_ty tC G ∧ ri_lk loz 0 = some (.ref 0) ∧ ri_lk loz 1 = some (.int k) ∧ ri_lk loz 2 = some (.int 1) ∧ ri_lk loz 3 = some (.int n) ∧ ri_lk loz 4 = some (.int c) ∧ ri_lk loz 5 = some (.int l) ∧ ri_lk loz 6 = some (.int (m + 1))) ∨ (m.toInt < c.toInt ∧ (eh_i G 26 (l).toNatClampNeg) = (eh_i G 26 (m).toNatClampNeg) ∧ ¬ ((eh_i G 30 (l).toNatClampNeg) = 0) ∧ (eh_i G 30 (m).toNatClampNeg) = 0 ∧ ∃ hz loz, eh_e (ri_calE ri_md (d + 2)) md_130 29 loz [] hz rs h' ∧ eh_V hz = G ∧ eh_N hz = eh_N h ∧ eh_ty tC G ∧ ri_lk loz 0 = some (.ref 0) ∧ ri_lk loz 1 = some (.int k) ∧ ri_lk loz 2 = some (.int 1) ∧ ri_lk loz 3 = some (.int n) ∧ ri_lk loz 4 = some (.int c) ∧ ri_lk loz 5 = some (.int l) ∧ ri_lk loz 6 = some (.int (m + 1))) ∨ (m.toInt < c.toInt ∧ (eh_i G 26 (l).toNatClampNeg) = (eh_i G 26 (m).toNatClampNeg) ∧ ¬ ((eh_i G 30 (l).toNatClampNeg) = 0) ∧ ¬ ((eh_i G 30 (m).toNatClampNeg) = 0) ∧ ¬ (((((eh_i G 30 (l).toNatClampNeg) &&& 21845) + ((eh_i G 30 (m).toNatClampNeg) &&& 21845)) ^^^ (((eh_i G 30 (l).toNatClampNeg) ^^^ (eh_i G 30 (m).toNatClampNeg)) &&& 43690)) = 0) ∧ ∃ hz loz, eh_e (ri_calE ri_md (d + 2)) md_130 29 loz [] hz rs h' ∧ eh_V hz = G ∧ eh_N hz = eh_N h ∧ eh_ty tC G ∧ ri_lk loz 0 = some (.ref 0) ∧ ri_lk loz 1 = some (.int k) ∧ ri_lk loz 2 = some (.int 1) ∧ ri_lk loz 3 = some (.int n) ∧ ri_lk loz 4 = some (.int c) ∧ ri_lk loz 5 = some (.int l) ∧ ri_lk loz 6 = some (.int (m + 1))) ∨ (m.toInt < c.toInt ∧ (eh_i G 26 (l).toNatClampNeg) = (eh_i G 26 (m).toNatClampNeg) ∧ ¬ ((eh_i G 30 (l).toNatClampNeg) = 0) ∧ ¬ ((eh_i G 30 (m).toNatClampNeg) = 0) ∧ ((((eh_i G 30 (l).toNatClampNeg) &&& 21845) + ((eh_i G 30 (m).toNatClampNeg) &&& 21845)) ^^^ (((eh_i G 30 (l).toNatClampNeg) ^^^ (eh_i G 30 (m).toNatClampNeg)) &&& 43690)) = 0 ∧ ¬ (n = k) ∧ ∃ hz loz, eh_e (ri_calE ri_md (d + 2)) md_130 29 loz [] hz rs h' ∧ eh_V hz = G ∧ eh_N hz = eh_N h ∧ eh_ty tC G ∧ ri_lk loz 0 = some (.ref 0) ∧ ri_lk loz 1 = some (.int k) ∧ ri_lk loz 2 = some (.int 1) ∧ ri_lk loz 3 = some (.int (n + 1)) ∧ ri_lk loz 4 = some (.int c) ∧ ri_lk loz 5 = some (.int l) ∧ ri_lk loz 6 = some (.int (m + 1))) ∨ (m.toInt < c.toInt ∧ (eh_i G 26 (l).toNatClampNeg) = (eh_i G 26 (m).toNatClampNeg) ∧ ¬ ((eh_i G 30 (l).toNatClampNeg) = 0) ∧ ¬ ((eh_i G 30 (m).toNatClampNeg) = 0) ∧ ((((eh_i G 30 (l).toNatClampNeg) &&& 21845) + ((eh_i G 30 (m).toNatClampNeg) &&& 21845)) ^^^ (((eh_i G 30 (l).toNatClampNeg) ^^^ (eh_i G 30 (m).toNatClampNeg)) &&& 43690)) = 0 ∧ n = k ∧ rs = [.int ((10 * l) + m)] ∧ eh_V h' = G ∧ eh_N h' = eh_N h) := by
  have E := E.ld (p := 31) (t := ri_isI) (i := 6) (n := 2) (v := .int m) rfl (e := (.iload 6, 2, [], .null)) rfl rfl (fun _ _ => rfl) l6 rfl
  have E := E.ld (p := 33) (t := ri_isI) (i := 4) (n := 2) (v := .int c) rfl (e := (.iload 4, 2, [], .null)) rfl rfl (fun _ _ => rfl) l4 rfl
  rcases eh_r3 rfl rfl (E.br (p := 36) (c := 3) (tgt := 100) (a := m) (b := c) (st' := []) rfl (e := (.if_icmp .ge 67, 3, [100], .null)) rfl rfl (fun _ _ => rfl) rfl) with ⟨c1, E⟩ | ⟨c1, E⟩
  · skip
    exact Or.inl ⟨c1, _, _, E, hV, rfl, ty, l0, l1, l2, l3, l4, l5, l6⟩
  · skip
    have E := E.ld (p := 37) (t := ri_isA) (i := 0) (n := 1) (v := .ref 0) rfl (e := (.aload_n 0, 1, [], .null)) rfl rfl (fun _ _ => rfl) l0 rfl
    have E := E.gr (n := 23) (p := 40) rfl (x := 45) (m := 3) (w := .null) (t := 11) (i := 5) (u := 572) rfl rfl hV ty rfl
    have E := E.gr (n := 26) (p := 43) rfl (x := 157) (m := 3) (w := .null) (t := 4) (i := 3) (u := 271) rfl rfl hV ty rfl
    have E := E.ld (p := 45) (t := ri_isI) (i := 5) (n := 2) (v := .int l) rfl (e := (.iload 5, 2, [], .null)) rfl rfl (fun _ _ => rfl) l5 rfl
    have E := E.ai (p := 46) (z := eh_i G 26 (l).toNatClampNeg) (n := (l).toNatClampNeg) rfl (e := (.iaload, 1, [], .null)) rfl rfl (fun _ _ => rfl) rfl hV ty rfl rfl rfl
    have E := E.ld (p := 47) (t := ri_isA) (i := 0) (n := 1) (v := .ref 0) rfl (e := (.aload_n 0, 1, [], .null)) rfl rfl (fun _ _ => rfl) l0 rfl
    have E := E.gr (n := 23) (p := 50) rfl (x := 45) (m := 3) (w := .null) (t := 11) (i := 5) (u := 572) rfl rfl hV ty rfl
    have E := E.gr (n := 26) (p := 53) rfl (x := 157) (m := 3) (w := .null) (t := 4) (i := 3) (u := 271) rfl rfl hV ty rfl
    have E := E.ld (p := 55) (t := ri_isI) (i := 6) (n := 2) (v := .int m) rfl (e := (.iload 6, 2, [], .null)) rfl rfl (fun _ _ => rfl) l6 rfl
    have E := E.ai (p := 56) (z := eh_i G 26 (m).toNatClampNeg) (n := (m).toNatClampNeg) rfl (e := (.iaload, 1, [], .null)) rfl rfl (fun _ _ => rfl) rfl hV ty rfl rfl rfl
    rcases eh_q1 (E.br (p := 59) (c := 1) (tgt := 94) (a := eh_i G 26 (l).toNatClampNeg) (b := eh_i G 26 (m).toNatClampNeg) (st' := []) rfl (e := (.if_icmp .ne 38, 3, [94], .null)) rfl rfl (fun _ _ => rfl) rfl) with ⟨c2, E⟩ | ⟨c2, E⟩
    · skip
      have E := E.ii (p := 97) (y := m + 1) rfl (i := 6) (n := 1) (m := 3) (ax := []) (w := .null) rfl l6 rfl rfl
      have k3_6 : ri_lk (ri_st1 lo 6 (.int (m + 1))) 6 = some (.int (m + 1)) := eh_self
      have k3_0 : ri_lk (ri_st1 lo 6 (.int (m + 1))) 0 = some (.ref 0) := eh_keep (by decide) (Or.inl rfl) l0
      have k3_1 : ri_lk (ri_st1 lo 6 (.int (m + 1))) 1 = some (.int k) := eh_keep (by decide) (Or.inl rfl) l1
      have k3_2 : ri_lk (ri_st1 lo 6 (.int (m + 1))) 2 = some (.int 1) := eh_keep (by decide) (Or.inl rfl) l2
      have k3_3 : ri_lk (ri_st1 lo 6 (.int (m + 1))) 3 = some (.int n) := eh_keep (by decide) (Or.inl rfl) l3
      have k3_4 : ri_lk (ri_st1 lo 6 (.int (m + 1))) 4 = some (.int c) := eh_keep (by decide) (Or.inl rfl) l4
      have k3_5 : ri_lk (ri_st1 lo 6 (.int (m + 1))) 5 = some (.int l) := eh_keep (by decide) (Or.inl rfl) l5
      have E := E.pu (p := 29) (lo' := (ri_st1 lo 6 (.int (m + 1)))) (st' := []) rfl (e := (.goto (-68), 3, [29], .null)) rfl rfl (fun _ _ => rfl)
      exact Or.inr (Or.inl ⟨c1, c2, _, _, E, hV, rfl, ty, k3_0, k3_1, k3_2, k3_3, k3_4, k3_5, k3_6⟩)
    · skip
      have E := E.ld (p := 60) (t := ri_isI) (i := 2) (n := 1) (v := .int 1) rfl (e := (.iload_n 2, 1, [], .null)) rfl rfl (fun _ _ => rfl) l2 rfl
      have E := E.brf (p := 63) (c := 0) (tgt := 77) (a := 1) (b := 0) (st' := []) rfl (e := (.ifCond .eq 17, 3, [77], .null)) rfl rfl (fun _ _ => rfl) (by decide) rfl
      have E := E.ld (p := 64) (t := ri_isA) (i := 0) (n := 1) (v := .ref 0) rfl (e := (.aload_n 0, 1, [], .null)) rfl rfl (fun _ _ => rfl) l0 rfl
      have E := E.gr (n := 23) (p := 67) rfl (x := 45) (m := 3) (w := .null) (t := 11) (i := 5) (u := 572) rfl rfl hV ty rfl
      have E := E.ld (p := 69) (t := ri_isI) (i := 5) (n := 2) (v := .int l) rfl (e := (.iload 5, 2, [], .null)) rfl rfl (fun _ _ => rfl) l5 rfl
      have E := E.ld (p := 71) (t := ri_isI) (i := 6) (n := 2) (v := .int m) rfl (e := (.iload 6, 2, [], .null)) rfl rfl (fun _ _ => rfl) l6 rfl
      obtain ⟨v1, h4, X, E⟩ := E.cv (p := 74) (as := [.int l, .int m]) (b := 23) (r := []) rfl (x := 313) (m := 3) (w := .null) (j := 38) (n := 2) (t := 4) (u := [1002, 1004, 1003]) rfl rfl rfl
      rcases xs_38 (d := d) X hV ty with ⟨c5, rfl, hV6, hN7⟩ | ⟨c8, c9, rfl, hV10, hN11⟩ | ⟨c12, c13, c14, rfl, hV15, hN16⟩ | ⟨c17, c18, c19, rfl, hV20, hN21⟩
      · skip
        have c5 : (eh_i G 30 (l).toNatClampNeg) = 0 := c5
        have E : eh_e _ _ 74 lo [.int 0] _ rs h' := E
        have E := E.brt (c := 0) (tgt := 94) (a := 0) (b := 0) (st' := []) rfl (e := (.ifCond .eq 20, 3, [94], .null)) rfl rfl (fun _ _ => rfl) (by decide)
        have E := E.ii (p := 97) (y := m + 1) rfl (i := 6) (n := 1) (m := 3) (ax := []) (w := .null) rfl l6 rfl rfl
        have k22_6 : ri_lk (ri_st1 lo 6 (.int (m + 1))) 6 = some (.int (m + 1)) := eh_self
        have k22_0 : ri_lk (ri_st1 lo 6 (.int (m + 1))) 0 = some (.ref 0) := eh_keep (by decide) (Or.inl rfl) l0
        have k22_1 : ri_lk (ri_st1 lo 6 (.int (m + 1))) 1 = some (.int k) := eh_keep (by decide) (Or.inl rfl) l1
        have k22_2 : ri_lk (ri_st1 lo 6 (.int (m + 1))) 2 = some (.int 1) := eh_keep (by decide) (Or.inl rfl) l2
        have k22_3 : ri_lk (ri_st1 lo 6 (.int (m + 1))) 3 = some (.int n) := eh_keep (by decide) (Or.inl rfl) l3
        have k22_4 : ri_lk (ri_st1 lo 6 (.int (m + 1))) 4 = some (.int c) := eh_keep (by decide) (Or.inl rfl) l4
        have k22_5 : ri_lk (ri_st1 lo 6 (.int (m + 1))) 5 = some (.int l) := eh_keep (by decide) (Or.inl rfl) l5
        have E := E.pu (p := 29) (lo' := (ri_st1 lo 6 (.int (m + 1)))) (st' := []) rfl (e := (.goto (-68), 3, [29], .null)) rfl rfl (fun _ _ => rfl)
        exact Or.inr (Or.inr (Or.inl ⟨c1, c2, c5, _, _, E, hV6, hN7, ty, k22_0, k22_1, k22_2, k22_3, k22_4, k22_5, k22_6⟩))
      · skip
        have c8 : ¬ ((eh_i G 30 (l).toNatClampNeg) = 0) := c8
        have c9 : (eh_i G 30 (m).toNatClampNeg) = 0 := c9
        have E : eh_e _ _ 74 lo [.int 0] _ rs h' := E
        have E := E.brt (c := 0) (tgt := 94) (a := 0) (b := 0) (st' := []) rfl (e := (.ifCond .eq 20, 3, [94], .null)) rfl rfl (fun _ _ => rfl) (by decide)
        have E := E.ii (p := 97) (y := m + 1) rfl (i := 6) (n := 1) (m := 3) (ax := []) (w := .null) rfl l6 rfl rfl
        have k23_6 : ri_lk (ri_st1 lo 6 (.int (m + 1))) 6 = some (.int (m + 1)) := eh_self
        have k23_0 : ri_lk (ri_st1 lo 6 (.int (m + 1))) 0 = some (.ref 0) := eh_keep (by decide) (Or.inl rfl) l0
        have k23_1 : ri_lk (ri_st1 lo 6 (.int (m + 1))) 1 = some (.int k) := eh_keep (by decide) (Or.inl rfl) l1
        have k23_2 : ri_lk (ri_st1 lo 6 (.int (m + 1))) 2 = some (.int 1) := eh_keep (by decide) (Or.inl rfl) l2
        have k23_3 : ri_lk (ri_st1 lo 6 (.int (m + 1))) 3 = some (.int n) := eh_keep (by decide) (Or.inl rfl) l3
        have k23_4 : ri_lk (ri_st1 lo 6 (.int (m + 1))) 4 = some (.int c) := eh_keep (by decide) (Or.inl rfl) l4
        have k23_5 : ri_lk (ri_st1 lo 6 (.int (m + 1))) 5 = some (.int l) := eh_keep (by decide) (Or.inl rfl) l5
        have E := E.pu (p := 29) (lo' := (ri_st1 lo 6 (.int (m + 1)))) (st' := []) rfl (e := (.goto (-68), 3, [29], .null)) rfl rfl (fun _ _ => rfl)
        exact Or.inr (Or.inr (Or.inr (Or.inl ⟨c1, c2, c8, c9, _, _, E, hV10, hN11, ty, k23_0, k23_1, k23_2, k23_3, k23_4, k23_5, k23_6⟩)))
      · skip
        have c12 : ¬ ((eh_i G 30 (l).toNatClampNeg) = 0) := c12
        have c13 : ¬ ((eh_i G 30 (m).toNatClampNeg) = 0) := c13
        have c14 : ¬ (((((eh_i G 30 (l).toNatClampNeg) &&& 21845) + ((eh_i G 30 (m).toNatClampNeg) &&& 21845)) ^^^ (((eh_i G 30 (l).toNatClampNeg) ^^^ (eh_i G 30 (m).toNatClampNeg)) &&& 43690)) = 0) := c14
        have E : eh_e _ _ 74 lo [.int 0] _ rs h' := E
        have E := E.brt (c := 0) (tgt := 94) (a := 0) (b := 0) (st' := []) rfl (e := (.ifCond .eq 20, 3, [94], .null)) rfl rfl (fun _ _ => rfl) (by decide)
        have E := E.ii (p := 97) (y := m + 1) rfl (i := 6) (n := 1) (m := 3) (ax := []) (w := .null) rfl l6 rfl rfl
        have k24_6 : ri_lk (ri_st1 lo 6 (.int (m + 1))) 6 = some (.int (m + 1)) := eh_self
        have k24_0 : ri_lk (ri_st1 lo 6 (.int (m + 1))) 0 = some (.ref 0) := eh_keep (by decide) (Or.inl rfl) l0
        have k24_1 : ri_lk (ri_st1 lo 6 (.int (m + 1))) 1 = some (.int k) := eh_keep (by decide) (Or.inl rfl) l1
        have k24_2 : ri_lk (ri_st1 lo 6 (.int (m + 1))) 2 = some (.int 1) := eh_keep (by decide) (Or.inl rfl) l2
        have k24_3 : ri_lk (ri_st1 lo 6 (.int (m + 1))) 3 = some (.int n) := eh_keep (by decide) (Or.inl rfl) l3
        have k24_4 : ri_lk (ri_st1 lo 6 (.int (m + 1))) 4 = some (.int c) := eh_keep (by decide) (Or.inl rfl) l4
        have k24_5 : ri_lk (ri_st1 lo 6 (.int (m + 1))) 5 = some (.int l) := eh_keep (by decide) (Or.inl rfl) l5
        have E := E.pu (p := 29) (lo' := (ri_st1 lo 6 (.int (m + 1)))) (st' := []) rfl (e := (.goto (-68), 3, [29], .null)) rfl rfl (fun _ _ => rfl)
        exact Or.inr (Or.inr (Or.inr (Or.inr (Or.inl ⟨c1, c2, c12, c13, c14, _, _, E, hV15, hN16, ty, k24_0, k24_1, k24_2, k24_3, k24_4, k24_5, k24_6⟩))))
      · skip
        have c17 : ¬ ((eh_i G 30 (l).toNatClampNeg) = 0) := c17
        have c18 : ¬ ((eh_i G 30 (m).toNatClampNeg) = 0) := c18
        have c19 : ((((eh_i G 30 (l).toNatClampNeg) &&& 21845) + ((eh_i G 30 (m).toNatClampNeg) &&& 21845)) ^^^ (((eh_i G 30 (l).toNatClampNeg) ^^^ (eh_i G 30 (m).toNatClampNeg)) &&& 43690)) = 0 := c19
        have E : eh_e _ _ 74 lo [.int 1] _ rs h' := E
        have E := E.brf (p := 77) (c := 0) (tgt := 94) (a := 1) (b := 0) (st' := []) rfl (e := (.ifCond .eq 20, 3, [94], .null)) rfl rfl (fun _ _ => rfl) (by decide) rfl
        have E := E.ld (p := 78) (t := ri_isI) (i := 3) (n := 1) (v := .int n) rfl (e := (.iload_n 3, 1, [], .null)) rfl rfl (fun _ _ => rfl) l3 rfl
        have E := E.ld (p := 79) (t := ri_isI) (i := 1) (n := 1) (v := .int k) rfl (e := (.iload_n 1, 1, [], .null)) rfl rfl (fun _ _ => rfl) l1 rfl
        rcases eh_q1 (E.br (p := 82) (c := 1) (tgt := 91) (a := n) (b := k) (st' := []) rfl (e := (.if_icmp .ne 12, 3, [91], .null)) rfl rfl (fun _ _ => rfl) rfl) with ⟨c25, E⟩ | ⟨c25, E⟩
        · skip
          have E := E.ii (p := 94) (y := n + 1) rfl (i := 3) (n := 1) (m := 3) (ax := []) (w := .null) rfl l3 rfl rfl
          have k26_3 : ri_lk (ri_st1 lo 3 (.int (n + 1))) 3 = some (.int (n + 1)) := eh_self
          have k26_0 : ri_lk (ri_st1 lo 3 (.int (n + 1))) 0 = some (.ref 0) := eh_keep (by decide) (Or.inl rfl) l0
          have k26_1 : ri_lk (ri_st1 lo 3 (.int (n + 1))) 1 = some (.int k) := eh_keep (by decide) (Or.inl rfl) l1
          have k26_2 : ri_lk (ri_st1 lo 3 (.int (n + 1))) 2 = some (.int 1) := eh_keep (by decide) (Or.inl rfl) l2
          have k26_4 : ri_lk (ri_st1 lo 3 (.int (n + 1))) 4 = some (.int c) := eh_keep (by decide) (Or.inl rfl) l4
          have k26_5 : ri_lk (ri_st1 lo 3 (.int (n + 1))) 5 = some (.int l) := eh_keep (by decide) (Or.inl rfl) l5
          have k26_6 : ri_lk (ri_st1 lo 3 (.int (n + 1))) 6 = some (.int m) := eh_keep (by decide) (Or.inl rfl) l6
          have E := E.ii (p := 97) (y := m + 1) rfl (i := 6) (n := 1) (m := 3) (ax := []) (w := .null) rfl k26_6 rfl rfl
          have k27_6 : ri_lk (ri_st1 (ri_st1 lo 3 (.int (n + 1))) 6 (.int (m + 1))) 6 = some (.int (m + 1)) := eh_self
          have k27_0 : ri_lk (ri_st1 (ri_st1 lo 3 (.int (n + 1))) 6 (.int (m + 1))) 0 = some (.ref 0) := eh_keep (by decide) (Or.inl rfl) k26_0
          have k27_1 : ri_lk (ri_st1 (ri_st1 lo 3 (.int (n + 1))) 6 (.int (m + 1))) 1 = some (.int k) := eh_keep (by decide) (Or.inl rfl) k26_1
          have k27_2 : ri_lk (ri_st1 (ri_st1 lo 3 (.int (n + 1))) 6 (.int (m + 1))) 2 = some (.int 1) := eh_keep (by decide) (Or.inl rfl) k26_2
          have k27_3 : ri_lk (ri_st1 (ri_st1 lo 3 (.int (n + 1))) 6 (.int (m + 1))) 3 = some (.int (n + 1)) := eh_keep (by decide) (Or.inl rfl) k26_3
          have k27_4 : ri_lk (ri_st1 (ri_st1 lo 3 (.int (n + 1))) 6 (.int (m + 1))) 4 = some (.int c) := eh_keep (by decide) (Or.inl rfl) k26_4
          have k27_5 : ri_lk (ri_st1 (ri_st1 lo 3 (.int (n + 1))) 6 (.int (m + 1))) 5 = some (.int l) := eh_keep (by decide) (Or.inl rfl) k26_5
          have E := E.pu (p := 29) (lo' := (ri_st1 (ri_st1 lo 3 (.int (n + 1))) 6 (.int (m + 1)))) (st' := []) rfl (e := (.goto (-68), 3, [29], .null)) rfl rfl (fun _ _ => rfl)
          exact Or.inr (Or.inr (Or.inr (Or.inr (Or.inr (Or.inl ⟨c1, c2, c17, c18, c19, c25, _, _, E, hV20, hN21, ty, k27_0, k27_1, k27_2, k27_3, k27_4, k27_5, k27_6⟩)))))
        · skip
          have E := E.pu (p := 84) (lo' := lo) (st' := [.int 10]) rfl (e := (.bipush 10, 2, [], .null)) rfl rfl (fun _ _ => rfl)
          have E := E.ld (p := 86) (t := ri_isI) (i := 5) (n := 2) (v := .int l) rfl (e := (.iload 5, 2, [], .null)) rfl rfl (fun _ _ => rfl) l5 rfl
          have E := E.pu (p := 87) (lo' := lo) (st' := [.int (10 * l)]) rfl (e := (.imul, 1, [], .null)) rfl rfl (fun _ _ => rfl)
          have E := E.ld (p := 89) (t := ri_isI) (i := 6) (n := 2) (v := .int m) rfl (e := (.iload 6, 2, [], .null)) rfl rfl (fun _ _ => rfl) l6 rfl
          have E := E.pu (p := 90) (lo' := lo) (st' := [.int ((10 * l) + m)]) rfl (e := (.iadd, 1, [], .null)) rfl rfl (fun _ _ => rfl)
          obtain ⟨r1, r2⟩ := E.reti rfl (m := 1) (ax := []) (w := .null) rfl
          exact Or.inr (Or.inr (Or.inr (Or.inr (Or.inr (Or.inr (⟨c1, c2, c17, c18, c19, c25, r1, ((congrArg eh_V r2).trans hV20), ((congrArg eh_N r2).trans hN21)⟩))))))
theorem pb_x {cal : eh_K} {lo : List (Nat × Value)} {h h' : ri_H} {rs : List Value} {G : eh_W} {k n c l m : Int32} (E : eh_e cal md_130 100 lo [] h rs h') (hV : eh_V h = G) (ty : eh_ty tC G) (l0 : ri_lk lo 0 = some (.ref 0)) (l1 : ri_lk lo 1 = some (.int k)) (l2 : ri_lk lo 2 = some (.int 1)) (l3 : ri_lk lo 3 = some (.int n)) (l4 : ri_lk lo 4 = some (.int c)) (l5 : ri_lk lo 5 = some (.int l)) (l6 : ri_lk lo 6 = some (.int m)) : ∃ hz loz, eh_e cal md_130 16 loz [] hz rs h' ∧ eh_V hz = G ∧ eh_N hz = eh_N h ∧ eh_ty tC G ∧ ri_lk loz 0 = some (.ref 0) ∧ ri_lk loz 1 = some (.int k) ∧ ri_lk loz 2 = some (.int 1) ∧ ri_lk loz 3 = some (.int n) ∧ ri_lk loz 4 = some (.int c) ∧ ri_lk loz 5 = some (.int (l + 1)) ∧ ri_lk loz 6 = some (.int m) := by
  have E := E.ii (p := 103) (y := l + 1) rfl (i := 5) (n := 1) (m := 3) (ax := []) (w := .null) rfl l5 rfl rfl
  have k1_5 : ri_lk (ri_st1 lo 5 (.int (l + 1))) 5 = some (.int (l + 1)) := eh_self
  have k1_0 : ri_lk (ri_st1 lo 5 (.int (l + 1))) 0 = some (.ref 0) := eh_keep (by decide) (Or.inl rfl) l0
  have k1_1 : ri_lk (ri_st1 lo 5 (.int (l + 1))) 1 = some (.int k) := eh_keep (by decide) (Or.inl rfl) l1
  have k1_2 : ri_lk (ri_st1 lo 5 (.int (l + 1))) 2 = some (.int 1) := eh_keep (by decide) (Or.inl rfl) l2
  have k1_3 : ri_lk (ri_st1 lo 5 (.int (l + 1))) 3 = some (.int n) := eh_keep (by decide) (Or.inl rfl) l3
  have k1_4 : ri_lk (ri_st1 lo 5 (.int (l + 1))) 4 = some (.int c) := eh_keep (by decide) (Or.inl rfl) l4
  have k1_6 : ri_lk (ri_st1 lo 5 (.int (l + 1))) 6 = some (.int m) := eh_keep (by decide) (Or.inl rfl) l6
  have E := E.pu (p := 16) (lo' := (ri_st1 lo 5 (.int (l + 1)))) (st' := []) rfl (e := (.goto (-87), 3, [16], .null)) rfl rfl (fun _ _ => rfl)
  exact ⟨_, _, E, hV, rfl, ty, k1_0, k1_1, k1_2, k1_3, k1_4, k1_5, k1_6⟩
theorem pb_z {cal : eh_K} {lo : List (Nat × Value)} {h h' : ri_H} {rs : List Value} {G : eh_W} {k n c l : Int32} (E : eh_e cal md_130 106 lo [] h rs h') (hV : eh_V h = G) (ty : eh_ty tC G) (l0 : ri_lk lo 0 = some (.ref 0)) (l1 : ri_lk lo 1 = some (.int k)) (l2 : ri_lk lo 2 = some (.int 1)) (l3 : ri_lk lo 3 = some (.int n)) (l4 : ri_lk lo 4 = some (.int c)) (l5 : ri_lk lo 5 = some (.int l)) : (¬ (k = (-1)) ∧ rs = [.int (-1)] ∧ eh_V h' = G ∧ eh_N h' = eh_N h) ∨ (k = (-1) ∧ rs = [.int n] ∧ eh_V h' = G ∧ eh_N h' = eh_N h) := by
  have E := E.ld (p := 107) (t := ri_isI) (i := 1) (n := 1) (v := .int k) rfl (e := (.iload_n 1, 1, [], .null)) rfl rfl (fun _ _ => rfl) l1 rfl
  have E := E.pu (p := 108) (lo' := lo) (st' := [.int (-1), .int k]) rfl (e := (.iconst (-1), 1, [], .null)) rfl rfl (fun _ _ => rfl)
  rcases eh_q1 (E.br (p := 111) (c := 1) (tgt := 115) (a := k) (b := (-1)) (st' := []) rfl (e := (.if_icmp .ne 7, 3, [115], .null)) rfl rfl (fun _ _ => rfl) rfl) with ⟨c1, E⟩ | ⟨c1, E⟩
  · skip
    have E := E.pu (p := 116) (lo' := lo) (st' := [.int (-1)]) rfl (e := (.iconst (-1), 1, [], .null)) rfl rfl (fun _ _ => rfl)
    obtain ⟨r1, r2⟩ := E.reti rfl (m := 1) (ax := []) (w := .null) rfl
    exact Or.inl ⟨c1, r1, ((congrArg eh_V r2).trans hV), (congrArg eh_N r2)⟩
  · skip
    have E := E.ld (p := 112) (t := ri_isI) (i := 3) (n := 1) (v := .int n) rfl (e := (.iload_n 3, 1, [], .null)) rfl rfl (fun _ _ => rfl) l3 rfl
    have E := E.pu (p := 116) (lo' := lo) (st' := [.int n]) rfl (e := (.goto 4, 3, [116], .null)) rfl rfl (fun _ _ => rfl)
    obtain ⟨r1, r2⟩ := E.reti rfl (m := 1) (ax := []) (w := .null) rfl
    exact Or.inr (⟨c1, r1, ((congrArg eh_V r2).trans hV), (congrArg eh_N r2)⟩)
