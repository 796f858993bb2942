theorem mk_a {d : Nat} {lo : List (Nat × Value)} {h h' : ri_H} {rs : List Value} {G : eh_W} (E : eh_e (ri_calE ri_md (d + 1)) md_172 0 lo [] h rs h') (hV : eh_V h = G) (ty : eh_ty tM G) (l0 : ri_lk lo 0 = some (.ref 0)) : ∃ (x17 : eh_W), cl_M (eh_u (eh_u (eh_u (eh_u (eh_u (eh_u (eh_u (eh_u G 0 0 (.int 0)) 0 3 (.int (eh_i G 0 2))) 0 2 (.int 0)) 0 4 (.int 0)) 0 5 (.int 900)) 0 15 (.int 0)) 0 19 (.int 0)) 0 20 (.int 0)) x17 ∧ eh_ty tM x17 ∧ ∃ hz loz, eh_e (ri_calE ri_md (d + 1)) md_172 31 loz [] hz rs h' ∧ eh_V hz = x17 ∧ eh_N hz = eh_N h ∧ eh_ty tM x17 ∧ ri_lk loz 0 = some (.ref 0) := by
  have E := E.ld (p := 1) (t := ri_isA) (i := 0) (n := 1) (v := .ref 0) rfl (e := (.aload_n 0, 1, [], .null)) rfl rfl (fun _ _ => rfl) l0 rfl
  have E := E.pu (p := 2) (lo' := lo) (st' := [.int 0, .ref 0]) rfl (e := (.iconst 0, 1, [], .null)) rfl rfl (fun _ _ => rfl)
  obtain ⟨h1, hV2, hN3, E⟩ := E.gp (p := 5) rfl (x := 1) (m := 3) (w := .null) (t := 12) (i := 0) (u := 1324) (y := 0) rfl rfl hV
  have E := E.ld (p := 6) (t := ri_isA) (i := 0) (n := 1) (v := .ref 0) rfl (e := (.aload_n 0, 1, [], .null)) rfl rfl (fun _ _ => rfl) l0 rfl
  have E := E.pu (p := 9) (lo' := lo) (st' := [.int 900, .ref 0]) rfl (e := (.sipush 900, 3, [], .null)) rfl rfl (fun _ _ => rfl)
  obtain ⟨v1, h4, X, E⟩ := E.cv (p := 12) (as := [.int 900]) (b := 0) (r := []) rfl (x := 221) (m := 3) (w := .null) (j := 148) (n := 1) (t := 12) (u := [1474, 34, 1476]) rfl rfl rfl
  rcases sp_148 (d := d) X hV2 (ty.ui rfl) with ⟨rfl, hV5, hN6⟩
  have hV5 : _ = eh_u (eh_u (eh_u (eh_u (eh_u G 0 0 (.int 0)) 0 3 (.int (eh_i G 0 2))) 0 2 (.int 0)) 0 4 (.int 0)) 0 5 (.int 900) := hV5
  have E : eh_e _ _ 12 lo [] _ rs h' := E
  have E := E.ld (p := 13) (t := ri_isA) (i := 0) (n := 1) (v := .ref 0) rfl (e := (.aload_n 0, 1, [], .null)) rfl rfl (fun _ _ => rfl) l0 rfl
  have E := E.pu (p := 14) (lo' := lo) (st' := [.int 0, .ref 0]) rfl (e := (.iconst 0, 1, [], .null)) rfl rfl (fun _ _ => rfl)
  obtain ⟨h7, hV8, hN9, E⟩ := E.gp (p := 17) rfl (x := 162) (m := 3) (w := .null) (t := 12) (i := 15) (u := 1339) (y := 0) rfl rfl hV5
  have E := E.ld (p := 18) (t := ri_isA) (i := 0) (n := 1) (v := .ref 0) rfl (e := (.aload_n 0, 1, [], .null)) rfl rfl (fun _ _ => rfl) l0 rfl
  have E := E.pu (p := 19) (lo' := lo) (st' := [.int 0, .ref 0]) rfl (e := (.iconst 0, 1, [], .null)) rfl rfl (fun _ _ => rfl)
  obtain ⟨h10, hV11, hN12, E⟩ := E.gp (p := 22) rfl (x := 224) (m := 3) (w := .null) (t := 12) (i := 19) (u := 1343) (y := 0) rfl rfl hV8
  have E := E.ld (p := 23) (t := ri_isA) (i := 0) (n := 1) (v := .ref 0) rfl (e := (.aload_n 0, 1, [], .null)) rfl rfl (fun _ _ => rfl) l0 rfl
  have E := E.pu (p := 24) (lo' := lo) (st' := [.int 0, .ref 0]) rfl (e := (.iconst 0, 1, [], .null)) rfl rfl (fun _ _ => rfl)
  obtain ⟨h13, hV14, hN15, E⟩ := E.gp (p := 27) rfl (x := 196) (m := 3) (w := .null) (t := 12) (i := 20) (u := 1344) (y := 0) rfl rfl hV11
  have E := E.ld (p := 28) (t := ri_isA) (i := 0) (n := 1) (v := .ref 0) rfl (e := (.aload_n 0, 1, [], .null)) rfl rfl (fun _ _ => rfl) l0 rfl
  obtain ⟨v1, h16, X, E⟩ := E.cv (p := 31) (as := []) (b := 0) (r := []) rfl (x := 132) (m := 3) (w := .null) (j := 154) (n := 0) (t := 12) (u := [1320, 33, 1322]) rfl rfl rfl
  rcases sp_154 (d := d) X hV14 ((((((((ty.ui rfl).ui rfl).ui rfl).ui rfl).ui rfl).ui rfl).ui rfl).ui rfl) with ⟨x17, c18, c19, rfl, hV20, hN21⟩
  have c18 : cl_M (eh_u (eh_u (eh_u (eh_u (eh_u (eh_u (eh_u (eh_u G 0 0 (.int 0)) 0 3 (.int (eh_i G 0 2))) 0 2 (.int 0)) 0 4 (.int 0)) 0 5 (.int 900)) 0 15 (.int 0)) 0 19 (.int 0)) 0 20 (.int 0)) x17 := c18
  have c19 : eh_ty tM x17 := c19
  have hV20 : _ = x17 := hV20
  have E : eh_e _ _ 31 lo [] _ rs h' := E
  exact ⟨x17, c18, c19, _, _, E, hV20, (hN21.trans (hN15.trans (hN12.trans (hN9.trans (hN6.trans hN3))))), c19, l0⟩
theorem mk_b {d : Nat} {lo : List (Nat × Value)} {h h' : ri_H} {rs : List Value} {G : eh_W} {b : Nat → Int32} {n m : Nat} (E : eh_e (ri_calE ri_md (d + 2)) md_172 31 lo [] h rs h') (hV : eh_V h = G) (iv : iM b n m G) (l0 : ri_lk lo 0 = some (.ref 0)) : ∃ (h1 : ri_H), ri_calE ri_md (d + 2) 158 [.ref 0] h = some (none, h1) ∧ iM b n m (eh_V h1) ∧ ∃ hz loz, eh_e (ri_calE ri_md (d + 2)) md_172 35 loz [] hz rs h' ∧ eh_V hz = (eh_V h1) ∧ eh_N hz = eh_N h ∧ iM b n m (eh_V h1) ∧ ri_lk loz 0 = some (.ref 0) := by
  have E := E.ld (p := 32) (t := ri_isA) (i := 0) (n := 1) (v := .ref 0) rfl (e := (.aload_n 0, 1, [], .null)) rfl rfl (fun _ _ => rfl) l0 rfl
  obtain ⟨v1, h1, X, E⟩ := E.cv (p := 35) (as := []) (b := 0) (r := []) rfl (x := 174) (m := 3) (w := .null) (j := 158) (n := 0) (t := 12) (u := [1478, 35, 1480]) rfl rfl rfl
  obtain ⟨rfl, ivk2, hNk2⟩ := tp_158 (d := d) X (by rw [hV]; exact iv)
  have Xk2 := X
  have E : eh_e _ _ 35 lo [] h1 rs h' := E
  exact ⟨h1, Xk2, ivk2, _, _, E, (rfl : eh_V h1 = eh_V h1), hNk2, ivk2, l0⟩
theorem mk_e0 {cal : eh_K} {lo : List (Nat × Value)} {h h' : ri_H} {rs : List Value} {G : eh_W} (E : eh_e cal md_172 78 lo [] h rs h') (hV : eh_V h = G) (ty : eh_ty tM G) (l0 : ri_lk lo 0 = some (.ref 0)) : ∃ hz loz, eh_e cal md_172 80 loz [] hz rs h' ∧ eh_V hz = G ∧ eh_N hz = eh_N h ∧ eh_ty tM G ∧ ri_lk loz 0 = some (.ref 0) ∧ ri_lk loz 1 = some (.int 0) := by
  have E := E.pu (p := 79) (lo' := lo) (st' := [.int 0]) rfl (e := (.iconst 0, 1, [], .null)) rfl rfl (fun _ _ => rfl)
  have E := E.so (p := 80) (t := ri_isI) (i := 1) (n := 1) rfl (e := (.istore_n 1, 1, [], .null)) rfl rfl (fun _ _ => rfl) rfl
  have k1_1 : ri_lk (ri_st1 lo 1 (.int 0)) 1 = some (.int 0) := eh_self
  have k1_0 : ri_lk (ri_st1 lo 1 (.int 0)) 0 = some (.ref 0) := eh_keep (by decide) (Or.inl rfl) l0
  exact ⟨_, _, E, hV, rfl, ty, k1_0, k1_1⟩
theorem mk_e2 {cal : eh_K} {lo : List (Nat × Value)} {h h' : ri_H} {rs : List Value} {G : eh_W} (E : eh_e cal md_172 115 lo [] h rs h') (hV : eh_V h = G) (ty : eh_ty tM G) (l0 : ri_lk lo 0 = some (.ref 0)) : ∃ hz loz, eh_e cal md_172 117 loz [] hz rs h' ∧ eh_V hz = G ∧ eh_N hz = eh_N h ∧ eh_ty tM G ∧ ri_lk loz 0 = some (.ref 0) ∧ ri_lk loz 1 = some (.int 0) := by
  have E := E.pu (p := 116) (lo' := lo) (st' := [.int 0]) rfl (e := (.iconst 0, 1, [], .null)) rfl rfl (fun _ _ => rfl)
  have E := E.so (p := 117) (t := ri_isI) (i := 1) (n := 1) rfl (e := (.istore_n 1, 1, [], .null)) rfl rfl (fun _ _ => rfl) rfl
  have k1_1 : ri_lk (ri_st1 lo 1 (.int 0)) 1 = some (.int 0) := eh_self
  have k1_0 : ri_lk (ri_st1 lo 1 (.int 0)) 0 = some (.ref 0) := eh_keep (by decide) (Or.inl rfl) l0
  exact ⟨_, _, E, hV, rfl, ty, k1_0, k1_1⟩
theorem mk_e4 {cal : eh_K} {lo : List (Nat × Value)} {h h' : ri_H} {rs : List Value} {G : eh_W} (E : eh_e cal md_172 144 lo [] h rs h') (hV : eh_V h = G) (ty : eh_ty tM G) (l0 : ri_lk lo 0 = some (.ref 0)) : ∃ hz loz, eh_e cal md_172 146 loz [] hz rs h' ∧ eh_V hz = G ∧ eh_N hz = eh_N h ∧ eh_ty tM G ∧ ri_lk loz 0 = some (.ref 0) ∧ ri_lk loz 1 = some (.int 0) := by
  have E := E.pu (p := 145) (lo' := lo) (st' := [.int 0]) rfl (e := (.iconst 0, 1, [], .null)) rfl rfl (fun _ _ => rfl)
  have E := E.so (p := 146) (t := ri_isI) (i := 1) (n := 1) rfl (e := (.istore_n 1, 1, [], .null)) rfl rfl (fun _ _ => rfl) rfl
  have k1_1 : ri_lk (ri_st1 lo 1 (.int 0)) 1 = some (.int 0) := eh_self
  have k1_0 : ri_lk (ri_st1 lo 1 (.int 0)) 0 = some (.ref 0) := eh_keep (by decide) (Or.inl rfl) l0
  exact ⟨_, _, E, hV, rfl, ty, k1_0, k1_1⟩
theorem mk_e1 {cal : eh_K} {lo : List (Nat × Value)} {h h' : ri_H} {rs : List Value} {G : eh_W} {k : Int32} (E : eh_e cal md_172 80 lo [] h rs h') (hV : eh_V h = G) (ty : eh_ty tM G) (l0 : ri_lk lo 0 = some (.ref 0)) (l1 : ri_lk lo 1 = some (.int k)) : (¬ (k.toInt < 355) ∧ ∃ hz loz, eh_e cal md_172 115 loz [] hz rs h' ∧ eh_V hz = G ∧ eh_N hz = eh_N h ∧ eh_ty tM G ∧ ri_lk loz 0 = some (.ref 0) ∧ ri_lk loz 1 = some (.int k)) ∨ (k.toInt < 355 ∧ ¬ (k.toInt < 96) ∧ ∃ hz loz, eh_e cal md_172 80 loz [] hz rs h' ∧ eh_V hz = eh_u G 2 (k).toNatClampNeg (.int 0) ∧ eh_N hz = eh_N h ∧ eh_ty tM (eh_u G 2 (k).toNatClampNeg (.int 0)) ∧ ri_lk loz 0 = some (.ref 0) ∧ ri_lk loz 1 = some (.int (k + 1))) ∨ (k.toInt < 355 ∧ k.toInt < 96 ∧ ∃ hz loz, eh_e cal md_172 80 loz [] hz rs h' ∧ eh_V hz = eh_u G 2 (k).toNatClampNeg (.int (eh_i G 3 (k).toNatClampNeg)) ∧ eh_N hz = eh_N h ∧ eh_ty tM (eh_u G 2 (k).toNatClampNeg (.int (eh_i G 3 (k).toNatClampNeg))) ∧ ri_lk loz 0 = some (.ref 0) ∧ ri_lk loz 1 = some (.int (k + 1))) := by
  have E := E.ld (p := 81) (t := ri_isI) (i := 1) (n := 1) (v := .int k) rfl (e := (.iload_n 1, 1, [], .null)) rfl rfl (fun _ _ => rfl) l1 rfl
  have E := E.pu (p := 84) (lo' := lo) (st' := [.int 355, .int k]) rfl (e := (.sipush 355, 3, [], .null)) rfl rfl (fun _ _ => rfl)
  rcases eh_r3 rfl (show (355 : Int32).toInt = 355 by decide) (E.br (p := 87) (c := 3) (tgt := 115) (a := k) (b := 355) (st' := []) rfl (e := (.if_icmp .ge 31, 3, [115], .null)) rfl rfl (fun _ _ => rfl) rfl) with ⟨c1, E⟩ | ⟨c1, E⟩
  · skip
    exact Or.inl ⟨c1, _, _, E, hV, rfl, ty, l0, l1⟩
  · skip
    have E := E.ld (p := 88) (t := ri_isA) (i := 0) (n := 1) (v := .ref 0) rfl (e := (.aload_n 0, 1, [], .null)) rfl rfl (fun _ _ => rfl) l0 rfl
    have E := E.gr (n := 2) (p := 91) rfl (x := 33) (m := 3) (w := .null) (t := 12) (i := 6) (u := 1330) rfl rfl hV ty rfl
    have E := E.ld (p := 92) (t := ri_isI) (i := 1) (n := 1) (v := .int k) rfl (e := (.iload_n 1, 1, [], .null)) rfl rfl (fun _ _ => rfl) l1 rfl
    have E := E.ld (p := 93) (t := ri_isI) (i := 1) (n := 1) (v := .int k) rfl (e := (.iload_n 1, 1, [], .null)) rfl rfl (fun _ _ => rfl) l1 rfl
    have E := E.pu (p := 95) (lo' := lo) (st' := [.int 96, .int k, .int k, .ref 2]) rfl (e := (.bipush 96, 2, [], .null)) rfl rfl (fun _ _ => rfl)
    rcases eh_r3 rfl (show (96 : Int32).toInt = 96 by decide) (E.br (p := 98) (c := 3) (tgt := 107) (a := k) (b := 96) (st' := [.int k, .ref 2]) rfl (e := (.if_icmp .ge 12, 3, [107], .null)) rfl rfl (fun _ _ => rfl) rfl) with ⟨c2, E⟩ | ⟨c2, E⟩
    · skip
      have E := E.pu (p := 108) (lo' := lo) (st' := [.int 0, .int k, .ref 2]) rfl (e := (.iconst 0, 1, [], .null)) rfl rfl (fun _ _ => rfl)
      obtain ⟨h3, hV4, hN5, E⟩ := E.aw (gg := ri_g1) (b := true) (p := 109) (n := (k).toNatClampNeg) rfl (e := (.iastore, 1, [], .null)) rfl rfl (fun _ _ => rfl) rfl hV rfl
      have E := E.ii (p := 112) (y := k + 1) rfl (i := 1) (n := 1) (m := 3) (ax := []) (w := .null) rfl l1 rfl rfl
      have k6_1 : ri_lk (ri_st1 lo 1 (.int (k + 1))) 1 = some (.int (k + 1)) := eh_self
      have k6_0 : ri_lk (ri_st1 lo 1 (.int (k + 1))) 0 = some (.ref 0) := eh_keep (by decide) (Or.inl rfl) l0
      have E := E.pu (p := 80) (lo' := (ri_st1 lo 1 (.int (k + 1)))) (st' := []) rfl (e := (.goto (-32), 3, [80], .null)) rfl rfl (fun _ _ => rfl)
      exact Or.inr (Or.inl ⟨c1, c2, _, _, E, hV4, hN5, (ty.ui rfl), k6_0, k6_1⟩)
    · skip
      have E := E.ld (p := 99) (t := ri_isA) (i := 0) (n := 1) (v := .ref 0) rfl (e := (.aload_n 0, 1, [], .null)) rfl rfl (fun _ _ => rfl) l0 rfl
      have E := E.gr (n := 3) (p := 102) rfl (x := 37) (m := 3) (w := .null) (t := 12) (i := 7) (u := 1331) rfl rfl hV ty rfl
      have E := E.ld (p := 103) (t := ri_isI) (i := 1) (n := 1) (v := .int k) rfl (e := (.iload_n 1, 1, [], .null)) rfl rfl (fun _ _ => rfl) l1 rfl
      have E := E.ai (p := 104) (z := eh_i G 3 (k).toNatClampNeg) (n := (k).toNatClampNeg) rfl (e := (.iaload, 1, [], .null)) rfl rfl (fun _ _ => rfl) rfl hV ty rfl rfl rfl
      have E := E.pu (p := 108) (lo' := lo) (st' := [.int (eh_i G 3 (k).toNatClampNeg), .int k, .ref 2]) rfl (e := (.goto 4, 3, [108], .null)) rfl rfl (fun _ _ => rfl)
      obtain ⟨h7, hV8, hN9, E⟩ := E.aw (gg := ri_g1) (b := true) (p := 109) (n := (k).toNatClampNeg) rfl (e := (.iastore, 1, [], .null)) rfl rfl (fun _ _ => rfl) rfl hV rfl
      have E := E.ii (p := 112) (y := k + 1) rfl (i := 1) (n := 1) (m := 3) (ax := []) (w := .null) rfl l1 rfl rfl
      have k10_1 : ri_lk (ri_st1 lo 1 (.int (k + 1))) 1 = some (.int (k + 1)) := eh_self
      have k10_0 : ri_lk (ri_st1 lo 1 (.int (k + 1))) 0 = some (.ref 0) := eh_keep (by decide) (Or.inl rfl) l0
      have E := E.pu (p := 80) (lo' := (ri_st1 lo 1 (.int (k + 1)))) (st' := []) rfl (e := (.goto (-32), 3, [80], .null)) rfl rfl (fun _ _ => rfl)
      exact Or.inr (Or.inr (⟨c1, c2, _, _, E, hV8, hN9, (ty.ui rfl), k10_0, k10_1⟩))
theorem mk_e3 {cal : eh_K} {lo : List (Nat × Value)} {h h' : ri_H} {rs : List Value} {G : eh_W} {k : Int32} (E : eh_e cal md_172 117 lo [] h rs h') (hV : eh_V h = G) (ty : eh_ty tM G) (l0 : ri_lk lo 0 = some (.ref 0)) (l1 : ri_lk lo 1 = some (.int k)) : (¬ (k.toInt < 24) ∧ ∃ hz loz, eh_e cal md_172 144 loz [] hz rs h' ∧ eh_V hz = G ∧ eh_N hz = eh_N h ∧ eh_ty tM G ∧ ri_lk loz 0 = some (.ref 0) ∧ ri_lk loz 1 = some (.int k)) ∨ (k.toInt < 24 ∧ ∃ hz loz, eh_e cal md_172 117 loz [] hz rs h' ∧ eh_V hz = eh_u G 5 (k).toNatClampNeg (.long (eh_l G 5 (24 + k).toNatClampNeg)) ∧ eh_N hz = eh_N h ∧ eh_ty tM (eh_u G 5 (k).toNatClampNeg (.long (eh_l G 5 (24 + k).toNatClampNeg))) ∧ ri_lk loz 0 = some (.ref 0) ∧ ri_lk loz 1 = some (.int (k + 1))) := by
  have E := E.ld (p := 118) (t := ri_isI) (i := 1) (n := 1) (v := .int k) rfl (e := (.iload_n 1, 1, [], .null)) rfl rfl (fun _ _ => rfl) l1 rfl
  have E := E.pu (p := 120) (lo' := lo) (st' := [.int 24, .int k]) rfl (e := (.bipush 24, 2, [], .null)) rfl rfl (fun _ _ => rfl)
  rcases eh_r3 rfl (show (24 : Int32).toInt = 24 by decide) (E.br (p := 123) (c := 3) (tgt := 144) (a := k) (b := 24) (st' := []) rfl (e := (.if_icmp .ge 24, 3, [144], .null)) rfl rfl (fun _ _ => rfl) rfl) with ⟨c1, E⟩ | ⟨c1, E⟩
  · skip
    exact Or.inl ⟨c1, _, _, E, hV, rfl, ty, l0, l1⟩
  · skip
    have E := E.ld (p := 124) (t := ri_isA) (i := 0) (n := 1) (v := .ref 0) rfl (e := (.aload_n 0, 1, [], .null)) rfl rfl (fun _ _ => rfl) l0 rfl
    have E := E.gr (n := 5) (p := 127) rfl (x := 43) (m := 3) (w := .null) (t := 12) (i := 9) (u := 1333) rfl rfl hV ty rfl
    have E := E.ld (p := 128) (t := ri_isI) (i := 1) (n := 1) (v := .int k) rfl (e := (.iload_n 1, 1, [], .null)) rfl rfl (fun _ _ => rfl) l1 rfl
    have E := E.ld (p := 129) (t := ri_isA) (i := 0) (n := 1) (v := .ref 0) rfl (e := (.aload_n 0, 1, [], .null)) rfl rfl (fun _ _ => rfl) l0 rfl
    have E := E.gr (n := 5) (p := 132) rfl (x := 43) (m := 3) (w := .null) (t := 12) (i := 9) (u := 1333) rfl rfl hV ty rfl
    have E := E.pu (p := 134) (lo' := lo) (st' := [.int 24, .ref 5, .int k, .ref 5]) rfl (e := (.bipush 24, 2, [], .null)) rfl rfl (fun _ _ => rfl)
    have E := E.ld (p := 135) (t := ri_isI) (i := 1) (n := 1) (v := .int k) rfl (e := (.iload_n 1, 1, [], .null)) rfl rfl (fun _ _ => rfl) l1 rfl
    have E := E.pu (p := 136) (lo' := lo) (st' := [.int (24 + k), .ref 5, .int k, .ref 5]) rfl (e := (.iadd, 1, [], .null)) rfl rfl (fun _ _ => rfl)
    have E := E.al (p := 137) (z := eh_l G 5 (24 + k).toNatClampNeg) (n := (24 + k).toNatClampNeg) rfl (e := (.laload, 1, [], .null)) rfl rfl (fun _ _ => rfl) rfl hV ty rfl rfl rfl
    obtain ⟨h2, hV3, hN4, E⟩ := E.aw (gg := ri_g3) (b := true) (p := 138) (n := (k).toNatClampNeg) rfl (e := (.lastore, 1, [], .null)) rfl rfl (fun _ _ => rfl) rfl hV rfl
    have E := E.ii (p := 141) (y := k + 1) rfl (i := 1) (n := 1) (m := 3) (ax := []) (w := .null) rfl l1 rfl rfl
    have k5_1 : ri_lk (ri_st1 lo 1 (.int (k + 1))) 1 = some (.int (k + 1)) := eh_self
    have k5_0 : ri_lk (ri_st1 lo 1 (.int (k + 1))) 0 = some (.ref 0) := eh_keep (by decide) (Or.inl rfl) l0
    have E := E.pu (p := 117) (lo' := (ri_st1 lo 1 (.int (k + 1)))) (st' := []) rfl (e := (.goto (-24), 3, [117], .null)) rfl rfl (fun _ _ => rfl)
    exact Or.inr (⟨c1, _, _, E, hV3, hN4, (ty.ul rfl), k5_0, k5_1⟩)
theorem mk_e5 {cal : eh_K} {lo : List (Nat × Value)} {h h' : ri_H} {rs : List Value} {G : eh_W} {k : Int32} (E : eh_e cal md_172 146 lo [] h rs h') (hV : eh_V h = G) (ty : eh_ty tM G) (l0 : ri_lk lo 0 = some (.ref 0)) (l1 : ri_lk lo 1 = some (.int k)) : (¬ (k.toInt < 6) ∧ ∃ hz loz, eh_e cal md_172 177 loz [] hz rs h' ∧ eh_V hz = G ∧ eh_N hz = eh_N h ∧ eh_ty tM G ∧ ri_lk loz 0 = some (.ref 0) ∧ ri_lk loz 1 = some (.int k)) ∨ (k.toInt < 6 ∧ ∃ hz loz, eh_e cal md_172 146 loz [] hz rs h' ∧ eh_V hz = eh_u G 2 (156 + k).toNatClampNeg (.int (eh_i G 2 (90 + k).toNatClampNeg)) ∧ eh_N hz = eh_N h ∧ eh_ty tM (eh_u G 2 (156 + k).toNatClampNeg (.int (eh_i G 2 (90 + k).toNatClampNeg))) ∧ ri_lk loz 0 = some (.ref 0) ∧ ri_lk loz 1 = some (.int (k + 1))) := by
  have E := E.ld (p := 147) (t := ri_isI) (i := 1) (n := 1) (v := .int k) rfl (e := (.iload_n 1, 1, [], .null)) rfl rfl (fun _ _ => rfl) l1 rfl
  have E := E.pu (p := 149) (lo' := lo) (st' := [.int 6, .int k]) rfl (e := (.bipush 6, 2, [], .null)) rfl rfl (fun _ _ => rfl)
  rcases eh_r3 rfl (show (6 : Int32).toInt = 6 by decide) (E.br (p := 152) (c := 3) (tgt := 177) (a := k) (b := 6) (st' := []) rfl (e := (.if_icmp .ge 28, 3, [177], .null)) rfl rfl (fun _ _ => rfl) rfl) with ⟨c1, E⟩ | ⟨c1, E⟩
  · skip
    exact Or.inl ⟨c1, _, _, E, hV, rfl, ty, l0, l1⟩
  · skip
    have E := E.ld (p := 153) (t := ri_isA) (i := 0) (n := 1) (v := .ref 0) rfl (e := (.aload_n 0, 1, [], .null)) rfl rfl (fun _ _ => rfl) l0 rfl
    have E := E.gr (n := 2) (p := 156) rfl (x := 33) (m := 3) (w := .null) (t := 12) (i := 6) (u := 1330) rfl rfl hV ty rfl
    have E := E.pu (p := 159) (lo' := lo) (st' := [.int 156, .ref 2]) rfl (e := (.sipush 156, 3, [], .null)) rfl rfl (fun _ _ => rfl)
    have E := E.ld (p := 160) (t := ri_isI) (i := 1) (n := 1) (v := .int k) rfl (e := (.iload_n 1, 1, [], .null)) rfl rfl (fun _ _ => rfl) l1 rfl
    have E := E.pu (p := 161) (lo' := lo) (st' := [.int (156 + k), .ref 2]) rfl (e := (.iadd, 1, [], .null)) rfl rfl (fun _ _ => rfl)
    have E := E.ld (p := 162) (t := ri_isA) (i := 0) (n := 1) (v := .ref 0) rfl (e := (.aload_n 0, 1, [], .null)) rfl rfl (fun _ _ => rfl) l0 rfl
    have E := E.gr (n := 2) (p := 165) rfl (x := 33) (m := 3) (w := .null) (t := 12) (i := 6) (u := 1330) rfl rfl hV ty rfl
    have E := E.pu (p := 167) (lo' := lo) (st' := [.int 90, .ref 2, .int (156 + k), .ref 2]) rfl (e := (.bipush 90, 2, [], .null)) rfl rfl (fun _ _ => rfl)
    have E := E.ld (p := 168) (t := ri_isI) (i := 1) (n := 1) (v := .int k) rfl (e := (.iload_n 1, 1, [], .null)) rfl rfl (fun _ _ => rfl) l1 rfl
    have E := E.pu (p := 169) (lo' := lo) (st' := [.int (90 + k), .ref 2, .int (156 + k), .ref 2]) rfl (e := (.iadd, 1, [], .null)) rfl rfl (fun _ _ => rfl)
    have E := E.ai (p := 170) (z := eh_i G 2 (90 + k).toNatClampNeg) (n := (90 + k).toNatClampNeg) rfl (e := (.iaload, 1, [], .null)) rfl rfl (fun _ _ => rfl) rfl hV ty rfl rfl rfl
    obtain ⟨h2, hV3, hN4, E⟩ := E.aw (gg := ri_g1) (b := true) (p := 171) (n := (156 + k).toNatClampNeg) rfl (e := (.iastore, 1, [], .null)) rfl rfl (fun _ _ => rfl) rfl hV rfl
    have E := E.ii (p := 174) (y := k + 1) rfl (i := 1) (n := 1) (m := 3) (ax := []) (w := .null) rfl l1 rfl rfl
    have k5_1 : ri_lk (ri_st1 lo 1 (.int (k + 1))) 1 = some (.int (k + 1)) := eh_self
    have k5_0 : ri_lk (ri_st1 lo 1 (.int (k + 1))) 0 = some (.ref 0) := eh_keep (by decide) (Or.inl rfl) l0
    have E := E.pu (p := 146) (lo' := (ri_st1 lo 1 (.int (k + 1)))) (st' := []) rfl (e := (.goto (-28), 3, [146], .null)) rfl rfl (fun _ _ => rfl)
    exact Or.inr (⟨c1, _, _, E, hV3, hN4, (ty.ui rfl), k5_0, k5_1⟩)
theorem mk_e6 {cal : eh_K} {lo : List (Nat × Value)} {h h' : ri_H} {rs : List Value} {G : eh_W} (E : eh_e cal md_172 177 lo [] h rs h') (hV : eh_V h = G) (ty : eh_ty tM G) (l0 : ri_lk lo 0 = some (.ref 0)) : rs = [.int (eh_i G 0 19)] ∧ eh_V h' = eh_u G 0 25 (.int 0) ∧ eh_N h' = eh_N h := by
  have E := E.ld (p := 178) (t := ri_isA) (i := 0) (n := 1) (v := .ref 0) rfl (e := (.aload_n 0, 1, [], .null)) rfl rfl (fun _ _ => rfl) l0 rfl
  have E := E.pu (p := 179) (lo' := lo) (st' := [.int 0, .ref 0]) rfl (e := (.iconst 0, 1, [], .null)) rfl rfl (fun _ _ => rfl)
  obtain ⟨h1, hV2, hN3, E⟩ := E.gp (p := 182) rfl (x := 233) (m := 3) (w := .null) (t := 12) (i := 25) (u := 1349) (y := 0) rfl rfl hV
  have E := E.ld (p := 183) (t := ri_isA) (i := 0) (n := 1) (v := .ref 0) rfl (e := (.aload_n 0, 1, [], .null)) rfl rfl (fun _ _ => rfl) l0 rfl
  have E := E.gi (y := eh_i G 0 19) (p := 186) rfl (x := 224) (m := 3) (w := .null) (t := 12) (i := 19) (u := 1343) rfl rfl hV2 (ty.ui rfl) rfl rfl
  obtain ⟨r1, r2⟩ := E.reti rfl (m := 1) (ax := []) (w := .null) rfl
  exact ⟨r1, ((congrArg eh_V r2).trans hV2), ((congrArg eh_N r2).trans hN3)⟩
