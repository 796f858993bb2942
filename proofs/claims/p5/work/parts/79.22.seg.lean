theorem mi_a0 {d : Nat} {lo : List (Nat × Value)} {h h' : ri_H} {rs : List Value} {G : eh_W} (E : eh_e (ri_calE ri_md (d + 1)) md_252 0 lo [] h rs h') (hV : eh_V h = G) (ty : eh_ty tM G) (l0 : ri_lk lo 0 = some (.ref 0)) (l1 : ri_lk lo 1 = some (.int 0)) : ∃ hz loz, eh_e (ri_calE ri_md (d + 1)) md_252 18 loz [] hz rs h' ∧ eh_V hz = eh_u G 0 0 (.int 0) ∧ eh_N hz = eh_N h ∧ eh_ty tM (eh_u G 0 0 (.int 0)) ∧ ri_lk loz 0 = some (.ref 0) ∧ ri_lk loz 1 = some (.int 0) ∧ ri_lk loz 2 = some (.int 0) := by
  have E := E.ld (p := 1) (t := ri_isA) (i := 0) (n := 1) (v := .ref 0) rfl (e := (.aload_n 0, 1, [], .null)) rfl rfl (fun _ _ => rfl) l0 rfl
  have E := E.pu (p := 2) (lo' := lo) (st' := [.int 0, .ref 0]) rfl (e := (.iconst 0, 1, [], .null)) rfl rfl (fun _ _ => rfl)
  obtain ⟨h1, hV2, hN3, E⟩ := E.gp (p := 5) rfl (x := 1) (m := 3) (w := .null) (t := 12) (i := 0) (u := 1324) (y := 0) rfl rfl hV
  have E := E.ld (p := 6) (t := ri_isI) (i := 1) (n := 1) (v := .int 0) rfl (e := (.iload_n 1, 1, [], .null)) rfl rfl (fun _ _ => rfl) l1 rfl
  have E := E.pu (p := 7) (lo' := lo) (st' := [.int 0, .int 0]) rfl (e := (.iconst 0, 1, [], .null)) rfl rfl (fun _ _ => rfl)
  have E := E.pu (p := 8) (lo' := lo) (st' := [.int 1, .int 0, .int 0]) rfl (e := (.iconst 1, 1, [], .null)) rfl rfl (fun _ _ => rfl)
  obtain ⟨v1, h4, X, E⟩ := E.cs (p := 11) (as := [.int 0, .int 0, .int 1]) (r := []) rfl (x := 177) (m := 3) (w := .null) (j := 149) (n := 3) (t := 0) (u := [1519, 1520]) rfl rfl rfl
  rcases sp_149 (d := d) X hV2 (ty.ui rfl) with ⟨c5, rfl, hV6, hN7⟩ | ⟨c8, c9, rfl, hV10, hN11⟩ | ⟨c12, c13, rfl, hV14, hN15⟩
  · skip
    exact absurd c5 (by decide)
  · skip
    exact absurd c9 (by decide)
  · skip
    have E : eh_e _ _ 11 lo [.int 1] _ rs h' := E
    have E := E.brt (c := 1) (tgt := 16) (a := 1) (b := 0) (st' := []) rfl (e := (.ifCond .ne 5, 3, [16], .null)) rfl rfl (fun _ _ => rfl) (by decide)
    have E := E.pu (p := 17) (lo' := lo) (st' := [.int 0]) rfl (e := (.iconst 0, 1, [], .null)) rfl rfl (fun _ _ => rfl)
    have E := E.so (p := 18) (t := ri_isI) (i := 2) (n := 1) rfl (e := (.istore_n 2, 1, [], .null)) rfl rfl (fun _ _ => rfl) rfl
    have k16_2 : ri_lk (ri_st1 lo 2 (.int 0)) 2 = some (.int 0) := eh_self
    have k16_0 : ri_lk (ri_st1 lo 2 (.int 0)) 0 = some (.ref 0) := eh_keep (by decide) (Or.inl rfl) l0
    have k16_1 : ri_lk (ri_st1 lo 2 (.int 0)) 1 = some (.int 0) := eh_keep (by decide) (Or.inl rfl) l1
    exact ⟨_, _, E, hV14, (hN15.trans hN3), (ty.ui rfl), k16_0, k16_1, k16_2⟩
theorem mi_i0 {cal : eh_K} {lo : List (Nat × Value)} {h h' : ri_H} {rs : List Value} {G : eh_W} {i : Int32} (E : eh_e cal md_252 18 lo [] h rs h') (hV : eh_V h = G) (ty : eh_ty tM G) (l0 : ri_lk lo 0 = some (.ref 0)) (l1 : ri_lk lo 1 = some (.int 0)) (l2 : ri_lk lo 2 = some (.int i)) : (¬ (i.toInt < 355) ∧ ∃ hz loz, eh_e cal md_252 49 loz [] hz rs h' ∧ eh_V hz = G ∧ eh_N hz = eh_N h ∧ eh_ty tM G ∧ ri_lk loz 0 = some (.ref 0) ∧ ri_lk loz 1 = some (.int 0) ∧ ri_lk loz 2 = some (.int i)) ∨ (i.toInt < 355 ∧ ∃ hz loz, eh_e cal md_252 18 loz [] hz rs h' ∧ eh_V hz = eh_u G 15 (0 + i).toNatClampNeg (.int (eh_i G 2 (i).toNatClampNeg)) ∧ eh_N hz = eh_N h ∧ eh_ty tM (eh_u G 15 (0 + i).toNatClampNeg (.int (eh_i G 2 (i).toNatClampNeg))) ∧ ri_lk loz 0 = some (.ref 0) ∧ ri_lk loz 1 = some (.int 0) ∧ ri_lk loz 2 = some (.int (i + 1))) := by
  have E := E.ld (p := 19) (t := ri_isI) (i := 2) (n := 1) (v := .int i) rfl (e := (.iload_n 2, 1, [], .null)) rfl rfl (fun _ _ => rfl) l2 rfl
  have E := E.pu (p := 22) (lo' := lo) (st' := [.int 355, .int i]) rfl (e := (.sipush 355, 3, [], .null)) rfl rfl (fun _ _ => rfl)
  rcases eh_r3 rfl (show (355 : Int32).toInt = 355 by decide) (E.br (p := 25) (c := 3) (tgt := 49) (a := i) (b := 355) (st' := []) rfl (e := (.if_icmp .ge 27, 3, [49], .null)) rfl rfl (fun _ _ => rfl) rfl) with ⟨c1, E⟩ | ⟨c1, E⟩
  · skip
    exact Or.inl ⟨c1, _, _, E, hV, rfl, ty, l0, l1, l2⟩
  · skip
    have E := E.ld (p := 26) (t := ri_isA) (i := 0) (n := 1) (v := .ref 0) rfl (e := (.aload_n 0, 1, [], .null)) rfl rfl (fun _ _ => rfl) l0 rfl
    have E := E.gr (n := 15) (p := 29) rfl (x := 75) (m := 3) (w := .null) (t := 12) (i := 45) (u := 1369) rfl rfl hV ty rfl
    have E := E.pu (p := 32) (lo' := lo) (st' := [.int 355, .ref 15]) rfl (e := (.sipush 355, 3, [], .null)) rfl rfl (fun _ _ => rfl)
    have E := E.ld (p := 33) (t := ri_isI) (i := 1) (n := 1) (v := .int 0) rfl (e := (.iload_n 1, 1, [], .null)) rfl rfl (fun _ _ => rfl) l1 rfl
    have E := E.pu (p := 34) (lo' := lo) (st' := [.int 0, .ref 15]) rfl (e := (.imul, 1, [], .null)) rfl rfl (fun _ _ => rfl)
    have E := E.ld (p := 35) (t := ri_isI) (i := 2) (n := 1) (v := .int i) rfl (e := (.iload_n 2, 1, [], .null)) rfl rfl (fun _ _ => rfl) l2 rfl
    have E := E.pu (p := 36) (lo' := lo) (st' := [.int (0 + i), .ref 15]) rfl (e := (.iadd, 1, [], .null)) rfl rfl (fun _ _ => rfl)
    have E := E.ld (p := 37) (t := ri_isA) (i := 0) (n := 1) (v := .ref 0) rfl (e := (.aload_n 0, 1, [], .null)) rfl rfl (fun _ _ => rfl) l0 rfl
    have E := E.gr (n := 2) (p := 40) rfl (x := 33) (m := 3) (w := .null) (t := 12) (i := 6) (u := 1330) rfl rfl hV ty rfl
    have E := E.ld (p := 41) (t := ri_isI) (i := 2) (n := 1) (v := .int i) rfl (e := (.iload_n 2, 1, [], .null)) rfl rfl (fun _ _ => rfl) l2 rfl
    have E := E.ai (p := 42) (z := eh_i G 2 (i).toNatClampNeg) (n := (i).toNatClampNeg) rfl (e := (.iaload, 1, [], .null)) rfl rfl (fun _ _ => rfl) rfl hV ty rfl rfl rfl
    obtain ⟨h2, hV3, hN4, E⟩ := E.aw (gg := ri_g1) (b := true) (p := 43) (n := (0 + i).toNatClampNeg) rfl (e := (.iastore, 1, [], .null)) rfl rfl (fun _ _ => rfl) rfl hV rfl
    have E := E.ii (p := 46) (y := i + 1) rfl (i := 2) (n := 1) (m := 3) (ax := []) (w := .null) rfl l2 rfl rfl
    have k5_2 : ri_lk (ri_st1 lo 2 (.int (i + 1))) 2 = some (.int (i + 1)) := eh_self
    have k5_0 : ri_lk (ri_st1 lo 2 (.int (i + 1))) 0 = some (.ref 0) := eh_keep (by decide) (Or.inl rfl) l0
    have k5_1 : ri_lk (ri_st1 lo 2 (.int (i + 1))) 1 = some (.int 0) := eh_keep (by decide) (Or.inl rfl) l1
    have E := E.pu (p := 18) (lo' := (ri_st1 lo 2 (.int (i + 1)))) (st' := []) rfl (e := (.goto (-28), 3, [18], .null)) rfl rfl (fun _ _ => rfl)
    exact Or.inr (⟨c1, _, _, E, hV3, hN4, (ty.ui rfl), k5_0, k5_1, k5_2⟩)
theorem mi_b0 {cal : eh_K} {lo : List (Nat × Value)} {h h' : ri_H} {rs : List Value} {G : eh_W} (E : eh_e cal md_252 49 lo [] h rs h') (hV : eh_V h = G) (ty : eh_ty tM G) (l0 : ri_lk lo 0 = some (.ref 0)) (l1 : ri_lk lo 1 = some (.int 0)) : ∃ hz loz, eh_e cal md_252 51 loz [] hz rs h' ∧ eh_V hz = G ∧ eh_N hz = eh_N h ∧ eh_ty tM G ∧ ri_lk loz 0 = some (.ref 0) ∧ ri_lk loz 1 = some (.int 0) ∧ ri_lk loz 2 = some (.int 0) := by
  have E := E.pu (p := 50) (lo' := lo) (st' := [.int 0]) rfl (e := (.iconst 0, 1, [], .null)) rfl rfl (fun _ _ => rfl)
  have E := E.so (p := 51) (t := ri_isI) (i := 2) (n := 1) rfl (e := (.istore_n 2, 1, [], .null)) rfl rfl (fun _ _ => rfl) rfl
  have k1_2 : ri_lk (ri_st1 lo 2 (.int 0)) 2 = some (.int 0) := eh_self
  have k1_0 : ri_lk (ri_st1 lo 2 (.int 0)) 0 = some (.ref 0) := eh_keep (by decide) (Or.inl rfl) l0
  have k1_1 : ri_lk (ri_st1 lo 2 (.int 0)) 1 = some (.int 0) := eh_keep (by decide) (Or.inl rfl) l1
  exact ⟨_, _, E, hV, rfl, ty, k1_0, k1_1, k1_2⟩
theorem mi_j0 {cal : eh_K} {lo : List (Nat × Value)} {h h' : ri_H} {rs : List Value} {G : eh_W} {i : Int32} (E : eh_e cal md_252 51 lo [] h rs h') (hV : eh_V h = G) (ty : eh_ty tM G) (l0 : ri_lk lo 0 = some (.ref 0)) (l1 : ri_lk lo 1 = some (.int 0)) (l2 : ri_lk lo 2 = some (.int i)) : (¬ (i.toInt < 24) ∧ ∃ hz loz, eh_e cal md_252 80 loz [] hz rs h' ∧ eh_V hz = G ∧ eh_N hz = eh_N h ∧ eh_ty tM G ∧ ri_lk loz 0 = some (.ref 0) ∧ ri_lk loz 1 = some (.int 0) ∧ ri_lk loz 2 = some (.int i)) ∨ (i.toInt < 24 ∧ ∃ hz loz, eh_e cal md_252 51 loz [] hz rs h' ∧ eh_V hz = eh_u G 16 (0 + i).toNatClampNeg (.long (eh_l G 5 (i).toNatClampNeg)) ∧ eh_N hz = eh_N h ∧ eh_ty tM (eh_u G 16 (0 + i).toNatClampNeg (.long (eh_l G 5 (i).toNatClampNeg))) ∧ ri_lk loz 0 = some (.ref 0) ∧ ri_lk loz 1 = some (.int 0) ∧ ri_lk loz 2 = some (.int (i + 1))) := by
  have E := E.ld (p := 52) (t := ri_isI) (i := 2) (n := 1) (v := .int i) rfl (e := (.iload_n 2, 1, [], .null)) rfl rfl (fun _ _ => rfl) l2 rfl
  have E := E.pu (p := 54) (lo' := lo) (st' := [.int 24, .int i]) rfl (e := (.bipush 24, 2, [], .null)) rfl rfl (fun _ _ => rfl)
  rcases eh_r3 rfl (show (24 : Int32).toInt = 24 by decide) (E.br (p := 57) (c := 3) (tgt := 80) (a := i) (b := 24) (st' := []) rfl (e := (.if_icmp .ge 26, 3, [80], .null)) rfl rfl (fun _ _ => rfl) rfl) with ⟨c1, E⟩ | ⟨c1, E⟩
  · skip
    exact Or.inl ⟨c1, _, _, E, hV, rfl, ty, l0, l1, l2⟩
  · skip
    have E := E.ld (p := 58) (t := ri_isA) (i := 0) (n := 1) (v := .ref 0) rfl (e := (.aload_n 0, 1, [], .null)) rfl rfl (fun _ _ => rfl) l0 rfl
    have E := E.gr (n := 16) (p := 61) rfl (x := 78) (m := 3) (w := .null) (t := 12) (i := 46) (u := 1370) rfl rfl hV ty rfl
    have E := E.pu (p := 63) (lo' := lo) (st' := [.int 24, .ref 16]) rfl (e := (.bipush 24, 2, [], .null)) rfl rfl (fun _ _ => rfl)
    have E := E.ld (p := 64) (t := ri_isI) (i := 1) (n := 1) (v := .int 0) rfl (e := (.iload_n 1, 1, [], .null)) rfl rfl (fun _ _ => rfl) l1 rfl
    have E := E.pu (p := 65) (lo' := lo) (st' := [.int 0, .ref 16]) rfl (e := (.imul, 1, [], .null)) rfl rfl (fun _ _ => rfl)
    have E := E.ld (p := 66) (t := ri_isI) (i := 2) (n := 1) (v := .int i) rfl (e := (.iload_n 2, 1, [], .null)) rfl rfl (fun _ _ => rfl) l2 rfl
    have E := E.pu (p := 67) (lo' := lo) (st' := [.int (0 + i), .ref 16]) rfl (e := (.iadd, 1, [], .null)) rfl rfl (fun _ _ => rfl)
    have E := E.ld (p := 68) (t := ri_isA) (i := 0) (n := 1) (v := .ref 0) rfl (e := (.aload_n 0, 1, [], .null)) rfl rfl (fun _ _ => rfl) l0 rfl
    have E := E.gr (n := 5) (p := 71) rfl (x := 43) (m := 3) (w := .null) (t := 12) (i := 9) (u := 1333) rfl rfl hV ty rfl
    have E := E.ld (p := 72) (t := ri_isI) (i := 2) (n := 1) (v := .int i) rfl (e := (.iload_n 2, 1, [], .null)) rfl rfl (fun _ _ => rfl) l2 rfl
    have E := E.al (p := 73) (z := eh_l G 5 (i).toNatClampNeg) (n := (i).toNatClampNeg) rfl (e := (.laload, 1, [], .null)) rfl rfl (fun _ _ => rfl) rfl hV ty rfl rfl rfl
    obtain ⟨h2, hV3, hN4, E⟩ := E.aw (gg := ri_g3) (b := true) (p := 74) (n := (0 + i).toNatClampNeg) rfl (e := (.lastore, 1, [], .null)) rfl rfl (fun _ _ => rfl) rfl hV rfl
    have E := E.ii (p := 77) (y := i + 1) rfl (i := 2) (n := 1) (m := 3) (ax := []) (w := .null) rfl l2 rfl rfl
    have k5_2 : ri_lk (ri_st1 lo 2 (.int (i + 1))) 2 = some (.int (i + 1)) := eh_self
    have k5_0 : ri_lk (ri_st1 lo 2 (.int (i + 1))) 0 = some (.ref 0) := eh_keep (by decide) (Or.inl rfl) l0
    have k5_1 : ri_lk (ri_st1 lo 2 (.int (i + 1))) 1 = some (.int 0) := eh_keep (by decide) (Or.inl rfl) l1
    have E := E.pu (p := 51) (lo' := (ri_st1 lo 2 (.int (i + 1)))) (st' := []) rfl (e := (.goto (-26), 3, [51], .null)) rfl rfl (fun _ _ => rfl)
    exact Or.inr (⟨c1, _, _, E, hV3, hN4, (ty.ul rfl), k5_0, k5_1, k5_2⟩)
theorem mi_z0 {cal : eh_K} {lo : List (Nat × Value)} {h h' : ri_H} {rs : List Value} {G : eh_W} (E : eh_e cal md_252 80 lo [] h rs h') (hV : eh_V h = G) (ty : eh_ty tM G) (l0 : ri_lk lo 0 = some (.ref 0)) (l1 : ri_lk lo 1 = some (.int 0)) : rs = [.int 1] ∧ eh_V h' = eh_u G 17 0 (.int ((1 : Int32).toInt8.toInt32)) ∧ eh_N h' = eh_N h := by
  have E := E.ld (p := 81) (t := ri_isA) (i := 0) (n := 1) (v := .ref 0) rfl (e := (.aload_n 0, 1, [], .null)) rfl rfl (fun _ _ => rfl) l0 rfl
  have E := E.gr (n := 17) (p := 84) rfl (x := 81) (m := 3) (w := .null) (t := 12) (i := 47) (u := 1371) rfl rfl hV ty rfl
  have E := E.ld (p := 85) (t := ri_isI) (i := 1) (n := 1) (v := .int 0) rfl (e := (.iload_n 1, 1, [], .null)) rfl rfl (fun _ _ => rfl) l1 rfl
  have E := E.pu (p := 86) (lo' := lo) (st' := [.int 1, .int 0, .ref 17]) rfl (e := (.iconst 1, 1, [], .null)) rfl rfl (fun _ _ => rfl)
  obtain ⟨h1, hV2, hN3, E⟩ := E.bw (p := 87) (n := 0) rfl (m := 1) (ax := []) (w := .null) rfl rfl hV (by decide)
  have E := E.pu (p := 88) (lo' := lo) (st' := [.int 1]) rfl (e := (.iconst 1, 1, [], .null)) rfl rfl (fun _ _ => rfl)
  obtain ⟨r1, r2⟩ := E.reti rfl (m := 1) (ax := []) (w := .null) rfl
  exact ⟨r1, ((congrArg eh_V r2).trans hV2), ((congrArg eh_N r2).trans hN3)⟩
theorem mr_a0 {d : Nat} {lo : List (Nat × Value)} {h h' : ri_H} {rs : List Value} {G : eh_W} (E : eh_e (ri_calE ri_md (d + 1)) md_253 0 lo [] h rs h') (hV : eh_V h = G) (ty : eh_ty tM G) (l0 : ri_lk lo 0 = some (.ref 0)) (l1 : ri_lk lo 1 = some (.int 0)) : (¬ ((eh_i G 17 0) = 0) ∧ ∃ hz loz, eh_e (ri_calE ri_md (d + 1)) md_253 27 loz [] hz rs h' ∧ eh_V hz = eh_u G 0 0 (.int 0) ∧ eh_N hz = eh_N h ∧ eh_ty tM (eh_u G 0 0 (.int 0)) ∧ ri_lk loz 0 = some (.ref 0) ∧ ri_lk loz 1 = some (.int 0) ∧ ri_lk loz 2 = some (.int 0)) ∨ ((eh_i G 17 0) = 0 ∧ rs = [.int 0] ∧ eh_V h' = eh_u G 0 0 (.int 0) ∧ eh_N h' = eh_N h) := by
  have E := E.ld (p := 1) (t := ri_isA) (i := 0) (n := 1) (v := .ref 0) rfl (e := (.aload_n 0, 1, [], .null)) rfl rfl (fun _ _ => rfl) l0 rfl
  have E := E.pu (p := 2) (lo' := lo) (st' := [.int 0, .ref 0]) rfl (e := (.iconst 0, 1, [], .null)) rfl rfl (fun _ _ => rfl)
  obtain ⟨h1, hV2, hN3, E⟩ := E.gp (p := 5) rfl (x := 1) (m := 3) (w := .null) (t := 12) (i := 0) (u := 1324) (y := 0) rfl rfl hV
  have E := E.ld (p := 6) (t := ri_isI) (i := 1) (n := 1) (v := .int 0) rfl (e := (.iload_n 1, 1, [], .null)) rfl rfl (fun _ _ => rfl) l1 rfl
  have E := E.pu (p := 7) (lo' := lo) (st' := [.int 0, .int 0]) rfl (e := (.iconst 0, 1, [], .null)) rfl rfl (fun _ _ => rfl)
  have E := E.pu (p := 8) (lo' := lo) (st' := [.int 1, .int 0, .int 0]) rfl (e := (.iconst 1, 1, [], .null)) rfl rfl (fun _ _ => rfl)
  obtain ⟨v1, h4, X, E⟩ := E.cs (p := 11) (as := [.int 0, .int 0, .int 1]) (r := []) rfl (x := 177) (m := 3) (w := .null) (j := 149) (n := 3) (t := 0) (u := [1519, 1520]) rfl rfl rfl
  rcases sp_149 (d := d) X hV2 (ty.ui rfl) with ⟨c5, rfl, hV6, hN7⟩ | ⟨c8, c9, rfl, hV10, hN11⟩ | ⟨c12, c13, rfl, hV14, hN15⟩
  · skip
    exact absurd c5 (by decide)
  · skip
    exact absurd c9 (by decide)
  · skip
    have E : eh_e _ _ 11 lo [.int 1] _ rs h' := E
    have E := E.brf (p := 14) (c := 0) (tgt := 23) (a := 1) (b := 0) (st' := []) rfl (e := (.ifCond .eq 12, 3, [23], .null)) rfl rfl (fun _ _ => rfl) (by decide) rfl
    have E := E.ld (p := 15) (t := ri_isA) (i := 0) (n := 1) (v := .ref 0) rfl (e := (.aload_n 0, 1, [], .null)) rfl rfl (fun _ _ => rfl) l0 rfl
    have E := E.gr (n := 17) (p := 18) rfl (x := 81) (m := 3) (w := .null) (t := 12) (i := 47) (u := 1371) rfl rfl hV14 (ty.ui rfl) rfl
    have E := E.ld (p := 19) (t := ri_isI) (i := 1) (n := 1) (v := .int 0) rfl (e := (.iload_n 1, 1, [], .null)) rfl rfl (fun _ _ => rfl) l1 rfl
    have E := E.ai (p := 20) (z := eh_i G 17 0) (n := 0) rfl (e := (.baload, 1, [], .null)) rfl rfl (fun _ _ => rfl) rfl hV14 (ty.ui rfl) (by decide) rfl rfl
    rcases eh_q1 (E.br (p := 23) (c := 1) (tgt := 25) (a := eh_i G 17 0) (b := 0) (st' := []) rfl (e := (.ifCond .ne 5, 3, [25], .null)) rfl rfl (fun _ _ => rfl) rfl) with ⟨c16, E⟩ | ⟨c16, E⟩
    · skip
      have E := E.pu (p := 26) (lo' := lo) (st' := [.int 0]) rfl (e := (.iconst 0, 1, [], .null)) rfl rfl (fun _ _ => rfl)
      have E := E.so (p := 27) (t := ri_isI) (i := 2) (n := 1) rfl (e := (.istore_n 2, 1, [], .null)) rfl rfl (fun _ _ => rfl) rfl
      have k17_2 : ri_lk (ri_st1 lo 2 (.int 0)) 2 = some (.int 0) := eh_self
      have k17_0 : ri_lk (ri_st1 lo 2 (.int 0)) 0 = some (.ref 0) := eh_keep (by decide) (Or.inl rfl) l0
      have k17_1 : ri_lk (ri_st1 lo 2 (.int 0)) 1 = some (.int 0) := eh_keep (by decide) (Or.inl rfl) l1
      exact Or.inl ⟨c16, _, _, E, hV14, (hN15.trans hN3), (ty.ui rfl), k17_0, k17_1, k17_2⟩
    · skip
      have E := E.pu (p := 24) (lo' := lo) (st' := [.int 0]) rfl (e := (.iconst 0, 1, [], .null)) rfl rfl (fun _ _ => rfl)
      obtain ⟨r1, r2⟩ := E.reti rfl (m := 1) (ax := []) (w := .null) rfl
      exact Or.inr (⟨c16, r1, ((congrArg eh_V r2).trans hV14), ((congrArg eh_N r2).trans (hN15.trans hN3))⟩)
theorem mr_i0 {cal : eh_K} {lo : List (Nat × Value)} {h h' : ri_H} {rs : List Value} {G : eh_W} {i : Int32} (E : eh_e cal md_253 27 lo [] h rs h') (hV : eh_V h = G) (ty : eh_ty tM G) (l0 : ri_lk lo 0 = some (.ref 0)) (l1 : ri_lk lo 1 = some (.int 0)) (l2 : ri_lk lo 2 = some (.int i)) : (¬ (i.toInt < 355) ∧ ∃ hz loz, eh_e cal md_253 58 loz [] hz rs h' ∧ eh_V hz = G ∧ eh_N hz = eh_N h ∧ eh_ty tM G ∧ ri_lk loz 0 = some (.ref 0) ∧ ri_lk loz 1 = some (.int 0) ∧ ri_lk loz 2 = some (.int i)) ∨ (i.toInt < 355 ∧ ∃ hz loz, eh_e cal md_253 27 loz [] hz rs h' ∧ eh_V hz = eh_u G 2 (i).toNatClampNeg (.int (eh_i G 15 (0 + i).toNatClampNeg)) ∧ eh_N hz = eh_N h ∧ eh_ty tM (eh_u G 2 (i).toNatClampNeg (.int (eh_i G 15 (0 + i).toNatClampNeg))) ∧ ri_lk loz 0 = some (.ref 0) ∧ ri_lk loz 1 = some (.int 0) ∧ ri_lk loz 2 = some (.int (i + 1))) := by
  have E := E.ld (p := 28) (t := ri_isI) (i := 2) (n := 1) (v := .int i) rfl (e := (.iload_n 2, 1, [], .null)) rfl rfl (fun _ _ => rfl) l2 rfl
  have E := E.pu (p := 31) (lo' := lo) (st' := [.int 355, .int i]) rfl (e := (.sipush 355, 3, [], .null)) rfl rfl (fun _ _ => rfl)
  rcases eh_r3 rfl (show (355 : Int32).toInt = 355 by decide) (E.br (p := 34) (c := 3) (tgt := 58) (a := i) (b := 355) (st' := []) rfl (e := (.if_icmp .ge 27, 3, [58], .null)) rfl rfl (fun _ _ => rfl) rfl) with ⟨c1, E⟩ | ⟨c1, E⟩
  · skip
    exact Or.inl ⟨c1, _, _, E, hV, rfl, ty, l0, l1, l2⟩
  · skip
    have E := E.ld (p := 35) (t := ri_isA) (i := 0) (n := 1) (v := .ref 0) rfl (e := (.aload_n 0, 1, [], .null)) rfl rfl (fun _ _ => rfl) l0 rfl
    have E := E.gr (n := 2) (p := 38) rfl (x := 33) (m := 3) (w := .null) (t := 12) (i := 6) (u := 1330) rfl rfl hV ty rfl
    have E := E.ld (p := 39) (t := ri_isI) (i := 2) (n := 1) (v := .int i) rfl (e := (.iload_n 2, 1, [], .null)) rfl rfl (fun _ _ => rfl) l2 rfl
    have E := E.ld (p := 40) (t := ri_isA) (i := 0) (n := 1) (v := .ref 0) rfl (e := (.aload_n 0, 1, [], .null)) rfl rfl (fun _ _ => rfl) l0 rfl
    have E := E.gr (n := 15) (p := 43) rfl (x := 75) (m := 3) (w := .null) (t := 12) (i := 45) (u := 1369) rfl rfl hV ty rfl
    have E := E.pu (p := 46) (lo' := lo) (st' := [.int 355, .ref 15, .int i, .ref 2]) rfl (e := (.sipush 355, 3, [], .null)) rfl rfl (fun _ _ => rfl)
    have E := E.ld (p := 47) (t := ri_isI) (i := 1) (n := 1) (v := .int 0) rfl (e := (.iload_n 1, 1, [], .null)) rfl rfl (fun _ _ => rfl) l1 rfl
    have E := E.pu (p := 48) (lo' := lo) (st' := [.int 0, .ref 15, .int i, .ref 2]) rfl (e := (.imul, 1, [], .null)) rfl rfl (fun _ _ => rfl)
    have E := E.ld (p := 49) (t := ri_isI) (i := 2) (n := 1) (v := .int i) rfl (e := (.iload_n 2, 1, [], .null)) rfl rfl (fun _ _ => rfl) l2 rfl
    have E := E.pu (p := 50) (lo' := lo) (st' := [.int (0 + i), .ref 15, .int i, .ref 2]) rfl (e := (.iadd, 1, [], .null)) rfl rfl (fun _ _ => rfl)
    have E := E.ai (p := 51) (z := eh_i G 15 (0 + i).toNatClampNeg) (n := (0 + i).toNatClampNeg) rfl (e := (.iaload, 1, [], .null)) rfl rfl (fun _ _ => rfl) rfl hV ty rfl rfl rfl
    obtain ⟨h2, hV3, hN4, E⟩ := E.aw (gg := ri_g1) (b := true) (p := 52) (n := (i).toNatClampNeg) rfl (e := (.iastore, 1, [], .null)) rfl rfl (fun _ _ => rfl) rfl hV rfl
    have E := E.ii (p := 55) (y := i + 1) rfl (i := 2) (n := 1) (m := 3) (ax := []) (w := .null) rfl l2 rfl rfl
    have k5_2 : ri_lk (ri_st1 lo 2 (.int (i + 1))) 2 = some (.int (i + 1)) := eh_self
    have k5_0 : ri_lk (ri_st1 lo 2 (.int (i + 1))) 0 = some (.ref 0) := eh_keep (by decide) (Or.inl rfl) l0
    have k5_1 : ri_lk (ri_st1 lo 2 (.int (i + 1))) 1 = some (.int 0) := eh_keep (by decide) (Or.inl rfl) l1
    have E := E.pu (p := 27) (lo' := (ri_st1 lo 2 (.int (i + 1)))) (st' := []) rfl (e := (.goto (-28), 3, [27], .null)) rfl rfl (fun _ _ => rfl)
    exact Or.inr (⟨c1, _, _, E, hV3, hN4, (ty.ui rfl), k5_0, k5_1, k5_2⟩)
theorem mr_b0 {cal : eh_K} {lo : List (Nat × Value)} {h h' : ri_H} {rs : List Value} {G : eh_W} (E : eh_e cal md_253 58 lo [] h rs h') (hV : eh_V h = G) (ty : eh_ty tM G) (l0 : ri_lk lo 0 = some (.ref 0)) (l1 : ri_lk lo 1 = some (.int 0)) : ∃ hz loz, eh_e cal md_253 60 loz [] hz rs h' ∧ eh_V hz = G ∧ eh_N hz = eh_N h ∧ eh_ty tM G ∧ ri_lk loz 0 = some (.ref 0) ∧ ri_lk loz 1 = some (.int 0) ∧ ri_lk loz 2 = some (.int 0) := by
  have E := E.pu (p := 59) (lo' := lo) (st' := [.int 0]) rfl (e := (.iconst 0, 1, [], .null)) rfl rfl (fun _ _ => rfl)
  have E := E.so (p := 60) (t := ri_isI) (i := 2) (n := 1) rfl (e := (.istore_n 2, 1, [], .null)) rfl rfl (fun _ _ => rfl) rfl
  have k1_2 : ri_lk (ri_st1 lo 2 (.int 0)) 2 = some (.int 0) := eh_self
  have k1_0 : ri_lk (ri_st1 lo 2 (.int 0)) 0 = some (.ref 0) := eh_keep (by decide) (Or.inl rfl) l0
  have k1_1 : ri_lk (ri_st1 lo 2 (.int 0)) 1 = some (.int 0) := eh_keep (by decide) (Or.inl rfl) l1
  exact ⟨_, _, E, hV, rfl, ty, k1_0, k1_1, k1_2⟩
theorem mr_j0 {cal : eh_K} {lo : List (Nat × Value)} {h h' : ri_H} {rs : List Value} {G : eh_W} {i : Int32} (E : eh_e cal md_253 60 lo [] h rs h') (hV : eh_V h = G) (ty : eh_ty tM G) (l0 : ri_lk lo 0 = some (.ref 0)) (l1 : ri_lk lo 1 = some (.int 0)) (l2 : ri_lk lo 2 = some (.int i)) : (¬ (i.toInt < 24) ∧ ∃ hz loz, eh_e cal md_253 89 loz [] hz rs h' ∧ eh_V hz = G ∧ eh_N hz = eh_N h ∧ eh_ty tM G ∧ ri_lk loz 0 = some (.ref 0) ∧ ri_lk loz 1 = some (.int 0) ∧ ri_lk loz 2 = some (.int i)) ∨ (i.toInt < 24 ∧ ∃ hz loz, eh_e cal md_253 60 loz [] hz rs h' ∧ eh_V hz = eh_u G 5 (i).toNatClampNeg (.long (eh_l G 16 (0 + i).toNatClampNeg)) ∧ eh_N hz = eh_N h ∧ eh_ty tM (eh_u G 5 (i).toNatClampNeg (.long (eh_l G 16 (0 + i).toNatClampNeg))) ∧ ri_lk loz 0 = some (.ref 0) ∧ ri_lk loz 1 = some (.int 0) ∧ ri_lk loz 2 = some (.int (i + 1))) := by
  have E := E.ld (p := 61) (t := ri_isI) (i := 2) (n := 1) (v := .int i) rfl (e := (.iload_n 2, 1, [], .null)) rfl rfl (fun _ _ => rfl) l2 rfl
  have E := E.pu (p := 63) (lo' := lo) (st' := [.int 24, .int i]) rfl (e := (.bipush 24, 2, [], .null)) rfl rfl (fun _ _ => rfl)
  rcases eh_r3 rfl (show (24 : Int32).toInt = 24 by decide) (E.br (p := 66) (c := 3) (tgt := 89) (a := i) (b := 24) (st' := []) rfl (e := (.if_icmp .ge 26, 3, [89], .null)) rfl rfl (fun _ _ => rfl) rfl) with ⟨c1, E⟩ | ⟨c1, E⟩
  · skip
    exact Or.inl ⟨c1, _, _, E, hV, rfl, ty, l0, l1, l2⟩
  · skip
    have E := E.ld (p := 67) (t := ri_isA) (i := 0) (n := 1) (v := .ref 0) rfl (e := (.aload_n 0, 1, [], .null)) rfl rfl (fun _ _ => rfl) l0 rfl
    have E := E.gr (n := 5) (p := 70) rfl (x := 43) (m := 3) (w := .null) (t := 12) (i := 9) (u := 1333) rfl rfl hV ty rfl
    have E := E.ld (p := 71) (t := ri_isI) (i := 2) (n := 1) (v := .int i) rfl (e := (.iload_n 2, 1, [], .null)) rfl rfl (fun _ _ => rfl) l2 rfl
    have E := E.ld (p := 72) (t := ri_isA) (i := 0) (n := 1) (v := .ref 0) rfl (e := (.aload_n 0, 1, [], .null)) rfl rfl (fun _ _ => rfl) l0 rfl
    have E := E.gr (n := 16) (p := 75) rfl (x := 78) (m := 3) (w := .null) (t := 12) (i := 46) (u := 1370) rfl rfl hV ty rfl
    have E := E.pu (p := 77) (lo' := lo) (st' := [.int 24, .ref 16, .int i, .ref 5]) rfl (e := (.bipush 24, 2, [], .null)) rfl rfl (fun _ _ => rfl)
    have E := E.ld (p := 78) (t := ri_isI) (i := 1) (n := 1) (v := .int 0) rfl (e := (.iload_n 1, 1, [], .null)) rfl rfl (fun _ _ => rfl) l1 rfl
    have E := E.pu (p := 79) (lo' := lo) (st' := [.int 0, .ref 16, .int i, .ref 5]) rfl (e := (.imul, 1, [], .null)) rfl rfl (fun _ _ => rfl)
    have E := E.ld (p := 80) (t := ri_isI) (i := 2) (n := 1) (v := .int i) rfl (e := (.iload_n 2, 1, [], .null)) rfl rfl (fun _ _ => rfl) l2 rfl
    have E := E.pu (p := 81) (lo' := lo) (st' := [.int (0 + i), .ref 16, .int i, .ref 5]) rfl (e := (.iadd, 1, [], .null)) rfl rfl (fun _ _ => rfl)
    have E := E.al (p := 82) (z := eh_l G 16 (0 + i).toNatClampNeg) (n := (0 + i).toNatClampNeg) rfl (e := (.laload, 1, [], .null)) rfl rfl (fun _ _ => rfl) rfl hV ty rfl rfl rfl
    obtain ⟨h2, hV3, hN4, E⟩ := E.aw (gg := ri_g3) (b := true) (p := 83) (n := (i).toNatClampNeg) rfl (e := (.lastore, 1, [], .null)) rfl rfl (fun _ _ => rfl) rfl hV rfl
    have E := E.ii (p := 86) (y := i + 1) rfl (i := 2) (n := 1) (m := 3) (ax := []) (w := .null) rfl l2 rfl rfl
    have k5_2 : ri_lk (ri_st1 lo 2 (.int (i + 1))) 2 = some (.int (i + 1)) := eh_self
    have k5_0 : ri_lk (ri_st1 lo 2 (.int (i + 1))) 0 = some (.ref 0) := eh_keep (by decide) (Or.inl rfl) l0
    have k5_1 : ri_lk (ri_st1 lo 2 (.int (i + 1))) 1 = some (.int 0) := eh_keep (by decide) (Or.inl rfl) l1
    have E := E.pu (p := 60) (lo' := (ri_st1 lo 2 (.int (i + 1)))) (st' := []) rfl (e := (.goto (-26), 3, [60], .null)) rfl rfl (fun _ _ => rfl)
    exact Or.inr (⟨c1, _, _, E, hV3, hN4, (ty.ul rfl), k5_0, k5_1, k5_2⟩)
theorem mr_z0 {cal : eh_K} {lo : List (Nat × Value)} {h h' : ri_H} {rs : List Value} {G : eh_W} (E : eh_e cal md_253 89 lo [] h rs h') (hV : eh_V h = G) (ty : eh_ty tM G) (l0 : ri_lk lo 0 = some (.ref 0)) (l1 : ri_lk lo 1 = some (.int 0)) : rs = [.int 1] ∧ eh_V h' = eh_u G 0 25 (.int 0) ∧ eh_N h' = eh_N h := by
  have E := E.ld (p := 90) (t := ri_isA) (i := 0) (n := 1) (v := .ref 0) rfl (e := (.aload_n 0, 1, [], .null)) rfl rfl (fun _ _ => rfl) l0 rfl
  have E := E.pu (p := 91) (lo' := lo) (st' := [.int 0, .ref 0]) rfl (e := (.iconst 0, 1, [], .null)) rfl rfl (fun _ _ => rfl)
  obtain ⟨h1, hV2, hN3, E⟩ := E.gp (p := 94) rfl (x := 233) (m := 3) (w := .null) (t := 12) (i := 25) (u := 1349) (y := 0) rfl rfl hV
  have E := E.pu (p := 95) (lo' := lo) (st' := [.int 1]) rfl (e := (.iconst 1, 1, [], .null)) rfl rfl (fun _ _ => rfl)
  obtain ⟨r1, r2⟩ := E.reti rfl (m := 1) (ax := []) (w := .null) rfl
  exact ⟨r1, ((congrArg eh_V r2).trans hV2), ((congrArg eh_N r2).trans hN3)⟩
theorem mi_a1 {d : Nat} {lo : List (Nat × Value)} {h h' : ri_H} {rs : List Value} {G : eh_W} (E : eh_e (ri_calE ri_md (d + 1)) md_252 0 lo [] h rs h') (hV : eh_V h = G) (ty : eh_ty tM G) (l0 : ri_lk lo 0 = some (.ref 0)) (l1 : ri_lk lo 1 = some (.int 1)) : ∃ hz loz, eh_e (ri_calE ri_md (d + 1)) md_252 18 loz [] hz rs h' ∧ eh_V hz = eh_u G 0 0 (.int 0) ∧ eh_N hz = eh_N h ∧ eh_ty tM (eh_u G 0 0 (.int 0)) ∧ ri_lk loz 0 = some (.ref 0) ∧ ri_lk loz 1 = some (.int 1) ∧ ri_lk loz 2 = some (.int 0) := by
  have E := E.ld (p := 1) (t := ri_isA) (i := 0) (n := 1) (v := .ref 0) rfl (e := (.aload_n 0, 1, [], .null)) rfl rfl (fun _ _ => rfl) l0 rfl
  have E := E.pu (p := 2) (lo' := lo) (st' := [.int 0, .ref 0]) rfl (e := (.iconst 0, 1, [], .null)) rfl rfl (fun _ _ => rfl)
  obtain ⟨h1, hV2, hN3, E⟩ := E.gp (p := 5) rfl (x := 1) (m := 3) (w := .null) (t := 12) (i := 0) (u := 1324) (y := 0) rfl rfl hV
  have E := E.ld (p := 6) (t := ri_isI) (i := 1) (n := 1) (v := .int 1) rfl (e := (.iload_n 1, 1, [], .null)) rfl rfl (fun _ _ => rfl) l1 rfl
  have E := E.pu (p := 7) (lo' := lo) (st' := [.int 0, .int 1]) rfl (e := (.iconst 0, 1, [], .null)) rfl rfl (fun _ _ => rfl)
  have E := E.pu (p := 8) (lo' := lo) (st' := [.int 1, .int 0, .int 1]) rfl (e := (.iconst 1, 1, [], .null)) rfl rfl (fun _ _ => rfl)
  obtain ⟨v1, h4, X, E⟩ := E.cs (p := 11) (as := [.int 1, .int 0, .int 1]) (r := []) rfl (x := 177) (m := 3) (w := .null) (j := 149) (n := 3) (t := 0) (u := [1519, 1520]) rfl rfl rfl
  rcases sp_149 (d := d) X hV2 (ty.ui rfl) with ⟨c5, rfl, hV6, hN7⟩ | ⟨c8, c9, rfl, hV10, hN11⟩ | ⟨c12, c13, rfl, hV14, hN15⟩
  · skip
    exact absurd c5 (by decide)
  · skip
    exact absurd c9 (by decide)
  · skip
    have E : eh_e _ _ 11 lo [.int 1] _ rs h' := E
    have E := E.brt (c := 1) (tgt := 16) (a := 1) (b := 0) (st' := []) rfl (e := (.ifCond .ne 5, 3, [16], .null)) rfl rfl (fun _ _ => rfl) (by decide)
    have E := E.pu (p := 17) (lo' := lo) (st' := [.int 0]) rfl (e := (.iconst 0, 1, [], .null)) rfl rfl (fun _ _ => rfl)
    have E := E.so (p := 18) (t := ri_isI) (i := 2) (n := 1) rfl (e := (.istore_n 2, 1, [], .null)) rfl rfl (fun _ _ => rfl) rfl
    have k16_2 : ri_lk (ri_st1 lo 2 (.int 0)) 2 = some (.int 0) := eh_self
    have k16_0 : ri_lk (ri_st1 lo 2 (.int 0)) 0 = some (.ref 0) := eh_keep (by decide) (Or.inl rfl) l0
    have k16_1 : ri_lk (ri_st1 lo 2 (.int 0)) 1 = some (.int 1) := eh_keep (by decide) (Or.inl rfl) l1
    exact ⟨_, _, E, hV14, (hN15.trans hN3), (ty.ui rfl), k16_0, k16_1, k16_2⟩
theorem mi_i1 {cal : eh_K} {lo : List (Nat × Value)} {h h' : ri_H} {rs : List Value} {G : eh_W} {i : Int32} (E : eh_e cal md_252 18 lo [] h rs h') (hV : eh_V h = G) (ty : eh_ty tM G) (l0 : ri_lk lo 0 = some (.ref 0)) (l1 : ri_lk lo 1 = some (.int 1)) (l2 : ri_lk lo 2 = some (.int i)) : (¬ (i.toInt < 355) ∧ ∃ hz loz, eh_e cal md_252 49 loz [] hz rs h' ∧ eh_V hz = G ∧ eh_N hz = eh_N h ∧ eh_ty tM G ∧ ri_lk loz 0 = some (.ref 0) ∧ ri_lk loz 1 = some (.int 1) ∧ ri_lk loz 2 = some (.int i)) ∨ (i.toInt < 355 ∧ ∃ hz loz, eh_e cal md_252 18 loz [] hz rs h' ∧ eh_V hz = eh_u G 15 (355 + i).toNatClampNeg (.int (eh_i G 2 (i).toNatClampNeg)) ∧ eh_N hz = eh_N h ∧ eh_ty tM (eh_u G 15 (355 + i).toNatClampNeg (.int (eh_i G 2 (i).toNatClampNeg))) ∧ ri_lk loz 0 = some (.ref 0) ∧ ri_lk loz 1 = some (.int 1) ∧ ri_lk loz 2 = some (.int (i + 1))) := by
  have E := E.ld (p := 19) (t := ri_isI) (i := 2) (n := 1) (v := .int i) rfl (e := (.iload_n 2, 1, [], .null)) rfl rfl (fun _ _ => rfl) l2 rfl
  have E := E.pu (p := 22) (lo' := lo) (st' := [.int 355, .int i]) rfl (e := (.sipush 355, 3, [], .null)) rfl rfl (fun _ _ => rfl)
  rcases eh_r3 rfl (show (355 : Int32).toInt = 355 by decide) (E.br (p := 25) (c := 3) (tgt := 49) (a := i) (b := 355) (st' := []) rfl (e := (.if_icmp .ge 27, 3, [49], .null)) rfl rfl (fun _ _ => rfl) rfl) with ⟨c1, E⟩ | ⟨c1, E⟩
  · skip
    exact Or.inl ⟨c1, _, _, E, hV, rfl, ty, l0, l1, l2⟩
  · skip
    have E := E.ld (p := 26) (t := ri_isA) (i := 0) (n := 1) (v := .ref 0) rfl (e := (.aload_n 0, 1, [], .null)) rfl rfl (fun _ _ => rfl) l0 rfl
    have E := E.gr (n := 15) (p := 29) rfl (x := 75) (m := 3) (w := .null) (t := 12) (i := 45) (u := 1369) rfl rfl hV ty rfl
    have E := E.pu (p := 32) (lo' := lo) (st' := [.int 355, .ref 15]) rfl (e := (.sipush 355, 3, [], .null)) rfl rfl (fun _ _ => rfl)
    have E := E.ld (p := 33) (t := ri_isI) (i := 1) (n := 1) (v := .int 1) rfl (e := (.iload_n 1, 1, [], .null)) rfl rfl (fun _ _ => rfl) l1 rfl
    have E := E.pu (p := 34) (lo' := lo) (st' := [.int 355, .ref 15]) rfl (e := (.imul, 1, [], .null)) rfl rfl (fun _ _ => rfl)
    have E := E.ld (p := 35) (t := ri_isI) (i := 2) (n := 1) (v := .int i) rfl (e := (.iload_n 2, 1, [], .null)) rfl rfl (fun _ _ => rfl) l2 rfl
    have E := E.pu (p := 36) (lo' := lo) (st' := [.int (355 + i), .ref 15]) rfl (e := (.iadd, 1, [], .null)) rfl rfl (fun _ _ => rfl)
    have E := E.ld (p := 37) (t := ri_isA) (i := 0) (n := 1) (v := .ref 0) rfl (e := (.aload_n 0, 1, [], .null)) rfl rfl (fun _ _ => rfl) l0 rfl
    have E := E.gr (n := 2) (p := 40) rfl (x := 33) (m := 3) (w := .null) (t := 12) (i := 6) (u := 1330) rfl rfl hV ty rfl
    have E := E.ld (p := 41) (t := ri_isI) (i := 2) (n := 1) (v := .int i) rfl (e := (.iload_n 2, 1, [], .null)) rfl rfl (fun _ _ => rfl) l2 rfl
    have E := E.ai (p := 42) (z := eh_i G 2 (i).toNatClampNeg) (n := (i).toNatClampNeg) rfl (e := (.iaload, 1, [], .null)) rfl rfl (fun _ _ => rfl) rfl hV ty rfl rfl rfl
    obtain ⟨h2, hV3, hN4, E⟩ := E.aw (gg := ri_g1) (b := true) (p := 43) (n := (355 + i).toNatClampNeg) rfl (e := (.iastore, 1, [], .null)) rfl rfl (fun _ _ => rfl) rfl hV rfl
    have E := E.ii (p := 46) (y := i + 1) rfl (i := 2) (n := 1) (m := 3) (ax := []) (w := .null) rfl l2 rfl rfl
    have k5_2 : ri_lk (ri_st1 lo 2 (.int (i + 1))) 2 = some (.int (i + 1)) := eh_self
    have k5_0 : ri_lk (ri_st1 lo 2 (.int (i + 1))) 0 = some (.ref 0) := eh_keep (by decide) (Or.inl rfl) l0
    have k5_1 : ri_lk (ri_st1 lo 2 (.int (i + 1))) 1 = some (.int 1) := eh_keep (by decide) (Or.inl rfl) l1
    have E := E.pu (p := 18) (lo' := (ri_st1 lo 2 (.int (i + 1)))) (st' := []) rfl (e := (.goto (-28), 3, [18], .null)) rfl rfl (fun _ _ => rfl)
    exact Or.inr (⟨c1, _, _, E, hV3, hN4, (ty.ui rfl), k5_0, k5_1, k5_2⟩)
theorem mi_b1 {cal : eh_K} {lo : List (Nat × Value)} {h h' : ri_H} {rs : List Value} {G : eh_W} (E : eh_e cal md_252 49 lo [] h rs h') (hV : eh_V h = G) (ty : eh_ty tM G) (l0 : ri_lk lo 0 = some (.ref 0)) (l1 : ri_lk lo 1 = some (.int 1)) : ∃ hz loz, eh_e cal md_252 51 loz [] hz rs h' ∧ eh_V hz = G ∧ eh_N hz = eh_N h ∧ eh_ty tM G ∧ ri_lk loz 0 = some (.ref 0) ∧ ri_lk loz 1 = some (.int 1) ∧ ri_lk loz 2 = some (.int 0) := by
  have E := E.pu (p := 50) (lo' := lo) (st' := [.int 0]) rfl (e := (.iconst 0, 1, [], .null)) rfl rfl (fun _ _ => rfl)
  have E := E.so (p := 51) (t := ri_isI) (i := 2) (n := 1) rfl (e := (.istore_n 2, 1, [], .null)) rfl rfl (fun _ _ => rfl) rfl
  have k1_2 : ri_lk (ri_st1 lo 2 (.int 0)) 2 = some (.int 0) := eh_self
  have k1_0 : ri_lk (ri_st1 lo 2 (.int 0)) 0 = some (.ref 0) := eh_keep (by decide) (Or.inl rfl) l0
  have k1_1 : ri_lk (ri_st1 lo 2 (.int 0)) 1 = some (.int 1) := eh_keep (by decide) (Or.inl rfl) l1
  exact ⟨_, _, E, hV, rfl, ty, k1_0, k1_1, k1_2⟩
theorem mi_j1 {cal : eh_K} {lo : List (Nat × Value)} {h h' : ri_H} {rs : List Value} {G : eh_W} {i : Int32} (E : eh_e cal md_252 51 lo [] h rs h') (hV : eh_V h = G) (ty : eh_ty tM G) (l0 : ri_lk lo 0 = some (.ref 0)) (l1 : ri_lk lo 1 = some (.int 1)) (l2 : ri_lk lo 2 = some (.int i)) : (¬ (i.toInt < 24) ∧ ∃ hz loz, eh_e cal md_252 80 loz [] hz rs h' ∧ eh_V hz = G ∧ eh_N hz = eh_N h ∧ eh_ty tM G ∧ ri_lk loz 0 = some (.ref 0) ∧ ri_lk loz 1 = some (.int 1) ∧ ri_lk loz 2 = some (.int i)) ∨ (i.toInt < 24 ∧ ∃ hz loz, eh_e cal md_252 51 loz [] hz rs h' ∧ eh_V hz = eh_u G 16 (24 + i).toNatClampNeg (.long (eh_l G 5 (i).toNatClampNeg)) ∧ eh_N hz = eh_N h ∧ eh_ty tM (eh_u G 16 (24 + i).toNatClampNeg (.long (eh_l G 5 (i).toNatClampNeg))) ∧ ri_lk loz 0 = some (.ref 0) ∧ ri_lk loz 1 = some (.int 1) ∧ ri_lk loz 2 = some (.int (i + 1))) := by
  have E := E.ld (p := 52) (t := ri_isI) (i := 2) (n := 1) (v := .int i) rfl (e := (.iload_n 2, 1, [], .null)) rfl rfl (fun _ _ => rfl) l2 rfl
  have E := E.pu (p := 54) (lo' := lo) (st' := [.int 24, .int i]) rfl (e := (.bipush 24, 2, [], .null)) rfl rfl (fun _ _ => rfl)
  rcases eh_r3 rfl (show (24 : Int32).toInt = 24 by decide) (E.br (p := 57) (c := 3) (tgt := 80) (a := i) (b := 24) (st' := []) rfl (e := (.if_icmp .ge 26, 3, [80], .null)) rfl rfl (fun _ _ => rfl) rfl) with ⟨c1, E⟩ | ⟨c1, E⟩
  · skip
    exact Or.inl ⟨c1, _, _, E, hV, rfl, ty, l0, l1, l2⟩
  · skip
    have E := E.ld (p := 58) (t := ri_isA) (i := 0) (n := 1) (v := .ref 0) rfl (e := (.aload_n 0, 1, [], .null)) rfl rfl (fun _ _ => rfl) l0 rfl
    have E := E.gr (n := 16) (p := 61) rfl (x := 78) (m := 3) (w := .null) (t := 12) (i := 46) (u := 1370) rfl rfl hV ty rfl
    have E := E.pu (p := 63) (lo' := lo) (st' := [.int 24, .ref 16]) rfl (e := (.bipush 24, 2, [], .null)) rfl rfl (fun _ _ => rfl)
    have E := E.ld (p := 64) (t := ri_isI) (i := 1) (n := 1) (v := .int 1) rfl (e := (.iload_n 1, 1, [], .null)) rfl rfl (fun _ _ => rfl) l1 rfl
    have E := E.pu (p := 65) (lo' := lo) (st' := [.int 24, .ref 16]) rfl (e := (.imul, 1, [], .null)) rfl rfl (fun _ _ => rfl)
    have E := E.ld (p := 66) (t := ri_isI) (i := 2) (n := 1) (v := .int i) rfl (e := (.iload_n 2, 1, [], .null)) rfl rfl (fun _ _ => rfl) l2 rfl
    have E := E.pu (p := 67) (lo' := lo) (st' := [.int (24 + i), .ref 16]) rfl (e := (.iadd, 1, [], .null)) rfl rfl (fun _ _ => rfl)
    have E := E.ld (p := 68) (t := ri_isA) (i := 0) (n := 1) (v := .ref 0) rfl (e := (.aload_n 0, 1, [], .null)) rfl rfl (fun _ _ => rfl) l0 rfl
    have E := E.gr (n := 5) (p := 71) rfl (x := 43) (m := 3) (w := .null) (t := 12) (i := 9) (u := 1333) rfl rfl hV ty rfl
    have E := E.ld (p := 72) (t := ri_isI) (i := 2) (n := 1) (v := .int i) rfl (e := (.iload_n 2, 1, [], .null)) rfl rfl (fun _ _ => rfl) l2 rfl
    have E := E.al (p := 73) (z := eh_l G 5 (i).toNatClampNeg) (n := (i).toNatClampNeg) rfl (e := (.laload, 1, [], .null)) rfl rfl (fun _ _ => rfl) rfl hV ty rfl rfl rfl
    obtain ⟨h2, hV3, hN4, E⟩ := E.aw (gg := ri_g3) (b := true) (p := 74) (n := (24 + i).toNatClampNeg) rfl (e := (.lastore, 1, [], .null)) rfl rfl (fun _ _ => rfl) rfl hV rfl
    have E := E.ii (p := 77) (y := i + 1) rfl (i := 2) (n := 1) (m := 3) (ax := []) (w := .null) rfl l2 rfl rfl
    have k5_2 : ri_lk (ri_st1 lo 2 (.int (i + 1))) 2 = some (.int (i + 1)) := eh_self
    have k5_0 : ri_lk (ri_st1 lo 2 (.int (i + 1))) 0 = some (.ref 0) := eh_keep (by decide) (Or.inl rfl) l0
    have k5_1 : ri_lk (ri_st1 lo 2 (.int (i + 1))) 1 = some (.int 1) := eh_keep (by decide) (Or.inl rfl) l1
    have E := E.pu (p := 51) (lo' := (ri_st1 lo 2 (.int (i + 1)))) (st' := []) rfl (e := (.goto (-26), 3, [51], .null)) rfl rfl (fun _ _ => rfl)
    exact Or.inr (⟨c1, _, _, E, hV3, hN4, (ty.ul rfl), k5_0, k5_1, k5_2⟩)
theorem mi_z1 {cal : eh_K} {lo : List (Nat × Value)} {h h' : ri_H} {rs : List Value} {G : eh_W} (E : eh_e cal md_252 80 lo [] h rs h') (hV : eh_V h = G) (ty : eh_ty tM G) (l0 : ri_lk lo 0 = some (.ref 0)) (l1 : ri_lk lo 1 = some (.int 1)) : rs = [.int 1] ∧ eh_V h' = eh_u G 17 1 (.int ((1 : Int32).toInt8.toInt32)) ∧ eh_N h' = eh_N h := by
  have E := E.ld (p := 81) (t := ri_isA) (i := 0) (n := 1) (v := .ref 0) rfl (e := (.aload_n 0, 1, [], .null)) rfl rfl (fun _ _ => rfl) l0 rfl
  have E := E.gr (n := 17) (p := 84) rfl (x := 81) (m := 3) (w := .null) (t := 12) (i := 47) (u := 1371) rfl rfl hV ty rfl
  have E := E.ld (p := 85) (t := ri_isI) (i := 1) (n := 1) (v := .int 1) rfl (e := (.iload_n 1, 1, [], .null)) rfl rfl (fun _ _ => rfl) l1 rfl
  have E := E.pu (p := 86) (lo' := lo) (st' := [.int 1, .int 1, .ref 17]) rfl (e := (.iconst 1, 1, [], .null)) rfl rfl (fun _ _ => rfl)
  obtain ⟨h1, hV2, hN3, E⟩ := E.bw (p := 87) (n := 1) rfl (m := 1) (ax := []) (w := .null) rfl rfl hV (by decide)
  have E := E.pu (p := 88) (lo' := lo) (st' := [.int 1]) rfl (e := (.iconst 1, 1, [], .null)) rfl rfl (fun _ _ => rfl)
  obtain ⟨r1, r2⟩ := E.reti rfl (m := 1) (ax := []) (w := .null) rfl
  exact ⟨r1, ((congrArg eh_V r2).trans hV2), ((congrArg eh_N r2).trans hN3)⟩
theorem mr_a1 {d : Nat} {lo : List (Nat × Value)} {h h' : ri_H} {rs : List Value} {G : eh_W} (E : eh_e (ri_calE ri_md (d + 1)) md_253 0 lo [] h rs h') (hV : eh_V h = G) (ty : eh_ty tM G) (l0 : ri_lk lo 0 = some (.ref 0)) (l1 : ri_lk lo 1 = some (.int 1)) : (¬ ((eh_i G 17 1) = 0) ∧ ∃ hz loz, eh_e (ri_calE ri_md (d + 1)) md_253 27 loz [] hz rs h' ∧ eh_V hz = eh_u G 0 0 (.int 0) ∧ eh_N hz = eh_N h ∧ eh_ty tM (eh_u G 0 0 (.int 0)) ∧ ri_lk loz 0 = some (.ref 0) ∧ ri_lk loz 1 = some (.int 1) ∧ ri_lk loz 2 = some (.int 0)) ∨ ((eh_i G 17 1) = 0 ∧ rs = [.int 0] ∧ eh_V h' = eh_u G 0 0 (.int 0) ∧ eh_N h' = eh_N h) := by
  have E := E.ld (p := 1) (t := ri_isA) (i := 0) (n := 1) (v := .ref 0) rfl (e := (.aload_n 0, 1, [], .null)) rfl rfl (fun _ _ => rfl) l0 rfl
  have E := E.pu (p := 2) (lo' := lo) (st' := [.int 0, .ref 0]) rfl (e := (.iconst 0, 1, [], .null)) rfl rfl (fun _ _ => rfl)
  obtain ⟨h1, hV2, hN3, E⟩ := E.gp (p := 5) rfl (x := 1) (m := 3) (w := .null) (t := 12) (i := 0) (u := 1324) (y := 0) rfl rfl hV
  have E := E.ld (p := 6) (t := ri_isI) (i := 1) (n := 1) (v := .int 1) rfl (e := (.iload_n 1, 1, [], .null)) rfl rfl (fun _ _ => rfl) l1 rfl
  have E := E.pu (p := 7) (lo' := lo) (st' := [.int 0, .int 1]) rfl (e := (.iconst 0, 1, [], .null)) rfl rfl (fun _ _ => rfl)
  have E := E.pu (p := 8) (lo' := lo) (st' := [.int 1, .int 0, .int 1]) rfl (e := (.iconst 1, 1, [], .null)) rfl rfl (fun _ _ => rfl)
  obtain ⟨v1, h4, X, E⟩ := E.cs (p := 11) (as := [.int 1, .int 0, .int 1]) (r := []) rfl (x := 177) (m := 3) (w := .null) (j := 149) (n := 3) (t := 0) (u := [1519, 1520]) rfl rfl rfl
  rcases sp_149 (d := d) X hV2 (ty.ui rfl) with ⟨c5, rfl, hV6, hN7⟩ | ⟨c8, c9, rfl, hV10, hN11⟩ | ⟨c12, c13, rfl, hV14, hN15⟩
  · skip
    exact absurd c5 (by decide)
  · skip
    exact absurd c9 (by decide)
  · skip
    have E : eh_e _ _ 11 lo [.int 1] _ rs h' := E
    have E := E.brf (p := 14) (c := 0) (tgt := 23) (a := 1) (b := 0) (st' := []) rfl (e := (.ifCond .eq 12, 3, [23], .null)) rfl rfl (fun _ _ => rfl) (by decide) rfl
    have E := E.ld (p := 15) (t := ri_isA) (i := 0) (n := 1) (v := .ref 0) rfl (e := (.aload_n 0, 1, [], .null)) rfl rfl (fun _ _ => rfl) l0 rfl
    have E := E.gr (n := 17) (p := 18) rfl (x := 81) (m := 3) (w := .null) (t := 12) (i := 47) (u := 1371) rfl rfl hV14 (ty.ui rfl) rfl
    have E := E.ld (p := 19) (t := ri_isI) (i := 1) (n := 1) (v := .int 1) rfl (e := (.iload_n 1, 1, [], .null)) rfl rfl (fun _ _ => rfl) l1 rfl
    have E := E.ai (p := 20) (z := eh_i G 17 1) (n := 1) rfl (e := (.baload, 1, [], .null)) rfl rfl (fun _ _ => rfl) rfl hV14 (ty.ui rfl) (by decide) rfl rfl
    rcases eh_q1 (E.br (p := 23) (c := 1) (tgt := 25) (a := eh_i G 17 1) (b := 0) (st' := []) rfl (e := (.ifCond .ne 5, 3, [25], .null)) rfl rfl (fun _ _ => rfl) rfl) with ⟨c16, E⟩ | ⟨c16, E⟩
    · skip
      have E := E.pu (p := 26) (lo' := lo) (st' := [.int 0]) rfl (e := (.iconst 0, 1, [], .null)) rfl rfl (fun _ _ => rfl)
      have E := E.so (p := 27) (t := ri_isI) (i := 2) (n := 1) rfl (e := (.istore_n 2, 1, [], .null)) rfl rfl (fun _ _ => rfl) rfl
      have k17_2 : ri_lk (ri_st1 lo 2 (.int 0)) 2 = some (.int 0) := eh_self
      have k17_0 : ri_lk (ri_st1 lo 2 (.int 0)) 0 = some (.ref 0) := eh_keep (by decide) (Or.inl rfl) l0
      have k17_1 : ri_lk (ri_st1 lo 2 (.int 0)) 1 = some (.int 1) := eh_keep (by decide) (Or.inl rfl) l1
      exact Or.inl ⟨c16, _, _, E, hV14, (hN15.trans hN3), (ty.ui rfl), k17_0, k17_1, k17_2⟩
    · skip
      have E := E.pu (p := 24) (lo' := lo) (st' := [.int 0]) rfl (e := (.iconst 0, 1, [], .null)) rfl rfl (fun _ _ => rfl)
      obtain ⟨r1, r2⟩ := E.reti rfl (m := 1) (ax := []) (w := .null) rfl
      exact Or.inr (⟨c16, r1, ((congrArg eh_V r2).trans hV14), ((congrArg eh_N r2).trans (hN15.trans hN3))⟩)
theorem mr_i1 {cal : eh_K} {lo : List (Nat × Value)} {h h' : ri_H} {rs : List Value} {G : eh_W} {i : Int32} (E : eh_e cal md_253 27 lo [] h rs h') (hV : eh_V h = G) (ty : eh_ty tM G) (l0 : ri_lk lo 0 = some (.ref 0)) (l1 : ri_lk lo 1 = some (.int 1)) (l2 : ri_lk lo 2 = some (.int i)) : (¬ (i.toInt < 355) ∧ ∃ hz loz, eh_e cal md_253 58 loz [] hz rs h' ∧ eh_V hz = G ∧ eh_N hz = eh_N h ∧ eh_ty tM G ∧ ri_lk loz 0 = some (.ref 0) ∧ ri_lk loz 1 = some (.int 1) ∧ ri_lk loz 2 = some (.int i)) ∨ (i.toInt < 355 ∧ ∃ hz loz, eh_e cal md_253 27 loz [] hz rs h' ∧ eh_V hz = eh_u G 2 (i).toNatClampNeg (.int (eh_i G 15 (355 + i).toNatClampNeg)) ∧ eh_N hz = eh_N h ∧ eh_ty tM (eh_u G 2 (i).toNatClampNeg (.int (eh_i G 15 (355 + i).toNatClampNeg))) ∧ ri_lk loz 0 = some (.ref 0) ∧ ri_lk loz 1 = some (.int 1) ∧ ri_lk loz 2 = some (.int (i + 1))) := by
  have E := E.ld (p := 28) (t := ri_isI) (i := 2) (n := 1) (v := .int i) rfl (e := (.iload_n 2, 1, [], .null)) rfl rfl (fun _ _ => rfl) l2 rfl
  have E := E.pu (p := 31) (lo' := lo) (st' := [.int 355, .int i]) rfl (e := (.sipush 355, 3, [], .null)) rfl rfl (fun _ _ => rfl)
  rcases eh_r3 rfl (show (355 : Int32).toInt = 355 by decide) (E.br (p := 34) (c := 3) (tgt := 58) (a := i) (b := 355) (st' := []) rfl (e := (.if_icmp .ge 27, 3, [58], .null)) rfl rfl (fun _ _ => rfl) rfl) with ⟨c1, E⟩ | ⟨c1, E⟩
  · skip
    exact Or.inl ⟨c1, _, _, E, hV, rfl, ty, l0, l1, l2⟩
  · skip
    have E := E.ld (p := 35) (t := ri_isA) (i := 0) (n := 1) (v := .ref 0) rfl (e := (.aload_n 0, 1, [], .null)) rfl rfl (fun _ _ => rfl) l0 rfl
    have E := E.gr (n := 2) (p := 38) rfl (x := 33) (m := 3) (w := .null) (t := 12) (i := 6) (u := 1330) rfl rfl hV ty rfl
    have E := E.ld (p := 39) (t := ri_isI) (i := 2) (n := 1) (v := .int i) rfl (e := (.iload_n 2, 1, [], .null)) rfl rfl (fun _ _ => rfl) l2 rfl
    have E := E.ld (p := 40) (t := ri_isA) (i := 0) (n := 1) (v := .ref 0) rfl (e := (.aload_n 0, 1, [], .null)) rfl rfl (fun _ _ => rfl) l0 rfl
    have E := E.gr (n := 15) (p := 43) rfl (x := 75) (m := 3) (w := .null) (t := 12) (i := 45) (u := 1369) rfl rfl hV ty rfl
    have E := E.pu (p := 46) (lo' := lo) (st' := [.int 355, .ref 15, .int i, .ref 2]) rfl (e := (.sipush 355, 3, [], .null)) rfl rfl (fun _ _ => rfl)
    have E := E.ld (p := 47) (t := ri_isI) (i := 1) (n := 1) (v := .int 1) rfl (e := (.iload_n 1, 1, [], .null)) rfl rfl (fun _ _ => rfl) l1 rfl
    have E := E.pu (p := 48) (lo' := lo) (st' := [.int 355, .ref 15, .int i, .ref 2]) rfl (e := (.imul, 1, [], .null)) rfl rfl (fun _ _ => rfl)
    have E := E.ld (p := 49) (t := ri_isI) (i := 2) (n := 1) (v := .int i) rfl (e := (.iload_n 2, 1, [], .null)) rfl rfl (fun _ _ => rfl) l2 rfl
    have E := E.pu (p := 50) (lo' := lo) (st' := [.int (355 + i), .ref 15, .int i, .ref 2]) rfl (e := (.iadd, 1, [], .null)) rfl rfl (fun _ _ => rfl)
    have E := E.ai (p := 51) (z := eh_i G 15 (355 + i).toNatClampNeg) (n := (355 + i).toNatClampNeg) rfl (e := (.iaload, 1, [], .null)) rfl rfl (fun _ _ => rfl) rfl hV ty rfl rfl rfl
    obtain ⟨h2, hV3, hN4, E⟩ := E.aw (gg := ri_g1) (b := true) (p := 52) (n := (i).toNatClampNeg) rfl (e := (.iastore, 1, [], .null)) rfl rfl (fun _ _ => rfl) rfl hV rfl
    have E := E.ii (p := 55) (y := i + 1) rfl (i := 2) (n := 1) (m := 3) (ax := []) (w := .null) rfl l2 rfl rfl
    have k5_2 : ri_lk (ri_st1 lo 2 (.int (i + 1))) 2 = some (.int (i + 1)) := eh_self
    have k5_0 : ri_lk (ri_st1 lo 2 (.int (i + 1))) 0 = some (.ref 0) := eh_keep (by decide) (Or.inl rfl) l0
    have k5_1 : ri_lk (ri_st1 lo 2 (.int (i + 1))) 1 = some (.int 1) := eh_keep (by decide) (Or.inl rfl) l1
    have E := E.pu (p := 27) (lo' := (ri_st1 lo 2 (.int (i + 1)))) (st' := []) rfl (e := (.goto (-28), 3, [27], .null)) rfl rfl (fun _ _ => rfl)
    exact Or.inr (⟨c1, _, _, E, hV3, hN4, (ty.ui rfl), k5_0, k5_1, k5_2⟩)
theorem mr_b1 {cal : eh_K} {lo : List (Nat × Value)} {h h' : ri_H} {rs : List Value} {G : eh_W} (E : eh_e cal md_253 58 lo [] h rs h') (hV : eh_V h = G) (ty : eh_ty tM G) (l0 : ri_lk lo 0 = some (.ref 0)) (l1 : ri_lk lo 1 = some (.int 1)) : ∃ hz loz, eh_e cal md_253 60 loz [] hz rs h' ∧ eh_V hz = G ∧ eh_N hz = eh_N h ∧ eh_ty tM G ∧ ri_lk loz 0 = some (.ref 0) ∧ ri_lk loz 1 = some (.int 1) ∧ ri_lk loz 2 = some (.int 0) := by
  have E := E.pu (p := 59) (lo' := lo) (st' := [.int 0]) rfl (e := (.iconst 0, 1, [], .null)) rfl rfl (fun _ _ => rfl)
  have E := E.so (p := 60) (t := ri_isI) (i := 2) (n := 1) rfl (e := (.istore_n 2, 1, [], .null)) rfl rfl (fun _ _ => rfl) rfl
  have k1_2 : ri_lk (ri_st1 lo 2 (.int 0)) 2 = some (.int 0) := eh_self
  have k1_0 : ri_lk (ri_st1 lo 2 (.int 0)) 0 = some (.ref 0) := eh_keep (by decide) (Or.inl rfl) l0
  have k1_1 : ri_lk (ri_st1 lo 2 (.int 0)) 1 = some (.int 1) := eh_keep (by decide) (Or.inl rfl) l1
  exact ⟨_, _, E, hV, rfl, ty, k1_0, k1_1, k1_2⟩
theorem mr_j1 {cal : eh_K} {lo : List (Nat × Value)} {h h' : ri_H} {rs : List Value} {G : eh_W} {i : Int32} (E : eh_e cal md_253 60 lo [] h rs h') (hV : eh_V h = G) (ty : eh_ty tM G) (l0 : ri_lk lo 0 = some (.ref 0)) (l1 : ri_lk lo 1 = some (.int 1)) (l2 : ri_lk lo 2 = some (.int i)) : (¬ (i.toInt < 24) ∧ ∃ hz loz, eh_e cal md_253 89 loz [] hz rs h' ∧ eh_V hz = G ∧ eh_N hz = eh_N h ∧ eh_ty tM G ∧ ri_lk loz 0 = some (.ref 0) ∧ ri_lk loz 1 = some (.int 1) ∧ ri_lk loz 2 = some (.int i)) ∨ (i.toInt < 24 ∧ ∃ hz loz, eh_e cal md_253 60 loz [] hz rs h' ∧ eh_V hz = eh_u G 5 (i).toNatClampNeg (.long (eh_l G 16 (24 + i).toNatClampNeg)) ∧ eh_N hz = eh_N h ∧ eh_ty tM (eh_u G 5 (i).toNatClampNeg (.long (eh_l G 16 (24 + i).toNatClampNeg))) ∧ ri_lk loz 0 = some (.ref 0) ∧ ri_lk loz 1 = some (.int 1) ∧ ri_lk loz 2 = some (.int (i + 1))) := by
  have E := E.ld (p := 61) (t := ri_isI) (i := 2) (n := 1) (v := .int i) rfl (e := (.iload_n 2, 1, [], .null)) rfl rfl (fun _ _ => rfl) l2 rfl
  have E := E.pu (p := 63) (lo' := lo) (st' := [.int 24, .int i]) rfl (e := (.bipush 24, 2, [], .null)) rfl rfl (fun _ _ => rfl)
  rcases eh_r3 rfl (show (24 : Int32).toInt = 24 by decide) (E.br (p := 66) (c := 3) (tgt := 89) (a := i) (b := 24) (st' := []) rfl (e := (.if_icmp .ge 26, 3, [89], .null)) rfl rfl (fun _ _ => rfl) rfl) with ⟨c1, E⟩ | ⟨c1, E⟩
  · skip
    exact Or.inl ⟨c1, _, _, E, hV, rfl, ty, l0, l1, l2⟩
  · skip
    have E := E.ld (p := 67) (t := ri_isA) (i := 0) (n := 1) (v := .ref 0) rfl (e := (.aload_n 0, 1, [], .null)) rfl rfl (fun _ _ => rfl) l0 rfl
    have E := E.gr (n := 5) (p := 70) rfl (x := 43) (m := 3) (w := .null) (t := 12) (i := 9) (u := 1333) rfl rfl hV ty rfl
    have E := E.ld (p := 71) (t := ri_isI) (i := 2) (n := 1) (v := .int i) rfl (e := (.iload_n 2, 1, [], .null)) rfl rfl (fun _ _ => rfl) l2 rfl
    have E := E.ld (p := 72) (t := ri_isA) (i := 0) (n := 1) (v := .ref 0) rfl (e := (.aload_n 0, 1, [], .null)) rfl rfl (fun _ _ => rfl) l0 rfl
    have E := E.gr (n := 16) (p := 75) rfl (x := 78) (m := 3) (w := .null) (t := 12) (i := 46) (u := 1370) rfl rfl hV ty rfl
    have E := E.pu (p := 77) (lo' := lo) (st' := [.int 24, .ref 16, .int i, .ref 5]) rfl (e := (.bipush 24, 2, [], .null)) rfl rfl (fun _ _ => rfl)
    have E := E.ld (p := 78) (t := ri_isI) (i := 1) (n := 1) (v := .int 1) rfl (e := (.iload_n 1, 1, [], .null)) rfl rfl (fun _ _ => rfl) l1 rfl
    have E := E.pu (p := 79) (lo' := lo) (st' := [.int 24, .ref 16, .int i, .ref 5]) rfl (e := (.imul, 1, [], .null)) rfl rfl (fun _ _ => rfl)
    have E := E.ld (p := 80) (t := ri_isI) (i := 2) (n := 1) (v := .int i) rfl (e := (.iload_n 2, 1, [], .null)) rfl rfl (fun _ _ => rfl) l2 rfl
    have E := E.pu (p := 81) (lo' := lo) (st' := [.int (24 + i), .ref 16, .int i, .ref 5]) rfl (e := (.iadd, 1, [], .null)) rfl rfl (fun _ _ => rfl)
    have E := E.al (p := 82) (z := eh_l G 16 (24 + i).toNatClampNeg) (n := (24 + i).toNatClampNeg) rfl (e := (.laload, 1, [], .null)) rfl rfl (fun _ _ => rfl) rfl hV ty rfl rfl rfl
    obtain ⟨h2, hV3, hN4, E⟩ := E.aw (gg := ri_g3) (b := true) (p := 83) (n := (i).toNatClampNeg) rfl (e := (.lastore, 1, [], .null)) rfl rfl (fun _ _ => rfl) rfl hV rfl
    have E := E.ii (p := 86) (y := i + 1) rfl (i := 2) (n := 1) (m := 3) (ax := []) (w := .null) rfl l2 rfl rfl
    have k5_2 : ri_lk (ri_st1 lo 2 (.int (i + 1))) 2 = some (.int (i + 1)) := eh_self
    have k5_0 : ri_lk (ri_st1 lo 2 (.int (i + 1))) 0 = some (.ref 0) := eh_keep (by decide) (Or.inl rfl) l0
    have k5_1 : ri_lk (ri_st1 lo 2 (.int (i + 1))) 1 = some (.int 1) := eh_keep (by decide) (Or.inl rfl) l1
    have E := E.pu (p := 60) (lo' := (ri_st1 lo 2 (.int (i + 1)))) (st' := []) rfl (e := (.goto (-26), 3, [60], .null)) rfl rfl (fun _ _ => rfl)
    exact Or.inr (⟨c1, _, _, E, hV3, hN4, (ty.ul rfl), k5_0, k5_1, k5_2⟩)
theorem mr_z1 {cal : eh_K} {lo : List (Nat × Value)} {h h' : ri_H} {rs : List Value} {G : eh_W} (E : eh_e cal md_253 89 lo [] h rs h') (hV : eh_V h = G) (ty : eh_ty tM G) (l0 : ri_lk lo 0 = some (.ref 0)) (l1 : ri_lk lo 1 = some (.int 1)) : rs = [.int 1] ∧ eh_V h' = eh_u G 0 25 (.int 0) ∧ eh_N h' = eh_N h := by
  have E := E.ld (p := 90) (t := ri_isA) (i := 0) (n := 1) (v := .ref 0) rfl (e := (.aload_n 0, 1, [], .null)) rfl rfl (fun _ _ => rfl) l0 rfl
  have E := E.pu (p := 91) (lo' := lo) (st' := [.int 0, .ref 0]) rfl (e := (.iconst 0, 1, [], .null)) rfl rfl (fun _ _ => rfl)
  obtain ⟨h1, hV2, hN3, E⟩ := E.gp (p := 94) rfl (x := 233) (m := 3) (w := .null) (t := 12) (i := 25) (u := 1349) (y := 0) rfl rfl hV
  have E := E.pu (p := 95) (lo' := lo) (st' := [.int 1]) rfl (e := (.iconst 1, 1, [], .null)) rfl rfl (fun _ _ => rfl)
  obtain ⟨r1, r2⟩ := E.reti rfl (m := 1) (ax := []) (w := .null) rfl
  exact ⟨r1, ((congrArg eh_V r2).trans hV2), ((congrArg eh_N r2).trans hN3)⟩
