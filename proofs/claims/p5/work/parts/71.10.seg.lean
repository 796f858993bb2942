theorem rr_a {cal : eh_K} {lo : List (Nat × Value)} {h h' : ri_H} {rs : List Value} {G : eh_W} (E : eh_e cal md_75 0 lo [] h rs h') (hV : eh_V h = G) (ty : eh_ty tC G) (l0 : ri_lk lo 0 = some (.ref 2)) : ∃ hz loz, eh_e cal md_75 9 loz [] hz rs h' ∧ eh_V hz = eh_u G 2 8 (.long 0) ∧ eh_N hz = eh_N h ∧ eh_ty tC (eh_u G 2 8 (.long 0)) ∧ ri_lk loz 0 = some (.ref 2) ∧ ri_lk loz 1 = some (.int 0) ∧ ri_lk loz 2 = some (.int 0) := by
  have E := E.pu (p := 1) (lo' := lo) (st' := [.int 0]) rfl (e := (.iconst 0, 1, [], .null)) rfl rfl (fun _ _ => rfl)
  have E := E.so (p := 2) (t := ri_isI) (i := 1) (n := 1) rfl (e := (.istore_n 1, 1, [], .null)) rfl rfl (fun _ _ => rfl) rfl
  have k1_1 : ri_lk (ri_st1 lo 1 (.int 0)) 1 = some (.int 0) := eh_self
  have k1_0 : ri_lk (ri_st1 lo 1 (.int 0)) 0 = some (.ref 2) := eh_keep (by decide) (Or.inl rfl) l0
  have E := E.pu (p := 3) (lo' := (ri_st1 lo 1 (.int 0))) (st' := [.int 0]) rfl (e := (.iconst 0, 1, [], .null)) rfl rfl (fun _ _ => rfl)
  have E := E.so (p := 4) (t := ri_isI) (i := 2) (n := 1) rfl (e := (.istore_n 2, 1, [], .null)) rfl rfl (fun _ _ => rfl) rfl
  have k2_2 : ri_lk (ri_st1 (ri_st1 lo 1 (.int 0)) 2 (.int 0)) 2 = some (.int 0) := eh_self
  have k2_0 : ri_lk (ri_st1 (ri_st1 lo 1 (.int 0)) 2 (.int 0)) 0 = some (.ref 2) := eh_keep (by decide) (Or.inl rfl) k1_0
  have k2_1 : ri_lk (ri_st1 (ri_st1 lo 1 (.int 0)) 2 (.int 0)) 1 = some (.int 0) := eh_keep (by decide) (Or.inl rfl) k1_1
  have E := E.ld (p := 5) (t := ri_isA) (i := 0) (n := 1) (v := .ref 2) rfl (e := (.aload_n 0, 1, [], .null)) rfl rfl (fun _ _ => rfl) k2_0 rfl
  have E := E.pu (p := 6) (lo' := (ri_st1 (ri_st1 lo 1 (.int 0)) 2 (.int 0))) (st' := [.long 0, .ref 2]) rfl (e := (.lconst 0, 1, [], .null)) rfl rfl (fun _ _ => rfl)
  obtain ⟨h3, hV4, hN5, E⟩ := E.gp (p := 9) rfl (x := 34) (m := 3) (w := .null) (t := 8) (i := 8) (u := 201) (y := 2) rfl rfl hV
  exact ⟨_, _, E, hV4, hN5, (ty.ul rfl), k2_0, k2_1, k2_2⟩
theorem rr_i {cal : eh_K} {lo : List (Nat × Value)} {h h' : ri_H} {rs : List Value} {G : eh_W} {dd nn : Int32} (E : eh_e cal md_75 9 lo [] h rs h') (hV : eh_V h = G) (ty : eh_ty tC G) (l0 : ri_lk lo 0 = some (.ref 2)) (l1 : ri_lk lo 1 = some (.int dd)) (l2 : ri_lk lo 2 = some (.int nn)) : (¬ ((eh_i G 2 4).toInt < (eh_i G 2 2).toInt) ∧ ∃ hz loz, eh_e cal md_75 103 loz [] hz rs h' ∧ eh_V hz = G ∧ eh_N hz = eh_N h ∧ eh_ty tC G ∧ ri_lk loz 0 = some (.ref 2) ∧ ri_lk loz 1 = some (.int dd) ∧ ri_lk loz 2 = some (.int nn)) ∨ ((eh_i G 2 4).toInt < (eh_i G 2 2).toInt ∧ (eh_i G 1 (eh_i G 2 4).toNatClampNeg).toInt < 48 ∧ (eh_i G 1 (eh_i G 2 4).toNatClampNeg).toInt < 97 ∧ ∃ hz loz, eh_e cal md_75 103 loz [] hz rs h' ∧ eh_V hz = G ∧ eh_N hz = eh_N h ∧ eh_ty tC G ∧ ri_lk loz 0 = some (.ref 2) ∧ ri_lk loz 1 = some (.int dd) ∧ ri_lk loz 2 = some (.int nn) ∧ ri_lk loz 3 = some (.int (eh_i G 1 (eh_i G 2 4).toNatClampNeg))) ∨ ((eh_i G 2 4).toInt < (eh_i G 2 2).toInt ∧ (eh_i G 1 (eh_i G 2 4).toNatClampNeg).toInt < 48 ∧ ¬ ((eh_i G 1 (eh_i G 2 4).toNatClampNeg).toInt < 97) ∧ 122 < (eh_i G 1 (eh_i G 2 4).toNatClampNeg).toInt ∧ ∃ hz loz, eh_e cal md_75 103 loz [] hz rs h' ∧ eh_V hz = G ∧ eh_N hz = eh_N h ∧ eh_ty tC G ∧ ri_lk loz 0 = some (.ref 2) ∧ ri_lk loz 1 = some (.int dd) ∧ ri_lk loz 2 = some (.int nn) ∧ ri_lk loz 3 = some (.int (eh_i G 1 (eh_i G 2 4).toNatClampNeg))) ∨ ((eh_i G 2 4).toInt < (eh_i G 2 2).toInt ∧ (eh_i G 1 (eh_i G 2 4).toNatClampNeg).toInt < 48 ∧ ¬ ((eh_i G 1 (eh_i G 2 4).toNatClampNeg).toInt < 97) ∧ ¬ (122 < (eh_i G 1 (eh_i G 2 4).toNatClampNeg).toInt) ∧ ∃ hz loz, eh_e cal md_75 9 loz [] hz rs h' ∧ eh_V hz = eh_u (eh_u G 2 8 (.long (((eh_l G 2 8) * 32) + (Int32.toInt64 (((eh_i G 1 (eh_i G 2 4).toNatClampNeg) - 97) + 1))))) 2 4 (.int ((eh_i G 2 4) + 1)) ∧ eh_N hz = eh_N h ∧ eh_ty tC (eh_u (eh_u G 2 8 (.long (((eh_l G 2 8) * 32) + (Int32.toInt64 (((eh_i G 1 (eh_i G 2 4).toNatClampNeg) - 97) + 1))))) 2 4 (.int ((eh_i G 2 4) + 1))) ∧ ri_lk loz 0 = some (.ref 2) ∧ ri_lk loz 1 = some (.int dd) ∧ ri_lk loz 2 = some (.int nn) ∧ ri_lk loz 3 = some (.int (eh_i G 1 (eh_i G 2 4).toNatClampNeg))) ∨ ((eh_i G 2 4).toInt < (eh_i G 2 2).toInt ∧ ¬ ((eh_i G 1 (eh_i G 2 4).toNatClampNeg).toInt < 48) ∧ 57 < (eh_i G 1 (eh_i G 2 4).toNatClampNeg).toInt ∧ (eh_i G 1 (eh_i G 2 4).toNatClampNeg).toInt < 97 ∧ ∃ hz loz, eh_e cal md_75 103 loz [] hz rs h' ∧ eh_V hz = G ∧ eh_N hz = eh_N h ∧ eh_ty tC G ∧ ri_lk loz 0 = some (.ref 2) ∧ ri_lk loz 1 = some (.int dd) ∧ ri_lk loz 2 = some (.int nn) ∧ ri_lk loz 3 = some (.int (eh_i G 1 (eh_i G 2 4).toNatClampNeg))) ∨ ((eh_i G 2 4).toInt < (eh_i G 2 2).toInt ∧ ¬ ((eh_i G 1 (eh_i G 2 4).toNatClampNeg).toInt < 48) ∧ 57 < (eh_i G 1 (eh_i G 2 4).toNatClampNeg).toInt ∧ ¬ ((eh_i G 1 (eh_i G 2 4).toNatClampNeg).toInt < 97) ∧ 122 < (eh_i G 1 (eh_i G 2 4).toNatClampNeg).toInt ∧ ∃ hz loz, eh_e cal md_75 103 loz [] hz rs h' ∧ eh_V hz = G ∧ eh_N hz = eh_N h ∧ eh_ty tC G ∧ ri_lk loz 0 = some (.ref 2) ∧ ri_lk loz 1 = some (.int dd) ∧ ri_lk loz 2 = some (.int nn) ∧ ri_lk loz 3 = some (.int (eh_i G 1 (eh_i G 2 4).toNatClampNeg))) ∨ ((eh_i G 2 4).toInt < (eh_i G 2 2).toInt ∧ ¬ ((eh_i G 1 (eh_i G 2 4).toNatClampNeg).toInt < 48) ∧ 57 < (eh_i G 1 (eh_i G 2 4).toNatClampNeg).toInt ∧ ¬ ((eh_i G 1 (eh_i G 2 4).toNatClampNeg).toInt < 97) ∧ ¬ (122 < (eh_i G 1 (eh_i G 2 4).toNatClampNeg).toInt) ∧ ∃ hz loz, eh_e cal md_75 9 loz [] hz rs h' ∧ eh_V hz = eh_u (eh_u G 2 8 (.long (((eh_l G 2 8) * 32) + (Int32.toInt64 (((eh_i G 1 (eh_i G 2 4).toNatClampNeg) - 97) + 1))))) 2 4 (.int ((eh_i G 2 4) + 1)) ∧ eh_N hz = eh_N h ∧ eh_ty tC (eh_u (eh_u G 2 8 (.long (((eh_l G 2 8) * 32) + (Int32.toInt64 (((eh_i G 1 (eh_i G 2 4).toNatClampNeg) - 97) + 1))))) 2 4 (.int ((eh_i G 2 4) + 1))) ∧ ri_lk loz 0 = some (.ref 2) ∧ ri_lk loz 1 = some (.int dd) ∧ ri_lk loz 2 = some (.int nn) ∧ ri_lk loz 3 = some (.int (eh_i G 1 (eh_i G 2 4).toNatClampNeg))) ∨ ((eh_i G 2 4).toInt < (eh_i G 2 2).toInt ∧ ¬ ((eh_i G 1 (eh_i G 2 4).toNatClampNeg).toInt < 48) ∧ ¬ (57 < (eh_i G 1 (eh_i G 2 4).toNatClampNeg).toInt) ∧ ∃ hz loz, eh_e cal md_75 9 loz [] hz rs h' ∧ eh_V hz = eh_u G 2 4 (.int ((eh_i G 2 4) + 1)) ∧ eh_N hz = eh_N h ∧ eh_ty tC (eh_u G 2 4 (.int ((eh_i G 2 4) + 1))) ∧ ri_lk loz 0 = some (.ref 2) ∧ ri_lk loz 1 = some (.int (dd + 1)) ∧ ri_lk loz 2 = some (.int ((nn * 10) + ((eh_i G 1 (eh_i G 2 4).toNatClampNeg) - 48))) ∧ ri_lk loz 3 = some (.int (eh_i G 1 (eh_i G 2 4).toNatClampNeg))) := by
  have E := E.ld (p := 10) (t := ri_isA) (i := 0) (n := 1) (v := .ref 2) rfl (e := (.aload_n 0, 1, [], .null)) rfl rfl (fun _ _ => rfl) l0 rfl
  have E := E.gi (y := eh_i G 2 4) (p := 13) rfl (x := 22) (m := 3) (w := .null) (t := 8) (i := 4) (u := 191) rfl rfl hV ty rfl rfl
  have E := E.ld (p := 14) (t := ri_isA) (i := 0) (n := 1) (v := .ref 2) rfl (e := (.aload_n 0, 1, [], .null)) rfl rfl (fun _ _ => rfl) l0 rfl
  have E := E.gi (y := eh_i G 2 2) (p := 17) rfl (x := 15) (m := 3) (w := .null) (t := 8) (i := 2) (u := 189) rfl rfl hV ty rfl rfl
  rcases eh_r3 rfl rfl (E.br (p := 20) (c := 3) (tgt := 103) (a := eh_i G 2 4) (b := eh_i G 2 2) (st' := []) rfl (e := (.if_icmp .ge 86, 3, [103], .null)) rfl rfl (fun _ _ => rfl) rfl) with ⟨c1, E⟩ | ⟨c1, E⟩
  · skip
    exact Or.inl ⟨c1, _, _, E, hV, rfl, ty, l0, l1, l2⟩
  · skip
    have E := E.ld (p := 21) (t := ri_isA) (i := 0) (n := 1) (v := .ref 2) rfl (e := (.aload_n 0, 1, [], .null)) rfl rfl (fun _ _ => rfl) l0 rfl
    have E := E.gr (n := 1) (p := 24) rfl (x := 44) (m := 3) (w := .null) (t := 8) (i := 0) (u := 187) rfl rfl hV ty rfl
    have E := E.ld (p := 25) (t := ri_isA) (i := 0) (n := 1) (v := .ref 2) rfl (e := (.aload_n 0, 1, [], .null)) rfl rfl (fun _ _ => rfl) l0 rfl
    have E := E.gi (y := eh_i G 2 4) (p := 28) rfl (x := 22) (m := 3) (w := .null) (t := 8) (i := 4) (u := 191) rfl rfl hV ty rfl rfl
    have E := E.ai (p := 29) (z := eh_i G 1 (eh_i G 2 4).toNatClampNeg) (n := (eh_i G 2 4).toNatClampNeg) rfl (e := (.baload, 1, [], .null)) rfl rfl (fun _ _ => rfl) rfl hV ty rfl rfl rfl
    have E := E.so (p := 30) (t := ri_isI) (i := 3) (n := 1) rfl (e := (.istore_n 3, 1, [], .null)) rfl rfl (fun _ _ => rfl) rfl
    have k2_3 : ri_lk (ri_st1 lo 3 (.int (eh_i G 1 (eh_i G 2 4).toNatClampNeg))) 3 = some (.int (eh_i G 1 (eh_i G 2 4).toNatClampNeg)) := eh_self
    have k2_0 : ri_lk (ri_st1 lo 3 (.int (eh_i G 1 (eh_i G 2 4).toNatClampNeg))) 0 = some (.ref 2) := eh_keep (by decide) (Or.inl rfl) l0
    have k2_1 : ri_lk (ri_st1 lo 3 (.int (eh_i G 1 (eh_i G 2 4).toNatClampNeg))) 1 = some (.int dd) := eh_keep (by decide) (Or.inl rfl) l1
    have k2_2 : ri_lk (ri_st1 lo 3 (.int (eh_i G 1 (eh_i G 2 4).toNatClampNeg))) 2 = some (.int nn) := eh_keep (by decide) (Or.inl rfl) l2
    have E := E.ld (p := 31) (t := ri_isI) (i := 3) (n := 1) (v := .int (eh_i G 1 (eh_i G 2 4).toNatClampNeg)) rfl (e := (.iload_n 3, 1, [], .null)) rfl rfl (fun _ _ => rfl) k2_3 rfl
    have E := E.pu (p := 33) (lo' := (ri_st1 lo 3 (.int (eh_i G 1 (eh_i G 2 4).toNatClampNeg)))) (st' := [.int 48, .int (eh_i G 1 (eh_i G 2 4).toNatClampNeg)]) rfl (e := (.bipush 48, 2, [], .null)) rfl rfl (fun _ _ => rfl)
    rcases eh_r2 rfl (show (48 : Int32).toInt = 48 by decide) (E.br (p := 36) (c := 2) (tgt := 58) (a := eh_i G 1 (eh_i G 2 4).toNatClampNeg) (b := 48) (st' := []) rfl (e := (.if_icmp .lt 25, 3, [58], .null)) rfl rfl (fun _ _ => rfl) rfl) with ⟨c3, E⟩ | ⟨c3, E⟩
    · skip
      have E := E.ld (p := 59) (t := ri_isI) (i := 3) (n := 1) (v := .int (eh_i G 1 (eh_i G 2 4).toNatClampNeg)) rfl (e := (.iload_n 3, 1, [], .null)) rfl rfl (fun _ _ => rfl) k2_3 rfl
      have E := E.pu (p := 61) (lo' := (ri_st1 lo 3 (.int (eh_i G 1 (eh_i G 2 4).toNatClampNeg)))) (st' := [.int 97, .int (eh_i G 1 (eh_i G 2 4).toNatClampNeg)]) rfl (e := (.bipush 97, 2, [], .null)) rfl rfl (fun _ _ => rfl)
      rcases eh_r2 rfl (show (97 : Int32).toInt = 97 by decide) (E.br (p := 64) (c := 2) (tgt := 103) (a := eh_i G 1 (eh_i G 2 4).toNatClampNeg) (b := 97) (st' := []) rfl (e := (.if_icmp .lt 42, 3, [103], .null)) rfl rfl (fun _ _ => rfl) rfl) with ⟨c4, E⟩ | ⟨c4, E⟩
      · skip
        exact Or.inr (Or.inl ⟨c1, c3, c4, _, _, E, hV, rfl, ty, k2_0, k2_1, k2_2, k2_3⟩)
      · skip
        have E := E.ld (p := 65) (t := ri_isI) (i := 3) (n := 1) (v := .int (eh_i G 1 (eh_i G 2 4).toNatClampNeg)) rfl (e := (.iload_n 3, 1, [], .null)) rfl rfl (fun _ _ => rfl) k2_3 rfl
        have E := E.pu (p := 67) (lo' := (ri_st1 lo 3 (.int (eh_i G 1 (eh_i G 2 4).toNatClampNeg)))) (st' := [.int 122, .int (eh_i G 1 (eh_i G 2 4).toNatClampNeg)]) rfl (e := (.bipush 122, 2, [], .null)) rfl rfl (fun _ _ => rfl)
        rcases eh_r4 rfl (show (122 : Int32).toInt = 122 by decide) (E.br (p := 70) (c := 4) (tgt := 103) (a := eh_i G 1 (eh_i G 2 4).toNatClampNeg) (b := 122) (st' := []) rfl (e := (.if_icmp .gt 36, 3, [103], .null)) rfl rfl (fun _ _ => rfl) rfl) with ⟨c5, E⟩ | ⟨c5, E⟩
        · skip
          exact Or.inr (Or.inr (Or.inl ⟨c1, c3, c4, c5, _, _, E, hV, rfl, ty, k2_0, k2_1, k2_2, k2_3⟩))
        · skip
          have E := E.ld (p := 71) (t := ri_isA) (i := 0) (n := 1) (v := .ref 2) rfl (e := (.aload_n 0, 1, [], .null)) rfl rfl (fun _ _ => rfl) k2_0 rfl
          have E := E.ld (p := 72) (t := ri_isA) (i := 0) (n := 1) (v := .ref 2) rfl (e := (.aload_n 0, 1, [], .null)) rfl rfl (fun _ _ => rfl) k2_0 rfl
          have E := E.gl (y := eh_l G 2 8) (p := 75) rfl (x := 34) (m := 3) (w := .null) (t := 8) (i := 8) (u := 201) rfl rfl hV ty rfl rfl
          have E := E.pu (p := 78) (lo' := (ri_st1 lo 3 (.int (eh_i G 1 (eh_i G 2 4).toNatClampNeg)))) (st' := [.long 32, .long (eh_l G 2 8), .ref 2]) rfl (e := (.ldc2_w 59, 3, [186], .long 32)) rfl rfl (fun _ _ => rfl)
          have E := E.pu (p := 79) (lo' := (ri_st1 lo 3 (.int (eh_i G 1 (eh_i G 2 4).toNatClampNeg)))) (st' := [.long ((eh_l G 2 8) * 32), .ref 2]) rfl (e := (.lmul, 1, [], .null)) rfl rfl (fun _ _ => rfl)
          have E := E.ld (p := 80) (t := ri_isI) (i := 3) (n := 1) (v := .int (eh_i G 1 (eh_i G 2 4).toNatClampNeg)) rfl (e := (.iload_n 3, 1, [], .null)) rfl rfl (fun _ _ => rfl) k2_3 rfl
          have E := E.pu (p := 82) (lo' := (ri_st1 lo 3 (.int (eh_i G 1 (eh_i G 2 4).toNatClampNeg)))) (st' := [.int 97, .int (eh_i G 1 (eh_i G 2 4).toNatClampNeg), .long ((eh_l G 2 8) * 32), .ref 2]) rfl (e := (.bipush 97, 2, [], .null)) rfl rfl (fun _ _ => rfl)
          have E := E.pu (p := 83) (lo' := (ri_st1 lo 3 (.int (eh_i G 1 (eh_i G 2 4).toNatClampNeg)))) (st' := [.int ((eh_i G 1 (eh_i G 2 4).toNatClampNeg) - 97), .long ((eh_l G 2 8) * 32), .ref 2]) rfl (e := (.isub, 1, [], .null)) rfl rfl (fun _ _ => rfl)
          have E := E.pu (p := 84) (lo' := (ri_st1 lo 3 (.int (eh_i G 1 (eh_i G 2 4).toNatClampNeg)))) (st' := [.int 1, .int ((eh_i G 1 (eh_i G 2 4).toNatClampNeg) - 97), .long ((eh_l G 2 8) * 32), .ref 2]) rfl (e := (.iconst 1, 1, [], .null)) rfl rfl (fun _ _ => rfl)
          have E := E.pu (p := 85) (lo' := (ri_st1 lo 3 (.int (eh_i G 1 (eh_i G 2 4).toNatClampNeg)))) (st' := [.int (((eh_i G 1 (eh_i G 2 4).toNatClampNeg) - 97) + 1), .long ((eh_l G 2 8) * 32), .ref 2]) rfl (e := (.iadd, 1, [], .null)) rfl rfl (fun _ _ => rfl)
          have E := E.pu (p := 86) (lo' := (ri_st1 lo 3 (.int (eh_i G 1 (eh_i G 2 4).toNatClampNeg)))) (st' := [.long (Int32.toInt64 (((eh_i G 1 (eh_i G 2 4).toNatClampNeg) - 97) + 1)), .long ((eh_l G 2 8) * 32), .ref 2]) rfl (e := (.i2l, 1, [], .null)) rfl rfl (fun _ _ => rfl)
          have E := E.pu (p := 87) (lo' := (ri_st1 lo 3 (.int (eh_i G 1 (eh_i G 2 4).toNatClampNeg)))) (st' := [.long (((eh_l G 2 8) * 32) + (Int32.toInt64 (((eh_i G 1 (eh_i G 2 4).toNatClampNeg) - 97) + 1))), .ref 2]) rfl (e := (.ladd, 1, [], .null)) rfl rfl (fun _ _ => rfl)
          obtain ⟨h6, hV7, hN8, E⟩ := E.gp (p := 90) rfl (x := 34) (m := 3) (w := .null) (t := 8) (i := 8) (u := 201) (y := 2) rfl rfl hV
          have E := E.ld (p := 91) (t := ri_isA) (i := 0) (n := 1) (v := .ref 2) rfl (e := (.aload_n 0, 1, [], .null)) rfl rfl (fun _ _ => rfl) k2_0 rfl
          have E := E.pu (p := 92) (lo' := (ri_st1 lo 3 (.int (eh_i G 1 (eh_i G 2 4).toNatClampNeg)))) (st' := [.ref 2, .ref 2]) rfl (e := (.dup, 1, [], .null)) rfl rfl (fun _ _ => rfl)
          have E := E.gi (y := eh_i G 2 4) (p := 95) rfl (x := 22) (m := 3) (w := .null) (t := 8) (i := 4) (u := 191) rfl rfl hV7 (ty.ul rfl) rfl rfl
          have E := E.pu (p := 96) (lo' := (ri_st1 lo 3 (.int (eh_i G 1 (eh_i G 2 4).toNatClampNeg)))) (st' := [.int 1, .int (eh_i G 2 4), .ref 2]) rfl (e := (.iconst 1, 1, [], .null)) rfl rfl (fun _ _ => rfl)
          have E := E.pu (p := 97) (lo' := (ri_st1 lo 3 (.int (eh_i G 1 (eh_i G 2 4).toNatClampNeg)))) (st' := [.int ((eh_i G 2 4) + 1), .ref 2]) rfl (e := (.iadd, 1, [], .null)) rfl rfl (fun _ _ => rfl)
          obtain ⟨h9, hV10, hN11, E⟩ := E.gp (p := 100) rfl (x := 22) (m := 3) (w := .null) (t := 8) (i := 4) (u := 191) (y := 0) rfl rfl hV7
          have E := E.pu (p := 9) (lo' := (ri_st1 lo 3 (.int (eh_i G 1 (eh_i G 2 4).toNatClampNeg)))) (st' := []) rfl (e := (.goto (-91), 3, [9], .null)) rfl rfl (fun _ _ => rfl)
          exact Or.inr (Or.inr (Or.inr (Or.inl ⟨c1, c3, c4, c5, _, _, E, hV10, (hN11.trans hN8), ((ty.ul rfl).ui rfl), k2_0, k2_1, k2_2, k2_3⟩)))
    · skip
      have E := E.ld (p := 37) (t := ri_isI) (i := 3) (n := 1) (v := .int (eh_i G 1 (eh_i G 2 4).toNatClampNeg)) rfl (e := (.iload_n 3, 1, [], .null)) rfl rfl (fun _ _ => rfl) k2_3 rfl
      have E := E.pu (p := 39) (lo' := (ri_st1 lo 3 (.int (eh_i G 1 (eh_i G 2 4).toNatClampNeg)))) (st' := [.int 57, .int (eh_i G 1 (eh_i G 2 4).toNatClampNeg)]) rfl (e := (.bipush 57, 2, [], .null)) rfl rfl (fun _ _ => rfl)
      rcases eh_r4 rfl (show (57 : Int32).toInt = 57 by decide) (E.br (p := 42) (c := 4) (tgt := 58) (a := eh_i G 1 (eh_i G 2 4).toNatClampNeg) (b := 57) (st' := []) rfl (e := (.if_icmp .gt 19, 3, [58], .null)) rfl rfl (fun _ _ => rfl) rfl) with ⟨c12, E⟩ | ⟨c12, E⟩
      · skip
        have E := E.ld (p := 59) (t := ri_isI) (i := 3) (n := 1) (v := .int (eh_i G 1 (eh_i G 2 4).toNatClampNeg)) rfl (e := (.iload_n 3, 1, [], .null)) rfl rfl (fun _ _ => rfl) k2_3 rfl
        have E := E.pu (p := 61) (lo' := (ri_st1 lo 3 (.int (eh_i G 1 (eh_i G 2 4).toNatClampNeg)))) (st' := [.int 97, .int (eh_i G 1 (eh_i G 2 4).toNatClampNeg)]) rfl (e := (.bipush 97, 2, [], .null)) rfl rfl (fun _ _ => rfl)
        rcases eh_r2 rfl (show (97 : Int32).toInt = 97 by decide) (E.br (p := 64) (c := 2) (tgt := 103) (a := eh_i G 1 (eh_i G 2 4).toNatClampNeg) (b := 97) (st' := []) rfl (e := (.if_icmp .lt 42, 3, [103], .null)) rfl rfl (fun _ _ => rfl) rfl) with ⟨c13, E⟩ | ⟨c13, E⟩
        · skip
          exact Or.inr (Or.inr (Or.inr (Or.inr (Or.inl ⟨c1, c3, c12, c13, _, _, E, hV, rfl, ty, k2_0, k2_1, k2_2, k2_3⟩))))
        · skip
          have E := E.ld (p := 65) (t := ri_isI) (i := 3) (n := 1) (v := .int (eh_i G 1 (eh_i G 2 4).toNatClampNeg)) rfl (e := (.iload_n 3, 1, [], .null)) rfl rfl (fun _ _ => rfl) k2_3 rfl
          have E := E.pu (p := 67) (lo' := (ri_st1 lo 3 (.int (eh_i G 1 (eh_i G 2 4).toNatClampNeg)))) (st' := [.int 122, .int (eh_i G 1 (eh_i G 2 4).toNatClampNeg)]) rfl (e := (.bipush 122, 2, [], .null)) rfl rfl (fun _ _ => rfl)
          rcases eh_r4 rfl (show (122 : Int32).toInt = 122 by decide) (E.br (p := 70) (c := 4) (tgt := 103) (a := eh_i G 1 (eh_i G 2 4).toNatClampNeg) (b := 122) (st' := []) rfl (e := (.if_icmp .gt 36, 3, [103], .null)) rfl rfl (fun _ _ => rfl) rfl) with ⟨c14, E⟩ | ⟨c14, E⟩
          · skip
            exact Or.inr (Or.inr (Or.inr (Or.inr (Or.inr (Or.inl ⟨c1, c3, c12, c13, c14, _, _, E, hV, rfl, ty, k2_0, k2_1, k2_2, k2_3⟩)))))
          · skip
            have E := E.ld (p := 71) (t := ri_isA) (i := 0) (n := 1) (v := .ref 2) rfl (e := (.aload_n 0, 1, [], .null)) rfl rfl (fun _ _ => rfl) k2_0 rfl
            have E := E.ld (p := 72) (t := ri_isA) (i := 0) (n := 1) (v := .ref 2) rfl (e := (.aload_n 0, 1, [], .null)) rfl rfl (fun _ _ => rfl) k2_0 rfl
            have E := E.gl (y := eh_l G 2 8) (p := 75) rfl (x := 34) (m := 3) (w := .null) (t := 8) (i := 8) (u := 201) rfl rfl hV ty rfl rfl
            have E := E.pu (p := 78) (lo' := (ri_st1 lo 3 (.int (eh_i G 1 (eh_i G 2 4).toNatClampNeg)))) (st' := [.long 32, .long (eh_l G 2 8), .ref 2]) rfl (e := (.ldc2_w 59, 3, [186], .long 32)) rfl rfl (fun _ _ => rfl)
            have E := E.pu (p := 79) (lo' := (ri_st1 lo 3 (.int (eh_i G 1 (eh_i G 2 4).toNatClampNeg)))) (st' := [.long ((eh_l G 2 8) * 32), .ref 2]) rfl (e := (.lmul, 1, [], .null)) rfl rfl (fun _ _ => rfl)
            have E := E.ld (p := 80) (t := ri_isI) (i := 3) (n := 1) (v := .int (eh_i G 1 (eh_i G 2 4).toNatClampNeg)) rfl (e := (.iload_n 3, 1, [], .null)) rfl rfl (fun _ _ => rfl) k2_3 rfl
            have E := E.pu (p := 82) (lo' := (ri_st1 lo 3 (.int (eh_i G 1 (eh_i G 2 4).toNatClampNeg)))) (st' := [.int 97, .int (eh_i G 1 (eh_i G 2 4).toNatClampNeg), .long ((eh_l G 2 8) * 32), .ref 2]) rfl (e := (.bipush 97, 2, [], .null)) rfl rfl (fun _ _ => rfl)
            have E := E.pu (p := 83) (lo' := (ri_st1 lo 3 (.int (eh_i G 1 (eh_i G 2 4).toNatClampNeg)))) (st' := [.int ((eh_i G 1 (eh_i G 2 4).toNatClampNeg) - 97), .long ((eh_l G 2 8) * 32), .ref 2]) rfl (e := (.isub, 1, [], .null)) rfl rfl (fun _ _ => rfl)
            have E := E.pu (p := 84) (lo' := (ri_st1 lo 3 (.int (eh_i G 1 (eh_i G 2 4).toNatClampNeg)))) (st' := [.int 1, .int ((eh_i G 1 (eh_i G 2 4).toNatClampNeg) - 97), .long ((eh_l G 2 8) * 32), .ref 2]) rfl (e := (.iconst 1, 1, [], .null)) rfl rfl (fun _ _ => rfl)
            have E := E.pu (p := 85) (lo' := (ri_st1 lo 3 (.int (eh_i G 1 (eh_i G 2 4).toNatClampNeg)))) (st' := [.int (((eh_i G 1 (eh_i G 2 4).toNatClampNeg) - 97) + 1), .long ((eh_l G 2 8) * 32), .ref 2]) rfl (e := (.iadd, 1, [], .null)) rfl rfl (fun _ _ => rfl)
            have E := E.pu (p := 86) (lo' := (ri_st1 lo 3 (.int (eh_i G 1 (eh_i G 2 4).toNatClampNeg)))) (st' := [.long (Int32.toInt64 (((eh_i G 1 (eh_i G 2 4).toNatClampNeg) - 97) + 1)), .long ((eh_l G 2 8) * 32), .ref 2]) rfl (e := (.i2l, 1, [], .null)) rfl rfl (fun _ _ => rfl)
            have E := E.pu (p := 87) (lo' := (ri_st1 lo 3 (.int (eh_i G 1 (eh_i G 2 4).toNatClampNeg)))) (st' := [.long (((eh_l G 2 8) * 32) + (Int32.toInt64 (((eh_i G 1 (eh_i G 2 4).toNatClampNeg) - 97) + 1))), .ref 2]) rfl (e := (.ladd, 1, [], .null)) rfl rfl (fun _ _ => rfl)
            obtain ⟨h15, hV16, hN17, E⟩ := E.gp (p := 90) rfl (x := 34) (m := 3) (w := .null) (t := 8) (i := 8) (u := 201) (y := 2) rfl rfl hV
            have E := E.ld (p := 91) (t := ri_isA) (i := 0) (n := 1) (v := .ref 2) rfl (e := (.aload_n 0, 1, [], .null)) rfl rfl (fun _ _ => rfl) k2_0 rfl
            have E := E.pu (p := 92) (lo' := (ri_st1 lo 3 (.int (eh_i G 1 (eh_i G 2 4).toNatClampNeg)))) (st' := [.ref 2, .ref 2]) rfl (e := (.dup, 1, [], .null)) rfl rfl (fun _ _ => rfl)
            have E := E.gi (y := eh_i G 2 4) (p := 95) rfl (x := 22) (m := 3) (w := .null) (t := 8) (i := 4) (u := 191) rfl rfl hV16 (ty.ul rfl) rfl rfl
            have E := E.pu (p := 96) (lo' := (ri_st1 lo 3 (.int (eh_i G 1 (eh_i G 2 4).toNatClampNeg)))) (st' := [.int 1, .int (eh_i G 2 4), .ref 2]) rfl (e := (.iconst 1, 1, [], .null)) rfl rfl (fun _ _ => rfl)
            have E := E.pu (p := 97) (lo' := (ri_st1 lo 3 (.int (eh_i G 1 (eh_i G 2 4).toNatClampNeg)))) (st' := [.int ((eh_i G 2 4) + 1), .ref 2]) rfl (e := (.iadd, 1, [], .null)) rfl rfl (fun _ _ => rfl)
            obtain ⟨h18, hV19, hN20, E⟩ := E.gp (p := 100) rfl (x := 22) (m := 3) (w := .null) (t := 8) (i := 4) (u := 191) (y := 0) rfl rfl hV16
            have E := E.pu (p := 9) (lo' := (ri_st1 lo 3 (.int (eh_i G 1 (eh_i G 2 4).toNatClampNeg)))) (st' := []) rfl (e := (.goto (-91), 3, [9], .null)) rfl rfl (fun _ _ => rfl)
            exact Or.inr (Or.inr (Or.inr (Or.inr (Or.inr (Or.inr (Or.inl ⟨c1, c3, c12, c13, c14, _, _, E, hV19, (hN20.trans hN17), ((ty.ul rfl).ui rfl), k2_0, k2_1, k2_2, k2_3⟩))))))
      · skip
        have E := E.ii (p := 45) (y := dd + 1) rfl (i := 1) (n := 1) (m := 3) (ax := []) (w := .null) rfl k2_1 rfl rfl
        have k21_1 : ri_lk (ri_st1 (ri_st1 lo 3 (.int (eh_i G 1 (eh_i G 2 4).toNatClampNeg))) 1 (.int (dd + 1))) 1 = some (.int (dd + 1)) := eh_self
        have k21_0 : ri_lk (ri_st1 (ri_st1 lo 3 (.int (eh_i G 1 (eh_i G 2 4).toNatClampNeg))) 1 (.int (dd + 1))) 0 = some (.ref 2) := eh_keep (by decide) (Or.inl rfl) k2_0
        have k21_2 : ri_lk (ri_st1 (ri_st1 lo 3 (.int (eh_i G 1 (eh_i G 2 4).toNatClampNeg))) 1 (.int (dd + 1))) 2 = some (.int nn) := eh_keep (by decide) (Or.inl rfl) k2_2
        have k21_3 : ri_lk (ri_st1 (ri_st1 lo 3 (.int (eh_i G 1 (eh_i G 2 4).toNatClampNeg))) 1 (.int (dd + 1))) 3 = some (.int (eh_i G 1 (eh_i G 2 4).toNatClampNeg)) := eh_keep (by decide) (Or.inl rfl) k2_3
        have E := E.ld (p := 46) (t := ri_isI) (i := 2) (n := 1) (v := .int nn) rfl (e := (.iload_n 2, 1, [], .null)) rfl rfl (fun _ _ => rfl) k21_2 rfl
        have E := E.pu (p := 48) (lo' := (ri_st1 (ri_st1 lo 3 (.int (eh_i G 1 (eh_i G 2 4).toNatClampNeg))) 1 (.int (dd + 1)))) (st' := [.int 10, .int nn]) rfl (e := (.bipush 10, 2, [], .null)) rfl rfl (fun _ _ => rfl)
        have E := E.pu (p := 49) (lo' := (ri_st1 (ri_st1 lo 3 (.int (eh_i G 1 (eh_i G 2 4).toNatClampNeg))) 1 (.int (dd + 1)))) (st' := [.int (nn * 10)]) rfl (e := (.imul, 1, [], .null)) rfl rfl (fun _ _ => rfl)
        have E := E.ld (p := 50) (t := ri_isI) (i := 3) (n := 1) (v := .int (eh_i G 1 (eh_i G 2 4).toNatClampNeg)) rfl (e := (.iload_n 3, 1, [], .null)) rfl rfl (fun _ _ => rfl) k21_3 rfl
        have E := E.pu (p := 52) (lo' := (ri_st1 (ri_st1 lo 3 (.int (eh_i G 1 (eh_i G 2 4).toNatClampNeg))) 1 (.int (dd + 1)))) (st' := [.int 48, .int (eh_i G 1 (eh_i G 2 4).toNatClampNeg), .int (nn * 10)]) rfl (e := (.bipush 48, 2, [], .null)) rfl rfl (fun _ _ => rfl)
        have E := E.pu (p := 53) (lo' := (ri_st1 (ri_st1 lo 3 (.int (eh_i G 1 (eh_i G 2 4).toNatClampNeg))) 1 (.int (dd + 1)))) (st' := [.int ((eh_i G 1 (eh_i G 2 4).toNatClampNeg) - 48), .int (nn * 10)]) rfl (e := (.isub, 1, [], .null)) rfl rfl (fun _ _ => rfl)
        have E := E.pu (p := 54) (lo' := (ri_st1 (ri_st1 lo 3 (.int (eh_i G 1 (eh_i G 2 4).toNatClampNeg))) 1 (.int (dd + 1)))) (st' := [.int ((nn * 10) + ((eh_i G 1 (eh_i G 2 4).toNatClampNeg) - 48))]) rfl (e := (.iadd, 1, [], .null)) rfl rfl (fun _ _ => rfl)
        have E := E.so (p := 55) (t := ri_isI) (i := 2) (n := 1) rfl (e := (.istore_n 2, 1, [], .null)) rfl rfl (fun _ _ => rfl) rfl
        have k22_2 : ri_lk (ri_st1 (ri_st1 (ri_st1 lo 3 (.int (eh_i G 1 (eh_i G 2 4).toNatClampNeg))) 1 (.int (dd + 1))) 2 (.int ((nn * 10) + ((eh_i G 1 (eh_i G 2 4).toNatClampNeg) - 48)))) 2 = some (.int ((nn * 10) + ((eh_i G 1 (eh_i G 2 4).toNatClampNeg) - 48))) := eh_self
        have k22_0 : ri_lk (ri_st1 (ri_st1 (ri_st1 lo 3 (.int (eh_i G 1 (eh_i G 2 4).toNatClampNeg))) 1 (.int (dd + 1))) 2 (.int ((nn * 10) + ((eh_i G 1 (eh_i G 2 4).toNatClampNeg) - 48)))) 0 = some (.ref 2) := eh_keep (by decide) (Or.inl rfl) k21_0
        have k22_1 : ri_lk (ri_st1 (ri_st1 (ri_st1 lo 3 (.int (eh_i G 1 (eh_i G 2 4).toNatClampNeg))) 1 (.int (dd + 1))) 2 (.int ((nn * 10) + ((eh_i G 1 (eh_i G 2 4).toNatClampNeg) - 48)))) 1 = some (.int (dd + 1)) := eh_keep (by decide) (Or.inl rfl) k21_1
        have k22_3 : ri_lk (ri_st1 (ri_st1 (ri_st1 lo 3 (.int (eh_i G 1 (eh_i G 2 4).toNatClampNeg))) 1 (.int (dd + 1))) 2 (.int ((nn * 10) + ((eh_i G 1 (eh_i G 2 4).toNatClampNeg) - 48)))) 3 = some (.int (eh_i G 1 (eh_i G 2 4).toNatClampNeg)) := eh_keep (by decide) (Or.inl rfl) k21_3
        have E := E.pu (p := 90) (lo' := (ri_st1 (ri_st1 (ri_st1 lo 3 (.int (eh_i G 1 (eh_i G 2 4).toNatClampNeg))) 1 (.int (dd + 1))) 2 (.int ((nn * 10) + ((eh_i G 1 (eh_i G 2 4).toNatClampNeg) - 48))))) (st' := []) rfl (e := (.goto 35, 3, [90], .null)) rfl rfl (fun _ _ => rfl)
        have E := E.ld (p := 91) (t := ri_isA) (i := 0) (n := 1) (v := .ref 2) rfl (e := (.aload_n 0, 1, [], .null)) rfl rfl (fun _ _ => rfl) k22_0 rfl
        have E := E.pu (p := 92) (lo' := (ri_st1 (ri_st1 (ri_st1 lo 3 (.int (eh_i G 1 (eh_i G 2 4).toNatClampNeg))) 1 (.int (dd + 1))) 2 (.int ((nn * 10) + ((eh_i G 1 (eh_i G 2 4).toNatClampNeg) - 48))))) (st' := [.ref 2, .ref 2]) rfl (e := (.dup, 1, [], .null)) rfl rfl (fun _ _ => rfl)
        have E := E.gi (y := eh_i G 2 4) (p := 95) rfl (x := 22) (m := 3) (w := .null) (t := 8) (i := 4) (u := 191) rfl rfl hV ty rfl rfl
        have E := E.pu (p := 96) (lo' := (ri_st1 (ri_st1 (ri_st1 lo 3 (.int (eh_i G 1 (eh_i G 2 4).toNatClampNeg))) 1 (.int (dd + 1))) 2 (.int ((nn * 10) + ((eh_i G 1 (eh_i G 2 4).toNatClampNeg) - 48))))) (st' := [.int 1, .int (eh_i G 2 4), .ref 2]) rfl (e := (.iconst 1, 1, [], .null)) rfl rfl (fun _ _ => rfl)
        have E := E.pu (p := 97) (lo' := (ri_st1 (ri_st1 (ri_st1 lo 3 (.int (eh_i G 1 (eh_i G 2 4).toNatClampNeg))) 1 (.int (dd + 1))) 2 (.int ((nn * 10) + ((eh_i G 1 (eh_i G 2 4).toNatClampNeg) - 48))))) (st' := [.int ((eh_i G 2 4) + 1), .ref 2]) rfl (e := (.iadd, 1, [], .null)) rfl rfl (fun _ _ => rfl)
        obtain ⟨h23, hV24, hN25, E⟩ := E.gp (p := 100) rfl (x := 22) (m := 3) (w := .null) (t := 8) (i := 4) (u := 191) (y := 0) rfl rfl hV
        have E := E.pu (p := 9) (lo' := (ri_st1 (ri_st1 (ri_st1 lo 3 (.int (eh_i G 1 (eh_i G 2 4).toNatClampNeg))) 1 (.int (dd + 1))) 2 (.int ((nn * 10) + ((eh_i G 1 (eh_i G 2 4).toNatClampNeg) - 48))))) (st' := []) rfl (e := (.goto (-91), 3, [9], .null)) rfl rfl (fun _ _ => rfl)
        exact Or.inr (Or.inr (Or.inr (Or.inr (Or.inr (Or.inr (Or.inr (⟨c1, c3, c12, _, _, E, hV24, hN25, (ty.ui rfl), k22_0, k22_1, k22_2, k22_3⟩)))))))
theorem rr_z {cal : eh_K} {lo : List (Nat × Value)} {h h' : ri_H} {rs : List Value} {G : eh_W} {dd nn : Int32} (E : eh_e cal md_75 103 lo [] h rs h') (hV : eh_V h = G) (ty : eh_ty tC G) (l0 : ri_lk lo 0 = some (.ref 2)) (l1 : ri_lk lo 1 = some (.int dd)) (l2 : ri_lk lo 2 = some (.int nn)) : (¬ (dd = 0) ∧ ¬ (dd = ((eh_i G 2 4) - (eh_i G 2 6))) ∧ rs = [] ∧ eh_V h' = eh_u G 2 5 (.int 1) ∧ eh_N h' = eh_N h) ∨ (¬ (dd = 0) ∧ dd = ((eh_i G 2 4) - (eh_i G 2 6)) ∧ 3 < dd.toInt ∧ rs = [] ∧ eh_V h' = eh_u G 2 5 (.int 1) ∧ eh_N h' = eh_N h) ∨ (¬ (dd = 0) ∧ dd = ((eh_i G 2 4) - (eh_i G 2 6)) ∧ ¬ (3 < dd.toInt) ∧ rs = [] ∧ eh_V h' = eh_u (eh_u (eh_u G 2 5 (.int 1)) 2 5 (.int 4)) 2 7 (.int nn) ∧ eh_N h' = eh_N h) ∨ (dd = 0 ∧ 7 < ((eh_i G 2 4) - (eh_i G 2 6)).toInt ∧ ¬ (dd = ((eh_i G 2 4) - (eh_i G 2 6))) ∧ rs = [] ∧ eh_V h' = eh_u G 2 5 (.int 1) ∧ eh_N h' = eh_N h) ∨ (dd = 0 ∧ 7 < ((eh_i G 2 4) - (eh_i G 2 6)).toInt ∧ dd = ((eh_i G 2 4) - (eh_i G 2 6)) ∧ 3 < dd.toInt ∧ rs = [] ∧ eh_V h' = eh_u G 2 5 (.int 1) ∧ eh_N h' = eh_N h) ∨ (dd = 0 ∧ 7 < ((eh_i G 2 4) - (eh_i G 2 6)).toInt ∧ dd = ((eh_i G 2 4) - (eh_i G 2 6)) ∧ ¬ (3 < dd.toInt) ∧ rs = [] ∧ eh_V h' = eh_u (eh_u (eh_u G 2 5 (.int 1)) 2 5 (.int 4)) 2 7 (.int nn) ∧ eh_N h' = eh_N h) ∨ (dd = 0 ∧ ¬ (7 < ((eh_i G 2 4) - (eh_i G 2 6)).toInt) ∧ rs = [] ∧ eh_V h' = eh_u (eh_u G 2 5 (.int 1)) 2 5 (.int 3) ∧ eh_N h' = eh_N h) := by
  have E := E.ld (p := 104) (t := ri_isA) (i := 0) (n := 1) (v := .ref 2) rfl (e := (.aload_n 0, 1, [], .null)) rfl rfl (fun _ _ => rfl) l0 rfl
  have E := E.gi (y := eh_i G 2 4) (p := 107) rfl (x := 22) (m := 3) (w := .null) (t := 8) (i := 4) (u := 191) rfl rfl hV ty rfl rfl
  have E := E.ld (p := 108) (t := ri_isA) (i := 0) (n := 1) (v := .ref 2) rfl (e := (.aload_n 0, 1, [], .null)) rfl rfl (fun _ _ => rfl) l0 rfl
  have E := E.gi (y := eh_i G 2 6) (p := 111) rfl (x := 28) (m := 3) (w := .null) (t := 8) (i := 6) (u := 196) rfl rfl hV ty rfl rfl
  have E := E.pu (p := 112) (lo' := lo) (st' := [.int ((eh_i G 2 4) - (eh_i G 2 6))]) rfl (e := (.isub, 1, [], .null)) rfl rfl (fun _ _ => rfl)
  have E := E.so (p := 113) (t := ri_isI) (i := 3) (n := 1) rfl (e := (.istore_n 3, 1, [], .null)) rfl rfl (fun _ _ => rfl) rfl
  have k1_3 : ri_lk (ri_st1 lo 3 (.int ((eh_i G 2 4) - (eh_i G 2 6)))) 3 = some (.int ((eh_i G 2 4) - (eh_i G 2 6))) := eh_self
  have k1_0 : ri_lk (ri_st1 lo 3 (.int ((eh_i G 2 4) - (eh_i G 2 6)))) 0 = some (.ref 2) := eh_keep (by decide) (Or.inl rfl) l0
  have k1_1 : ri_lk (ri_st1 lo 3 (.int ((eh_i G 2 4) - (eh_i G 2 6)))) 1 = some (.int dd) := eh_keep (by decide) (Or.inl rfl) l1
  have k1_2 : ri_lk (ri_st1 lo 3 (.int ((eh_i G 2 4) - (eh_i G 2 6)))) 2 = some (.int nn) := eh_keep (by decide) (Or.inl rfl) l2
  have E := E.ld (p := 114) (t := ri_isA) (i := 0) (n := 1) (v := .ref 2) rfl (e := (.aload_n 0, 1, [], .null)) rfl rfl (fun _ _ => rfl) k1_0 rfl
  have E := E.pu (p := 115) (lo' := (ri_st1 lo 3 (.int ((eh_i G 2 4) - (eh_i G 2 6))))) (st' := [.int 1, .ref 2]) rfl (e := (.iconst 1, 1, [], .null)) rfl rfl (fun _ _ => rfl)
  obtain ⟨h2, hV3, hN4, E⟩ := E.gp (p := 118) rfl (x := 25) (m := 3) (w := .null) (t := 8) (i := 5) (u := 192) (y := 0) rfl rfl hV
  have E := E.ld (p := 119) (t := ri_isI) (i := 1) (n := 1) (v := .int dd) rfl (e := (.iload_n 1, 1, [], .null)) rfl rfl (fun _ _ => rfl) k1_1 rfl
  rcases eh_q1 (E.br (p := 122) (c := 1) (tgt := 136) (a := dd) (b := 0) (st' := []) rfl (e := (.ifCond .ne 17, 3, [136], .null)) rfl rfl (fun _ _ => rfl) rfl) with ⟨c5, E⟩ | ⟨c5, E⟩
  · skip
    have E := E.ld (p := 137) (t := ri_isI) (i := 1) (n := 1) (v := .int dd) rfl (e := (.iload_n 1, 1, [], .null)) rfl rfl (fun _ _ => rfl) k1_1 rfl
    have E := E.ld (p := 138) (t := ri_isI) (i := 3) (n := 1) (v := .int ((eh_i G 2 4) - (eh_i G 2 6))) rfl (e := (.iload_n 3, 1, [], .null)) rfl rfl (fun _ _ => rfl) k1_3 rfl
    rcases eh_q1 (E.br (p := 141) (c := 1) (tgt := 156) (a := dd) (b := (eh_i G 2 4) - (eh_i G 2 6)) (st' := []) rfl (e := (.if_icmp .ne 18, 3, [156], .null)) rfl rfl (fun _ _ => rfl) rfl) with ⟨c6, E⟩ | ⟨c6, E⟩
    · skip
      obtain ⟨r1, r2⟩ := E.retv rfl (m := 1) (ax := []) (w := .null) rfl
      exact Or.inl ⟨c5, c6, r1, ((congrArg eh_V r2).trans hV3), ((congrArg eh_N r2).trans hN4)⟩
    · skip
      have E := E.ld (p := 142) (t := ri_isI) (i := 1) (n := 1) (v := .int dd) rfl (e := (.iload_n 1, 1, [], .null)) rfl rfl (fun _ _ => rfl) k1_1 rfl
      have E := E.pu (p := 143) (lo' := (ri_st1 lo 3 (.int ((eh_i G 2 4) - (eh_i G 2 6))))) (st' := [.int 3, .int dd]) rfl (e := (.iconst 3, 1, [], .null)) rfl rfl (fun _ _ => rfl)
      rcases eh_r4 rfl (show (3 : Int32).toInt = 3 by decide) (E.br (p := 146) (c := 4) (tgt := 156) (a := dd) (b := 3) (st' := []) rfl (e := (.if_icmp .gt 13, 3, [156], .null)) rfl rfl (fun _ _ => rfl) rfl) with ⟨c7, E⟩ | ⟨c7, E⟩
      · skip
        obtain ⟨r1, r2⟩ := E.retv rfl (m := 1) (ax := []) (w := .null) rfl
        exact Or.inr (Or.inl ⟨c5, c6, c7, r1, ((congrArg eh_V r2).trans hV3), ((congrArg eh_N r2).trans hN4)⟩)
      · skip
        have E := E.ld (p := 147) (t := ri_isA) (i := 0) (n := 1) (v := .ref 2) rfl (e := (.aload_n 0, 1, [], .null)) rfl rfl (fun _ _ => rfl) k1_0 rfl
        have E := E.pu (p := 148) (lo' := (ri_st1 lo 3 (.int ((eh_i G 2 4) - (eh_i G 2 6))))) (st' := [.int 4, .ref 2]) rfl (e := (.iconst 4, 1, [], .null)) rfl rfl (fun _ _ => rfl)
        obtain ⟨h8, hV9, hN10, E⟩ := E.gp (p := 151) rfl (x := 25) (m := 3) (w := .null) (t := 8) (i := 5) (u := 192) (y := 0) rfl rfl hV3
        have E := E.ld (p := 152) (t := ri_isA) (i := 0) (n := 1) (v := .ref 2) rfl (e := (.aload_n 0, 1, [], .null)) rfl rfl (fun _ _ => rfl) k1_0 rfl
        have E := E.ld (p := 153) (t := ri_isI) (i := 2) (n := 1) (v := .int nn) rfl (e := (.iload_n 2, 1, [], .null)) rfl rfl (fun _ _ => rfl) k1_2 rfl
        obtain ⟨h11, hV12, hN13, E⟩ := E.gp (p := 156) rfl (x := 31) (m := 3) (w := .null) (t := 8) (i := 7) (u := 197) (y := 0) rfl rfl hV9
        obtain ⟨r1, r2⟩ := E.retv rfl (m := 1) (ax := []) (w := .null) rfl
        exact Or.inr (Or.inr (Or.inl ⟨c5, c6, c7, r1, ((congrArg eh_V r2).trans hV12), ((congrArg eh_N r2).trans (hN13.trans (hN10.trans hN4)))⟩))
  · skip
    have E := E.ld (p := 123) (t := ri_isI) (i := 3) (n := 1) (v := .int ((eh_i G 2 4) - (eh_i G 2 6))) rfl (e := (.iload_n 3, 1, [], .null)) rfl rfl (fun _ _ => rfl) k1_3 rfl
    have E := E.pu (p := 125) (lo' := (ri_st1 lo 3 (.int ((eh_i G 2 4) - (eh_i G 2 6))))) (st' := [.int 7, .int ((eh_i G 2 4) - (eh_i G 2 6))]) rfl (e := (.bipush 7, 2, [], .null)) rfl rfl (fun _ _ => rfl)
    rcases eh_r4 rfl (show (7 : Int32).toInt = 7 by decide) (E.br (p := 128) (c := 4) (tgt := 136) (a := (eh_i G 2 4) - (eh_i G 2 6)) (b := 7) (st' := []) rfl (e := (.if_icmp .gt 11, 3, [136], .null)) rfl rfl (fun _ _ => rfl) rfl) with ⟨c14, E⟩ | ⟨c14, E⟩
    · skip
      have E := E.ld (p := 137) (t := ri_isI) (i := 1) (n := 1) (v := .int dd) rfl (e := (.iload_n 1, 1, [], .null)) rfl rfl (fun _ _ => rfl) k1_1 rfl
      have E := E.ld (p := 138) (t := ri_isI) (i := 3) (n := 1) (v := .int ((eh_i G 2 4) - (eh_i G 2 6))) rfl (e := (.iload_n 3, 1, [], .null)) rfl rfl (fun _ _ => rfl) k1_3 rfl
      rcases eh_q1 (E.br (p := 141) (c := 1) (tgt := 156) (a := dd) (b := (eh_i G 2 4) - (eh_i G 2 6)) (st' := []) rfl (e := (.if_icmp .ne 18, 3, [156], .null)) rfl rfl (fun _ _ => rfl) rfl) with ⟨c15, E⟩ | ⟨c15, E⟩
      · skip
        obtain ⟨r1, r2⟩ := E.retv rfl (m := 1) (ax := []) (w := .null) rfl
        exact Or.inr (Or.inr (Or.inr (Or.inl ⟨c5, c14, c15, r1, ((congrArg eh_V r2).trans hV3), ((congrArg eh_N r2).trans hN4)⟩)))
      · skip
        have E := E.ld (p := 142) (t := ri_isI) (i := 1) (n := 1) (v := .int dd) rfl (e := (.iload_n 1, 1, [], .null)) rfl rfl (fun _ _ => rfl) k1_1 rfl
        have E := E.pu (p := 143) (lo' := (ri_st1 lo 3 (.int ((eh_i G 2 4) - (eh_i G 2 6))))) (st' := [.int 3, .int dd]) rfl (e := (.iconst 3, 1, [], .null)) rfl rfl (fun _ _ => rfl)
        rcases eh_r4 rfl (show (3 : Int32).toInt = 3 by decide) (E.br (p := 146) (c := 4) (tgt := 156) (a := dd) (b := 3) (st' := []) rfl (e := (.if_icmp .gt 13, 3, [156], .null)) rfl rfl (fun _ _ => rfl) rfl) with ⟨c16, E⟩ | ⟨c16, E⟩
        · skip
          obtain ⟨r1, r2⟩ := E.retv rfl (m := 1) (ax := []) (w := .null) rfl
          exact Or.inr (Or.inr (Or.inr (Or.inr (Or.inl ⟨c5, c14, c15, c16, r1, ((congrArg eh_V r2).trans hV3), ((congrArg eh_N r2).trans hN4)⟩))))
        · skip
          have E := E.ld (p := 147) (t := ri_isA) (i := 0) (n := 1) (v := .ref 2) rfl (e := (.aload_n 0, 1, [], .null)) rfl rfl (fun _ _ => rfl) k1_0 rfl
          have E := E.pu (p := 148) (lo' := (ri_st1 lo 3 (.int ((eh_i G 2 4) - (eh_i G 2 6))))) (st' := [.int 4, .ref 2]) rfl (e := (.iconst 4, 1, [], .null)) rfl rfl (fun _ _ => rfl)
          obtain ⟨h17, hV18, hN19, E⟩ := E.gp (p := 151) rfl (x := 25) (m := 3) (w := .null) (t := 8) (i := 5) (u := 192) (y := 0) rfl rfl hV3
          have E := E.ld (p := 152) (t := ri_isA) (i := 0) (n := 1) (v := .ref 2) rfl (e := (.aload_n 0, 1, [], .null)) rfl rfl (fun _ _ => rfl) k1_0 rfl
          have E := E.ld (p := 153) (t := ri_isI) (i := 2) (n := 1) (v := .int nn) rfl (e := (.iload_n 2, 1, [], .null)) rfl rfl (fun _ _ => rfl) k1_2 rfl
          obtain ⟨h20, hV21, hN22, E⟩ := E.gp (p := 156) rfl (x := 31) (m := 3) (w := .null) (t := 8) (i := 7) (u := 197) (y := 0) rfl rfl hV18
          obtain ⟨r1, r2⟩ := E.retv rfl (m := 1) (ax := []) (w := .null) rfl
          exact Or.inr (Or.inr (Or.inr (Or.inr (Or.inr (Or.inl ⟨c5, c14, c15, c16, r1, ((congrArg eh_V r2).trans hV21), ((congrArg eh_N r2).trans (hN22.trans (hN19.trans hN4)))⟩)))))
    · skip
      have E := E.ld (p := 129) (t := ri_isA) (i := 0) (n := 1) (v := .ref 2) rfl (e := (.aload_n 0, 1, [], .null)) rfl rfl (fun _ _ => rfl) k1_0 rfl
      have E := E.pu (p := 130) (lo' := (ri_st1 lo 3 (.int ((eh_i G 2 4) - (eh_i G 2 6))))) (st' := [.int 3, .ref 2]) rfl (e := (.iconst 3, 1, [], .null)) rfl rfl (fun _ _ => rfl)
      obtain ⟨h23, hV24, hN25, E⟩ := E.gp (p := 133) rfl (x := 25) (m := 3) (w := .null) (t := 8) (i := 5) (u := 192) (y := 0) rfl rfl hV3
      have E := E.pu (p := 156) (lo' := (ri_st1 lo 3 (.int ((eh_i G 2 4) - (eh_i G 2 6))))) (st' := []) rfl (e := (.goto 23, 3, [156], .null)) rfl rfl (fun _ _ => rfl)
      obtain ⟨r1, r2⟩ := E.retv rfl (m := 1) (ax := []) (w := .null) rfl
      exact Or.inr (Or.inr (Or.inr (Or.inr (Or.inr (Or.inr (⟨c5, c14, r1, ((congrArg eh_V r2).trans hV24), ((congrArg eh_N r2).trans (hN25.trans hN4))⟩))))))
theorem kk_a {cal : eh_K} {lo : List (Nat × Value)} {h h' : ri_H} {rs : List Value} {G : eh_W} {co : Int64} (E : eh_e cal md_76 0 lo [] h rs h') (hV : eh_V h = G) (ty : eh_ty tC G) (l0 : ri_lk lo 0 = some (.ref 2)) (l1 : ri_lk lo 1 = some (.long co)) : ∃ hz loz, eh_e cal md_76 2 loz [] hz rs h' ∧ eh_V hz = G ∧ eh_N hz = eh_N h ∧ eh_ty tC G ∧ ri_lk loz 0 = some (.ref 2) ∧ ri_lk loz 1 = some (.long co) ∧ ri_lk loz 3 = some (.int 0) := by
  have E := E.pu (p := 1) (lo' := lo) (st' := [.int 0]) rfl (e := (.iconst 0, 1, [], .null)) rfl rfl (fun _ _ => rfl)
  have E := E.so (p := 2) (t := ri_isI) (i := 3) (n := 1) rfl (e := (.istore_n 3, 1, [], .null)) rfl rfl (fun _ _ => rfl) rfl
  have k1_3 : ri_lk (ri_st1 lo 3 (.int 0)) 3 = some (.int 0) := eh_self
  have k1_0 : ri_lk (ri_st1 lo 3 (.int 0)) 0 = some (.ref 2) := eh_keep (by decide) (Or.inl rfl) l0
  have k1_1 : ri_lk (ri_st1 lo 3 (.int 0)) 1 = some (.long co) := eh_keep (by decide) (Or.inr (by decide)) l1
  exact ⟨_, _, E, hV, rfl, ty, k1_0, k1_1, k1_3⟩
theorem kk_i {cal : eh_K} {lo : List (Nat × Value)} {h h' : ri_H} {rs : List Value} {G : eh_W} {co : Int64} {k : Int32} (E : eh_e cal md_76 2 lo [] h rs h') (hV : eh_V h = G) (ty : eh_ty tC G) (l0 : ri_lk lo 0 = some (.ref 2)) (l1 : ri_lk lo 1 = some (.long co)) (l3 : ri_lk lo 3 = some (.int k)) : (¬ (k.toInt < 24) ∧ rs = [.int (-1)] ∧ eh_V h' = G ∧ eh_N h' = eh_N h) ∨ (k.toInt < 24 ∧ ¬ ((eh_l G 3 (k).toNatClampNeg) = co) ∧ ∃ hz loz, eh_e cal md_76 2 loz [] hz rs h' ∧ eh_V hz = G ∧ eh_N hz = eh_N h ∧ eh_ty tC G ∧ ri_lk loz 0 = some (.ref 2) ∧ ri_lk loz 1 = some (.long co) ∧ ri_lk loz 3 = some (.int (k + 1))) ∨ (k.toInt < 24 ∧ (eh_l G 3 (k).toNatClampNeg) = co ∧ rs = [.int k] ∧ eh_V h' = G ∧ eh_N h' = eh_N h) := by
  have E := E.ld (p := 3) (t := ri_isI) (i := 3) (n := 1) (v := .int k) rfl (e := (.iload_n 3, 1, [], .null)) rfl rfl (fun _ _ => rfl) l3 rfl
  have E := E.pu (p := 5) (lo' := lo) (st' := [.int 24, .int k]) rfl (e := (.bipush 24, 2, [], .null)) rfl rfl (fun _ _ => rfl)
  rcases eh_r3 rfl (show (24 : Int32).toInt = 24 by decide) (E.br (p := 8) (c := 3) (tgt := 27) (a := k) (b := 24) (st' := []) rfl (e := (.if_icmp .ge 22, 3, [27], .null)) rfl rfl (fun _ _ => rfl) rfl) with ⟨c1, E⟩ | ⟨c1, E⟩
  · skip
    have E := E.pu (p := 28) (lo' := lo) (st' := [.int (-1)]) rfl (e := (.iconst (-1), 1, [], .null)) rfl rfl (fun _ _ => rfl)
    obtain ⟨r1, r2⟩ := E.reti rfl (m := 1) (ax := []) (w := .null) rfl
    exact Or.inl ⟨c1, r1, ((congrArg eh_V r2).trans hV), (congrArg eh_N r2)⟩
  · skip
    have E := E.ld (p := 9) (t := ri_isA) (i := 0) (n := 1) (v := .ref 2) rfl (e := (.aload_n 0, 1, [], .null)) rfl rfl (fun _ _ => rfl) l0 rfl
    have E := E.gr (n := 3) (p := 12) rfl (x := 9) (m := 3) (w := .null) (t := 8) (i := 1) (u := 188) rfl rfl hV ty rfl
    have E := E.ld (p := 13) (t := ri_isI) (i := 3) (n := 1) (v := .int k) rfl (e := (.iload_n 3, 1, [], .null)) rfl rfl (fun _ _ => rfl) l3 rfl
    have E := E.al (p := 14) (z := eh_l G 3 (k).toNatClampNeg) (n := (k).toNatClampNeg) rfl (e := (.laload, 1, [], .null)) rfl rfl (fun _ _ => rfl) rfl hV ty rfl rfl rfl
    have E := E.ld (p := 15) (t := ri_isL) (i := 1) (n := 1) (v := .long co) rfl (e := (.lload_n 1, 1, [], .null)) rfl rfl (fun _ _ => rfl) l1 rfl
    have E := E.pu (p := 16) (lo' := lo) (st' := [.int (lg_cmp (eh_l G 3 (k).toNatClampNeg) co)]) rfl (e := (.lcmp, 1, [], .null)) rfl rfl (fun _ _ => rfl)
    rcases eh_ql1 (E.br (p := 19) (c := 1) (tgt := 21) (a := lg_cmp (eh_l G 3 (k).toNatClampNeg) co) (b := 0) (st' := []) rfl (e := (.ifCond .ne 5, 3, [21], .null)) rfl rfl (fun _ _ => rfl) rfl) with ⟨c2, E⟩ | ⟨c2, E⟩
    · skip
      have E := E.ii (p := 24) (y := k + 1) rfl (i := 3) (n := 1) (m := 3) (ax := []) (w := .null) rfl l3 rfl rfl
      have k3_3 : ri_lk (ri_st1 lo 3 (.int (k + 1))) 3 = some (.int (k + 1)) := eh_self
      have k3_0 : ri_lk (ri_st1 lo 3 (.int (k + 1))) 0 = some (.ref 2) := eh_keep (by decide) (Or.inl rfl) l0
      have k3_1 : ri_lk (ri_st1 lo 3 (.int (k + 1))) 1 = some (.long co) := eh_keep (by decide) (Or.inr (by decide)) l1
      have E := E.pu (p := 2) (lo' := (ri_st1 lo 3 (.int (k + 1)))) (st' := []) rfl (e := (.goto (-22), 3, [2], .null)) rfl rfl (fun _ _ => rfl)
      exact Or.inr (Or.inl ⟨c1, c2, _, _, E, hV, rfl, ty, k3_0, k3_1, k3_3⟩)
    · skip
      have E := E.ld (p := 20) (t := ri_isI) (i := 3) (n := 1) (v := .int k) rfl (e := (.iload_n 3, 1, [], .null)) rfl rfl (fun _ _ => rfl) l3 rfl
      obtain ⟨r1, r2⟩ := E.reti rfl (m := 1) (ax := []) (w := .null) rfl
      exact Or.inr (Or.inr (⟨c1, c2, r1, ((congrArg eh_V r2).trans hV), (congrArg eh_N r2)⟩))
theorem sg_77 {d : Nat} {h h' : ri_H} {v : Option Value} {G : eh_W} {w : Int32} (E : ri_calE ri_md (d + 1) 77 [.int w] h = some (v, h')) (hV : eh_V h = G) (ty : eh_ty tC G) : (w = 59 ∧ v = some (.int 1) ∧ eh_V h' = G ∧ eh_N h' = eh_N h) ∨ (¬ (w = 59) ∧ w = 60 ∧ v = some (.int 1) ∧ eh_V h' = G ∧ eh_N h' = eh_N h) ∨ (¬ (w = 59) ∧ ¬ (w = 60) ∧ w = 61 ∧ v = some (.int 1) ∧ eh_V h' = G ∧ eh_N h' = eh_N h) ∨ (¬ (w = 59) ∧ ¬ (w = 60) ∧ ¬ (w = 61) ∧ w = 62 ∧ v = some (.int 1) ∧ eh_V h' = G ∧ eh_N h' = eh_N h) ∨ (¬ (w = 59) ∧ ¬ (w = 60) ∧ ¬ (w = 61) ∧ ¬ (w = 62) ∧ w = 40 ∧ v = some (.int 1) ∧ eh_V h' = G ∧ eh_N h' = eh_N h) ∨ (¬ (w = 59) ∧ ¬ (w = 60) ∧ ¬ (w = 61) ∧ ¬ (w = 62) ∧ ¬ (w = 40) ∧ ¬ (w = 41) ∧ v = some (.int 0) ∧ eh_V h' = G ∧ eh_N h' = eh_N h) ∨ (¬ (w = 59) ∧ ¬ (w = 60) ∧ ¬ (w = 61) ∧ ¬ (w = 62) ∧ ¬ (w = 40) ∧ w = 41 ∧ v = some (.int 1) ∧ eh_V h' = G ∧ eh_N h' = eh_N h) := by
  obtain ⟨rs, hrs, E⟩ := eh_in E (q := md_77) rfl
  have E := E.ld (p := 1) (t := ri_isI) (i := 0) (n := 1) (v := .int w) rfl (e := (.iload_n 0, 1, [], .null)) rfl rfl (fun _ _ => rfl) rfl rfl
  have E := E.pu (p := 3) (lo' := (ri_as 0 [.int w])) (st' := [.int 59, .int w]) rfl (e := (.bipush 59, 2, [], .null)) rfl rfl (fun _ _ => rfl)
  rcases eh_q0 (E.br (p := 6) (c := 0) (tgt := 36) (a := w) (b := 59) (st' := []) rfl (e := (.if_icmp .eq 33, 3, [36], .null)) rfl rfl (fun _ _ => rfl) rfl) with ⟨c1, E⟩ | ⟨c1, E⟩
  · skip
    have E := E.pu (p := 37) (lo' := (ri_as 0 [.int w])) (st' := [.int 1]) rfl (e := (.iconst 1, 1, [], .null)) rfl rfl (fun _ _ => rfl)
    have E := E.pu (p := 41) (lo' := (ri_as 0 [.int w])) (st' := [.int 1]) rfl (e := (.goto 4, 3, [41], .null)) rfl rfl (fun _ _ => rfl)
    obtain ⟨r1, r2⟩ := E.reti rfl (m := 1) (ax := []) (w := .null) rfl
    exact Or.inl ⟨c1, (by rw [← hrs, r1]; rfl), ((congrArg eh_V r2).trans hV), (congrArg eh_N r2)⟩
  · skip
    have E := E.ld (p := 7) (t := ri_isI) (i := 0) (n := 1) (v := .int w) rfl (e := (.iload_n 0, 1, [], .null)) rfl rfl (fun _ _ => rfl) rfl rfl
    have E := E.pu (p := 9) (lo' := (ri_as 0 [.int w])) (st' := [.int 60, .int w]) rfl (e := (.bipush 60, 2, [], .null)) rfl rfl (fun _ _ => rfl)
    rcases eh_q0 (E.br (p := 12) (c := 0) (tgt := 36) (a := w) (b := 60) (st' := []) rfl (e := (.if_icmp .eq 27, 3, [36], .null)) rfl rfl (fun _ _ => rfl) rfl) with ⟨c2, E⟩ | ⟨c2, E⟩
    · skip
      have E := E.pu (p := 37) (lo' := (ri_as 0 [.int w])) (st' := [.int 1]) rfl (e := (.iconst 1, 1, [], .null)) rfl rfl (fun _ _ => rfl)
      have E := E.pu (p := 41) (lo' := (ri_as 0 [.int w])) (st' := [.int 1]) rfl (e := (.goto 4, 3, [41], .null)) rfl rfl (fun _ _ => rfl)
      obtain ⟨r1, r2⟩ := E.reti rfl (m := 1) (ax := []) (w := .null) rfl
      exact Or.inr (Or.inl ⟨c1, c2, (by rw [← hrs, r1]; rfl), ((congrArg eh_V r2).trans hV), (congrArg eh_N r2)⟩)
    · skip
      have E := E.ld (p := 13) (t := ri_isI) (i := 0) (n := 1) (v := .int w) rfl (e := (.iload_n 0, 1, [], .null)) rfl rfl (fun _ _ => rfl) rfl rfl
      have E := E.pu (p := 15) (lo' := (ri_as 0 [.int w])) (st' := [.int 61, .int w]) rfl (e := (.bipush 61, 2, [], .null)) rfl rfl (fun _ _ => rfl)
      rcases eh_q0 (E.br (p := 18) (c := 0) (tgt := 36) (a := w) (b := 61) (st' := []) rfl (e := (.if_icmp .eq 21, 3, [36], .null)) rfl rfl (fun _ _ => rfl) rfl) with ⟨c3, E⟩ | ⟨c3, E⟩
      · skip
        have E := E.pu (p := 37) (lo' := (ri_as 0 [.int w])) (st' := [.int 1]) rfl (e := (.iconst 1, 1, [], .null)) rfl rfl (fun _ _ => rfl)
        have E := E.pu (p := 41) (lo' := (ri_as 0 [.int w])) (st' := [.int 1]) rfl (e := (.goto 4, 3, [41], .null)) rfl rfl (fun _ _ => rfl)
        obtain ⟨r1, r2⟩ := E.reti rfl (m := 1) (ax := []) (w := .null) rfl
        exact Or.inr (Or.inr (Or.inl ⟨c1, c2, c3, (by rw [← hrs, r1]; rfl), ((congrArg eh_V r2).trans hV), (congrArg eh_N r2)⟩))
      · skip
        have E := E.ld (p := 19) (t := ri_isI) (i := 0) (n := 1) (v := .int w) rfl (e := (.iload_n 0, 1, [], .null)) rfl rfl (fun _ _ => rfl) rfl rfl
        have E := E.pu (p := 21) (lo' := (ri_as 0 [.int w])) (st' := [.int 62, .int w]) rfl (e := (.bipush 62, 2, [], .null)) rfl rfl (fun _ _ => rfl)
        rcases eh_q0 (E.br (p := 24) (c := 0) (tgt := 36) (a := w) (b := 62) (st' := []) rfl (e := (.if_icmp .eq 15, 3, [36], .null)) rfl rfl (fun _ _ => rfl) rfl) with ⟨c4, E⟩ | ⟨c4, E⟩
        · skip
          have E := E.pu (p := 37) (lo' := (ri_as 0 [.int w])) (st' := [.int 1]) rfl (e := (.iconst 1, 1, [], .null)) rfl rfl (fun _ _ => rfl)
          have E := E.pu (p := 41) (lo' := (ri_as 0 [.int w])) (st' := [.int 1]) rfl (e := (.goto 4, 3, [41], .null)) rfl rfl (fun _ _ => rfl)
          obtain ⟨r1, r2⟩ := E.reti rfl (m := 1) (ax := []) (w := .null) rfl
          exact Or.inr (Or.inr (Or.inr (Or.inl ⟨c1, c2, c3, c4, (by rw [← hrs, r1]; rfl), ((congrArg eh_V r2).trans hV), (congrArg eh_N r2)⟩)))
        · skip
          have E := E.ld (p := 25) (t := ri_isI) (i := 0) (n := 1) (v := .int w) rfl (e := (.iload_n 0, 1, [], .null)) rfl rfl (fun _ _ => rfl) rfl rfl
          have E := E.pu (p := 27) (lo' := (ri_as 0 [.int w])) (st' := [.int 40, .int w]) rfl (e := (.bipush 40, 2, [], .null)) rfl rfl (fun _ _ => rfl)
          rcases eh_q0 (E.br (p := 30) (c := 0) (tgt := 36) (a := w) (b := 40) (st' := []) rfl (e := (.if_icmp .eq 9, 3, [36], .null)) rfl rfl (fun _ _ => rfl) rfl) with ⟨c5, E⟩ | ⟨c5, E⟩
          · skip
            have E := E.pu (p := 37) (lo' := (ri_as 0 [.int w])) (st' := [.int 1]) rfl (e := (.iconst 1, 1, [], .null)) rfl rfl (fun _ _ => rfl)
            have E := E.pu (p := 41) (lo' := (ri_as 0 [.int w])) (st' := [.int 1]) rfl (e := (.goto 4, 3, [41], .null)) rfl rfl (fun _ _ => rfl)
            obtain ⟨r1, r2⟩ := E.reti rfl (m := 1) (ax := []) (w := .null) rfl
            exact Or.inr (Or.inr (Or.inr (Or.inr (Or.inl ⟨c1, c2, c3, c4, c5, (by rw [← hrs, r1]; rfl), ((congrArg eh_V r2).trans hV), (congrArg eh_N r2)⟩))))
          · skip
            have E := E.ld (p := 31) (t := ri_isI) (i := 0) (n := 1) (v := .int w) rfl (e := (.iload_n 0, 1, [], .null)) rfl rfl (fun _ _ => rfl) rfl rfl
            have E := E.pu (p := 33) (lo' := (ri_as 0 [.int w])) (st' := [.int 41, .int w]) rfl (e := (.bipush 41, 2, [], .null)) rfl rfl (fun _ _ => rfl)
            rcases eh_q1 (E.br (p := 36) (c := 1) (tgt := 40) (a := w) (b := 41) (st' := []) rfl (e := (.if_icmp .ne 7, 3, [40], .null)) rfl rfl (fun _ _ => rfl) rfl) with ⟨c6, E⟩ | ⟨c6, E⟩
            · skip
              have E := E.pu (p := 41) (lo' := (ri_as 0 [.int w])) (st' := [.int 0]) rfl (e := (.iconst 0, 1, [], .null)) rfl rfl (fun _ _ => rfl)
              obtain ⟨r1, r2⟩ := E.reti rfl (m := 1) (ax := []) (w := .null) rfl
              exact Or.inr (Or.inr (Or.inr (Or.inr (Or.inr (Or.inl ⟨c1, c2, c3, c4, c5, c6, (by rw [← hrs, r1]; rfl), ((congrArg eh_V r2).trans hV), (congrArg eh_N r2)⟩)))))
            · skip
              have E := E.pu (p := 37) (lo' := (ri_as 0 [.int w])) (st' := [.int 1]) rfl (e := (.iconst 1, 1, [], .null)) rfl rfl (fun _ _ => rfl)
              have E := E.pu (p := 41) (lo' := (ri_as 0 [.int w])) (st' := [.int 1]) rfl (e := (.goto 4, 3, [41], .null)) rfl rfl (fun _ _ => rfl)
              obtain ⟨r1, r2⟩ := E.reti rfl (m := 1) (ax := []) (w := .null) rfl
              exact Or.inr (Or.inr (Or.inr (Or.inr (Or.inr (Or.inr (⟨c1, c2, c3, c4, c5, c6, (by rw [← hrs, r1]; rfl), ((congrArg eh_V r2).trans hV), (congrArg eh_N r2)⟩))))))
theorem ad_a {cal : eh_K} {lo : List (Nat × Value)} {h h' : ri_H} {rs : List Value} {G : eh_W} (E : eh_e cal md_74 0 lo [] h rs h') (hV : eh_V h = G) (ty : eh_ty tC G) (l0 : ri_lk lo 0 = some (.ref 2)) : ((eh_i G 2 3).toInt < (eh_i G 2 2).toInt ∧ ∃ hz loz, eh_e cal md_74 12 loz [] hz rs h' ∧ eh_V hz = G ∧ eh_N hz = eh_N h ∧ eh_ty tC G ∧ ri_lk loz 0 = some (.ref 2) ∧ ri_lk loz 1 = some (.int (eh_i G 2 3))) ∨ (¬ ((eh_i G 2 3).toInt < (eh_i G 2 2).toInt) ∧ ∃ hz loz, eh_e cal md_74 12 loz [] hz rs h' ∧ eh_V hz = G ∧ eh_N hz = eh_N h ∧ eh_ty tC G ∧ ri_lk loz 0 = some (.ref 2) ∧ ri_lk loz 1 = some (.int (eh_i G 2 2))) := by
  have E := E.ld (p := 1) (t := ri_isA) (i := 0) (n := 1) (v := .ref 2) rfl (e := (.aload_n 0, 1, [], .null)) rfl rfl (fun _ _ => rfl) l0 rfl
  have E := E.gi (y := eh_i G 2 2) (p := 4) rfl (x := 15) (m := 3) (w := .null) (t := 8) (i := 2) (u := 189) rfl rfl hV ty rfl rfl
  have E := E.ld (p := 5) (t := ri_isA) (i := 0) (n := 1) (v := .ref 2) rfl (e := (.aload_n 0, 1, [], .null)) rfl rfl (fun _ _ => rfl) l0 rfl
  have E := E.gi (y := eh_i G 2 3) (p := 8) rfl (x := 19) (m := 3) (w := .null) (t := 8) (i := 3) (u := 190) rfl rfl hV ty rfl rfl
  rcases eh_rm rfl rfl (E.mn (p := 11) rfl (x := 61) (m := 3) (w := .null) (u := 643) rfl rfl) with ⟨c1, E⟩ | ⟨c1, E⟩
  · skip
    have E := E.so (p := 12) (t := ri_isI) (i := 1) (n := 1) rfl (e := (.istore_n 1, 1, [], .null)) rfl rfl (fun _ _ => rfl) rfl
    have k2_1 : ri_lk (ri_st1 lo 1 (.int (eh_i G 2 3))) 1 = some (.int (eh_i G 2 3)) := eh_self
    have k2_0 : ri_lk (ri_st1 lo 1 (.int (eh_i G 2 3))) 0 = some (.ref 2) := eh_keep (by decide) (Or.inl rfl) l0
    exact Or.inl ⟨c1, _, _, E, hV, rfl, ty, k2_0, k2_1⟩
  · skip
    have E := E.so (p := 12) (t := ri_isI) (i := 1) (n := 1) rfl (e := (.istore_n 1, 1, [], .null)) rfl rfl (fun _ _ => rfl) rfl
    have k3_1 : ri_lk (ri_st1 lo 1 (.int (eh_i G 2 2))) 1 = some (.int (eh_i G 2 2)) := eh_self
    have k3_0 : ri_lk (ri_st1 lo 1 (.int (eh_i G 2 2))) 0 = some (.ref 2) := eh_keep (by decide) (Or.inl rfl) l0
    exact Or.inr (⟨c1, _, _, E, hV, rfl, ty, k3_0, k3_1⟩)
theorem ad_i {cal : eh_K} {lo : List (Nat × Value)} {h h' : ri_H} {rs : List Value} {G : eh_W} {s : Int32} (E : eh_e cal md_74 12 lo [] h rs h') (hV : eh_V h = G) (ty : eh_ty tC G) (l0 : ri_lk lo 0 = some (.ref 2)) (l1 : ri_lk lo 1 = some (.int s)) : (¬ ((eh_i G 2 4).toInt < s.toInt) ∧ ∃ hz loz, eh_e cal md_74 61 loz [] hz rs h' ∧ eh_V hz = G ∧ eh_N hz = eh_N h ∧ eh_ty tC G ∧ ri_lk loz 0 = some (.ref 2) ∧ ri_lk loz 1 = some (.int s)) ∨ ((eh_i G 2 4).toInt < s.toInt ∧ (eh_i G 1 (eh_i G 2 4).toNatClampNeg) = 32 ∧ ∃ hz loz, eh_e cal md_74 12 loz [] hz rs h' ∧ eh_V hz = eh_u G 2 4 (.int ((eh_i G 2 4) + 1)) ∧ eh_N hz = eh_N h ∧ eh_ty tC (eh_u G 2 4 (.int ((eh_i G 2 4) + 1))) ∧ ri_lk loz 0 = some (.ref 2) ∧ ri_lk loz 1 = some (.int s)) ∨ ((eh_i G 2 4).toInt < s.toInt ∧ ¬ ((eh_i G 1 (eh_i G 2 4).toNatClampNeg) = 32) ∧ ¬ ((eh_i G 1 (eh_i G 2 4).toNatClampNeg) = 10) ∧ ∃ hz loz, eh_e cal md_74 61 loz [] hz rs h' ∧ eh_V hz = G ∧ eh_N hz = eh_N h ∧ eh_ty tC G ∧ ri_lk loz 0 = some (.ref 2) ∧ ri_lk loz 1 = some (.int s)) ∨ ((eh_i G 2 4).toInt < s.toInt ∧ ¬ ((eh_i G 1 (eh_i G 2 4).toNatClampNeg) = 32) ∧ (eh_i G 1 (eh_i G 2 4).toNatClampNeg) = 10 ∧ ∃ hz loz, eh_e cal md_74 12 loz [] hz rs h' ∧ eh_V hz = eh_u G 2 4 (.int ((eh_i G 2 4) + 1)) ∧ eh_N hz = eh_N h ∧ eh_ty tC (eh_u G 2 4 (.int ((eh_i G 2 4) + 1))) ∧ ri_lk loz 0 = some (.ref 2) ∧ ri_lk loz 1 = some (.int s)) := by
  have E := E.ld (p := 13) (t := ri_isA) (i := 0) (n := 1) (v := .ref 2) rfl (e := (.aload_n 0, 1, [], .null)) rfl rfl (fun _ _ => rfl) l0 rfl
  have E := E.gi (y := eh_i G 2 4) (p := 16) rfl (x := 22) (m := 3) (w := .null) (t := 8) (i := 4) (u := 191) rfl rfl hV ty rfl rfl
  have E := E.ld (p := 17) (t := ri_isI) (i := 1) (n := 1) (v := .int s) rfl (e := (.iload_n 1, 1, [], .null)) rfl rfl (fun _ _ => rfl) l1 rfl
  rcases eh_r3 rfl rfl (E.br (p := 20) (c := 3) (tgt := 61) (a := eh_i G 2 4) (b := s) (st' := []) rfl (e := (.if_icmp .ge 44, 3, [61], .null)) rfl rfl (fun _ _ => rfl) rfl) with ⟨c1, E⟩ | ⟨c1, E⟩
  · skip
    exact Or.inl ⟨c1, _, _, E, hV, rfl, ty, l0, l1⟩
  · skip
    have E := E.ld (p := 21) (t := ri_isA) (i := 0) (n := 1) (v := .ref 2) rfl (e := (.aload_n 0, 1, [], .null)) rfl rfl (fun _ _ => rfl) l0 rfl
    have E := E.gr (n := 1) (p := 24) rfl (x := 44) (m := 3) (w := .null) (t := 8) (i := 0) (u := 187) rfl rfl hV ty rfl
    have E := E.ld (p := 25) (t := ri_isA) (i := 0) (n := 1) (v := .ref 2) rfl (e := (.aload_n 0, 1, [], .null)) rfl rfl (fun _ _ => rfl) l0 rfl
    have E := E.gi (y := eh_i G 2 4) (p := 28) rfl (x := 22) (m := 3) (w := .null) (t := 8) (i := 4) (u := 191) rfl rfl hV ty rfl rfl
    have E := E.ai (p := 29) (z := eh_i G 1 (eh_i G 2 4).toNatClampNeg) (n := (eh_i G 2 4).toNatClampNeg) rfl (e := (.baload, 1, [], .null)) rfl rfl (fun _ _ => rfl) rfl hV ty rfl rfl rfl
    have E := E.pu (p := 31) (lo' := lo) (st' := [.int 32, .int (eh_i G 1 (eh_i G 2 4).toNatClampNeg)]) rfl (e := (.bipush 32, 2, [], .null)) rfl rfl (fun _ _ => rfl)
    rcases eh_q0 (E.br (p := 34) (c := 0) (tgt := 48) (a := eh_i G 1 (eh_i G 2 4).toNatClampNeg) (b := 32) (st' := []) rfl (e := (.if_icmp .eq 17, 3, [48], .null)) rfl rfl (fun _ _ => rfl) rfl) with ⟨c2, E⟩ | ⟨c2, E⟩
    · skip
      have E := E.ld (p := 49) (t := ri_isA) (i := 0) (n := 1) (v := .ref 2) rfl (e := (.aload_n 0, 1, [], .null)) rfl rfl (fun _ _ => rfl) l0 rfl
      have E := E.pu (p := 50) (lo' := lo) (st' := [.ref 2, .ref 2]) rfl (e := (.dup, 1, [], .null)) rfl rfl (fun _ _ => rfl)
      have E := E.gi (y := eh_i G 2 4) (p := 53) rfl (x := 22) (m := 3) (w := .null) (t := 8) (i := 4) (u := 191) rfl rfl hV ty rfl rfl
      have E := E.pu (p := 54) (lo' := lo) (st' := [.int 1, .int (eh_i G 2 4), .ref 2]) rfl (e := (.iconst 1, 1, [], .null)) rfl rfl (fun _ _ => rfl)
      have E := E.pu (p := 55) (lo' := lo) (st' := [.int ((eh_i G 2 4) + 1), .ref 2]) rfl (e := (.iadd, 1, [], .null)) rfl rfl (fun _ _ => rfl)
      obtain ⟨h3, hV4, hN5, E⟩ := E.gp (p := 58) rfl (x := 22) (m := 3) (w := .null) (t := 8) (i := 4) (u := 191) (y := 0) rfl rfl hV
      have E := E.pu (p := 12) (lo' := lo) (st' := []) rfl (e := (.goto (-46), 3, [12], .null)) rfl rfl (fun _ _ => rfl)
      exact Or.inr (Or.inl ⟨c1, c2, _, _, E, hV4, hN5, (ty.ui rfl), l0, l1⟩)
    · skip
      have E := E.ld (p := 35) (t := ri_isA) (i := 0) (n := 1) (v := .ref 2) rfl (e := (.aload_n 0, 1, [], .null)) rfl rfl (fun _ _ => rfl) l0 rfl
      have E := E.gr (n := 1) (p := 38) rfl (x := 44) (m := 3) (w := .null) (t := 8) (i := 0) (u := 187) rfl rfl hV ty rfl
      have E := E.ld (p := 39) (t := ri_isA) (i := 0) (n := 1) (v := .ref 2) rfl (e := (.aload_n 0, 1, [], .null)) rfl rfl (fun _ _ => rfl) l0 rfl
      have E := E.gi (y := eh_i G 2 4) (p := 42) rfl (x := 22) (m := 3) (w := .null) (t := 8) (i := 4) (u := 191) rfl rfl hV ty rfl rfl
      have E := E.ai (p := 43) (z := eh_i G 1 (eh_i G 2 4).toNatClampNeg) (n := (eh_i G 2 4).toNatClampNeg) rfl (e := (.baload, 1, [], .null)) rfl rfl (fun _ _ => rfl) rfl hV ty rfl rfl rfl
      have E := E.pu (p := 45) (lo' := lo) (st' := [.int 10, .int (eh_i G 1 (eh_i G 2 4).toNatClampNeg)]) rfl (e := (.bipush 10, 2, [], .null)) rfl rfl (fun _ _ => rfl)
      rcases eh_q1 (E.br (p := 48) (c := 1) (tgt := 61) (a := eh_i G 1 (eh_i G 2 4).toNatClampNeg) (b := 10) (st' := []) rfl (e := (.if_icmp .ne 16, 3, [61], .null)) rfl rfl (fun _ _ => rfl) rfl) with ⟨c6, E⟩ | ⟨c6, E⟩
      · skip
        exact Or.inr (Or.inr (Or.inl ⟨c1, c2, c6, _, _, E, hV, rfl, ty, l0, l1⟩))
      · skip
        have E := E.ld (p := 49) (t := ri_isA) (i := 0) (n := 1) (v := .ref 2) rfl (e := (.aload_n 0, 1, [], .null)) rfl rfl (fun _ _ => rfl) l0 rfl
        have E := E.pu (p := 50) (lo' := lo) (st' := [.ref 2, .ref 2]) rfl (e := (.dup, 1, [], .null)) rfl rfl (fun _ _ => rfl)
        have E := E.gi (y := eh_i G 2 4) (p := 53) rfl (x := 22) (m := 3) (w := .null) (t := 8) (i := 4) (u := 191) rfl rfl hV ty rfl rfl
        have E := E.pu (p := 54) (lo' := lo) (st' := [.int 1, .int (eh_i G 2 4), .ref 2]) rfl (e := (.iconst 1, 1, [], .null)) rfl rfl (fun _ _ => rfl)
        have E := E.pu (p := 55) (lo' := lo) (st' := [.int ((eh_i G 2 4) + 1), .ref 2]) rfl (e := (.iadd, 1, [], .null)) rfl rfl (fun _ _ => rfl)
        obtain ⟨h7, hV8, hN9, E⟩ := E.gp (p := 58) rfl (x := 22) (m := 3) (w := .null) (t := 8) (i := 4) (u := 191) (y := 0) rfl rfl hV
        have E := E.pu (p := 12) (lo' := lo) (st' := []) rfl (e := (.goto (-46), 3, [12], .null)) rfl rfl (fun _ _ => rfl)
        exact Or.inr (Or.inr (Or.inr (⟨c1, c2, c6, _, _, E, hV8, hN9, (ty.ui rfl), l0, l1⟩)))
