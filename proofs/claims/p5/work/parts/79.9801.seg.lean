theorem za_a {d : Nat} {lo : List (Nat × Value)} {h h' : ri_H} {rs : List Value} {G : eh_W} (E : eh_e (ri_calE ri_md (d + 1)) md_2 0 lo [] h rs h') (hV : eh_V h = G) (ty : eh_ty tC G) (l0 : ri_lk lo 0 = some (.ref 199)) (l1 : ri_lk lo 1 = some (.ref 2)) (l2 : ri_lk lo 2 = some (.ref 23)) : (¬ ((eh_i G 2 5) = 2) ∧ ∃ hz loz, eh_e (ri_calE ri_md (d + 1)) md_2 24 loz [] hz rs h' ∧ eh_V hz = G ∧ eh_N hz = eh_N h ∧ eh_ty tC G ∧ ri_lk loz 0 = some (.ref 199) ∧ ri_lk loz 1 = some (.ref 2) ∧ ri_lk loz 2 = some (.ref 23) ∧ ri_lk loz 3 = some (.int 0)) ∨ ((eh_i G 2 5) = 2 ∧ ¬ ((eh_i G 2 7) = 10) ∧ ¬ ((eh_i G 2 7) = 12) ∧ ∃ hz loz, eh_e (ri_calE ri_md (d + 1)) md_2 24 loz [] hz rs h' ∧ eh_V hz = G ∧ eh_N hz = eh_N h ∧ eh_ty tC G ∧ ri_lk loz 0 = some (.ref 199) ∧ ri_lk loz 1 = some (.ref 2) ∧ ri_lk loz 2 = some (.ref 23) ∧ ri_lk loz 3 = some (.int 0)) ∨ ((eh_i G 2 5) = 2 ∧ ¬ ((eh_i G 2 7) = 10) ∧ (eh_i G 2 7) = 12 ∧ ∃ hz loz, eh_e (ri_calE ri_md (d + 1)) md_2 24 loz [] hz rs h' ∧ eh_V hz = G ∧ eh_N hz = eh_N h ∧ eh_ty tC G ∧ ri_lk loz 0 = some (.ref 199) ∧ ri_lk loz 1 = some (.ref 2) ∧ ri_lk loz 2 = some (.ref 23) ∧ ri_lk loz 3 = some (.int 1)) ∨ ((eh_i G 2 5) = 2 ∧ (eh_i G 2 7) = 10 ∧ ∃ hz loz, eh_e (ri_calE ri_md (d + 1)) md_2 24 loz [] hz rs h' ∧ eh_V hz = G ∧ eh_N hz = eh_N h ∧ eh_ty tC G ∧ ri_lk loz 0 = some (.ref 199) ∧ ri_lk loz 1 = some (.ref 2) ∧ ri_lk loz 2 = some (.ref 23) ∧ ri_lk loz 3 = some (.int 1)) := by
  have E := E.ld (p := 1) (t := ri_isA) (i := 1) (n := 1) (v := .ref 2) rfl (e := (.aload_n 1, 1, [], .null)) rfl rfl (fun _ _ => rfl) l1 rfl
  have E := E.pu (p := 3) (lo' := lo) (st' := [.int 10, .ref 2]) rfl (e := (.bipush 10, 2, [], .null)) rfl rfl (fun _ _ => rfl)
  obtain ⟨v1, h1, X, E⟩ := E.cv (p := 6) (as := [.int 10]) (b := 2) (r := []) rfl (x := 38) (m := 3) (w := .null) (j := 79) (n := 1) (t := 8) (u := [1074, 1076, 1075]) rfl rfl rfl
  rcases zs_79 (d := d) X hV ty with ⟨c2, rfl, hV3, hN4⟩ | ⟨c5, c6, rfl, hV7, hN8⟩ | ⟨c9, c10, rfl, hV11, hN12⟩
  · skip
    have c2 : ¬ ((eh_i G 2 5) = 2) := c2
    have E : eh_e _ _ 6 lo [.int 0] _ rs h' := E
    have E := E.brf (p := 9) (c := 1) (tgt := 18) (a := 0) (b := 0) (st' := []) rfl (e := (.ifCond .ne 12, 3, [18], .null)) rfl rfl (fun _ _ => rfl) (by decide) rfl
    have E := E.ld (p := 10) (t := ri_isA) (i := 1) (n := 1) (v := .ref 2) rfl (e := (.aload_n 1, 1, [], .null)) rfl rfl (fun _ _ => rfl) l1 rfl
    have E := E.pu (p := 12) (lo' := lo) (st' := [.int 12, .ref 2]) rfl (e := (.bipush 12, 2, [], .null)) rfl rfl (fun _ _ => rfl)
    obtain ⟨v1, h13, X, E⟩ := E.cv (p := 15) (as := [.int 12]) (b := 2) (r := []) rfl (x := 38) (m := 3) (w := .null) (j := 79) (n := 1) (t := 8) (u := [1074, 1076, 1075]) rfl rfl rfl
    rcases zs_79 (d := d) X hV3 ty with ⟨c14, rfl, hV15, hN16⟩ | ⟨c17, c18, rfl, hV19, hN20⟩ | ⟨c21, c22, rfl, hV23, hN24⟩
    · skip
      have E : eh_e _ _ 15 lo [.int 0] _ rs h' := E
      have E := E.brt (c := 0) (tgt := 22) (a := 0) (b := 0) (st' := []) rfl (e := (.ifCond .eq 7, 3, [22], .null)) rfl rfl (fun _ _ => rfl) (by decide)
      have E := E.pu (p := 23) (lo' := lo) (st' := [.int 0]) rfl (e := (.iconst 0, 1, [], .null)) rfl rfl (fun _ _ => rfl)
      have E := E.so (p := 24) (t := ri_isI) (i := 3) (n := 1) rfl (e := (.istore_n 3, 1, [], .null)) rfl rfl (fun _ _ => rfl) rfl
      have k25_3 : ri_lk (ri_st1 lo 3 (.int 0)) 3 = some (.int 0) := eh_self
      have k25_0 : ri_lk (ri_st1 lo 3 (.int 0)) 0 = some (.ref 199) := eh_keep (by decide) (Or.inl rfl) l0
      have k25_1 : ri_lk (ri_st1 lo 3 (.int 0)) 1 = some (.ref 2) := eh_keep (by decide) (Or.inl rfl) l1
      have k25_2 : ri_lk (ri_st1 lo 3 (.int 0)) 2 = some (.ref 23) := eh_keep (by decide) (Or.inl rfl) l2
      exact Or.inl ⟨c2, _, _, E, hV15, (hN16.trans hN4), ty, k25_0, k25_1, k25_2, k25_3⟩
    · skip
      exact absurd c17 c2
    · skip
      exact absurd c21 c2
  · skip
    have c5 : (eh_i G 2 5) = 2 := c5
    have c6 : ¬ ((eh_i G 2 7) = 10) := c6
    have E : eh_e _ _ 6 lo [.int 0] _ rs h' := E
    have E := E.brf (p := 9) (c := 1) (tgt := 18) (a := 0) (b := 0) (st' := []) rfl (e := (.ifCond .ne 12, 3, [18], .null)) rfl rfl (fun _ _ => rfl) (by decide) rfl
    have E := E.ld (p := 10) (t := ri_isA) (i := 1) (n := 1) (v := .ref 2) rfl (e := (.aload_n 1, 1, [], .null)) rfl rfl (fun _ _ => rfl) l1 rfl
    have E := E.pu (p := 12) (lo' := lo) (st' := [.int 12, .ref 2]) rfl (e := (.bipush 12, 2, [], .null)) rfl rfl (fun _ _ => rfl)
    obtain ⟨v1, h26, X, E⟩ := E.cv (p := 15) (as := [.int 12]) (b := 2) (r := []) rfl (x := 38) (m := 3) (w := .null) (j := 79) (n := 1) (t := 8) (u := [1074, 1076, 1075]) rfl rfl rfl
    rcases zs_79 (d := d) X hV7 ty with ⟨c27, rfl, hV28, hN29⟩ | ⟨c30, c31, rfl, hV32, hN33⟩ | ⟨c34, c35, rfl, hV36, hN37⟩
    · skip
      exact absurd c5 c27
    · skip
      have c31 : ¬ ((eh_i G 2 7) = 12) := c31
      have E : eh_e _ _ 15 lo [.int 0] _ rs h' := E
      have E := E.brt (c := 0) (tgt := 22) (a := 0) (b := 0) (st' := []) rfl (e := (.ifCond .eq 7, 3, [22], .null)) rfl rfl (fun _ _ => rfl) (by decide)
      have E := E.pu (p := 23) (lo' := lo) (st' := [.int 0]) rfl (e := (.iconst 0, 1, [], .null)) rfl rfl (fun _ _ => rfl)
      have E := E.so (p := 24) (t := ri_isI) (i := 3) (n := 1) rfl (e := (.istore_n 3, 1, [], .null)) rfl rfl (fun _ _ => rfl) rfl
      have k38_3 : ri_lk (ri_st1 lo 3 (.int 0)) 3 = some (.int 0) := eh_self
      have k38_0 : ri_lk (ri_st1 lo 3 (.int 0)) 0 = some (.ref 199) := eh_keep (by decide) (Or.inl rfl) l0
      have k38_1 : ri_lk (ri_st1 lo 3 (.int 0)) 1 = some (.ref 2) := eh_keep (by decide) (Or.inl rfl) l1
      have k38_2 : ri_lk (ri_st1 lo 3 (.int 0)) 2 = some (.ref 23) := eh_keep (by decide) (Or.inl rfl) l2
      exact Or.inr (Or.inl ⟨c5, c6, c31, _, _, E, hV32, (hN33.trans hN8), ty, k38_0, k38_1, k38_2, k38_3⟩)
    · skip
      have c35 : (eh_i G 2 7) = 12 := c35
      have E : eh_e _ _ 15 lo [.int 1] _ rs h' := E
      have E := E.brf (p := 18) (c := 0) (tgt := 22) (a := 1) (b := 0) (st' := []) rfl (e := (.ifCond .eq 7, 3, [22], .null)) rfl rfl (fun _ _ => rfl) (by decide) rfl
      have E := E.pu (p := 19) (lo' := lo) (st' := [.int 1]) rfl (e := (.iconst 1, 1, [], .null)) rfl rfl (fun _ _ => rfl)
      have E := E.pu (p := 23) (lo' := lo) (st' := [.int 1]) rfl (e := (.goto 4, 3, [23], .null)) rfl rfl (fun _ _ => rfl)
      have E := E.so (p := 24) (t := ri_isI) (i := 3) (n := 1) rfl (e := (.istore_n 3, 1, [], .null)) rfl rfl (fun _ _ => rfl) rfl
      have k39_3 : ri_lk (ri_st1 lo 3 (.int 1)) 3 = some (.int 1) := eh_self
      have k39_0 : ri_lk (ri_st1 lo 3 (.int 1)) 0 = some (.ref 199) := eh_keep (by decide) (Or.inl rfl) l0
      have k39_1 : ri_lk (ri_st1 lo 3 (.int 1)) 1 = some (.ref 2) := eh_keep (by decide) (Or.inl rfl) l1
      have k39_2 : ri_lk (ri_st1 lo 3 (.int 1)) 2 = some (.ref 23) := eh_keep (by decide) (Or.inl rfl) l2
      exact Or.inr (Or.inr (Or.inl ⟨c5, c6, c35, _, _, E, hV36, (hN37.trans hN8), ty, k39_0, k39_1, k39_2, k39_3⟩))
  · skip
    have c9 : (eh_i G 2 5) = 2 := c9
    have c10 : (eh_i G 2 7) = 10 := c10
    have E : eh_e _ _ 6 lo [.int 1] _ rs h' := E
    have E := E.brt (c := 1) (tgt := 18) (a := 1) (b := 0) (st' := []) rfl (e := (.ifCond .ne 12, 3, [18], .null)) rfl rfl (fun _ _ => rfl) (by decide)
    have E := E.pu (p := 19) (lo' := lo) (st' := [.int 1]) rfl (e := (.iconst 1, 1, [], .null)) rfl rfl (fun _ _ => rfl)
    have E := E.pu (p := 23) (lo' := lo) (st' := [.int 1]) rfl (e := (.goto 4, 3, [23], .null)) rfl rfl (fun _ _ => rfl)
    have E := E.so (p := 24) (t := ri_isI) (i := 3) (n := 1) rfl (e := (.istore_n 3, 1, [], .null)) rfl rfl (fun _ _ => rfl) rfl
    have k40_3 : ri_lk (ri_st1 lo 3 (.int 1)) 3 = some (.int 1) := eh_self
    have k40_0 : ri_lk (ri_st1 lo 3 (.int 1)) 0 = some (.ref 199) := eh_keep (by decide) (Or.inl rfl) l0
    have k40_1 : ri_lk (ri_st1 lo 3 (.int 1)) 1 = some (.ref 2) := eh_keep (by decide) (Or.inl rfl) l1
    have k40_2 : ri_lk (ri_st1 lo 3 (.int 1)) 2 = some (.ref 23) := eh_keep (by decide) (Or.inl rfl) l2
    exact Or.inr (Or.inr (Or.inr (⟨c9, c10, _, _, E, hV11, hN12, ty, k40_0, k40_1, k40_2, k40_3⟩)))
theorem za_b {d : Nat} {lo : List (Nat × Value)} {h h' : ri_H} {rs : List Value} {G : eh_W} {b : Nat → Int32} {n m : Nat} (E : eh_e (ri_calE ri_md (d + 2)) md_2 24 lo [] h rs h') (hV : eh_V h = G) (iv : iS b n m G) (l0 : ri_lk lo 0 = some (.ref 199)) (l1 : ri_lk lo 1 = some (.ref 2)) (l2 : ri_lk lo 2 = some (.ref 23)) (l3 : ri_lk lo 3 = some (.int 1)) : (∃ (h5 : ri_H), (eh_i G 199 3).toInt < 40 ∧ ri_calE ri_md (d + 2) 74 [.ref 2] h = some (none, h5) ∧ iS b n m (eh_V h5) ∧ ∃ hz loz, eh_e (ri_calE ri_md (d + 2)) md_2 187 loz [] hz rs h' ∧ eh_V hz = (eh_V h5) ∧ eh_N hz = eh_N h ∧ iS b n m (eh_V h5) ∧ ri_lk loz 0 = some (.ref 199) ∧ ri_lk loz 1 = some (.ref 2) ∧ ri_lk loz 2 = some (.ref 23) ∧ ri_lk loz 3 = some (.int 1) ∧ ri_lk loz 4 = some (.int (-1)) ∧ ri_lk loz 5 = some (.int 0) ∧ ri_lk loz 6 = some (.int (eh_i G 2 7))) ∨ (¬ ((eh_i G 199 3).toInt < 40) ∧ rs = [.int 0] ∧ eh_V h' = eh_u (eh_u G 2 9 (.int 4)) 2 10 (.int (eh_i G 2 6)) ∧ eh_N h' = eh_N h ∧ iS b n m (eh_u (eh_u G 2 9 (.int 4)) 2 10 (.int (eh_i G 2 6)))) := by
  have E := E.ld (p := 25) (t := ri_isI) (i := 3) (n := 1) (v := .int 1) rfl (e := (.iload_n 3, 1, [], .null)) rfl rfl (fun _ _ => rfl) l3 rfl
  have E := E.brt (c := 1) (tgt := 42) (a := 1) (b := 0) (st' := []) rfl (e := (.ifCond .ne 17, 3, [42], .null)) rfl rfl (fun _ _ => rfl) (by decide)
  have E := E.ld (p := 43) (t := ri_isI) (i := 3) (n := 1) (v := .int 1) rfl (e := (.iload_n 3, 1, [], .null)) rfl rfl (fun _ _ => rfl) l3 rfl
  have E := E.brf (p := 46) (c := 0) (tgt := 50) (a := 1) (b := 0) (st' := []) rfl (e := (.ifCond .eq 7, 3, [50], .null)) rfl rfl (fun _ _ => rfl) (by decide) rfl
  have E := E.pu (p := 47) (lo' := lo) (st' := [.int (-1)]) rfl (e := (.iconst (-1), 1, [], .null)) rfl rfl (fun _ _ => rfl)
  have E := E.pu (p := 58) (lo' := lo) (st' := [.int (-1)]) rfl (e := (.goto 11, 3, [58], .null)) rfl rfl (fun _ _ => rfl)
  have E := E.so (p := 60) (t := ri_isI) (i := 4) (n := 2) rfl (e := (.istore 4, 2, [], .null)) rfl rfl (fun _ _ => rfl) rfl
  have k1_4 : ri_lk (ri_st1 lo 4 (.int (-1))) 4 = some (.int (-1)) := eh_self
  have k1_0 : ri_lk (ri_st1 lo 4 (.int (-1))) 0 = some (.ref 199) := eh_keep (by decide) (Or.inl rfl) l0
  have k1_1 : ri_lk (ri_st1 lo 4 (.int (-1))) 1 = some (.ref 2) := eh_keep (by decide) (Or.inl rfl) l1
  have k1_2 : ri_lk (ri_st1 lo 4 (.int (-1))) 2 = some (.ref 23) := eh_keep (by decide) (Or.inl rfl) l2
  have k1_3 : ri_lk (ri_st1 lo 4 (.int (-1))) 3 = some (.int 1) := eh_keep (by decide) (Or.inl rfl) l3
  have E := E.ld (p := 62) (t := ri_isI) (i := 4) (n := 2) (v := .int (-1)) rfl (e := (.iload 4, 2, [], .null)) rfl rfl (fun _ _ => rfl) k1_4 rfl
  have E := E.pu (p := 63) (lo' := (ri_st1 lo 4 (.int (-1)))) (st' := [.int (-1), .int (-1)]) rfl (e := (.iconst (-1), 1, [], .null)) rfl rfl (fun _ _ => rfl)
  have E := E.brt (c := 0) (tgt := 92) (a := (-1)) (b := (-1)) (st' := []) rfl (e := (.if_icmp .eq 29, 3, [92], .null)) rfl rfl (fun _ _ => rfl) (by decide)
  have E := E.pu (p := 93) (lo' := (ri_st1 lo 4 (.int (-1)))) (st' := [.int 0]) rfl (e := (.iconst 0, 1, [], .null)) rfl rfl (fun _ _ => rfl)
  have E := E.so (p := 95) (t := ri_isI) (i := 5) (n := 2) rfl (e := (.istore 5, 2, [], .null)) rfl rfl (fun _ _ => rfl) rfl
  have k2_5 : ri_lk (ri_st1 (ri_st1 lo 4 (.int (-1))) 5 (.int 0)) 5 = some (.int 0) := eh_self
  have k2_0 : ri_lk (ri_st1 (ri_st1 lo 4 (.int (-1))) 5 (.int 0)) 0 = some (.ref 199) := eh_keep (by decide) (Or.inl rfl) k1_0
  have k2_1 : ri_lk (ri_st1 (ri_st1 lo 4 (.int (-1))) 5 (.int 0)) 1 = some (.ref 2) := eh_keep (by decide) (Or.inl rfl) k1_1
  have k2_2 : ri_lk (ri_st1 (ri_st1 lo 4 (.int (-1))) 5 (.int 0)) 2 = some (.ref 23) := eh_keep (by decide) (Or.inl rfl) k1_2
  have k2_3 : ri_lk (ri_st1 (ri_st1 lo 4 (.int (-1))) 5 (.int 0)) 3 = some (.int 1) := eh_keep (by decide) (Or.inl rfl) k1_3
  have k2_4 : ri_lk (ri_st1 (ri_st1 lo 4 (.int (-1))) 5 (.int 0)) 4 = some (.int (-1)) := eh_keep (by decide) (Or.inl rfl) k1_4
  have E := E.ld (p := 96) (t := ri_isI) (i := 3) (n := 1) (v := .int 1) rfl (e := (.iload_n 3, 1, [], .null)) rfl rfl (fun _ _ => rfl) k2_3 rfl
  have E := E.brt (c := 1) (tgt := 110) (a := 1) (b := 0) (st' := []) rfl (e := (.ifCond .ne 14, 3, [110], .null)) rfl rfl (fun _ _ => rfl) (by decide)
  have E := E.ld (p := 111) (t := ri_isA) (i := 0) (n := 1) (v := .ref 199) rfl (e := (.aload_n 0, 1, [], .null)) rfl rfl (fun _ _ => rfl) k2_0 rfl
  have E := E.gi (y := eh_i G 199 3) (p := 114) rfl (x := 21) (m := 3) (w := .null) (t := 0) (i := 3) (u := 513) rfl rfl hV (iv.1) rfl rfl
  have E := E.pu (p := 116) (lo' := (ri_st1 (ri_st1 lo 4 (.int (-1))) 5 (.int 0))) (st' := [.int 40, .int (eh_i G 199 3)]) rfl (e := (.bipush 40, 2, [], .null)) rfl rfl (fun _ _ => rfl)
  rcases eh_r2 rfl (show (40 : Int32).toInt = 40 by decide) (E.br (p := 119) (c := 2) (tgt := 125) (a := eh_i G 199 3) (b := 40) (st' := []) rfl (e := (.if_icmp .lt 9, 3, [125], .null)) rfl rfl (fun _ _ => rfl) rfl) with ⟨c3, E⟩ | ⟨c3, E⟩
  · skip
    have E := E.ld (p := 126) (t := ri_isA) (i := 1) (n := 1) (v := .ref 2) rfl (e := (.aload_n 1, 1, [], .null)) rfl rfl (fun _ _ => rfl) k2_1 rfl
    have E := E.gi (y := eh_i G 2 7) (p := 129) rfl (x := 57) (m := 3) (w := .null) (t := 8) (i := 7) (u := 199) rfl rfl hV (iv.1) rfl rfl
    have E := E.so (p := 131) (t := ri_isI) (i := 6) (n := 2) rfl (e := (.istore 6, 2, [], .null)) rfl rfl (fun _ _ => rfl) rfl
    have k4_6 : ri_lk (ri_st1 (ri_st1 (ri_st1 lo 4 (.int (-1))) 5 (.int 0)) 6 (.int (eh_i G 2 7))) 6 = some (.int (eh_i G 2 7)) := eh_self
    have k4_0 : ri_lk (ri_st1 (ri_st1 (ri_st1 lo 4 (.int (-1))) 5 (.int 0)) 6 (.int (eh_i G 2 7))) 0 = some (.ref 199) := eh_keep (by decide) (Or.inl rfl) k2_0
    have k4_1 : ri_lk (ri_st1 (ri_st1 (ri_st1 lo 4 (.int (-1))) 5 (.int 0)) 6 (.int (eh_i G 2 7))) 1 = some (.ref 2) := eh_keep (by decide) (Or.inl rfl) k2_1
    have k4_2 : ri_lk (ri_st1 (ri_st1 (ri_st1 lo 4 (.int (-1))) 5 (.int 0)) 6 (.int (eh_i G 2 7))) 2 = some (.ref 23) := eh_keep (by decide) (Or.inl rfl) k2_2
    have k4_3 : ri_lk (ri_st1 (ri_st1 (ri_st1 lo 4 (.int (-1))) 5 (.int 0)) 6 (.int (eh_i G 2 7))) 3 = some (.int 1) := eh_keep (by decide) (Or.inl rfl) k2_3
    have k4_4 : ri_lk (ri_st1 (ri_st1 (ri_st1 lo 4 (.int (-1))) 5 (.int 0)) 6 (.int (eh_i G 2 7))) 4 = some (.int (-1)) := eh_keep (by decide) (Or.inl rfl) k2_4
    have k4_5 : ri_lk (ri_st1 (ri_st1 (ri_st1 lo 4 (.int (-1))) 5 (.int 0)) 6 (.int (eh_i G 2 7))) 5 = some (.int 0) := eh_keep (by decide) (Or.inl rfl) k2_5
    have E := E.ld (p := 132) (t := ri_isA) (i := 1) (n := 1) (v := .ref 2) rfl (e := (.aload_n 1, 1, [], .null)) rfl rfl (fun _ _ => rfl) k4_1 rfl
    obtain ⟨v1, h5, X, E⟩ := E.cv (p := 135) (as := []) (b := 2) (r := []) rfl (x := 60) (m := 3) (w := .null) (j := 74) (n := 0) (t := 8) (u := [1080, 648, 647]) rfl rfl rfl
    obtain ⟨rfl, ivk6, hNk6⟩ := ts_74 (d := d) X (by rw [hV]; exact iv)
    have Xk6 := X
    have E : eh_e _ _ 135 (ri_st1 (ri_st1 (ri_st1 lo 4 (.int (-1))) 5 (.int 0)) 6 (.int (eh_i G 2 7))) [] h5 rs h' := E
    have E := E.ld (p := 137) (t := ri_isI) (i := 5) (n := 2) (v := .int 0) rfl (e := (.iload 5, 2, [], .null)) rfl rfl (fun _ _ => rfl) k4_5 rfl
    have E := E.brt (c := 0) (tgt := 187) (a := 0) (b := 0) (st' := []) rfl (e := (.ifCond .eq 50, 3, [187], .null)) rfl rfl (fun _ _ => rfl) (by decide)
    exact Or.inl ⟨h5, c3, Xk6, ivk6, _, _, E, (rfl : eh_V h5 = eh_V h5), hNk6, ivk6, k4_0, k4_1, k4_2, k4_3, k4_4, k4_5, k4_6⟩
  · skip
    have E := E.ld (p := 120) (t := ri_isA) (i := 1) (n := 1) (v := .ref 2) rfl (e := (.aload_n 1, 1, [], .null)) rfl rfl (fun _ _ => rfl) k2_1 rfl
    have E := E.pu (p := 121) (lo' := (ri_st1 (ri_st1 lo 4 (.int (-1))) 5 (.int 0))) (st' := [.int 4, .ref 2]) rfl (e := (.iconst 4, 1, [], .null)) rfl rfl (fun _ _ => rfl)
    obtain ⟨v1, h7, X, E⟩ := E.cv (p := 124) (as := [.int 4]) (b := 2) (r := []) rfl (x := 41) (m := 3) (w := .null) (j := 78) (n := 1) (t := 8) (u := [1078, 678, 677]) rfl rfl rfl
    rcases sp_78 (d := d + 1) X hV (iv.1) with ⟨rfl, hV8, hN9⟩
    have hV8 : _ = eh_u (eh_u G 2 9 (.int 4)) 2 10 (.int (eh_i G 2 6)) := hV8
    have E : eh_e _ _ 124 (ri_st1 (ri_st1 lo 4 (.int (-1))) 5 (.int 0)) [.int 0] _ rs h' := E
    obtain ⟨r1, r2⟩ := E.reti rfl (m := 1) (ax := []) (w := .null) rfl
    exact Or.inr (⟨c3, r1, ((congrArg eh_V r2).trans hV8), ((congrArg eh_N r2).trans hN9), (iS_u (iS_u iv ((iv.1).ui rfl) rfl) (((iv.1).ui rfl).ui rfl) rfl)⟩)
theorem za_c {d : Nat} {lo : List (Nat × Value)} {h h' : ri_H} {rs : List Value} {G : eh_W} {b : Nat → Int32} {n m : Nat} (E : eh_e (ri_calE ri_md (d + 3)) md_2 24 lo [] h rs h') (hV : eh_V h = G) (iv : iS b n m G) (l0 : ri_lk lo 0 = some (.ref 199)) (l1 : ri_lk lo 1 = some (.ref 2)) (l2 : ri_lk lo 2 = some (.ref 23)) (l3 : ri_lk lo 3 = some (.int 0)) : (∃ (x3 : Int32), (eh_i G 2 5) = 3 ∧ fd_C G 23 32 (eh_l G 2 8) x3 ∧ x3 = (-1) ∧ rs = [.int 0] ∧ eh_V h' = eh_u (eh_u G 2 9 (.int 3)) 2 10 (.int (eh_i G 2 6)) ∧ eh_N h' = eh_N h ∧ iS b n m (eh_u (eh_u G 2 9 (.int 3)) 2 10 (.int (eh_i G 2 6)))) ∨ (∃ (x3 : Int32), ∃ (h2 : ri_H), ∃ (h17 : ri_H), ∃ (h19 : ri_H), ∃ (x26 : Int32), ∃ (h24 : ri_H), (eh_i G 2 5) = 3 ∧ fd_C G 23 32 (eh_l G 2 8) x3 ∧ ¬ (x3 = (-1)) ∧ (eh_i G 33 (x3).toNatClampNeg) = 2 ∧ (eh_i G 199 3).toInt < 40 ∧ eh_V h2 = G ∧ ri_calE ri_md (d + 3) 74 [.ref 2] h2 = some (none, h17) ∧ iS b n m (eh_V h17) ∧ ¬ ((eh_i (eh_V h17) 33 (x3).toNatClampNeg) = 2) ∧ eh_V h19 = eh_u (eh_V h17) 201 (eh_i (eh_V h17) 199 3).toNatClampNeg (.int (eh_i (eh_V h17) 34 (x3).toNatClampNeg)) ∧ ri_calE ri_md (d + 3) 81 [.ref 2, .int 11] h19 = some (some (.int x26), h24) ∧ iS b n m (eh_V h24) ∧ ¬ (x26 = 0) ∧ ∃ hz loz, eh_e (ri_calE ri_md (d + 3)) md_2 187 loz [] hz rs h' ∧ eh_V hz = (eh_V h24) ∧ eh_N hz = eh_N h ∧ iS b n m (eh_V h24) ∧ ri_lk loz 0 = some (.ref 199) ∧ ri_lk loz 1 = some (.ref 2) ∧ ri_lk loz 2 = some (.ref 23) ∧ ri_lk loz 3 = some (.int 0) ∧ ri_lk loz 4 = some (.int x3) ∧ ri_lk loz 5 = some (.int 1) ∧ ri_lk loz 6 = some (.int 11)) ∨ (∃ (x3 : Int32), ∃ (h2 : ri_H), ∃ (h17 : ri_H), ∃ (h19 : ri_H), ∃ (x26 : Int32), ∃ (h24 : ri_H), (eh_i G 2 5) = 3 ∧ fd_C G 23 32 (eh_l G 2 8) x3 ∧ ¬ (x3 = (-1)) ∧ (eh_i G 33 (x3).toNatClampNeg) = 2 ∧ (eh_i G 199 3).toInt < 40 ∧ eh_V h2 = G ∧ ri_calE ri_md (d + 3) 74 [.ref 2] h2 = some (none, h17) ∧ iS b n m (eh_V h17) ∧ ¬ ((eh_i (eh_V h17) 33 (x3).toNatClampNeg) = 2) ∧ eh_V h19 = eh_u (eh_V h17) 201 (eh_i (eh_V h17) 199 3).toNatClampNeg (.int (eh_i (eh_V h17) 34 (x3).toNatClampNeg)) ∧ ri_calE ri_md (d + 3) 81 [.ref 2, .int 11] h19 = some (some (.int x26), h24) ∧ iS b n m (eh_V h24) ∧ x26 = 0 ∧ rs = [.int 0] ∧ eh_V h' = (eh_V h24) ∧ eh_N h' = eh_N h ∧ iS b n m (eh_V h24)) ∨ (∃ (x3 : Int32), ∃ (h2 : ri_H), ∃ (h17 : ri_H), ∃ (h19 : ri_H), ∃ (x31 : Int32), ∃ (h29 : ri_H), (eh_i G 2 5) = 3 ∧ fd_C G 23 32 (eh_l G 2 8) x3 ∧ ¬ (x3 = (-1)) ∧ (eh_i G 33 (x3).toNatClampNeg) = 2 ∧ (eh_i G 199 3).toInt < 40 ∧ eh_V h2 = G ∧ ri_calE ri_md (d + 3) 74 [.ref 2] h2 = some (none, h17) ∧ iS b n m (eh_V h17) ∧ (eh_i (eh_V h17) 33 (x3).toNatClampNeg) = 2 ∧ eh_V h19 = eh_u (eh_V h17) 201 (eh_i (eh_V h17) 199 3).toNatClampNeg (.int (eh_i (eh_V h17) 34 (x3).toNatClampNeg)) ∧ ri_calE ri_md (d + 3) 81 [.ref 2, .int 9] h19 = some (some (.int x31), h29) ∧ iS b n m (eh_V h29) ∧ ¬ (x31 = 0) ∧ ∃ hz loz, eh_e (ri_calE ri_md (d + 3)) md_2 187 loz [] hz rs h' ∧ eh_V hz = (eh_V h29) ∧ eh_N hz = eh_N h ∧ iS b n m (eh_V h29) ∧ ri_lk loz 0 = some (.ref 199) ∧ ri_lk loz 1 = some (.ref 2) ∧ ri_lk loz 2 = some (.ref 23) ∧ ri_lk loz 3 = some (.int 0) ∧ ri_lk loz 4 = some (.int x3) ∧ ri_lk loz 5 = some (.int 1) ∧ ri_lk loz 6 = some (.int 9)) ∨ (∃ (x3 : Int32), ∃ (h2 : ri_H), ∃ (h17 : ri_H), ∃ (h19 : ri_H), ∃ (x31 : Int32), ∃ (h29 : ri_H), (eh_i G 2 5) = 3 ∧ fd_C G 23 32 (eh_l G 2 8) x3 ∧ ¬ (x3 = (-1)) ∧ (eh_i G 33 (x3).toNatClampNeg) = 2 ∧ (eh_i G 199 3).toInt < 40 ∧ eh_V h2 = G ∧ ri_calE ri_md (d + 3) 74 [.ref 2] h2 = some (none, h17) ∧ iS b n m (eh_V h17) ∧ (eh_i (eh_V h17) 33 (x3).toNatClampNeg) = 2 ∧ eh_V h19 = eh_u (eh_V h17) 201 (eh_i (eh_V h17) 199 3).toNatClampNeg (.int (eh_i (eh_V h17) 34 (x3).toNatClampNeg)) ∧ ri_calE ri_md (d + 3) 81 [.ref 2, .int 9] h19 = some (some (.int x31), h29) ∧ iS b n m (eh_V h29) ∧ x31 = 0 ∧ rs = [.int 0] ∧ eh_V h' = (eh_V h29) ∧ eh_N h' = eh_N h ∧ iS b n m (eh_V h29)) ∨ (∃ (x3 : Int32), (eh_i G 2 5) = 3 ∧ fd_C G 23 32 (eh_l G 2 8) x3 ∧ ¬ (x3 = (-1)) ∧ (eh_i G 33 (x3).toNatClampNeg) = 2 ∧ ¬ ((eh_i G 199 3).toInt < 40) ∧ rs = [.int 0] ∧ eh_V h' = eh_u (eh_u G 2 9 (.int 4)) 2 10 (.int (eh_i G 2 6)) ∧ eh_N h' = eh_N h ∧ iS b n m (eh_u (eh_u G 2 9 (.int 4)) 2 10 (.int (eh_i G 2 6)))) ∨ (∃ (x3 : Int32), (eh_i G 2 5) = 3 ∧ fd_C G 23 32 (eh_l G 2 8) x3 ∧ ¬ (x3 = (-1)) ∧ ¬ ((eh_i G 33 (x3).toNatClampNeg) = 2) ∧ ¬ ((eh_i G 33 (x3).toNatClampNeg) = 3) ∧ rs = [.int 0] ∧ eh_V h' = eh_u (eh_u G 2 9 (.int 3)) 2 10 (.int (eh_i G 2 6)) ∧ eh_N h' = eh_N h ∧ iS b n m (eh_u (eh_u G 2 9 (.int 3)) 2 10 (.int (eh_i G 2 6)))) ∨ (∃ (x3 : Int32), ∃ (h2 : ri_H), ∃ (h44 : ri_H), ∃ (h46 : ri_H), ∃ (x53 : Int32), ∃ (h51 : ri_H), (eh_i G 2 5) = 3 ∧ fd_C G 23 32 (eh_l G 2 8) x3 ∧ ¬ (x3 = (-1)) ∧ ¬ ((eh_i G 33 (x3).toNatClampNeg) = 2) ∧ (eh_i G 33 (x3).toNatClampNeg) = 3 ∧ (eh_i G 199 3).toInt < 40 ∧ eh_V h2 = G ∧ ri_calE ri_md (d + 3) 74 [.ref 2] h2 = some (none, h44) ∧ iS b n m (eh_V h44) ∧ ¬ ((eh_i (eh_V h44) 33 (x3).toNatClampNeg) = 2) ∧ eh_V h46 = eh_u (eh_V h44) 201 (eh_i (eh_V h44) 199 3).toNatClampNeg (.int (eh_i (eh_V h44) 34 (x3).toNatClampNeg)) ∧ ri_calE ri_md (d + 3) 81 [.ref 2, .int 11] h46 = some (some (.int x53), h51) ∧ iS b n m (eh_V h51) ∧ ¬ (x53 = 0) ∧ ∃ hz loz, eh_e (ri_calE ri_md (d + 3)) md_2 187 loz [] hz rs h' ∧ eh_V hz = (eh_V h51) ∧ eh_N hz = eh_N h ∧ iS b n m (eh_V h51) ∧ ri_lk loz 0 = some (.ref 199) ∧ ri_lk loz 1 = some (.ref 2) ∧ ri_lk loz 2 = some (.ref 23) ∧ ri_lk loz 3 = some (.int 0) ∧ ri_lk loz 4 = some (.int x3) ∧ ri_lk loz 5 = some (.int 1) ∧ ri_lk loz 6 = some (.int 11)) ∨ (∃ (x3 : Int32), ∃ (h2 : ri_H), ∃ (h44 : ri_H), ∃ (h46 : ri_H), ∃ (x53 : Int32), ∃ (h51 : ri_H), (eh_i G 2 5) = 3 ∧ fd_C G 23 32 (eh_l G 2 8) x3 ∧ ¬ (x3 = (-1)) ∧ ¬ ((eh_i G 33 (x3).toNatClampNeg) = 2) ∧ (eh_i G 33 (x3).toNatClampNeg) = 3 ∧ (eh_i G 199 3).toInt < 40 ∧ eh_V h2 = G ∧ ri_calE ri_md (d + 3) 74 [.ref 2] h2 = some (none, h44) ∧ iS b n m (eh_V h44) ∧ ¬ ((eh_i (eh_V h44) 33 (x3).toNatClampNeg) = 2) ∧ eh_V h46 = eh_u (eh_V h44) 201 (eh_i (eh_V h44) 199 3).toNatClampNeg (.int (eh_i (eh_V h44) 34 (x3).toNatClampNeg)) ∧ ri_calE ri_md (d + 3) 81 [.ref 2, .int 11] h46 = some (some (.int x53), h51) ∧ iS b n m (eh_V h51) ∧ x53 = 0 ∧ rs = [.int 0] ∧ eh_V h' = (eh_V h51) ∧ eh_N h' = eh_N h ∧ iS b n m (eh_V h51)) ∨ (∃ (x3 : Int32), ∃ (h2 : ri_H), ∃ (h44 : ri_H), ∃ (h46 : ri_H), ∃ (x58 : Int32), ∃ (h56 : ri_H), (eh_i G 2 5) = 3 ∧ fd_C G 23 32 (eh_l G 2 8) x3 ∧ ¬ (x3 = (-1)) ∧ ¬ ((eh_i G 33 (x3).toNatClampNeg) = 2) ∧ (eh_i G 33 (x3).toNatClampNeg) = 3 ∧ (eh_i G 199 3).toInt < 40 ∧ eh_V h2 = G ∧ ri_calE ri_md (d + 3) 74 [.ref 2] h2 = some (none, h44) ∧ iS b n m (eh_V h44) ∧ (eh_i (eh_V h44) 33 (x3).toNatClampNeg) = 2 ∧ eh_V h46 = eh_u (eh_V h44) 201 (eh_i (eh_V h44) 199 3).toNatClampNeg (.int (eh_i (eh_V h44) 34 (x3).toNatClampNeg)) ∧ ri_calE ri_md (d + 3) 81 [.ref 2, .int 9] h46 = some (some (.int x58), h56) ∧ iS b n m (eh_V h56) ∧ ¬ (x58 = 0) ∧ ∃ hz loz, eh_e (ri_calE ri_md (d + 3)) md_2 187 loz [] hz rs h' ∧ eh_V hz = (eh_V h56) ∧ eh_N hz = eh_N h ∧ iS b n m (eh_V h56) ∧ ri_lk loz 0 = some (.ref 199) ∧ ri_lk loz 1 = some (.ref 2) ∧ ri_lk loz 2 = some (.ref 23) ∧ ri_lk loz 3 = some (.int 0) ∧ ri_lk loz 4 = some (.int x3) ∧ ri_lk loz 5 = some (.int 1) ∧ ri_lk loz 6 = some (.int 9)) ∨ (∃ (x3 : Int32), ∃ (h2 : ri_H), ∃ (h44 : ri_H), ∃ (h46 : ri_H), ∃ (x58 : Int32), ∃ (h56 : ri_H), (eh_i G 2 5) = 3 ∧ fd_C G 23 32 (eh_l G 2 8) x3 ∧ ¬ (x3 = (-1)) ∧ ¬ ((eh_i G 33 (x3).toNatClampNeg) = 2) ∧ (eh_i G 33 (x3).toNatClampNeg) = 3 ∧ (eh_i G 199 3).toInt < 40 ∧ eh_V h2 = G ∧ ri_calE ri_md (d + 3) 74 [.ref 2] h2 = some (none, h44) ∧ iS b n m (eh_V h44) ∧ (eh_i (eh_V h44) 33 (x3).toNatClampNeg) = 2 ∧ eh_V h46 = eh_u (eh_V h44) 201 (eh_i (eh_V h44) 199 3).toNatClampNeg (.int (eh_i (eh_V h44) 34 (x3).toNatClampNeg)) ∧ ri_calE ri_md (d + 3) 81 [.ref 2, .int 9] h46 = some (some (.int x58), h56) ∧ iS b n m (eh_V h56) ∧ x58 = 0 ∧ rs = [.int 0] ∧ eh_V h' = (eh_V h56) ∧ eh_N h' = eh_N h ∧ iS b n m (eh_V h56)) ∨ (∃ (x3 : Int32), (eh_i G 2 5) = 3 ∧ fd_C G 23 32 (eh_l G 2 8) x3 ∧ ¬ (x3 = (-1)) ∧ ¬ ((eh_i G 33 (x3).toNatClampNeg) = 2) ∧ (eh_i G 33 (x3).toNatClampNeg) = 3 ∧ ¬ ((eh_i G 199 3).toInt < 40) ∧ rs = [.int 0] ∧ eh_V h' = eh_u (eh_u G 2 9 (.int 4)) 2 10 (.int (eh_i G 2 6)) ∧ eh_N h' = eh_N h ∧ iS b n m (eh_u (eh_u G 2 9 (.int 4)) 2 10 (.int (eh_i G 2 6)))) ∨ (¬ ((eh_i G 2 5) = 3) ∧ rs = [.int 0] ∧ eh_V h' = eh_u (eh_u G 2 9 (.int 1)) 2 10 (.int (eh_i G 2 6)) ∧ eh_N h' = eh_N h ∧ iS b n m (eh_u (eh_u G 2 9 (.int 1)) 2 10 (.int (eh_i G 2 6)))) := by
  have E := E.ld (p := 25) (t := ri_isI) (i := 3) (n := 1) (v := .int 0) rfl (e := (.iload_n 3, 1, [], .null)) rfl rfl (fun _ _ => rfl) l3 rfl
  have E := E.brf (p := 28) (c := 1) (tgt := 42) (a := 0) (b := 0) (st' := []) rfl (e := (.ifCond .ne 17, 3, [42], .null)) rfl rfl (fun _ _ => rfl) (by decide) rfl
  have E := E.ld (p := 29) (t := ri_isA) (i := 1) (n := 1) (v := .ref 2) rfl (e := (.aload_n 1, 1, [], .null)) rfl rfl (fun _ _ => rfl) l1 rfl
  have E := E.gi (y := eh_i G 2 5) (p := 32) rfl (x := 25) (m := 3) (w := .null) (t := 8) (i := 5) (u := 193) rfl rfl hV (iv.1) rfl rfl
  have E := E.pu (p := 33) (lo' := lo) (st' := [.int 3, .int (eh_i G 2 5)]) rfl (e := (.iconst 3, 1, [], .null)) rfl rfl (fun _ _ => rfl)
  rcases eh_q0 (E.br (p := 36) (c := 0) (tgt := 42) (a := eh_i G 2 5) (b := 3) (st' := []) rfl (e := (.if_icmp .eq 9, 3, [42], .null)) rfl rfl (fun _ _ => rfl) rfl) with ⟨c1, E⟩ | ⟨c1, E⟩
  · skip
    have E := E.ld (p := 43) (t := ri_isI) (i := 3) (n := 1) (v := .int 0) rfl (e := (.iload_n 3, 1, [], .null)) rfl rfl (fun _ _ => rfl) l3 rfl
    have E := E.brt (c := 0) (tgt := 50) (a := 0) (b := 0) (st' := []) rfl (e := (.ifCond .eq 7, 3, [50], .null)) rfl rfl (fun _ _ => rfl) (by decide)
    have E := E.ld (p := 51) (t := ri_isA) (i := 2) (n := 1) (v := .ref 23) rfl (e := (.aload_n 2, 1, [], .null)) rfl rfl (fun _ _ => rfl) l2 rfl
    have E := E.ld (p := 52) (t := ri_isA) (i := 1) (n := 1) (v := .ref 2) rfl (e := (.aload_n 1, 1, [], .null)) rfl rfl (fun _ _ => rfl) l1 rfl
    have E := E.gl (y := eh_l G 2 8) (p := 55) rfl (x := 44) (m := 3) (w := .null) (t := 8) (i := 8) (u := 202) rfl rfl hV (iv.1) rfl rfl
    obtain ⟨v1, h2, X, E⟩ := E.cv (p := 58) (as := [.long (eh_l G 2 8)]) (b := 23) (r := []) rfl (x := 48) (m := 3) (w := .null) (j := 29) (n := 1) (t := 4) (u := [1079, 685, 684]) rfl rfl rfl
    rcases sp_29_23 (d := d + 2) X hV (iv.1) with ⟨x3, c4, rfl, hV5, hN6⟩
    have c4 : fd_C G 23 32 (eh_l G 2 8) x3 := c4
    have E : eh_e _ _ 58 lo [.int x3] _ rs h' := E
    have E := E.so (p := 60) (t := ri_isI) (i := 4) (n := 2) rfl (e := (.istore 4, 2, [], .null)) rfl rfl (fun _ _ => rfl) rfl
    have k7_4 : ri_lk (ri_st1 lo 4 (.int x3)) 4 = some (.int x3) := eh_self
    have k7_0 : ri_lk (ri_st1 lo 4 (.int x3)) 0 = some (.ref 199) := eh_keep (by decide) (Or.inl rfl) l0
    have k7_1 : ri_lk (ri_st1 lo 4 (.int x3)) 1 = some (.ref 2) := eh_keep (by decide) (Or.inl rfl) l1
    have k7_2 : ri_lk (ri_st1 lo 4 (.int x3)) 2 = some (.ref 23) := eh_keep (by decide) (Or.inl rfl) l2
    have k7_3 : ri_lk (ri_st1 lo 4 (.int x3)) 3 = some (.int 0) := eh_keep (by decide) (Or.inl rfl) l3
    have E := E.ld (p := 62) (t := ri_isI) (i := 4) (n := 2) (v := .int x3) rfl (e := (.iload 4, 2, [], .null)) rfl rfl (fun _ _ => rfl) k7_4 rfl
    have E := E.pu (p := 63) (lo' := (ri_st1 lo 4 (.int x3))) (st' := [.int (-1), .int x3]) rfl (e := (.iconst (-1), 1, [], .null)) rfl rfl (fun _ _ => rfl)
    rcases eh_q0 (E.br (p := 66) (c := 0) (tgt := 92) (a := x3) (b := (-1)) (st' := []) rfl (e := (.if_icmp .eq 29, 3, [92], .null)) rfl rfl (fun _ _ => rfl) rfl) with ⟨c8, E⟩ | ⟨c8, E⟩
    · skip
      have E := E.pu (p := 93) (lo' := (ri_st1 lo 4 (.int x3))) (st' := [.int 0]) rfl (e := (.iconst 0, 1, [], .null)) rfl rfl (fun _ _ => rfl)
      have E := E.so (p := 95) (t := ri_isI) (i := 5) (n := 2) rfl (e := (.istore 5, 2, [], .null)) rfl rfl (fun _ _ => rfl) rfl
      have k9_5 : ri_lk (ri_st1 (ri_st1 lo 4 (.int x3)) 5 (.int 0)) 5 = some (.int 0) := eh_self
      have k9_0 : ri_lk (ri_st1 (ri_st1 lo 4 (.int x3)) 5 (.int 0)) 0 = some (.ref 199) := eh_keep (by decide) (Or.inl rfl) k7_0
      have k9_1 : ri_lk (ri_st1 (ri_st1 lo 4 (.int x3)) 5 (.int 0)) 1 = some (.ref 2) := eh_keep (by decide) (Or.inl rfl) k7_1
      have k9_2 : ri_lk (ri_st1 (ri_st1 lo 4 (.int x3)) 5 (.int 0)) 2 = some (.ref 23) := eh_keep (by decide) (Or.inl rfl) k7_2
      have k9_3 : ri_lk (ri_st1 (ri_st1 lo 4 (.int x3)) 5 (.int 0)) 3 = some (.int 0) := eh_keep (by decide) (Or.inl rfl) k7_3
      have k9_4 : ri_lk (ri_st1 (ri_st1 lo 4 (.int x3)) 5 (.int 0)) 4 = some (.int x3) := eh_keep (by decide) (Or.inl rfl) k7_4
      have E := E.ld (p := 96) (t := ri_isI) (i := 3) (n := 1) (v := .int 0) rfl (e := (.iload_n 3, 1, [], .null)) rfl rfl (fun _ _ => rfl) k9_3 rfl
      have E := E.brf (p := 99) (c := 1) (tgt := 110) (a := 0) (b := 0) (st' := []) rfl (e := (.ifCond .ne 14, 3, [110], .null)) rfl rfl (fun _ _ => rfl) (by decide) rfl
      have E := E.ld (p := 101) (t := ri_isI) (i := 5) (n := 2) (v := .int 0) rfl (e := (.iload 5, 2, [], .null)) rfl rfl (fun _ _ => rfl) k9_5 rfl
      have E := E.brf (p := 104) (c := 1) (tgt := 110) (a := 0) (b := 0) (st' := []) rfl (e := (.ifCond .ne 9, 3, [110], .null)) rfl rfl (fun _ _ => rfl) (by decide) rfl
      have E := E.ld (p := 105) (t := ri_isA) (i := 1) (n := 1) (v := .ref 2) rfl (e := (.aload_n 1, 1, [], .null)) rfl rfl (fun _ _ => rfl) k9_1 rfl
      have E := E.pu (p := 106) (lo' := (ri_st1 (ri_st1 lo 4 (.int x3)) 5 (.int 0))) (st' := [.int 3, .ref 2]) rfl (e := (.iconst 3, 1, [], .null)) rfl rfl (fun _ _ => rfl)
      obtain ⟨v1, h10, X, E⟩ := E.cv (p := 109) (as := [.int 3]) (b := 2) (r := []) rfl (x := 41) (m := 3) (w := .null) (j := 78) (n := 1) (t := 8) (u := [1078, 678, 677]) rfl rfl rfl
      rcases sp_78 (d := d + 2) X hV5 (iv.1) with ⟨rfl, hV11, hN12⟩
      have hV11 : _ = eh_u (eh_u G 2 9 (.int 3)) 2 10 (.int (eh_i G 2 6)) := hV11
      have E : eh_e _ _ 109 (ri_st1 (ri_st1 lo 4 (.int x3)) 5 (.int 0)) [.int 0] _ rs h' := E
      obtain ⟨r1, r2⟩ := E.reti rfl (m := 1) (ax := []) (w := .null) rfl
      exact Or.inl ⟨x3, c1, c4, c8, r1, ((congrArg eh_V r2).trans hV11), ((congrArg eh_N r2).trans (hN12.trans hN6)), (iS_u (iS_u iv ((iv.1).ui rfl) rfl) (((iv.1).ui rfl).ui rfl) rfl)⟩
    · skip
      have E := E.ld (p := 67) (t := ri_isA) (i := 2) (n := 1) (v := .ref 23) rfl (e := (.aload_n 2, 1, [], .null)) rfl rfl (fun _ _ => rfl) k7_2 rfl
      have E := E.gr (n := 33) (p := 70) rfl (x := 54) (m := 3) (w := .null) (t := 4) (i := 10) (u := 288) rfl rfl hV5 (iv.1) rfl
      have E := E.ld (p := 72) (t := ri_isI) (i := 4) (n := 2) (v := .int x3) rfl (e := (.iload 4, 2, [], .null)) rfl rfl (fun _ _ => rfl) k7_4 rfl
      have E := E.ai (p := 73) (z := eh_i G 33 (x3).toNatClampNeg) (n := (x3).toNatClampNeg) rfl (e := (.iaload, 1, [], .null)) rfl rfl (fun _ _ => rfl) rfl hV5 (iv.1) rfl rfl rfl
      have E := E.pu (p := 74) (lo' := (ri_st1 lo 4 (.int x3))) (st' := [.int 2, .int (eh_i G 33 (x3).toNatClampNeg)]) rfl (e := (.iconst 2, 1, [], .null)) rfl rfl (fun _ _ => rfl)
      rcases eh_q0 (E.br (p := 77) (c := 0) (tgt := 88) (a := eh_i G 33 (x3).toNatClampNeg) (b := 2) (st' := []) rfl (e := (.if_icmp .eq 14, 3, [88], .null)) rfl rfl (fun _ _ => rfl) rfl) with ⟨c13, E⟩ | ⟨c13, E⟩
      · skip
        have E := E.pu (p := 89) (lo' := (ri_st1 lo 4 (.int x3))) (st' := [.int 1]) rfl (e := (.iconst 1, 1, [], .null)) rfl rfl (fun _ _ => rfl)
        have E := E.pu (p := 93) (lo' := (ri_st1 lo 4 (.int x3))) (st' := [.int 1]) rfl (e := (.goto 4, 3, [93], .null)) rfl rfl (fun _ _ => rfl)
        have E := E.so (p := 95) (t := ri_isI) (i := 5) (n := 2) rfl (e := (.istore 5, 2, [], .null)) rfl rfl (fun _ _ => rfl) rfl
        have k14_5 : ri_lk (ri_st1 (ri_st1 lo 4 (.int x3)) 5 (.int 1)) 5 = some (.int 1) := eh_self
        have k14_0 : ri_lk (ri_st1 (ri_st1 lo 4 (.int x3)) 5 (.int 1)) 0 = some (.ref 199) := eh_keep (by decide) (Or.inl rfl) k7_0
        have k14_1 : ri_lk (ri_st1 (ri_st1 lo 4 (.int x3)) 5 (.int 1)) 1 = some (.ref 2) := eh_keep (by decide) (Or.inl rfl) k7_1
        have k14_2 : ri_lk (ri_st1 (ri_st1 lo 4 (.int x3)) 5 (.int 1)) 2 = some (.ref 23) := eh_keep (by decide) (Or.inl rfl) k7_2
        have k14_3 : ri_lk (ri_st1 (ri_st1 lo 4 (.int x3)) 5 (.int 1)) 3 = some (.int 0) := eh_keep (by decide) (Or.inl rfl) k7_3
        have k14_4 : ri_lk (ri_st1 (ri_st1 lo 4 (.int x3)) 5 (.int 1)) 4 = some (.int x3) := eh_keep (by decide) (Or.inl rfl) k7_4
        have E := E.ld (p := 96) (t := ri_isI) (i := 3) (n := 1) (v := .int 0) rfl (e := (.iload_n 3, 1, [], .null)) rfl rfl (fun _ _ => rfl) k14_3 rfl
        have E := E.brf (p := 99) (c := 1) (tgt := 110) (a := 0) (b := 0) (st' := []) rfl (e := (.ifCond .ne 14, 3, [110], .null)) rfl rfl (fun _ _ => rfl) (by decide) rfl
        have E := E.ld (p := 101) (t := ri_isI) (i := 5) (n := 2) (v := .int 1) rfl (e := (.iload 5, 2, [], .null)) rfl rfl (fun _ _ => rfl) k14_5 rfl
        have E := E.brt (c := 1) (tgt := 110) (a := 1) (b := 0) (st' := []) rfl (e := (.ifCond .ne 9, 3, [110], .null)) rfl rfl (fun _ _ => rfl) (by decide)
        have E := E.ld (p := 111) (t := ri_isA) (i := 0) (n := 1) (v := .ref 199) rfl (e := (.aload_n 0, 1, [], .null)) rfl rfl (fun _ _ => rfl) k14_0 rfl
        have E := E.gi (y := eh_i G 199 3) (p := 114) rfl (x := 21) (m := 3) (w := .null) (t := 0) (i := 3) (u := 513) rfl rfl hV5 (iv.1) rfl rfl
        have E := E.pu (p := 116) (lo' := (ri_st1 (ri_st1 lo 4 (.int x3)) 5 (.int 1))) (st' := [.int 40, .int (eh_i G 199 3)]) rfl (e := (.bipush 40, 2, [], .null)) rfl rfl (fun _ _ => rfl)
        rcases eh_r2 rfl (show (40 : Int32).toInt = 40 by decide) (E.br (p := 119) (c := 2) (tgt := 125) (a := eh_i G 199 3) (b := 40) (st' := []) rfl (e := (.if_icmp .lt 9, 3, [125], .null)) rfl rfl (fun _ _ => rfl) rfl) with ⟨c15, E⟩ | ⟨c15, E⟩
        · skip
          have E := E.ld (p := 126) (t := ri_isA) (i := 1) (n := 1) (v := .ref 2) rfl (e := (.aload_n 1, 1, [], .null)) rfl rfl (fun _ _ => rfl) k14_1 rfl
          have E := E.gi (y := eh_i G 2 7) (p := 129) rfl (x := 57) (m := 3) (w := .null) (t := 8) (i := 7) (u := 199) rfl rfl hV5 (iv.1) rfl rfl
          have E := E.so (p := 131) (t := ri_isI) (i := 6) (n := 2) rfl (e := (.istore 6, 2, [], .null)) rfl rfl (fun _ _ => rfl) rfl
          have k16_6 : ri_lk (ri_st1 (ri_st1 (ri_st1 lo 4 (.int x3)) 5 (.int 1)) 6 (.int (eh_i G 2 7))) 6 = some (.int (eh_i G 2 7)) := eh_self
          have k16_0 : ri_lk (ri_st1 (ri_st1 (ri_st1 lo 4 (.int x3)) 5 (.int 1)) 6 (.int (eh_i G 2 7))) 0 = some (.ref 199) := eh_keep (by decide) (Or.inl rfl) k14_0
          have k16_1 : ri_lk (ri_st1 (ri_st1 (ri_st1 lo 4 (.int x3)) 5 (.int 1)) 6 (.int (eh_i G 2 7))) 1 = some (.ref 2) := eh_keep (by decide) (Or.inl rfl) k14_1
          have k16_2 : ri_lk (ri_st1 (ri_st1 (ri_st1 lo 4 (.int x3)) 5 (.int 1)) 6 (.int (eh_i G 2 7))) 2 = some (.ref 23) := eh_keep (by decide) (Or.inl rfl) k14_2
          have k16_3 : ri_lk (ri_st1 (ri_st1 (ri_st1 lo 4 (.int x3)) 5 (.int 1)) 6 (.int (eh_i G 2 7))) 3 = some (.int 0) := eh_keep (by decide) (Or.inl rfl) k14_3
          have k16_4 : ri_lk (ri_st1 (ri_st1 (ri_st1 lo 4 (.int x3)) 5 (.int 1)) 6 (.int (eh_i G 2 7))) 4 = some (.int x3) := eh_keep (by decide) (Or.inl rfl) k14_4
          have k16_5 : ri_lk (ri_st1 (ri_st1 (ri_st1 lo 4 (.int x3)) 5 (.int 1)) 6 (.int (eh_i G 2 7))) 5 = some (.int 1) := eh_keep (by decide) (Or.inl rfl) k14_5
          have E := E.ld (p := 132) (t := ri_isA) (i := 1) (n := 1) (v := .ref 2) rfl (e := (.aload_n 1, 1, [], .null)) rfl rfl (fun _ _ => rfl) k16_1 rfl
          obtain ⟨v1, h17, X, E⟩ := E.cv (p := 135) (as := []) (b := 2) (r := []) rfl (x := 60) (m := 3) (w := .null) (j := 74) (n := 0) (t := 8) (u := [1080, 648, 647]) rfl rfl rfl
          obtain ⟨rfl, ivk18, hNk18⟩ := ts_74 (d := d + 1) X (by rw [hV5]; exact iv)
          have Xk18 := X
          have E : eh_e _ _ 135 (ri_st1 (ri_st1 (ri_st1 lo 4 (.int x3)) 5 (.int 1)) 6 (.int (eh_i G 2 7))) [] h17 rs h' := E
          have E := E.ld (p := 137) (t := ri_isI) (i := 5) (n := 2) (v := .int 1) rfl (e := (.iload 5, 2, [], .null)) rfl rfl (fun _ _ => rfl) k16_5 rfl
          have E := E.brf (p := 140) (c := 0) (tgt := 187) (a := 1) (b := 0) (st' := []) rfl (e := (.ifCond .eq 50, 3, [187], .null)) rfl rfl (fun _ _ => rfl) (by decide) rfl
          have E := E.ld (p := 141) (t := ri_isA) (i := 0) (n := 1) (v := .ref 199) rfl (e := (.aload_n 0, 1, [], .null)) rfl rfl (fun _ _ => rfl) k16_0 rfl
          have E := E.gr (n := 201) (p := 144) rfl (x := 15) (m := 3) (w := .null) (t := 0) (i := 1) (u := 511) rfl rfl (rfl : eh_V h17 = eh_V h17) ivk18.1 rfl
          have E := E.ld (p := 145) (t := ri_isA) (i := 0) (n := 1) (v := .ref 199) rfl (e := (.aload_n 0, 1, [], .null)) rfl rfl (fun _ _ => rfl) k16_0 rfl
          have E := E.gi (y := eh_i (eh_V h17) 199 3) (p := 148) rfl (x := 21) (m := 3) (w := .null) (t := 0) (i := 3) (u := 513) rfl rfl (rfl : eh_V h17 = eh_V h17) ivk18.1 rfl rfl
          have E := E.ld (p := 149) (t := ri_isA) (i := 2) (n := 1) (v := .ref 23) rfl (e := (.aload_n 2, 1, [], .null)) rfl rfl (fun _ _ => rfl) k16_2 rfl
          have E := E.gr (n := 34) (p := 152) rfl (x := 63) (m := 3) (w := .null) (t := 4) (i := 11) (u := 291) rfl rfl (rfl : eh_V h17 = eh_V h17) ivk18.1 rfl
          have E := E.ld (p := 154) (t := ri_isI) (i := 4) (n := 2) (v := .int x3) rfl (e := (.iload 4, 2, [], .null)) rfl rfl (fun _ _ => rfl) k16_4 rfl
          have E := E.ai (p := 155) (z := eh_i (eh_V h17) 34 (x3).toNatClampNeg) (n := (x3).toNatClampNeg) rfl (e := (.iaload, 1, [], .null)) rfl rfl (fun _ _ => rfl) rfl (rfl : eh_V h17 = eh_V h17) ivk18.1 rfl rfl rfl
          obtain ⟨h19, hV20, hN21, E⟩ := E.aw (gg := ri_g1) (b := true) (p := 156) (n := (eh_i (eh_V h17) 199 3).toNatClampNeg) rfl (e := (.iastore, 1, [], .null)) rfl rfl (fun _ _ => rfl) rfl (rfl : eh_V h17 = eh_V h17) rfl
          have E := E.ld (p := 157) (t := ri_isA) (i := 2) (n := 1) (v := .ref 23) rfl (e := (.aload_n 2, 1, [], .null)) rfl rfl (fun _ _ => rfl) k16_2 rfl
          have E := E.gr (n := 33) (p := 160) rfl (x := 54) (m := 3) (w := .null) (t := 4) (i := 10) (u := 288) rfl rfl hV20 (ivk18.1.ui rfl) rfl
          have E := E.ld (p := 162) (t := ri_isI) (i := 4) (n := 2) (v := .int x3) rfl (e := (.iload 4, 2, [], .null)) rfl rfl (fun _ _ => rfl) k16_4 rfl
          have E := E.ai (p := 163) (z := eh_i (eh_V h17) 33 (x3).toNatClampNeg) (n := (x3).toNatClampNeg) rfl (e := (.iaload, 1, [], .null)) rfl rfl (fun _ _ => rfl) rfl hV20 (ivk18.1.ui rfl) rfl rfl rfl
          have E := E.pu (p := 164) (lo' := (ri_st1 (ri_st1 (ri_st1 lo 4 (.int x3)) 5 (.int 1)) 6 (.int (eh_i G 2 7)))) (st' := [.int 2, .int (eh_i (eh_V h17) 33 (x3).toNatClampNeg)]) rfl (e := (.iconst 2, 1, [], .null)) rfl rfl (fun _ _ => rfl)
          rcases eh_q1 (E.br (p := 167) (c := 1) (tgt := 172) (a := eh_i (eh_V h17) 33 (x3).toNatClampNeg) (b := 2) (st' := []) rfl (e := (.if_icmp .ne 8, 3, [172], .null)) rfl rfl (fun _ _ => rfl) rfl) with ⟨c22, E⟩ | ⟨c22, E⟩
          · skip
            have E := E.pu (p := 174) (lo' := (ri_st1 (ri_st1 (ri_st1 lo 4 (.int x3)) 5 (.int 1)) 6 (.int (eh_i G 2 7)))) (st' := [.int 11]) rfl (e := (.bipush 11, 2, [], .null)) rfl rfl (fun _ _ => rfl)
            have E := E.so (p := 176) (t := ri_isI) (i := 6) (n := 2) rfl (e := (.istore 6, 2, [], .null)) rfl rfl (fun _ _ => rfl) rfl
            have k23_6 : ri_lk (ri_st1 (ri_st1 (ri_st1 (ri_st1 lo 4 (.int x3)) 5 (.int 1)) 6 (.int (eh_i G 2 7))) 6 (.int 11)) 6 = some (.int 11) := eh_self
            have k23_0 : ri_lk (ri_st1 (ri_st1 (ri_st1 (ri_st1 lo 4 (.int x3)) 5 (.int 1)) 6 (.int (eh_i G 2 7))) 6 (.int 11)) 0 = some (.ref 199) := eh_keep (by decide) (Or.inl rfl) k16_0
            have k23_1 : ri_lk (ri_st1 (ri_st1 (ri_st1 (ri_st1 lo 4 (.int x3)) 5 (.int 1)) 6 (.int (eh_i G 2 7))) 6 (.int 11)) 1 = some (.ref 2) := eh_keep (by decide) (Or.inl rfl) k16_1
            have k23_2 : ri_lk (ri_st1 (ri_st1 (ri_st1 (ri_st1 lo 4 (.int x3)) 5 (.int 1)) 6 (.int (eh_i G 2 7))) 6 (.int 11)) 2 = some (.ref 23) := eh_keep (by decide) (Or.inl rfl) k16_2
            have k23_3 : ri_lk (ri_st1 (ri_st1 (ri_st1 (ri_st1 lo 4 (.int x3)) 5 (.int 1)) 6 (.int (eh_i G 2 7))) 6 (.int 11)) 3 = some (.int 0) := eh_keep (by decide) (Or.inl rfl) k16_3
            have k23_4 : ri_lk (ri_st1 (ri_st1 (ri_st1 (ri_st1 lo 4 (.int x3)) 5 (.int 1)) 6 (.int (eh_i G 2 7))) 6 (.int 11)) 4 = some (.int x3) := eh_keep (by decide) (Or.inl rfl) k16_4
            have k23_5 : ri_lk (ri_st1 (ri_st1 (ri_st1 (ri_st1 lo 4 (.int x3)) 5 (.int 1)) 6 (.int (eh_i G 2 7))) 6 (.int 11)) 5 = some (.int 1) := eh_keep (by decide) (Or.inl rfl) k16_5
            have E := E.ld (p := 177) (t := ri_isA) (i := 1) (n := 1) (v := .ref 2) rfl (e := (.aload_n 1, 1, [], .null)) rfl rfl (fun _ _ => rfl) k23_1 rfl
            have E := E.ld (p := 179) (t := ri_isI) (i := 6) (n := 2) (v := .int 11) rfl (e := (.iload 6, 2, [], .null)) rfl rfl (fun _ _ => rfl) k23_6 rfl
            obtain ⟨v1, h24, X, E⟩ := E.cv (p := 182) (as := [.int 11]) (b := 2) (r := []) rfl (x := 66) (m := 3) (w := .null) (j := 81) (n := 1) (t := 8) (u := [1081, 1083, 1082]) rfl rfl rfl
            obtain ⟨x26, rfl, ivk25, hNk25⟩ := ts_81 (d := d) X (by rw [hV20]; exact (iS_u ivk18 (ivk18.1.ui rfl) rfl))
            have Xk25 := X
            have E : eh_e _ _ 182 (ri_st1 (ri_st1 (ri_st1 (ri_st1 lo 4 (.int x3)) 5 (.int 1)) 6 (.int (eh_i G 2 7))) 6 (.int 11)) [.int x26] h24 rs h' := E
            rcases eh_q1 (E.br (p := 185) (c := 1) (tgt := 187) (a := x26) (b := 0) (st' := []) rfl (e := (.ifCond .ne 5, 3, [187], .null)) rfl rfl (fun _ _ => rfl) rfl) with ⟨c27, E⟩ | ⟨c27, E⟩
            · skip
              exact Or.inr (Or.inl ⟨x3, h2, h17, h19, x26, h24, c1, c4, c8, c13, c15, hV5, Xk18, ivk18, c22, hV20, Xk25, ivk25, c27, _, _, E, (rfl : eh_V h24 = eh_V h24), (hNk25.trans (hN21.trans (hNk18.trans hN6))), ivk25, k23_0, k23_1, k23_2, k23_3, k23_4, k23_5, k23_6⟩)
            · skip
              have E := E.pu (p := 186) (lo' := (ri_st1 (ri_st1 (ri_st1 (ri_st1 lo 4 (.int x3)) 5 (.int 1)) 6 (.int (eh_i G 2 7))) 6 (.int 11))) (st' := [.int 0]) rfl (e := (.iconst 0, 1, [], .null)) rfl rfl (fun _ _ => rfl)
              obtain ⟨r1, r2⟩ := E.reti rfl (m := 1) (ax := []) (w := .null) rfl
              exact Or.inr (Or.inr (Or.inl ⟨x3, h2, h17, h19, x26, h24, c1, c4, c8, c13, c15, hV5, Xk18, ivk18, c22, hV20, Xk25, ivk25, c27, r1, ((congrArg eh_V r2).trans (rfl : eh_V h24 = eh_V h24)), ((congrArg eh_N r2).trans (hNk25.trans (hN21.trans (hNk18.trans hN6)))), ivk25⟩))
          · skip
            have E := E.pu (p := 169) (lo' := (ri_st1 (ri_st1 (ri_st1 lo 4 (.int x3)) 5 (.int 1)) 6 (.int (eh_i G 2 7)))) (st' := [.int 9]) rfl (e := (.bipush 9, 2, [], .null)) rfl rfl (fun _ _ => rfl)
            have E := E.pu (p := 174) (lo' := (ri_st1 (ri_st1 (ri_st1 lo 4 (.int x3)) 5 (.int 1)) 6 (.int (eh_i G 2 7)))) (st' := [.int 9]) rfl (e := (.goto 5, 3, [174], .null)) rfl rfl (fun _ _ => rfl)
            have E := E.so (p := 176) (t := ri_isI) (i := 6) (n := 2) rfl (e := (.istore 6, 2, [], .null)) rfl rfl (fun _ _ => rfl) rfl
            have k28_6 : ri_lk (ri_st1 (ri_st1 (ri_st1 (ri_st1 lo 4 (.int x3)) 5 (.int 1)) 6 (.int (eh_i G 2 7))) 6 (.int 9)) 6 = some (.int 9) := eh_self
            have k28_0 : ri_lk (ri_st1 (ri_st1 (ri_st1 (ri_st1 lo 4 (.int x3)) 5 (.int 1)) 6 (.int (eh_i G 2 7))) 6 (.int 9)) 0 = some (.ref 199) := eh_keep (by decide) (Or.inl rfl) k16_0
            have k28_1 : ri_lk (ri_st1 (ri_st1 (ri_st1 (ri_st1 lo 4 (.int x3)) 5 (.int 1)) 6 (.int (eh_i G 2 7))) 6 (.int 9)) 1 = some (.ref 2) := eh_keep (by decide) (Or.inl rfl) k16_1
            have k28_2 : ri_lk (ri_st1 (ri_st1 (ri_st1 (ri_st1 lo 4 (.int x3)) 5 (.int 1)) 6 (.int (eh_i G 2 7))) 6 (.int 9)) 2 = some (.ref 23) := eh_keep (by decide) (Or.inl rfl) k16_2
            have k28_3 : ri_lk (ri_st1 (ri_st1 (ri_st1 (ri_st1 lo 4 (.int x3)) 5 (.int 1)) 6 (.int (eh_i G 2 7))) 6 (.int 9)) 3 = some (.int 0) := eh_keep (by decide) (Or.inl rfl) k16_3
            have k28_4 : ri_lk (ri_st1 (ri_st1 (ri_st1 (ri_st1 lo 4 (.int x3)) 5 (.int 1)) 6 (.int (eh_i G 2 7))) 6 (.int 9)) 4 = some (.int x3) := eh_keep (by decide) (Or.inl rfl) k16_4
            have k28_5 : ri_lk (ri_st1 (ri_st1 (ri_st1 (ri_st1 lo 4 (.int x3)) 5 (.int 1)) 6 (.int (eh_i G 2 7))) 6 (.int 9)) 5 = some (.int 1) := eh_keep (by decide) (Or.inl rfl) k16_5
            have E := E.ld (p := 177) (t := ri_isA) (i := 1) (n := 1) (v := .ref 2) rfl (e := (.aload_n 1, 1, [], .null)) rfl rfl (fun _ _ => rfl) k28_1 rfl
            have E := E.ld (p := 179) (t := ri_isI) (i := 6) (n := 2) (v := .int 9) rfl (e := (.iload 6, 2, [], .null)) rfl rfl (fun _ _ => rfl) k28_6 rfl
            obtain ⟨v1, h29, X, E⟩ := E.cv (p := 182) (as := [.int 9]) (b := 2) (r := []) rfl (x := 66) (m := 3) (w := .null) (j := 81) (n := 1) (t := 8) (u := [1081, 1083, 1082]) rfl rfl rfl
            obtain ⟨x31, rfl, ivk30, hNk30⟩ := ts_81 (d := d) X (by rw [hV20]; exact (iS_u ivk18 (ivk18.1.ui rfl) rfl))
            have Xk30 := X
            have E : eh_e _ _ 182 (ri_st1 (ri_st1 (ri_st1 (ri_st1 lo 4 (.int x3)) 5 (.int 1)) 6 (.int (eh_i G 2 7))) 6 (.int 9)) [.int x31] h29 rs h' := E
            rcases eh_q1 (E.br (p := 185) (c := 1) (tgt := 187) (a := x31) (b := 0) (st' := []) rfl (e := (.ifCond .ne 5, 3, [187], .null)) rfl rfl (fun _ _ => rfl) rfl) with ⟨c32, E⟩ | ⟨c32, E⟩
            · skip
              exact Or.inr (Or.inr (Or.inr (Or.inl ⟨x3, h2, h17, h19, x31, h29, c1, c4, c8, c13, c15, hV5, Xk18, ivk18, c22, hV20, Xk30, ivk30, c32, _, _, E, (rfl : eh_V h29 = eh_V h29), (hNk30.trans (hN21.trans (hNk18.trans hN6))), ivk30, k28_0, k28_1, k28_2, k28_3, k28_4, k28_5, k28_6⟩)))
            · skip
              have E := E.pu (p := 186) (lo' := (ri_st1 (ri_st1 (ri_st1 (ri_st1 lo 4 (.int x3)) 5 (.int 1)) 6 (.int (eh_i G 2 7))) 6 (.int 9))) (st' := [.int 0]) rfl (e := (.iconst 0, 1, [], .null)) rfl rfl (fun _ _ => rfl)
              obtain ⟨r1, r2⟩ := E.reti rfl (m := 1) (ax := []) (w := .null) rfl
              exact Or.inr (Or.inr (Or.inr (Or.inr (Or.inl ⟨x3, h2, h17, h19, x31, h29, c1, c4, c8, c13, c15, hV5, Xk18, ivk18, c22, hV20, Xk30, ivk30, c32, r1, ((congrArg eh_V r2).trans (rfl : eh_V h29 = eh_V h29)), ((congrArg eh_N r2).trans (hNk30.trans (hN21.trans (hNk18.trans hN6)))), ivk30⟩))))
        · skip
          have E := E.ld (p := 120) (t := ri_isA) (i := 1) (n := 1) (v := .ref 2) rfl (e := (.aload_n 1, 1, [], .null)) rfl rfl (fun _ _ => rfl) k14_1 rfl
          have E := E.pu (p := 121) (lo' := (ri_st1 (ri_st1 lo 4 (.int x3)) 5 (.int 1))) (st' := [.int 4, .ref 2]) rfl (e := (.iconst 4, 1, [], .null)) rfl rfl (fun _ _ => rfl)
          obtain ⟨v1, h33, X, E⟩ := E.cv (p := 124) (as := [.int 4]) (b := 2) (r := []) rfl (x := 41) (m := 3) (w := .null) (j := 78) (n := 1) (t := 8) (u := [1078, 678, 677]) rfl rfl rfl
          rcases sp_78 (d := d + 2) X hV5 (iv.1) with ⟨rfl, hV34, hN35⟩
          have hV34 : _ = eh_u (eh_u G 2 9 (.int 4)) 2 10 (.int (eh_i G 2 6)) := hV34
          have E : eh_e _ _ 124 (ri_st1 (ri_st1 lo 4 (.int x3)) 5 (.int 1)) [.int 0] _ rs h' := E
          obtain ⟨r1, r2⟩ := E.reti rfl (m := 1) (ax := []) (w := .null) rfl
          exact Or.inr (Or.inr (Or.inr (Or.inr (Or.inr (Or.inl ⟨x3, c1, c4, c8, c13, c15, r1, ((congrArg eh_V r2).trans hV34), ((congrArg eh_N r2).trans (hN35.trans hN6)), (iS_u (iS_u iv ((iv.1).ui rfl) rfl) (((iv.1).ui rfl).ui rfl) rfl)⟩)))))
      · skip
        have E := E.ld (p := 78) (t := ri_isA) (i := 2) (n := 1) (v := .ref 23) rfl (e := (.aload_n 2, 1, [], .null)) rfl rfl (fun _ _ => rfl) k7_2 rfl
        have E := E.gr (n := 33) (p := 81) rfl (x := 54) (m := 3) (w := .null) (t := 4) (i := 10) (u := 288) rfl rfl hV5 (iv.1) rfl
        have E := E.ld (p := 83) (t := ri_isI) (i := 4) (n := 2) (v := .int x3) rfl (e := (.iload 4, 2, [], .null)) rfl rfl (fun _ _ => rfl) k7_4 rfl
        have E := E.ai (p := 84) (z := eh_i G 33 (x3).toNatClampNeg) (n := (x3).toNatClampNeg) rfl (e := (.iaload, 1, [], .null)) rfl rfl (fun _ _ => rfl) rfl hV5 (iv.1) rfl rfl rfl
        have E := E.pu (p := 85) (lo' := (ri_st1 lo 4 (.int x3))) (st' := [.int 3, .int (eh_i G 33 (x3).toNatClampNeg)]) rfl (e := (.iconst 3, 1, [], .null)) rfl rfl (fun _ _ => rfl)
        rcases eh_q1 (E.br (p := 88) (c := 1) (tgt := 92) (a := eh_i G 33 (x3).toNatClampNeg) (b := 3) (st' := []) rfl (e := (.if_icmp .ne 7, 3, [92], .null)) rfl rfl (fun _ _ => rfl) rfl) with ⟨c36, E⟩ | ⟨c36, E⟩
        · skip
          have E := E.pu (p := 93) (lo' := (ri_st1 lo 4 (.int x3))) (st' := [.int 0]) rfl (e := (.iconst 0, 1, [], .null)) rfl rfl (fun _ _ => rfl)
          have E := E.so (p := 95) (t := ri_isI) (i := 5) (n := 2) rfl (e := (.istore 5, 2, [], .null)) rfl rfl (fun _ _ => rfl) rfl
          have k37_5 : ri_lk (ri_st1 (ri_st1 lo 4 (.int x3)) 5 (.int 0)) 5 = some (.int 0) := eh_self
          have k37_0 : ri_lk (ri_st1 (ri_st1 lo 4 (.int x3)) 5 (.int 0)) 0 = some (.ref 199) := eh_keep (by decide) (Or.inl rfl) k7_0
          have k37_1 : ri_lk (ri_st1 (ri_st1 lo 4 (.int x3)) 5 (.int 0)) 1 = some (.ref 2) := eh_keep (by decide) (Or.inl rfl) k7_1
          have k37_2 : ri_lk (ri_st1 (ri_st1 lo 4 (.int x3)) 5 (.int 0)) 2 = some (.ref 23) := eh_keep (by decide) (Or.inl rfl) k7_2
          have k37_3 : ri_lk (ri_st1 (ri_st1 lo 4 (.int x3)) 5 (.int 0)) 3 = some (.int 0) := eh_keep (by decide) (Or.inl rfl) k7_3
          have k37_4 : ri_lk (ri_st1 (ri_st1 lo 4 (.int x3)) 5 (.int 0)) 4 = some (.int x3) := eh_keep (by decide) (Or.inl rfl) k7_4
          have E := E.ld (p := 96) (t := ri_isI) (i := 3) (n := 1) (v := .int 0) rfl (e := (.iload_n 3, 1, [], .null)) rfl rfl (fun _ _ => rfl) k37_3 rfl
          have E := E.brf (p := 99) (c := 1) (tgt := 110) (a := 0) (b := 0) (st' := []) rfl (e := (.ifCond .ne 14, 3, [110], .null)) rfl rfl (fun _ _ => rfl) (by decide) rfl
          have E := E.ld (p := 101) (t := ri_isI) (i := 5) (n := 2) (v := .int 0) rfl (e := (.iload 5, 2, [], .null)) rfl rfl (fun _ _ => rfl) k37_5 rfl
          have E := E.brf (p := 104) (c := 1) (tgt := 110) (a := 0) (b := 0) (st' := []) rfl (e := (.ifCond .ne 9, 3, [110], .null)) rfl rfl (fun _ _ => rfl) (by decide) rfl
          have E := E.ld (p := 105) (t := ri_isA) (i := 1) (n := 1) (v := .ref 2) rfl (e := (.aload_n 1, 1, [], .null)) rfl rfl (fun _ _ => rfl) k37_1 rfl
          have E := E.pu (p := 106) (lo' := (ri_st1 (ri_st1 lo 4 (.int x3)) 5 (.int 0))) (st' := [.int 3, .ref 2]) rfl (e := (.iconst 3, 1, [], .null)) rfl rfl (fun _ _ => rfl)
          obtain ⟨v1, h38, X, E⟩ := E.cv (p := 109) (as := [.int 3]) (b := 2) (r := []) rfl (x := 41) (m := 3) (w := .null) (j := 78) (n := 1) (t := 8) (u := [1078, 678, 677]) rfl rfl rfl
          rcases sp_78 (d := d + 2) X hV5 (iv.1) with ⟨rfl, hV39, hN40⟩
          have hV39 : _ = eh_u (eh_u G 2 9 (.int 3)) 2 10 (.int (eh_i G 2 6)) := hV39
          have E : eh_e _ _ 109 (ri_st1 (ri_st1 lo 4 (.int x3)) 5 (.int 0)) [.int 0] _ rs h' := E
          obtain ⟨r1, r2⟩ := E.reti rfl (m := 1) (ax := []) (w := .null) rfl
          exact Or.inr (Or.inr (Or.inr (Or.inr (Or.inr (Or.inr (Or.inl ⟨x3, c1, c4, c8, c13, c36, r1, ((congrArg eh_V r2).trans hV39), ((congrArg eh_N r2).trans (hN40.trans hN6)), (iS_u (iS_u iv ((iv.1).ui rfl) rfl) (((iv.1).ui rfl).ui rfl) rfl)⟩))))))
        · skip
          have E := E.pu (p := 89) (lo' := (ri_st1 lo 4 (.int x3))) (st' := [.int 1]) rfl (e := (.iconst 1, 1, [], .null)) rfl rfl (fun _ _ => rfl)
          have E := E.pu (p := 93) (lo' := (ri_st1 lo 4 (.int x3))) (st' := [.int 1]) rfl (e := (.goto 4, 3, [93], .null)) rfl rfl (fun _ _ => rfl)
          have E := E.so (p := 95) (t := ri_isI) (i := 5) (n := 2) rfl (e := (.istore 5, 2, [], .null)) rfl rfl (fun _ _ => rfl) rfl
          have k41_5 : ri_lk (ri_st1 (ri_st1 lo 4 (.int x3)) 5 (.int 1)) 5 = some (.int 1) := eh_self
          have k41_0 : ri_lk (ri_st1 (ri_st1 lo 4 (.int x3)) 5 (.int 1)) 0 = some (.ref 199) := eh_keep (by decide) (Or.inl rfl) k7_0
          have k41_1 : ri_lk (ri_st1 (ri_st1 lo 4 (.int x3)) 5 (.int 1)) 1 = some (.ref 2) := eh_keep (by decide) (Or.inl rfl) k7_1
          have k41_2 : ri_lk (ri_st1 (ri_st1 lo 4 (.int x3)) 5 (.int 1)) 2 = some (.ref 23) := eh_keep (by decide) (Or.inl rfl) k7_2
          have k41_3 : ri_lk (ri_st1 (ri_st1 lo 4 (.int x3)) 5 (.int 1)) 3 = some (.int 0) := eh_keep (by decide) (Or.inl rfl) k7_3
          have k41_4 : ri_lk (ri_st1 (ri_st1 lo 4 (.int x3)) 5 (.int 1)) 4 = some (.int x3) := eh_keep (by decide) (Or.inl rfl) k7_4
          have E := E.ld (p := 96) (t := ri_isI) (i := 3) (n := 1) (v := .int 0) rfl (e := (.iload_n 3, 1, [], .null)) rfl rfl (fun _ _ => rfl) k41_3 rfl
          have E := E.brf (p := 99) (c := 1) (tgt := 110) (a := 0) (b := 0) (st' := []) rfl (e := (.ifCond .ne 14, 3, [110], .null)) rfl rfl (fun _ _ => rfl) (by decide) rfl
          have E := E.ld (p := 101) (t := ri_isI) (i := 5) (n := 2) (v := .int 1) rfl (e := (.iload 5, 2, [], .null)) rfl rfl (fun _ _ => rfl) k41_5 rfl
          have E := E.brt (c := 1) (tgt := 110) (a := 1) (b := 0) (st' := []) rfl (e := (.ifCond .ne 9, 3, [110], .null)) rfl rfl (fun _ _ => rfl) (by decide)
          have E := E.ld (p := 111) (t := ri_isA) (i := 0) (n := 1) (v := .ref 199) rfl (e := (.aload_n 0, 1, [], .null)) rfl rfl (fun _ _ => rfl) k41_0 rfl
          have E := E.gi (y := eh_i G 199 3) (p := 114) rfl (x := 21) (m := 3) (w := .null) (t := 0) (i := 3) (u := 513) rfl rfl hV5 (iv.1) rfl rfl
          have E := E.pu (p := 116) (lo' := (ri_st1 (ri_st1 lo 4 (.int x3)) 5 (.int 1))) (st' := [.int 40, .int (eh_i G 199 3)]) rfl (e := (.bipush 40, 2, [], .null)) rfl rfl (fun _ _ => rfl)
          rcases eh_r2 rfl (show (40 : Int32).toInt = 40 by decide) (E.br (p := 119) (c := 2) (tgt := 125) (a := eh_i G 199 3) (b := 40) (st' := []) rfl (e := (.if_icmp .lt 9, 3, [125], .null)) rfl rfl (fun _ _ => rfl) rfl) with ⟨c42, E⟩ | ⟨c42, E⟩
          · skip
            have E := E.ld (p := 126) (t := ri_isA) (i := 1) (n := 1) (v := .ref 2) rfl (e := (.aload_n 1, 1, [], .null)) rfl rfl (fun _ _ => rfl) k41_1 rfl
            have E := E.gi (y := eh_i G 2 7) (p := 129) rfl (x := 57) (m := 3) (w := .null) (t := 8) (i := 7) (u := 199) rfl rfl hV5 (iv.1) rfl rfl
            have E := E.so (p := 131) (t := ri_isI) (i := 6) (n := 2) rfl (e := (.istore 6, 2, [], .null)) rfl rfl (fun _ _ => rfl) rfl
            have k43_6 : ri_lk (ri_st1 (ri_st1 (ri_st1 lo 4 (.int x3)) 5 (.int 1)) 6 (.int (eh_i G 2 7))) 6 = some (.int (eh_i G 2 7)) := eh_self
            have k43_0 : ri_lk (ri_st1 (ri_st1 (ri_st1 lo 4 (.int x3)) 5 (.int 1)) 6 (.int (eh_i G 2 7))) 0 = some (.ref 199) := eh_keep (by decide) (Or.inl rfl) k41_0
            have k43_1 : ri_lk (ri_st1 (ri_st1 (ri_st1 lo 4 (.int x3)) 5 (.int 1)) 6 (.int (eh_i G 2 7))) 1 = some (.ref 2) := eh_keep (by decide) (Or.inl rfl) k41_1
            have k43_2 : ri_lk (ri_st1 (ri_st1 (ri_st1 lo 4 (.int x3)) 5 (.int 1)) 6 (.int (eh_i G 2 7))) 2 = some (.ref 23) := eh_keep (by decide) (Or.inl rfl) k41_2
            have k43_3 : ri_lk (ri_st1 (ri_st1 (ri_st1 lo 4 (.int x3)) 5 (.int 1)) 6 (.int (eh_i G 2 7))) 3 = some (.int 0) := eh_keep (by decide) (Or.inl rfl) k41_3
            have k43_4 : ri_lk (ri_st1 (ri_st1 (ri_st1 lo 4 (.int x3)) 5 (.int 1)) 6 (.int (eh_i G 2 7))) 4 = some (.int x3) := eh_keep (by decide) (Or.inl rfl) k41_4
            have k43_5 : ri_lk (ri_st1 (ri_st1 (ri_st1 lo 4 (.int x3)) 5 (.int 1)) 6 (.int (eh_i G 2 7))) 5 = some (.int 1) := eh_keep (by decide) (Or.inl rfl) k41_5
            have E := E.ld (p := 132) (t := ri_isA) (i := 1) (n := 1) (v := .ref 2) rfl (e := (.aload_n 1, 1, [], .null)) rfl rfl (fun _ _ => rfl) k43_1 rfl
            obtain ⟨v1, h44, X, E⟩ := E.cv (p := 135) (as := []) (b := 2) (r := []) rfl (x := 60) (m := 3) (w := .null) (j := 74) (n := 0) (t := 8) (u := [1080, 648, 647]) rfl rfl rfl
            obtain ⟨rfl, ivk45, hNk45⟩ := ts_74 (d := d + 1) X (by rw [hV5]; exact iv)
            have Xk45 := X
            have E : eh_e _ _ 135 (ri_st1 (ri_st1 (ri_st1 lo 4 (.int x3)) 5 (.int 1)) 6 (.int (eh_i G 2 7))) [] h44 rs h' := E
            have E := E.ld (p := 137) (t := ri_isI) (i := 5) (n := 2) (v := .int 1) rfl (e := (.iload 5, 2, [], .null)) rfl rfl (fun _ _ => rfl) k43_5 rfl
            have E := E.brf (p := 140) (c := 0) (tgt := 187) (a := 1) (b := 0) (st' := []) rfl (e := (.ifCond .eq 50, 3, [187], .null)) rfl rfl (fun _ _ => rfl) (by decide) rfl
            have E := E.ld (p := 141) (t := ri_isA) (i := 0) (n := 1) (v := .ref 199) rfl (e := (.aload_n 0, 1, [], .null)) rfl rfl (fun _ _ => rfl) k43_0 rfl
            have E := E.gr (n := 201) (p := 144) rfl (x := 15) (m := 3) (w := .null) (t := 0) (i := 1) (u := 511) rfl rfl (rfl : eh_V h44 = eh_V h44) ivk45.1 rfl
            have E := E.ld (p := 145) (t := ri_isA) (i := 0) (n := 1) (v := .ref 199) rfl (e := (.aload_n 0, 1, [], .null)) rfl rfl (fun _ _ => rfl) k43_0 rfl
            have E := E.gi (y := eh_i (eh_V h44) 199 3) (p := 148) rfl (x := 21) (m := 3) (w := .null) (t := 0) (i := 3) (u := 513) rfl rfl (rfl : eh_V h44 = eh_V h44) ivk45.1 rfl rfl
            have E := E.ld (p := 149) (t := ri_isA) (i := 2) (n := 1) (v := .ref 23) rfl (e := (.aload_n 2, 1, [], .null)) rfl rfl (fun _ _ => rfl) k43_2 rfl
            have E := E.gr (n := 34) (p := 152) rfl (x := 63) (m := 3) (w := .null) (t := 4) (i := 11) (u := 291) rfl rfl (rfl : eh_V h44 = eh_V h44) ivk45.1 rfl
            have E := E.ld (p := 154) (t := ri_isI) (i := 4) (n := 2) (v := .int x3) rfl (e := (.iload 4, 2, [], .null)) rfl rfl (fun _ _ => rfl) k43_4 rfl
            have E := E.ai (p := 155) (z := eh_i (eh_V h44) 34 (x3).toNatClampNeg) (n := (x3).toNatClampNeg) rfl (e := (.iaload, 1, [], .null)) rfl rfl (fun _ _ => rfl) rfl (rfl : eh_V h44 = eh_V h44) ivk45.1 rfl rfl rfl
            obtain ⟨h46, hV47, hN48, E⟩ := E.aw (gg := ri_g1) (b := true) (p := 156) (n := (eh_i (eh_V h44) 199 3).toNatClampNeg) rfl (e := (.iastore, 1, [], .null)) rfl rfl (fun _ _ => rfl) rfl (rfl : eh_V h44 = eh_V h44) rfl
            have E := E.ld (p := 157) (t := ri_isA) (i := 2) (n := 1) (v := .ref 23) rfl (e := (.aload_n 2, 1, [], .null)) rfl rfl (fun _ _ => rfl) k43_2 rfl
            have E := E.gr (n := 33) (p := 160) rfl (x := 54) (m := 3) (w := .null) (t := 4) (i := 10) (u := 288) rfl rfl hV47 (ivk45.1.ui rfl) rfl
            have E := E.ld (p := 162) (t := ri_isI) (i := 4) (n := 2) (v := .int x3) rfl (e := (.iload 4, 2, [], .null)) rfl rfl (fun _ _ => rfl) k43_4 rfl
            have E := E.ai (p := 163) (z := eh_i (eh_V h44) 33 (x3).toNatClampNeg) (n := (x3).toNatClampNeg) rfl (e := (.iaload, 1, [], .null)) rfl rfl (fun _ _ => rfl) rfl hV47 (ivk45.1.ui rfl) rfl rfl rfl
            have E := E.pu (p := 164) (lo' := (ri_st1 (ri_st1 (ri_st1 lo 4 (.int x3)) 5 (.int 1)) 6 (.int (eh_i G 2 7)))) (st' := [.int 2, .int (eh_i (eh_V h44) 33 (x3).toNatClampNeg)]) rfl (e := (.iconst 2, 1, [], .null)) rfl rfl (fun _ _ => rfl)
            rcases eh_q1 (E.br (p := 167) (c := 1) (tgt := 172) (a := eh_i (eh_V h44) 33 (x3).toNatClampNeg) (b := 2) (st' := []) rfl (e := (.if_icmp .ne 8, 3, [172], .null)) rfl rfl (fun _ _ => rfl) rfl) with ⟨c49, E⟩ | ⟨c49, E⟩
            · skip
              have E := E.pu (p := 174) (lo' := (ri_st1 (ri_st1 (ri_st1 lo 4 (.int x3)) 5 (.int 1)) 6 (.int (eh_i G 2 7)))) (st' := [.int 11]) rfl (e := (.bipush 11, 2, [], .null)) rfl rfl (fun _ _ => rfl)
              have E := E.so (p := 176) (t := ri_isI) (i := 6) (n := 2) rfl (e := (.istore 6, 2, [], .null)) rfl rfl (fun _ _ => rfl) rfl
              have k50_6 : ri_lk (ri_st1 (ri_st1 (ri_st1 (ri_st1 lo 4 (.int x3)) 5 (.int 1)) 6 (.int (eh_i G 2 7))) 6 (.int 11)) 6 = some (.int 11) := eh_self
              have k50_0 : ri_lk (ri_st1 (ri_st1 (ri_st1 (ri_st1 lo 4 (.int x3)) 5 (.int 1)) 6 (.int (eh_i G 2 7))) 6 (.int 11)) 0 = some (.ref 199) := eh_keep (by decide) (Or.inl rfl) k43_0
              have k50_1 : ri_lk (ri_st1 (ri_st1 (ri_st1 (ri_st1 lo 4 (.int x3)) 5 (.int 1)) 6 (.int (eh_i G 2 7))) 6 (.int 11)) 1 = some (.ref 2) := eh_keep (by decide) (Or.inl rfl) k43_1
              have k50_2 : ri_lk (ri_st1 (ri_st1 (ri_st1 (ri_st1 lo 4 (.int x3)) 5 (.int 1)) 6 (.int (eh_i G 2 7))) 6 (.int 11)) 2 = some (.ref 23) := eh_keep (by decide) (Or.inl rfl) k43_2
              have k50_3 : ri_lk (ri_st1 (ri_st1 (ri_st1 (ri_st1 lo 4 (.int x3)) 5 (.int 1)) 6 (.int (eh_i G 2 7))) 6 (.int 11)) 3 = some (.int 0) := eh_keep (by decide) (Or.inl rfl) k43_3
              have k50_4 : ri_lk (ri_st1 (ri_st1 (ri_st1 (ri_st1 lo 4 (.int x3)) 5 (.int 1)) 6 (.int (eh_i G 2 7))) 6 (.int 11)) 4 = some (.int x3) := eh_keep (by decide) (Or.inl rfl) k43_4
              have k50_5 : ri_lk (ri_st1 (ri_st1 (ri_st1 (ri_st1 lo 4 (.int x3)) 5 (.int 1)) 6 (.int (eh_i G 2 7))) 6 (.int 11)) 5 = some (.int 1) := eh_keep (by decide) (Or.inl rfl) k43_5
              have E := E.ld (p := 177) (t := ri_isA) (i := 1) (n := 1) (v := .ref 2) rfl (e := (.aload_n 1, 1, [], .null)) rfl rfl (fun _ _ => rfl) k50_1 rfl
              have E := E.ld (p := 179) (t := ri_isI) (i := 6) (n := 2) (v := .int 11) rfl (e := (.iload 6, 2, [], .null)) rfl rfl (fun _ _ => rfl) k50_6 rfl
              obtain ⟨v1, h51, X, E⟩ := E.cv (p := 182) (as := [.int 11]) (b := 2) (r := []) rfl (x := 66) (m := 3) (w := .null) (j := 81) (n := 1) (t := 8) (u := [1081, 1083, 1082]) rfl rfl rfl
              obtain ⟨x53, rfl, ivk52, hNk52⟩ := ts_81 (d := d) X (by rw [hV47]; exact (iS_u ivk45 (ivk45.1.ui rfl) rfl))
              have Xk52 := X
              have E : eh_e _ _ 182 (ri_st1 (ri_st1 (ri_st1 (ri_st1 lo 4 (.int x3)) 5 (.int 1)) 6 (.int (eh_i G 2 7))) 6 (.int 11)) [.int x53] h51 rs h' := E
              rcases eh_q1 (E.br (p := 185) (c := 1) (tgt := 187) (a := x53) (b := 0) (st' := []) rfl (e := (.ifCond .ne 5, 3, [187], .null)) rfl rfl (fun _ _ => rfl) rfl) with ⟨c54, E⟩ | ⟨c54, E⟩
              · skip
                exact Or.inr (Or.inr (Or.inr (Or.inr (Or.inr (Or.inr (Or.inr (Or.inl ⟨x3, h2, h44, h46, x53, h51, c1, c4, c8, c13, c36, c42, hV5, Xk45, ivk45, c49, hV47, Xk52, ivk52, c54, _, _, E, (rfl : eh_V h51 = eh_V h51), (hNk52.trans (hN48.trans (hNk45.trans hN6))), ivk52, k50_0, k50_1, k50_2, k50_3, k50_4, k50_5, k50_6⟩)))))))
              · skip
                have E := E.pu (p := 186) (lo' := (ri_st1 (ri_st1 (ri_st1 (ri_st1 lo 4 (.int x3)) 5 (.int 1)) 6 (.int (eh_i G 2 7))) 6 (.int 11))) (st' := [.int 0]) rfl (e := (.iconst 0, 1, [], .null)) rfl rfl (fun _ _ => rfl)
                obtain ⟨r1, r2⟩ := E.reti rfl (m := 1) (ax := []) (w := .null) rfl
                exact Or.inr (Or.inr (Or.inr (Or.inr (Or.inr (Or.inr (Or.inr (Or.inr (Or.inl ⟨x3, h2, h44, h46, x53, h51, c1, c4, c8, c13, c36, c42, hV5, Xk45, ivk45, c49, hV47, Xk52, ivk52, c54, r1, ((congrArg eh_V r2).trans (rfl : eh_V h51 = eh_V h51)), ((congrArg eh_N r2).trans (hNk52.trans (hN48.trans (hNk45.trans hN6)))), ivk52⟩))))))))
            · skip
              have E := E.pu (p := 169) (lo' := (ri_st1 (ri_st1 (ri_st1 lo 4 (.int x3)) 5 (.int 1)) 6 (.int (eh_i G 2 7)))) (st' := [.int 9]) rfl (e := (.bipush 9, 2, [], .null)) rfl rfl (fun _ _ => rfl)
              have E := E.pu (p := 174) (lo' := (ri_st1 (ri_st1 (ri_st1 lo 4 (.int x3)) 5 (.int 1)) 6 (.int (eh_i G 2 7)))) (st' := [.int 9]) rfl (e := (.goto 5, 3, [174], .null)) rfl rfl (fun _ _ => rfl)
              have E := E.so (p := 176) (t := ri_isI) (i := 6) (n := 2) rfl (e := (.istore 6, 2, [], .null)) rfl rfl (fun _ _ => rfl) rfl
              have k55_6 : ri_lk (ri_st1 (ri_st1 (ri_st1 (ri_st1 lo 4 (.int x3)) 5 (.int 1)) 6 (.int (eh_i G 2 7))) 6 (.int 9)) 6 = some (.int 9) := eh_self
              have k55_0 : ri_lk (ri_st1 (ri_st1 (ri_st1 (ri_st1 lo 4 (.int x3)) 5 (.int 1)) 6 (.int (eh_i G 2 7))) 6 (.int 9)) 0 = some (.ref 199) := eh_keep (by decide) (Or.inl rfl) k43_0
              have k55_1 : ri_lk (ri_st1 (ri_st1 (ri_st1 (ri_st1 lo 4 (.int x3)) 5 (.int 1)) 6 (.int (eh_i G 2 7))) 6 (.int 9)) 1 = some (.ref 2) := eh_keep (by decide) (Or.inl rfl) k43_1
              have k55_2 : ri_lk (ri_st1 (ri_st1 (ri_st1 (ri_st1 lo 4 (.int x3)) 5 (.int 1)) 6 (.int (eh_i G 2 7))) 6 (.int 9)) 2 = some (.ref 23) := eh_keep (by decide) (Or.inl rfl) k43_2
              have k55_3 : ri_lk (ri_st1 (ri_st1 (ri_st1 (ri_st1 lo 4 (.int x3)) 5 (.int 1)) 6 (.int (eh_i G 2 7))) 6 (.int 9)) 3 = some (.int 0) := eh_keep (by decide) (Or.inl rfl) k43_3
              have k55_4 : ri_lk (ri_st1 (ri_st1 (ri_st1 (ri_st1 lo 4 (.int x3)) 5 (.int 1)) 6 (.int (eh_i G 2 7))) 6 (.int 9)) 4 = some (.int x3) := eh_keep (by decide) (Or.inl rfl) k43_4
              have k55_5 : ri_lk (ri_st1 (ri_st1 (ri_st1 (ri_st1 lo 4 (.int x3)) 5 (.int 1)) 6 (.int (eh_i G 2 7))) 6 (.int 9)) 5 = some (.int 1) := eh_keep (by decide) (Or.inl rfl) k43_5
              have E := E.ld (p := 177) (t := ri_isA) (i := 1) (n := 1) (v := .ref 2) rfl (e := (.aload_n 1, 1, [], .null)) rfl rfl (fun _ _ => rfl) k55_1 rfl
              have E := E.ld (p := 179) (t := ri_isI) (i := 6) (n := 2) (v := .int 9) rfl (e := (.iload 6, 2, [], .null)) rfl rfl (fun _ _ => rfl) k55_6 rfl
              obtain ⟨v1, h56, X, E⟩ := E.cv (p := 182) (as := [.int 9]) (b := 2) (r := []) rfl (x := 66) (m := 3) (w := .null) (j := 81) (n := 1) (t := 8) (u := [1081, 1083, 1082]) rfl rfl rfl
              obtain ⟨x58, rfl, ivk57, hNk57⟩ := ts_81 (d := d) X (by rw [hV47]; exact (iS_u ivk45 (ivk45.1.ui rfl) rfl))
              have Xk57 := X
              have E : eh_e _ _ 182 (ri_st1 (ri_st1 (ri_st1 (ri_st1 lo 4 (.int x3)) 5 (.int 1)) 6 (.int (eh_i G 2 7))) 6 (.int 9)) [.int x58] h56 rs h' := E
              rcases eh_q1 (E.br (p := 185) (c := 1) (tgt := 187) (a := x58) (b := 0) (st' := []) rfl (e := (.ifCond .ne 5, 3, [187], .null)) rfl rfl (fun _ _ => rfl) rfl) with ⟨c59, E⟩ | ⟨c59, E⟩
              · skip
                exact Or.inr (Or.inr (Or.inr (Or.inr (Or.inr (Or.inr (Or.inr (Or.inr (Or.inr (Or.inl ⟨x3, h2, h44, h46, x58, h56, c1, c4, c8, c13, c36, c42, hV5, Xk45, ivk45, c49, hV47, Xk57, ivk57, c59, _, _, E, (rfl : eh_V h56 = eh_V h56), (hNk57.trans (hN48.trans (hNk45.trans hN6))), ivk57, k55_0, k55_1, k55_2, k55_3, k55_4, k55_5, k55_6⟩)))))))))
              · skip
                have E := E.pu (p := 186) (lo' := (ri_st1 (ri_st1 (ri_st1 (ri_st1 lo 4 (.int x3)) 5 (.int 1)) 6 (.int (eh_i G 2 7))) 6 (.int 9))) (st' := [.int 0]) rfl (e := (.iconst 0, 1, [], .null)) rfl rfl (fun _ _ => rfl)
                obtain ⟨r1, r2⟩ := E.reti rfl (m := 1) (ax := []) (w := .null) rfl
                exact Or.inr (Or.inr (Or.inr (Or.inr (Or.inr (Or.inr (Or.inr (Or.inr (Or.inr (Or.inr (Or.inl ⟨x3, h2, h44, h46, x58, h56, c1, c4, c8, c13, c36, c42, hV5, Xk45, ivk45, c49, hV47, Xk57, ivk57, c59, r1, ((congrArg eh_V r2).trans (rfl : eh_V h56 = eh_V h56)), ((congrArg eh_N r2).trans (hNk57.trans (hN48.trans (hNk45.trans hN6)))), ivk57⟩))))))))))
          · skip
            have E := E.ld (p := 120) (t := ri_isA) (i := 1) (n := 1) (v := .ref 2) rfl (e := (.aload_n 1, 1, [], .null)) rfl rfl (fun _ _ => rfl) k41_1 rfl
            have E := E.pu (p := 121) (lo' := (ri_st1 (ri_st1 lo 4 (.int x3)) 5 (.int 1))) (st' := [.int 4, .ref 2]) rfl (e := (.iconst 4, 1, [], .null)) rfl rfl (fun _ _ => rfl)
            obtain ⟨v1, h60, X, E⟩ := E.cv (p := 124) (as := [.int 4]) (b := 2) (r := []) rfl (x := 41) (m := 3) (w := .null) (j := 78) (n := 1) (t := 8) (u := [1078, 678, 677]) rfl rfl rfl
            rcases sp_78 (d := d + 2) X hV5 (iv.1) with ⟨rfl, hV61, hN62⟩
            have hV61 : _ = eh_u (eh_u G 2 9 (.int 4)) 2 10 (.int (eh_i G 2 6)) := hV61
            have E : eh_e _ _ 124 (ri_st1 (ri_st1 lo 4 (.int x3)) 5 (.int 1)) [.int 0] _ rs h' := E
            obtain ⟨r1, r2⟩ := E.reti rfl (m := 1) (ax := []) (w := .null) rfl
            exact Or.inr (Or.inr (Or.inr (Or.inr (Or.inr (Or.inr (Or.inr (Or.inr (Or.inr (Or.inr (Or.inr (Or.inl ⟨x3, c1, c4, c8, c13, c36, c42, r1, ((congrArg eh_V r2).trans hV61), ((congrArg eh_N r2).trans (hN62.trans hN6)), (iS_u (iS_u iv ((iv.1).ui rfl) rfl) (((iv.1).ui rfl).ui rfl) rfl)⟩)))))))))))
  · skip
    have E := E.ld (p := 37) (t := ri_isA) (i := 1) (n := 1) (v := .ref 2) rfl (e := (.aload_n 1, 1, [], .null)) rfl rfl (fun _ _ => rfl) l1 rfl
    have E := E.pu (p := 38) (lo' := lo) (st' := [.int 1, .ref 2]) rfl (e := (.iconst 1, 1, [], .null)) rfl rfl (fun _ _ => rfl)
    obtain ⟨v1, h63, X, E⟩ := E.cv (p := 41) (as := [.int 1]) (b := 2) (r := []) rfl (x := 41) (m := 3) (w := .null) (j := 78) (n := 1) (t := 8) (u := [1078, 678, 677]) rfl rfl rfl
    rcases sp_78 (d := d + 2) X hV (iv.1) with ⟨rfl, hV64, hN65⟩
    have hV64 : _ = eh_u (eh_u G 2 9 (.int 1)) 2 10 (.int (eh_i G 2 6)) := hV64
    have E : eh_e _ _ 41 lo [.int 0] _ rs h' := E
    obtain ⟨r1, r2⟩ := E.reti rfl (m := 1) (ax := []) (w := .null) rfl
    exact Or.inr (Or.inr (Or.inr (Or.inr (Or.inr (Or.inr (Or.inr (Or.inr (Or.inr (Or.inr (Or.inr (Or.inr (⟨c1, r1, ((congrArg eh_V r2).trans hV64), ((congrArg eh_N r2).trans hN65), (iS_u (iS_u iv ((iv.1).ui rfl) rfl) (((iv.1).ui rfl).ui rfl) rfl)⟩))))))))))))
theorem za_d {d : Nat} {lo : List (Nat × Value)} {h h' : ri_H} {rs : List Value} {G : eh_W} {b : Nat → Int32} {n m : Nat} {ke : Int32} (E : eh_e (ri_calE ri_md (d + 4)) md_2 187 lo [] h rs h') (hV : eh_V h = G) (iv : iS b n m G) (l0 : ri_lk lo 0 = some (.ref 199)) (l1 : ri_lk lo 1 = some (.ref 2)) (l2 : ri_lk lo 2 = some (.ref 23)) (l6 : ri_lk lo 6 = some (.int ke)) : (∃ (h1 : ri_H), ∃ (x6 : Int32), ∃ (h4 : ri_H), eh_V h1 = eh_u G 200 (eh_i G 199 3).toNatClampNeg (.int ke) ∧ ri_calE ri_md (d + 4) 3 [.ref 2, .ref 23, .int ke] h1 = some (some (.int x6), h4) ∧ iS b n m (eh_V h4) ∧ (eh_i (eh_u (eh_V h4) 202 (eh_i G 199 3).toNatClampNeg (.int x6)) 202 (eh_i (eh_V h4) 199 3).toNatClampNeg) = (-1) ∧ rs = [.int 0] ∧ eh_V h' = eh_u (eh_V h4) 202 (eh_i G 199 3).toNatClampNeg (.int x6) ∧ eh_N h' = eh_N h ∧ iS b n m (eh_u (eh_V h4) 202 (eh_i G 199 3).toNatClampNeg (.int x6))) ∨ (∃ (h1 : ri_H), ∃ (x6 : Int32), ∃ (h4 : ri_H), eh_V h1 = eh_u G 200 (eh_i G 199 3).toNatClampNeg (.int ke) ∧ ri_calE ri_md (d + 4) 3 [.ref 2, .ref 23, .int ke] h1 = some (some (.int x6), h4) ∧ iS b n m (eh_V h4) ∧ ¬ ((eh_i (eh_u (eh_V h4) 202 (eh_i G 199 3).toNatClampNeg (.int x6)) 202 (eh_i (eh_V h4) 199 3).toNatClampNeg) = (-1)) ∧ rs = [.int 1] ∧ eh_V h' = eh_u (eh_V h4) 202 (eh_i G 199 3).toNatClampNeg (.int x6) ∧ eh_N h' = eh_N h ∧ iS b n m (eh_u (eh_V h4) 202 (eh_i G 199 3).toNatClampNeg (.int x6))) := by
  have E := E.ld (p := 188) (t := ri_isA) (i := 0) (n := 1) (v := .ref 199) rfl (e := (.aload_n 0, 1, [], .null)) rfl rfl (fun _ _ => rfl) l0 rfl
  have E := E.gr (n := 200) (p := 191) rfl (x := 9) (m := 3) (w := .null) (t := 0) (i := 0) (u := 510) rfl rfl hV (iv.1) rfl
  have E := E.ld (p := 192) (t := ri_isA) (i := 0) (n := 1) (v := .ref 199) rfl (e := (.aload_n 0, 1, [], .null)) rfl rfl (fun _ _ => rfl) l0 rfl
  have E := E.gi (y := eh_i G 199 3) (p := 195) rfl (x := 21) (m := 3) (w := .null) (t := 0) (i := 3) (u := 513) rfl rfl hV (iv.1) rfl rfl
  have E := E.ld (p := 197) (t := ri_isI) (i := 6) (n := 2) (v := .int ke) rfl (e := (.iload 6, 2, [], .null)) rfl rfl (fun _ _ => rfl) l6 rfl
  obtain ⟨h1, hV2, hN3, E⟩ := E.aw (gg := ri_g1) (b := true) (p := 198) (n := (eh_i G 199 3).toNatClampNeg) rfl (e := (.iastore, 1, [], .null)) rfl rfl (fun _ _ => rfl) rfl hV rfl
  have E := E.ld (p := 199) (t := ri_isA) (i := 0) (n := 1) (v := .ref 199) rfl (e := (.aload_n 0, 1, [], .null)) rfl rfl (fun _ _ => rfl) l0 rfl
  have E := E.gr (n := 202) (p := 202) rfl (x := 18) (m := 3) (w := .null) (t := 0) (i := 2) (u := 512) rfl rfl hV2 ((iv.1).ui rfl) rfl
  have E := E.ld (p := 203) (t := ri_isA) (i := 0) (n := 1) (v := .ref 199) rfl (e := (.aload_n 0, 1, [], .null)) rfl rfl (fun _ _ => rfl) l0 rfl
  have E := E.gi (y := eh_i G 199 3) (p := 206) rfl (x := 21) (m := 3) (w := .null) (t := 0) (i := 3) (u := 513) rfl rfl hV2 ((iv.1).ui rfl) rfl rfl
  have E := E.ld (p := 207) (t := ri_isA) (i := 1) (n := 1) (v := .ref 2) rfl (e := (.aload_n 1, 1, [], .null)) rfl rfl (fun _ _ => rfl) l1 rfl
  have E := E.ld (p := 208) (t := ri_isA) (i := 2) (n := 1) (v := .ref 23) rfl (e := (.aload_n 2, 1, [], .null)) rfl rfl (fun _ _ => rfl) l2 rfl
  have E := E.ld (p := 210) (t := ri_isI) (i := 6) (n := 2) (v := .int ke) rfl (e := (.iload 6, 2, [], .null)) rfl rfl (fun _ _ => rfl) l6 rfl
  obtain ⟨v1, h4, X, E⟩ := E.cs (p := 213) (as := [.ref 2, .ref 23, .int ke]) (r := [.int (eh_i G 199 3), .ref 202]) rfl (x := 69) (m := 3) (w := .null) (j := 3) (n := 3) (t := 0) (u := [1086, 1087]) rfl rfl rfl
  obtain ⟨x6, rfl, ivk5, hNk5⟩ := ts_3 (d := d) X (by rw [hV2]; exact (iS_u iv ((iv.1).ui rfl) rfl))
  have Xk5 := X
  have E : eh_e _ _ 213 lo [.int x6, .int (eh_i G 199 3), .ref 202] h4 rs h' := E
  obtain ⟨h7, hV8, hN9, E⟩ := E.aw (gg := ri_g1) (b := true) (p := 214) (n := (eh_i G 199 3).toNatClampNeg) rfl (e := (.iastore, 1, [], .null)) rfl rfl (fun _ _ => rfl) rfl (rfl : eh_V h4 = eh_V h4) rfl
  have E := E.ld (p := 215) (t := ri_isA) (i := 0) (n := 1) (v := .ref 199) rfl (e := (.aload_n 0, 1, [], .null)) rfl rfl (fun _ _ => rfl) l0 rfl
  have E := E.gr (n := 202) (p := 218) rfl (x := 18) (m := 3) (w := .null) (t := 0) (i := 2) (u := 512) rfl rfl hV8 (ivk5.1.ui rfl) rfl
  have E := E.ld (p := 219) (t := ri_isA) (i := 0) (n := 1) (v := .ref 199) rfl (e := (.aload_n 0, 1, [], .null)) rfl rfl (fun _ _ => rfl) l0 rfl
  have E := E.gi (y := eh_i (eh_V h4) 199 3) (p := 222) rfl (x := 21) (m := 3) (w := .null) (t := 0) (i := 3) (u := 513) rfl rfl hV8 (ivk5.1.ui rfl) rfl rfl
  have E := E.ai (p := 223) (z := eh_i (eh_u (eh_V h4) 202 (eh_i G 199 3).toNatClampNeg (.int x6)) 202 (eh_i (eh_V h4) 199 3).toNatClampNeg) (n := (eh_i (eh_V h4) 199 3).toNatClampNeg) rfl (e := (.iaload, 1, [], .null)) rfl rfl (fun _ _ => rfl) rfl hV8 (ivk5.1.ui rfl) rfl rfl rfl
  have E := E.pu (p := 224) (lo' := lo) (st' := [.int (-1), .int (eh_i (eh_u (eh_V h4) 202 (eh_i G 199 3).toNatClampNeg (.int x6)) 202 (eh_i (eh_V h4) 199 3).toNatClampNeg)]) rfl (e := (.iconst (-1), 1, [], .null)) rfl rfl (fun _ _ => rfl)
  rcases eh_q0 (E.br (p := 227) (c := 0) (tgt := 231) (a := eh_i (eh_u (eh_V h4) 202 (eh_i G 199 3).toNatClampNeg (.int x6)) 202 (eh_i (eh_V h4) 199 3).toNatClampNeg) (b := (-1)) (st' := []) rfl (e := (.if_icmp .eq 7, 3, [231], .null)) rfl rfl (fun _ _ => rfl) rfl) with ⟨c10, E⟩ | ⟨c10, E⟩
  · skip
    have E := E.pu (p := 232) (lo' := lo) (st' := [.int 0]) rfl (e := (.iconst 0, 1, [], .null)) rfl rfl (fun _ _ => rfl)
    obtain ⟨r1, r2⟩ := E.reti rfl (m := 1) (ax := []) (w := .null) rfl
    exact Or.inl ⟨h1, x6, h4, hV2, Xk5, ivk5, c10, r1, ((congrArg eh_V r2).trans hV8), ((congrArg eh_N r2).trans (hN9.trans (hNk5.trans hN3))), (iS_u ivk5 (ivk5.1.ui rfl) rfl)⟩
  · skip
    have E := E.pu (p := 228) (lo' := lo) (st' := [.int 1]) rfl (e := (.iconst 1, 1, [], .null)) rfl rfl (fun _ _ => rfl)
    have E := E.pu (p := 232) (lo' := lo) (st' := [.int 1]) rfl (e := (.goto 4, 3, [232], .null)) rfl rfl (fun _ _ => rfl)
    obtain ⟨r1, r2⟩ := E.reti rfl (m := 1) (ax := []) (w := .null) rfl
    exact Or.inr (⟨h1, x6, h4, hV2, Xk5, ivk5, c10, r1, ((congrArg eh_V r2).trans hV8), ((congrArg eh_N r2).trans (hN9.trans (hNk5.trans hN3))), (iS_u ivk5 (ivk5.1.ui rfl) rfl)⟩)
