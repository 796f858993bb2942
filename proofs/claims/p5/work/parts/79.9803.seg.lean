theorem zh_a {cal : eh_K} {lo : List (Nat × Value)} {h h' : ri_H} {rs : List Value} {G : eh_W} {li : Int32} (E : eh_e cal md_137 0 lo [] h rs h') (hV : eh_V h = G) (ty : eh_ty tC G) (l0 : ri_lk lo 0 = some (.ref 0)) (l1 : ri_lk lo 1 = some (.int li)) : (li = 0 ∧ ∃ h1 loz v1 hz, eh_V h1 = G ∧ eh_N h1 = eh_N h ∧ eh_ty tC G ∧ cal 105 [.ref 0, .int 400] h1 = some (v1, hz) ∧ eh_e cal md_137 20 loz (v1.toList ++ []) hz rs h' ∧ ri_lk loz 0 = some (.ref 0) ∧ ri_lk loz 1 = some (.int li)) ∨ (¬ (li = 0) ∧ li = 1 ∧ ∃ h1 loz v1 hz, eh_V h1 = G ∧ eh_N h1 = eh_N h ∧ eh_ty tC G ∧ cal 105 [.ref 0, .int 400] h1 = some (v1, hz) ∧ eh_e cal md_137 20 loz (v1.toList ++ []) hz rs h' ∧ ri_lk loz 0 = some (.ref 0) ∧ ri_lk loz 1 = some (.int li)) ∨ (¬ (li = 0) ∧ ¬ (li = 1) ∧ rs = [.int (-1000)] ∧ eh_V h' = G ∧ eh_N h' = eh_N h) := by
  have E := E.ld (p := 1) (t := ri_isI) (i := 1) (n := 1) (v := .int li) rfl (e := (.iload_n 1, 1, [], .null)) rfl rfl (fun _ _ => rfl) l1 rfl
  rcases eh_q0 (E.br (p := 4) (c := 0) (tgt := 13) (a := li) (b := 0) (st' := []) rfl (e := (.ifCond .eq 12, 3, [13], .null)) rfl rfl (fun _ _ => rfl) rfl) with ⟨c1, E⟩ | ⟨c1, E⟩
  · skip
    have E := E.ld (p := 14) (t := ri_isA) (i := 0) (n := 1) (v := .ref 0) rfl (e := (.aload_n 0, 1, [], .null)) rfl rfl (fun _ _ => rfl) l0 rfl
    have E := E.pu (p := 17) (lo' := lo) (st' := [.int 400, .ref 0]) rfl (e := (.sipush 400, 3, [], .null)) rfl rfl (fun _ _ => rfl)
    obtain ⟨v1, h2, X, E⟩ := E.cv (p := 20) (as := [.int 400]) (b := 0) (r := []) rfl (x := 115) (m := 3) (w := .null) (j := 105) (n := 1) (t := 11) (u := [635, 1, 637]) rfl rfl rfl
    exact Or.inl ⟨c1, _, _, _, _, hV, rfl, ty, X, E, l0, l1⟩
  · skip
    have E := E.ld (p := 5) (t := ri_isI) (i := 1) (n := 1) (v := .int li) rfl (e := (.iload_n 1, 1, [], .null)) rfl rfl (fun _ _ => rfl) l1 rfl
    have E := E.pu (p := 6) (lo' := lo) (st' := [.int 1, .int li]) rfl (e := (.iconst 1, 1, [], .null)) rfl rfl (fun _ _ => rfl)
    rcases eh_q0 (E.br (p := 9) (c := 0) (tgt := 13) (a := li) (b := 1) (st' := []) rfl (e := (.if_icmp .eq 7, 3, [13], .null)) rfl rfl (fun _ _ => rfl) rfl) with ⟨c3, E⟩ | ⟨c3, E⟩
    · skip
      have E := E.ld (p := 14) (t := ri_isA) (i := 0) (n := 1) (v := .ref 0) rfl (e := (.aload_n 0, 1, [], .null)) rfl rfl (fun _ _ => rfl) l0 rfl
      have E := E.pu (p := 17) (lo' := lo) (st' := [.int 400, .ref 0]) rfl (e := (.sipush 400, 3, [], .null)) rfl rfl (fun _ _ => rfl)
      obtain ⟨v1, h4, X, E⟩ := E.cv (p := 20) (as := [.int 400]) (b := 0) (r := []) rfl (x := 115) (m := 3) (w := .null) (j := 105) (n := 1) (t := 11) (u := [635, 1, 637]) rfl rfl rfl
      exact Or.inr (Or.inl ⟨c1, c3, _, _, _, _, hV, rfl, ty, X, E, l0, l1⟩)
    · skip
      have E := E.pu (p := 12) (lo' := lo) (st' := [.int (-1000)]) rfl (e := (.sipush (-1000), 3, [], .null)) rfl rfl (fun _ _ => rfl)
      obtain ⟨r1, r2⟩ := E.reti rfl (m := 1) (ax := []) (w := .null) rfl
      exact Or.inr (Or.inr (⟨c1, c3, r1, ((congrArg eh_V r2).trans hV), (congrArg eh_N r2)⟩))
theorem zh_b {cal : eh_K} {lo : List (Nat × Value)} {h h' : ri_H} {rs : List Value} {G : eh_W} {li : Int32} (E : eh_e cal md_137 20 lo [] h rs h') (hV : eh_V h = G) (ty : eh_ty tC G) (l0 : ri_lk lo 0 = some (.ref 0)) (l1 : ri_lk lo 1 = some (.int li)) : ∃ h1 loz v1 hz, eh_V h1 = G ∧ eh_N h1 = eh_N h ∧ eh_ty tC G ∧ cal 1 [.ref 199, .ref 2, .ref 23] h1 = some (v1, hz) ∧ eh_e cal md_137 35 loz (v1.toList ++ []) hz rs h' ∧ ri_lk loz 0 = some (.ref 0) ∧ ri_lk loz 1 = some (.int li) := by
  have E := E.ld (p := 21) (t := ri_isA) (i := 0) (n := 1) (v := .ref 0) rfl (e := (.aload_n 0, 1, [], .null)) rfl rfl (fun _ _ => rfl) l0 rfl
  have E := E.gr (n := 199) (p := 24) rfl (x := 83) (m := 3) (w := .null) (t := 11) (i := 11) (u := 578) rfl rfl hV ty rfl
  have E := E.ld (p := 25) (t := ri_isA) (i := 0) (n := 1) (v := .ref 0) rfl (e := (.aload_n 0, 1, [], .null)) rfl rfl (fun _ _ => rfl) l0 rfl
  have E := E.gr (n := 2) (p := 28) rfl (x := 22) (m := 3) (w := .null) (t := 11) (i := 2) (u := 569) rfl rfl hV ty rfl
  have E := E.ld (p := 29) (t := ri_isA) (i := 0) (n := 1) (v := .ref 0) rfl (e := (.aload_n 0, 1, [], .null)) rfl rfl (fun _ _ => rfl) l0 rfl
  have E := E.gr (n := 23) (p := 32) rfl (x := 45) (m := 3) (w := .null) (t := 11) (i := 5) (u := 572) rfl rfl hV ty rfl
  obtain ⟨v1, h1, X, E⟩ := E.cv (p := 35) (as := [.ref 2, .ref 23]) (b := 199) (r := []) rfl (x := 337) (m := 3) (w := .null) (j := 1) (n := 2) (t := 0) (u := [1066, 1068, 1067]) rfl rfl rfl
  exact ⟨_, _, _, _, hV, rfl, ty, X, E, l0, l1⟩
theorem zh_c {cal : eh_K} {lo : List (Nat × Value)} {h h' : ri_H} {rs : List Value} {G : eh_W} {x li : Int32} (E : eh_e cal md_137 35 lo [.int x] h rs h') (hV : eh_V h = G) (ty : eh_ty tC G) (l0 : ri_lk lo 0 = some (.ref 0)) (l1 : ri_lk lo 1 = some (.int li)) : (¬ (x = 0) ∧ ∃ hz loz, eh_e cal md_137 62 loz [] hz rs h' ∧ eh_V hz = eh_u G 0 15 (.int (eh_i G 2 9)) ∧ eh_N hz = eh_N h ∧ eh_ty tC (eh_u G 0 15 (.int (eh_i G 2 9))) ∧ ri_lk loz 0 = some (.ref 0) ∧ ri_lk loz 1 = some (.int li) ∧ ri_lk loz 2 = some (.int x)) ∨ (x = 0 ∧ rs = [.int ((-2) - (eh_i G 2 10))] ∧ eh_V h' = eh_u G 0 15 (.int (eh_i G 2 9)) ∧ eh_N h' = eh_N h) := by
  have E := E.so (p := 36) (t := ri_isI) (i := 2) (n := 1) rfl (e := (.istore_n 2, 1, [], .null)) rfl rfl (fun _ _ => rfl) rfl
  have k1_2 : ri_lk (ri_st1 lo 2 (.int x)) 2 = some (.int x) := eh_self
  have k1_0 : ri_lk (ri_st1 lo 2 (.int x)) 0 = some (.ref 0) := eh_keep (by decide) (Or.inl rfl) l0
  have k1_1 : ri_lk (ri_st1 lo 2 (.int x)) 1 = some (.int li) := eh_keep (by decide) (Or.inl rfl) l1
  have E := E.ld (p := 37) (t := ri_isA) (i := 0) (n := 1) (v := .ref 0) rfl (e := (.aload_n 0, 1, [], .null)) rfl rfl (fun _ _ => rfl) k1_0 rfl
  have E := E.ld (p := 38) (t := ri_isA) (i := 0) (n := 1) (v := .ref 0) rfl (e := (.aload_n 0, 1, [], .null)) rfl rfl (fun _ _ => rfl) k1_0 rfl
  have E := E.gr (n := 2) (p := 41) rfl (x := 22) (m := 3) (w := .null) (t := 11) (i := 2) (u := 569) rfl rfl hV ty rfl
  have E := E.gi (y := eh_i G 2 9) (p := 44) rfl (x := 122) (m := 3) (w := .null) (t := 8) (i := 9) (u := 205) rfl rfl hV ty rfl rfl
  obtain ⟨h2, hV3, hN4, E⟩ := E.gp (p := 47) rfl (x := 105) (m := 3) (w := .null) (t := 11) (i := 15) (u := 582) (y := 0) rfl rfl hV
  have E := E.ld (p := 48) (t := ri_isI) (i := 2) (n := 1) (v := .int x) rfl (e := (.iload_n 2, 1, [], .null)) rfl rfl (fun _ _ => rfl) k1_2 rfl
  rcases eh_q1 (E.br (p := 51) (c := 1) (tgt := 62) (a := x) (b := 0) (st' := []) rfl (e := (.ifCond .ne 14, 3, [62], .null)) rfl rfl (fun _ _ => rfl) rfl) with ⟨c5, E⟩ | ⟨c5, E⟩
  · skip
    exact Or.inl ⟨c5, _, _, E, hV3, hN4, (ty.ui rfl), k1_0, k1_1, k1_2⟩
  · skip
    have E := E.pu (p := 53) (lo' := (ri_st1 lo 2 (.int x))) (st' := [.int (-2)]) rfl (e := (.bipush (-2), 2, [], .null)) rfl rfl (fun _ _ => rfl)
    have E := E.ld (p := 54) (t := ri_isA) (i := 0) (n := 1) (v := .ref 0) rfl (e := (.aload_n 0, 1, [], .null)) rfl rfl (fun _ _ => rfl) k1_0 rfl
    have E := E.gr (n := 2) (p := 57) rfl (x := 22) (m := 3) (w := .null) (t := 11) (i := 2) (u := 569) rfl rfl hV3 (ty.ui rfl) rfl
    have E := E.gi (y := eh_i G 2 10) (p := 60) rfl (x := 125) (m := 3) (w := .null) (t := 8) (i := 10) (u := 207) rfl rfl hV3 (ty.ui rfl) rfl rfl
    have E := E.pu (p := 61) (lo' := (ri_st1 lo 2 (.int x))) (st' := [.int ((-2) - (eh_i G 2 10))]) rfl (e := (.isub, 1, [], .null)) rfl rfl (fun _ _ => rfl)
    obtain ⟨r1, r2⟩ := E.reti rfl (m := 1) (ax := []) (w := .null) rfl
    exact Or.inr (⟨c5, r1, ((congrArg eh_V r2).trans hV3), ((congrArg eh_N r2).trans hN4)⟩)
