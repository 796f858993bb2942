theorem mk_i {d : Nat} {lo : List (Nat × Value)} {h h' : ri_H} {rs : List Value} {G : eh_W} {b : Nat → Int32} {n m : Nat} (E : eh_e (ri_calE ri_md (d + 6)) md_172 35 lo [] h rs h') (hV : eh_V h = G) (iv : iM b n m G) (l0 : ri_lk lo 0 = some (.ref 0)) : ((eh_i G 0 11) = 0 ∧ ∃ hz loz, eh_e (ri_calE ri_md (d + 6)) md_172 78 loz [] hz rs h' ∧ eh_V hz = G ∧ eh_N hz = eh_N h ∧ iM b n m G ∧ ri_lk loz 0 = some (.ref 0)) ∨ (∃ (x4 : Int32), ∃ (h2 : ri_H), ¬ ((eh_i G 0 11) = 0) ∧ ri_calE ri_md (d + 6) 170 [.ref 0] h = some (some (.int x4), h2) ∧ iM b n m (eh_V h2) ∧ x4 = 0 ∧ rs = [.int ((-1) - (eh_i (eh_V h2) 0 16))] ∧ eh_V h' = (eh_V h2) ∧ eh_N h' = eh_N h ∧ iM b n m (eh_V h2)) ∨ (∃ (x4 : Int32), ∃ (h2 : ri_H), ∃ (x8 : Int32), ∃ (h6 : ri_H), ¬ ((eh_i G 0 11) = 0) ∧ ri_calE ri_md (d + 6) 170 [.ref 0] h = some (some (.int x4), h2) ∧ iM b n m (eh_V h2) ∧ ¬ (x4 = 0) ∧ ri_calE ri_md (d + 6) 162 [.ref 0, .int 59] h2 = some (some (.int x8), h6) ∧ iM b n m (eh_V h6) ∧ ¬ (x8 = 0) ∧ ∃ hz loz, eh_e (ri_calE ri_md (d + 6)) md_172 65 loz [] hz rs h' ∧ eh_V hz = (eh_V h6) ∧ eh_N hz = eh_N h ∧ iM b n m (eh_V h6) ∧ ri_lk loz 0 = some (.ref 0)) ∨ (∃ (x4 : Int32), ∃ (h2 : ri_H), ∃ (x8 : Int32), ∃ (h6 : ri_H), ¬ ((eh_i G 0 11) = 0) ∧ ri_calE ri_md (d + 6) 170 [.ref 0] h = some (some (.int x4), h2) ∧ iM b n m (eh_V h2) ∧ ¬ (x4 = 0) ∧ ri_calE ri_md (d + 6) 162 [.ref 0, .int 59] h2 = some (some (.int x8), h6) ∧ iM b n m (eh_V h6) ∧ x8 = 0 ∧ rs = [.int ((-1) - (eh_i (eh_V h6) 0 16))] ∧ eh_V h' = (eh_V h6) ∧ eh_N h' = eh_N h ∧ iM b n m (eh_V h6)) := by
  have E := E.ld (p := 36) (t := ri_isA) (i := 0) (n := 1) (v := .ref 0) rfl (e := (.aload_n 0, 1, [], .null)) rfl rfl (fun _ _ => rfl) l0 rfl
  have E := E.gi (y := eh_i G 0 11) (p := 39) rfl (x := 145) (m := 3) (w := .null) (t := 12) (i := 11) (u := 1335) rfl rfl hV (iv.1) rfl rfl
  rcases eh_q0 (E.br (p := 42) (c := 0) (tgt := 78) (a := eh_i G 0 11) (b := 0) (st' := []) rfl (e := (.ifCond .eq 39, 3, [78], .null)) rfl rfl (fun _ _ => rfl) rfl) with ⟨c1, E⟩ | ⟨c1, E⟩
  · skip
    exact Or.inl ⟨c1, _, _, E, hV, rfl, iv, l0⟩
  · skip
    have E := E.ld (p := 43) (t := ri_isA) (i := 0) (n := 1) (v := .ref 0) rfl (e := (.aload_n 0, 1, [], .null)) rfl rfl (fun _ _ => rfl) l0 rfl
    obtain ⟨v1, h2, X, E⟩ := E.cv (p := 46) (as := []) (b := 0) (r := []) rfl (x := 227) (m := 3) (w := .null) (j := 170) (n := 0) (t := 12) (u := [1492, 37, 1494]) rfl rfl rfl
    obtain ⟨x4, rfl, ivk3, hNk3⟩ := tp_170 (d := d) X (by rw [hV]; exact iv)
    have Xk3 := X
    have E : eh_e _ _ 46 lo [.int x4] h2 rs h' := E
    rcases eh_q0 (E.br (p := 49) (c := 0) (tgt := 58) (a := x4) (b := 0) (st' := []) rfl (e := (.ifCond .eq 12, 3, [58], .null)) rfl rfl (fun _ _ => rfl) rfl) with ⟨c5, E⟩ | ⟨c5, E⟩
    · skip
      have E := E.pu (p := 59) (lo' := lo) (st' := [.int (-1)]) rfl (e := (.iconst (-1), 1, [], .null)) rfl rfl (fun _ _ => rfl)
      have E := E.ld (p := 60) (t := ri_isA) (i := 0) (n := 1) (v := .ref 0) rfl (e := (.aload_n 0, 1, [], .null)) rfl rfl (fun _ _ => rfl) l0 rfl
      have E := E.gi (y := eh_i (eh_V h2) 0 16) (p := 63) rfl (x := 165) (m := 3) (w := .null) (t := 12) (i := 16) (u := 1340) rfl rfl (rfl : eh_V h2 = eh_V h2) ivk3.1 rfl rfl
      have E := E.pu (p := 64) (lo' := lo) (st' := [.int ((-1) - (eh_i (eh_V h2) 0 16))]) rfl (e := (.isub, 1, [], .null)) rfl rfl (fun _ _ => rfl)
      obtain ⟨r1, r2⟩ := E.reti rfl (m := 1) (ax := []) (w := .null) rfl
      exact Or.inr (Or.inl ⟨x4, h2, c1, Xk3, ivk3, c5, r1, ((congrArg eh_V r2).trans (rfl : eh_V h2 = eh_V h2)), ((congrArg eh_N r2).trans hNk3), ivk3⟩)
    · skip
      have E := E.ld (p := 50) (t := ri_isA) (i := 0) (n := 1) (v := .ref 0) rfl (e := (.aload_n 0, 1, [], .null)) rfl rfl (fun _ _ => rfl) l0 rfl
      have E := E.pu (p := 52) (lo' := lo) (st' := [.int 59, .ref 0]) rfl (e := (.bipush 59, 2, [], .null)) rfl rfl (fun _ _ => rfl)
      obtain ⟨v1, h6, X, E⟩ := E.cv (p := 55) (as := [.int 59]) (b := 0) (r := []) rfl (x := 230) (m := 3) (w := .null) (j := 162) (n := 1) (t := 12) (u := [1546, 49, 1548]) rfl rfl rfl
      obtain ⟨x8, rfl, ivk7, hNk7⟩ := tp_162 (d := d + 3) X (by rw [(rfl : eh_V h2 = eh_V h2)]; exact ivk3)
      have Xk7 := X
      have E : eh_e _ _ 55 lo [.int x8] h6 rs h' := E
      rcases eh_q1 (E.br (p := 58) (c := 1) (tgt := 65) (a := x8) (b := 0) (st' := []) rfl (e := (.ifCond .ne 10, 3, [65], .null)) rfl rfl (fun _ _ => rfl) rfl) with ⟨c9, E⟩ | ⟨c9, E⟩
      · skip
        exact Or.inr (Or.inr (Or.inl ⟨x4, h2, x8, h6, c1, Xk3, ivk3, c5, Xk7, ivk7, c9, _, _, E, (rfl : eh_V h6 = eh_V h6), (hNk7.trans hNk3), ivk7, l0⟩))
      · skip
        have E := E.pu (p := 59) (lo' := lo) (st' := [.int (-1)]) rfl (e := (.iconst (-1), 1, [], .null)) rfl rfl (fun _ _ => rfl)
        have E := E.ld (p := 60) (t := ri_isA) (i := 0) (n := 1) (v := .ref 0) rfl (e := (.aload_n 0, 1, [], .null)) rfl rfl (fun _ _ => rfl) l0 rfl
        have E := E.gi (y := eh_i (eh_V h6) 0 16) (p := 63) rfl (x := 165) (m := 3) (w := .null) (t := 12) (i := 16) (u := 1340) rfl rfl (rfl : eh_V h6 = eh_V h6) ivk7.1 rfl rfl
        have E := E.pu (p := 64) (lo' := lo) (st' := [.int ((-1) - (eh_i (eh_V h6) 0 16))]) rfl (e := (.isub, 1, [], .null)) rfl rfl (fun _ _ => rfl)
        obtain ⟨r1, r2⟩ := E.reti rfl (m := 1) (ax := []) (w := .null) rfl
        exact Or.inr (Or.inr (Or.inr (⟨x4, h2, x8, h6, c1, Xk3, ivk3, c5, Xk7, ivk7, c9, r1, ((congrArg eh_V r2).trans (rfl : eh_V h6 = eh_V h6)), ((congrArg eh_N r2).trans (hNk7.trans hNk3)), ivk7⟩)))
theorem mk_s {cal : eh_K} {lo : List (Nat × Value)} {h h' : ri_H} {rs : List Value} {G : eh_W} (E : eh_e cal md_172 65 lo [] h rs h') (hV : eh_V h = G) (ty : eh_ty tM G) (l0 : ri_lk lo 0 = some (.ref 0)) : ∃ hz loz, eh_e cal md_172 35 loz [] hz rs h' ∧ eh_V hz = eh_u G 0 19 (.int ((eh_i G 0 19) + 1)) ∧ eh_N hz = eh_N h ∧ eh_ty tM (eh_u G 0 19 (.int ((eh_i G 0 19) + 1))) ∧ ri_lk loz 0 = some (.ref 0) := by
  have E := E.ld (p := 66) (t := ri_isA) (i := 0) (n := 1) (v := .ref 0) rfl (e := (.aload_n 0, 1, [], .null)) rfl rfl (fun _ _ => rfl) l0 rfl
  have E := E.pu (p := 67) (lo' := lo) (st' := [.ref 0, .ref 0]) rfl (e := (.dup, 1, [], .null)) rfl rfl (fun _ _ => rfl)
  have E := E.gi (y := eh_i G 0 19) (p := 70) rfl (x := 224) (m := 3) (w := .null) (t := 12) (i := 19) (u := 1343) rfl rfl hV ty rfl rfl
  have E := E.pu (p := 71) (lo' := lo) (st' := [.int 1, .int (eh_i G 0 19), .ref 0]) rfl (e := (.iconst 1, 1, [], .null)) rfl rfl (fun _ _ => rfl)
  have E := E.pu (p := 72) (lo' := lo) (st' := [.int ((eh_i G 0 19) + 1), .ref 0]) rfl (e := (.iadd, 1, [], .null)) rfl rfl (fun _ _ => rfl)
  obtain ⟨h1, hV2, hN3, E⟩ := E.gp (p := 75) rfl (x := 224) (m := 3) (w := .null) (t := 12) (i := 19) (u := 1343) (y := 0) rfl rfl hV
  have E := E.pu (p := 35) (lo' := lo) (st' := []) rfl (e := (.goto (-40), 3, [35], .null)) rfl rfl (fun _ _ => rfl)
  exact ⟨_, _, E, hV2, hN3, (ty.ui rfl), l0⟩
