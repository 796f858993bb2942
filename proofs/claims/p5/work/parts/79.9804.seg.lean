theorem zi_a {d : Nat} {lo : List (Nat × Value)} {h h' : ri_H} {rs : List Value} {G : eh_W} (E : eh_e (ri_calE ri_md (d + 1)) md_238 0 lo [] h rs h') (hV : eh_V h = G) (ty : eh_ty tM G) (l0 : ri_lk lo 0 = some (.ref 0)) : (¬ ((eh_i G 0 11) = 1) ∧ ∃ hz loz, eh_e (ri_calE ri_md (d + 1)) md_238 116 loz [] hz rs h' ∧ eh_V hz = G ∧ eh_N hz = eh_N h ∧ eh_ty tM G ∧ ri_lk loz 0 = some (.ref 0) ∧ ri_lk loz 1 = some (.int (3 * (eh_i G 0 35))) ∧ ri_lk loz 2 = some (.int 0)) ∨ ((eh_i G 0 11) = 1 ∧ ¬ ((eh_l G 0 17) = 491395114867) ∧ ¬ ((eh_l G 0 17) = 6578553) ∧ ∃ hz loz, eh_e (ri_calE ri_md (d + 1)) md_238 116 loz [] hz rs h' ∧ eh_V hz = G ∧ eh_N hz = eh_N h ∧ eh_ty tM G ∧ ri_lk loz 0 = some (.ref 0) ∧ ri_lk loz 1 = some (.int (3 * (eh_i G 0 35))) ∧ ri_lk loz 2 = some (.int 0)) ∨ ((eh_i G 0 11) = 1 ∧ ¬ ((eh_l G 0 17) = 491395114867) ∧ (eh_l G 0 17) = 6578553 ∧ ∃ hz loz, eh_e (ri_calE ri_md (d + 1)) md_238 29 loz [] hz rs h' ∧ eh_V hz = G ∧ eh_N hz = eh_N h ∧ eh_ty tM G ∧ ri_lk loz 0 = some (.ref 0) ∧ ri_lk loz 1 = some (.int (3 * (eh_i G 0 35))) ∧ ri_lk loz 2 = some (.int 0)) ∨ ((eh_i G 0 11) = 1 ∧ (eh_l G 0 17) = 491395114867 ∧ ∃ hz loz, eh_e (ri_calE ri_md (d + 1)) md_238 29 loz [] hz rs h' ∧ eh_V hz = G ∧ eh_N hz = eh_N h ∧ eh_ty tM G ∧ ri_lk loz 0 = some (.ref 0) ∧ ri_lk loz 1 = some (.int (3 * (eh_i G 0 35))) ∧ ri_lk loz 2 = some (.int 1)) := by
  have E := E.pu (p := 1) (lo' := lo) (st' := [.int 3]) rfl (e := (.iconst 3, 1, [], .null)) rfl rfl (fun _ _ => rfl)
  have E := E.ld (p := 2) (t := ri_isA) (i := 0) (n := 1) (v := .ref 0) rfl (e := (.aload_n 0, 1, [], .null)) rfl rfl (fun _ _ => rfl) l0 rfl
  have E := E.gi (y := eh_i G 0 35) (p := 5) rfl (x := 384) (m := 3) (w := .null) (t := 12) (i := 35) (u := 1359) rfl rfl hV ty rfl rfl
  have E := E.pu (p := 6) (lo' := lo) (st' := [.int (3 * (eh_i G 0 35))]) rfl (e := (.imul, 1, [], .null)) rfl rfl (fun _ _ => rfl)
  have E := E.so (p := 7) (t := ri_isI) (i := 1) (n := 1) rfl (e := (.istore_n 1, 1, [], .null)) rfl rfl (fun _ _ => rfl) rfl
  have k1_1 : ri_lk (ri_st1 lo 1 (.int (3 * (eh_i G 0 35)))) 1 = some (.int (3 * (eh_i G 0 35))) := eh_self
  have k1_0 : ri_lk (ri_st1 lo 1 (.int (3 * (eh_i G 0 35)))) 0 = some (.ref 0) := eh_keep (by decide) (Or.inl rfl) l0
  have E := E.ld (p := 8) (t := ri_isA) (i := 0) (n := 1) (v := .ref 0) rfl (e := (.aload_n 0, 1, [], .null)) rfl rfl (fun _ _ => rfl) k1_0 rfl
  have E := E.pu (p := 11) (lo' := (ri_st1 lo 1 (.int (3 * (eh_i G 0 35))))) (st' := [.long 491395114867, .ref 0]) rfl (e := (.ldc2_w 104, 3, [1306], .long 491395114867)) rfl rfl (fun _ _ => rfl)
  obtain ⟨v1, h2, X, E⟩ := E.cv (p := 14) (as := [.long 491395114867]) (b := 0) (r := []) rfl (x := 202) (m := 3) (w := .null) (j := 160) (n := 1) (t := 12) (u := [1496, 38, 1498]) rfl rfl rfl
  rcases sp_160 (d := d) X hV ty with ⟨c3, rfl, hV4, hN5⟩ | ⟨c6, c7, rfl, hV8, hN9⟩ | ⟨c10, c11, rfl, hV12, hN13⟩
  · skip
    have c3 : ¬ ((eh_i G 0 11) = 1) := c3
    have E : eh_e _ _ 14 (ri_st1 lo 1 (.int (3 * (eh_i G 0 35)))) [.int 0] _ rs h' := E
    have E := E.so (p := 15) (t := ri_isI) (i := 2) (n := 1) rfl (e := (.istore_n 2, 1, [], .null)) rfl rfl (fun _ _ => rfl) rfl
    have k14_2 : ri_lk (ri_st1 (ri_st1 lo 1 (.int (3 * (eh_i G 0 35)))) 2 (.int 0)) 2 = some (.int 0) := eh_self
    have k14_0 : ri_lk (ri_st1 (ri_st1 lo 1 (.int (3 * (eh_i G 0 35)))) 2 (.int 0)) 0 = some (.ref 0) := eh_keep (by decide) (Or.inl rfl) k1_0
    have k14_1 : ri_lk (ri_st1 (ri_st1 lo 1 (.int (3 * (eh_i G 0 35)))) 2 (.int 0)) 1 = some (.int (3 * (eh_i G 0 35))) := eh_keep (by decide) (Or.inl rfl) k1_1
    have E := E.ld (p := 16) (t := ri_isI) (i := 2) (n := 1) (v := .int 0) rfl (e := (.iload_n 2, 1, [], .null)) rfl rfl (fun _ _ => rfl) k14_2 rfl
    have E := E.brf (p := 19) (c := 1) (tgt := 29) (a := 0) (b := 0) (st' := []) rfl (e := (.ifCond .ne 13, 3, [29], .null)) rfl rfl (fun _ _ => rfl) (by decide) rfl
    have E := E.ld (p := 20) (t := ri_isA) (i := 0) (n := 1) (v := .ref 0) rfl (e := (.aload_n 0, 1, [], .null)) rfl rfl (fun _ _ => rfl) k14_0 rfl
    have E := E.pu (p := 23) (lo' := (ri_st1 (ri_st1 lo 1 (.int (3 * (eh_i G 0 35)))) 2 (.int 0))) (st' := [.long 6578553, .ref 0]) rfl (e := (.ldc2_w 108, 3, [1308], .long 6578553)) rfl rfl (fun _ _ => rfl)
    obtain ⟨v1, h15, X, E⟩ := E.cv (p := 26) (as := [.long 6578553]) (b := 0) (r := []) rfl (x := 202) (m := 3) (w := .null) (j := 160) (n := 1) (t := 12) (u := [1496, 38, 1498]) rfl rfl rfl
    rcases sp_160 (d := d) X hV4 ty with ⟨c16, rfl, hV17, hN18⟩ | ⟨c19, c20, rfl, hV21, hN22⟩ | ⟨c23, c24, rfl, hV25, hN26⟩
    · skip
      have E : eh_e _ _ 26 (ri_st1 (ri_st1 lo 1 (.int (3 * (eh_i G 0 35)))) 2 (.int 0)) [.int 0] _ rs h' := E
      have E := E.brt (c := 0) (tgt := 116) (a := 0) (b := 0) (st' := []) rfl (e := (.ifCond .eq 90, 3, [116], .null)) rfl rfl (fun _ _ => rfl) (by decide)
      exact Or.inl ⟨c3, _, _, E, hV17, (hN18.trans hN5), ty, k14_0, k14_1, k14_2⟩
    · skip
      exact absurd c19 c3
    · skip
      exact absurd c23 c3
  · skip
    have c6 : (eh_i G 0 11) = 1 := c6
    have c7 : ¬ ((eh_l G 0 17) = 491395114867) := c7
    have E : eh_e _ _ 14 (ri_st1 lo 1 (.int (3 * (eh_i G 0 35)))) [.int 0] _ rs h' := E
    have E := E.so (p := 15) (t := ri_isI) (i := 2) (n := 1) rfl (e := (.istore_n 2, 1, [], .null)) rfl rfl (fun _ _ => rfl) rfl
    have k27_2 : ri_lk (ri_st1 (ri_st1 lo 1 (.int (3 * (eh_i G 0 35)))) 2 (.int 0)) 2 = some (.int 0) := eh_self
    have k27_0 : ri_lk (ri_st1 (ri_st1 lo 1 (.int (3 * (eh_i G 0 35)))) 2 (.int 0)) 0 = some (.ref 0) := eh_keep (by decide) (Or.inl rfl) k1_0
    have k27_1 : ri_lk (ri_st1 (ri_st1 lo 1 (.int (3 * (eh_i G 0 35)))) 2 (.int 0)) 1 = some (.int (3 * (eh_i G 0 35))) := eh_keep (by decide) (Or.inl rfl) k1_1
    have E := E.ld (p := 16) (t := ri_isI) (i := 2) (n := 1) (v := .int 0) rfl (e := (.iload_n 2, 1, [], .null)) rfl rfl (fun _ _ => rfl) k27_2 rfl
    have E := E.brf (p := 19) (c := 1) (tgt := 29) (a := 0) (b := 0) (st' := []) rfl (e := (.ifCond .ne 13, 3, [29], .null)) rfl rfl (fun _ _ => rfl) (by decide) rfl
    have E := E.ld (p := 20) (t := ri_isA) (i := 0) (n := 1) (v := .ref 0) rfl (e := (.aload_n 0, 1, [], .null)) rfl rfl (fun _ _ => rfl) k27_0 rfl
    have E := E.pu (p := 23) (lo' := (ri_st1 (ri_st1 lo 1 (.int (3 * (eh_i G 0 35)))) 2 (.int 0))) (st' := [.long 6578553, .ref 0]) rfl (e := (.ldc2_w 108, 3, [1308], .long 6578553)) rfl rfl (fun _ _ => rfl)
    obtain ⟨v1, h28, X, E⟩ := E.cv (p := 26) (as := [.long 6578553]) (b := 0) (r := []) rfl (x := 202) (m := 3) (w := .null) (j := 160) (n := 1) (t := 12) (u := [1496, 38, 1498]) rfl rfl rfl
    rcases sp_160 (d := d) X hV8 ty with ⟨c29, rfl, hV30, hN31⟩ | ⟨c32, c33, rfl, hV34, hN35⟩ | ⟨c36, c37, rfl, hV38, hN39⟩
    · skip
      exact absurd c6 c29
    · skip
      have c33 : ¬ ((eh_l G 0 17) = 6578553) := c33
      have E : eh_e _ _ 26 (ri_st1 (ri_st1 lo 1 (.int (3 * (eh_i G 0 35)))) 2 (.int 0)) [.int 0] _ rs h' := E
      have E := E.brt (c := 0) (tgt := 116) (a := 0) (b := 0) (st' := []) rfl (e := (.ifCond .eq 90, 3, [116], .null)) rfl rfl (fun _ _ => rfl) (by decide)
      exact Or.inr (Or.inl ⟨c6, c7, c33, _, _, E, hV34, (hN35.trans hN9), ty, k27_0, k27_1, k27_2⟩)
    · skip
      have c37 : (eh_l G 0 17) = 6578553 := c37
      have E : eh_e _ _ 26 (ri_st1 (ri_st1 lo 1 (.int (3 * (eh_i G 0 35)))) 2 (.int 0)) [.int 1] _ rs h' := E
      have E := E.brf (p := 29) (c := 0) (tgt := 116) (a := 1) (b := 0) (st' := []) rfl (e := (.ifCond .eq 90, 3, [116], .null)) rfl rfl (fun _ _ => rfl) (by decide) rfl
      exact Or.inr (Or.inr (Or.inl ⟨c6, c7, c37, _, _, E, hV38, (hN39.trans hN9), ty, k27_0, k27_1, k27_2⟩))
  · skip
    have c10 : (eh_i G 0 11) = 1 := c10
    have c11 : (eh_l G 0 17) = 491395114867 := c11
    have E : eh_e _ _ 14 (ri_st1 lo 1 (.int (3 * (eh_i G 0 35)))) [.int 1] _ rs h' := E
    have E := E.so (p := 15) (t := ri_isI) (i := 2) (n := 1) rfl (e := (.istore_n 2, 1, [], .null)) rfl rfl (fun _ _ => rfl) rfl
    have k40_2 : ri_lk (ri_st1 (ri_st1 lo 1 (.int (3 * (eh_i G 0 35)))) 2 (.int 1)) 2 = some (.int 1) := eh_self
    have k40_0 : ri_lk (ri_st1 (ri_st1 lo 1 (.int (3 * (eh_i G 0 35)))) 2 (.int 1)) 0 = some (.ref 0) := eh_keep (by decide) (Or.inl rfl) k1_0
    have k40_1 : ri_lk (ri_st1 (ri_st1 lo 1 (.int (3 * (eh_i G 0 35)))) 2 (.int 1)) 1 = some (.int (3 * (eh_i G 0 35))) := eh_keep (by decide) (Or.inl rfl) k1_1
    have E := E.ld (p := 16) (t := ri_isI) (i := 2) (n := 1) (v := .int 1) rfl (e := (.iload_n 2, 1, [], .null)) rfl rfl (fun _ _ => rfl) k40_2 rfl
    have E := E.brt (c := 1) (tgt := 29) (a := 1) (b := 0) (st' := []) rfl (e := (.ifCond .ne 13, 3, [29], .null)) rfl rfl (fun _ _ => rfl) (by decide)
    exact Or.inr (Or.inr (Or.inr (⟨c10, c11, _, _, E, hV12, hN13, ty, k40_0, k40_1, k40_2⟩)))
theorem zi_b {d : Nat} {lo : List (Nat × Value)} {h h' : ri_H} {rs : List Value} {G : eh_W} {b : Nat → Int32} {n m : Nat} {to : Int32} (E : eh_e (ri_calE ri_md (d + 2)) md_238 29 lo [] h rs h') (hV : eh_V h = G) (iv : iT b n m G) (l0 : ri_lk lo 0 = some (.ref 0)) (l1 : ri_lk lo 1 = some (.int to)) (l2 : ri_lk lo 2 = some (.int 1)) : (∃ (h2 : ri_H), ∃ (h5 : ri_H), ∃ (x9 : Int32), ∃ (h7 : ri_H), ∃ (h11 : ri_H), ¬ ((eh_i G 0 35) = 40) ∧ eh_V h2 = eh_u G 4 (to).toNatClampNeg (.int 1) ∧ ri_calE ri_md (d + 2) 158 [.ref 0] h2 = some (none, h5) ∧ iT b n m (eh_V h5) ∧ ri_calE ri_md (d + 2) 168 [.ref 0, .int 0, .int (eh_i (eh_V h5) 2 3)] h5 = some (some (.int x9), h7) ∧ iT b n m (eh_V h7) ∧ ¬ (x9 = 0) ∧ ri_calE ri_md (d + 2) 158 [.ref 0] h7 = some (none, h11) ∧ iT b n m (eh_V h11) ∧ rs = [.int 1] ∧ eh_V h' = eh_u (eh_V h11) 4 (to + 1).toNatClampNeg (.int (eh_i (eh_V h11) 0 18)) ∧ eh_N h' = eh_N h ∧ iT b n m (eh_u (eh_V h11) 4 (to + 1).toNatClampNeg (.int (eh_i (eh_V h11) 0 18)))) ∨ (∃ (h2 : ri_H), ∃ (h5 : ri_H), ∃ (x9 : Int32), ∃ (h7 : ri_H), ¬ ((eh_i G 0 35) = 40) ∧ eh_V h2 = eh_u G 4 (to).toNatClampNeg (.int 1) ∧ ri_calE ri_md (d + 2) 158 [.ref 0] h2 = some (none, h5) ∧ iT b n m (eh_V h5) ∧ ri_calE ri_md (d + 2) 168 [.ref 0, .int 0, .int (eh_i (eh_V h5) 2 3)] h5 = some (some (.int x9), h7) ∧ iT b n m (eh_V h7) ∧ x9 = 0 ∧ rs = [.int 0] ∧ eh_V h' = (eh_V h7) ∧ eh_N h' = eh_N h ∧ iT b n m (eh_V h7)) ∨ ((eh_i G 0 35) = 40 ∧ rs = [.int 0] ∧ eh_V h' = eh_u (eh_u G 0 15 (.int 4)) 0 16 (.int (eh_i G 0 12)) ∧ eh_N h' = eh_N h ∧ iT b n m (eh_u (eh_u G 0 15 (.int 4)) 0 16 (.int (eh_i G 0 12)))) := by
  have E := E.ld (p := 30) (t := ri_isA) (i := 0) (n := 1) (v := .ref 0) rfl (e := (.aload_n 0, 1, [], .null)) rfl rfl (fun _ _ => rfl) l0 rfl
  have E := E.gi (y := eh_i G 0 35) (p := 33) rfl (x := 384) (m := 3) (w := .null) (t := 12) (i := 35) (u := 1359) rfl rfl hV (iv.1) rfl rfl
  have E := E.pu (p := 35) (lo' := lo) (st' := [.int 40, .int (eh_i G 0 35)]) rfl (e := (.bipush 40, 2, [], .null)) rfl rfl (fun _ _ => rfl)
  rcases eh_q1 (E.br (p := 38) (c := 1) (tgt := 44) (a := eh_i G 0 35) (b := 40) (st' := []) rfl (e := (.if_icmp .ne 9, 3, [44], .null)) rfl rfl (fun _ _ => rfl) rfl) with ⟨c1, E⟩ | ⟨c1, E⟩
  · skip
    have E := E.ld (p := 45) (t := ri_isA) (i := 0) (n := 1) (v := .ref 0) rfl (e := (.aload_n 0, 1, [], .null)) rfl rfl (fun _ _ => rfl) l0 rfl
    have E := E.gr (n := 4) (p := 48) rfl (x := 40) (m := 3) (w := .null) (t := 12) (i := 8) (u := 1332) rfl rfl hV (iv.1) rfl
    have E := E.ld (p := 49) (t := ri_isI) (i := 1) (n := 1) (v := .int to) rfl (e := (.iload_n 1, 1, [], .null)) rfl rfl (fun _ _ => rfl) l1 rfl
    have E := E.ld (p := 50) (t := ri_isI) (i := 2) (n := 1) (v := .int 1) rfl (e := (.iload_n 2, 1, [], .null)) rfl rfl (fun _ _ => rfl) l2 rfl
    have E := E.brf (p := 53) (c := 0) (tgt := 57) (a := 1) (b := 0) (st' := [.int to, .ref 4]) rfl (e := (.ifCond .eq 7, 3, [57], .null)) rfl rfl (fun _ _ => rfl) (by decide) rfl
    have E := E.pu (p := 54) (lo' := lo) (st' := [.int 1, .int to, .ref 4]) rfl (e := (.iconst 1, 1, [], .null)) rfl rfl (fun _ _ => rfl)
    have E := E.pu (p := 58) (lo' := lo) (st' := [.int 1, .int to, .ref 4]) rfl (e := (.goto 4, 3, [58], .null)) rfl rfl (fun _ _ => rfl)
    obtain ⟨h2, hV3, hN4, E⟩ := E.aw (gg := ri_g1) (b := true) (p := 59) (n := (to).toNatClampNeg) rfl (e := (.iastore, 1, [], .null)) rfl rfl (fun _ _ => rfl) rfl hV rfl
    have E := E.ld (p := 60) (t := ri_isA) (i := 0) (n := 1) (v := .ref 0) rfl (e := (.aload_n 0, 1, [], .null)) rfl rfl (fun _ _ => rfl) l0 rfl
    obtain ⟨v1, h5, X, E⟩ := E.cv (p := 63) (as := []) (b := 0) (r := []) rfl (x := 174) (m := 3) (w := .null) (j := 158) (n := 0) (t := 12) (u := [1478, 35, 1480]) rfl rfl rfl
    obtain ⟨rfl, ivk6, hNk6⟩ := ts_158 (d := d) X (by rw [hV3]; exact (iT_u iv ((iv.1).ui rfl) rfl))
    have Xk6 := X
    have E : eh_e _ _ 63 lo [] h5 rs h' := E
    have E := E.ld (p := 64) (t := ri_isI) (i := 2) (n := 1) (v := .int 1) rfl (e := (.iload_n 2, 1, [], .null)) rfl rfl (fun _ _ => rfl) l2 rfl
    have E := E.brf (p := 67) (c := 0) (tgt := 90) (a := 1) (b := 0) (st' := []) rfl (e := (.ifCond .eq 26, 3, [90], .null)) rfl rfl (fun _ _ => rfl) (by decide) rfl
    have E := E.ld (p := 68) (t := ri_isA) (i := 0) (n := 1) (v := .ref 0) rfl (e := (.aload_n 0, 1, [], .null)) rfl rfl (fun _ _ => rfl) l0 rfl
    have E := E.pu (p := 69) (lo' := lo) (st' := [.int 0, .ref 0]) rfl (e := (.iconst 0, 1, [], .null)) rfl rfl (fun _ _ => rfl)
    have E := E.ld (p := 70) (t := ri_isA) (i := 0) (n := 1) (v := .ref 0) rfl (e := (.aload_n 0, 1, [], .null)) rfl rfl (fun _ _ => rfl) l0 rfl
    have E := E.gr (n := 2) (p := 73) rfl (x := 33) (m := 3) (w := .null) (t := 12) (i := 6) (u := 1330) rfl rfl (rfl : eh_V h5 = eh_V h5) ivk6.1 rfl
    have E := E.pu (p := 74) (lo' := lo) (st' := [.int 3, .ref 2, .int 0, .ref 0]) rfl (e := (.iconst 3, 1, [], .null)) rfl rfl (fun _ _ => rfl)
    have E := E.ai (p := 75) (z := eh_i (eh_V h5) 2 3) (n := 3) rfl (e := (.iaload, 1, [], .null)) rfl rfl (fun _ _ => rfl) rfl (rfl : eh_V h5 = eh_V h5) ivk6.1 (by decide) rfl rfl
    obtain ⟨v1, h7, X, E⟩ := E.cv (p := 78) (as := [.int 0, .int (eh_i (eh_V h5) 2 3)]) (b := 0) (r := []) rfl (x := 218) (m := 3) (w := .null) (j := 168) (n := 2) (t := 12) (u := [1538, 47, 1540]) rfl rfl rfl
    obtain ⟨x9, rfl, ivk8, hNk8⟩ := ts_168 (d := d) X (by rw [(rfl : eh_V h5 = eh_V h5)]; exact ivk6)
    have Xk8 := X
    have E : eh_e _ _ 78 lo [.int x9] h7 rs h' := E
    rcases eh_q1 (E.br (p := 81) (c := 1) (tgt := 83) (a := x9) (b := 0) (st' := []) rfl (e := (.ifCond .ne 5, 3, [83], .null)) rfl rfl (fun _ _ => rfl) rfl) with ⟨c10, E⟩ | ⟨c10, E⟩
    · skip
      have E := E.ld (p := 84) (t := ri_isA) (i := 0) (n := 1) (v := .ref 0) rfl (e := (.aload_n 0, 1, [], .null)) rfl rfl (fun _ _ => rfl) l0 rfl
      obtain ⟨v1, h11, X, E⟩ := E.cv (p := 87) (as := []) (b := 0) (r := []) rfl (x := 174) (m := 3) (w := .null) (j := 158) (n := 0) (t := 12) (u := [1478, 35, 1480]) rfl rfl rfl
      obtain ⟨rfl, ivk12, hNk12⟩ := ts_158 (d := d) X (by rw [(rfl : eh_V h7 = eh_V h7)]; exact ivk8)
      have Xk12 := X
      have E : eh_e _ _ 87 lo [] h11 rs h' := E
      have E := E.pu (p := 102) (lo' := lo) (st' := []) rfl (e := (.goto 15, 3, [102], .null)) rfl rfl (fun _ _ => rfl)
      have E := E.ld (p := 103) (t := ri_isA) (i := 0) (n := 1) (v := .ref 0) rfl (e := (.aload_n 0, 1, [], .null)) rfl rfl (fun _ _ => rfl) l0 rfl
      have E := E.gr (n := 4) (p := 106) rfl (x := 40) (m := 3) (w := .null) (t := 12) (i := 8) (u := 1332) rfl rfl (rfl : eh_V h11 = eh_V h11) ivk12.1 rfl
      have E := E.ld (p := 107) (t := ri_isI) (i := 1) (n := 1) (v := .int to) rfl (e := (.iload_n 1, 1, [], .null)) rfl rfl (fun _ _ => rfl) l1 rfl
      have E := E.pu (p := 108) (lo' := lo) (st' := [.int 1, .int to, .ref 4]) rfl (e := (.iconst 1, 1, [], .null)) rfl rfl (fun _ _ => rfl)
      have E := E.pu (p := 109) (lo' := lo) (st' := [.int (to + 1), .ref 4]) rfl (e := (.iadd, 1, [], .null)) rfl rfl (fun _ _ => rfl)
      have E := E.ld (p := 110) (t := ri_isA) (i := 0) (n := 1) (v := .ref 0) rfl (e := (.aload_n 0, 1, [], .null)) rfl rfl (fun _ _ => rfl) l0 rfl
      have E := E.gi (y := eh_i (eh_V h11) 0 18) (p := 113) rfl (x := 181) (m := 3) (w := .null) (t := 12) (i := 18) (u := 1342) rfl rfl (rfl : eh_V h11 = eh_V h11) ivk12.1 rfl rfl
      obtain ⟨h13, hV14, hN15, E⟩ := E.aw (gg := ri_g1) (b := true) (p := 114) (n := (to + 1).toNatClampNeg) rfl (e := (.iastore, 1, [], .null)) rfl rfl (fun _ _ => rfl) rfl (rfl : eh_V h11 = eh_V h11) rfl
      have E := E.pu (p := 115) (lo' := lo) (st' := [.int 1]) rfl (e := (.iconst 1, 1, [], .null)) rfl rfl (fun _ _ => rfl)
      obtain ⟨r1, r2⟩ := E.reti rfl (m := 1) (ax := []) (w := .null) rfl
      exact Or.inl ⟨h2, h5, x9, h7, h11, c1, hV3, Xk6, ivk6, Xk8, ivk8, c10, Xk12, ivk12, r1, ((congrArg eh_V r2).trans hV14), ((congrArg eh_N r2).trans (hN15.trans (hNk12.trans (hNk8.trans (hNk6.trans hN4))))), (iT_u ivk12 (ivk12.1.ui rfl) rfl)⟩
    · skip
      have E := E.pu (p := 82) (lo' := lo) (st' := [.int 0]) rfl (e := (.iconst 0, 1, [], .null)) rfl rfl (fun _ _ => rfl)
      obtain ⟨r1, r2⟩ := E.reti rfl (m := 1) (ax := []) (w := .null) rfl
      exact Or.inr (Or.inl ⟨h2, h5, x9, h7, c1, hV3, Xk6, ivk6, Xk8, ivk8, c10, r1, ((congrArg eh_V r2).trans (rfl : eh_V h7 = eh_V h7)), ((congrArg eh_N r2).trans (hNk8.trans (hNk6.trans hN4))), ivk8⟩)
  · skip
    have E := E.ld (p := 39) (t := ri_isA) (i := 0) (n := 1) (v := .ref 0) rfl (e := (.aload_n 0, 1, [], .null)) rfl rfl (fun _ _ => rfl) l0 rfl
    have E := E.pu (p := 40) (lo' := lo) (st' := [.int 4, .ref 0]) rfl (e := (.iconst 4, 1, [], .null)) rfl rfl (fun _ _ => rfl)
    obtain ⟨v1, h16, X, E⟩ := E.cv (p := 43) (as := [.int 4]) (b := 0) (r := []) rfl (x := 171) (m := 3) (w := .null) (j := 159) (n := 1) (t := 12) (u := [1507, 40, 1509]) rfl rfl rfl
    rcases sp_159 (d := d + 1) X hV (iv.1) with ⟨rfl, hV17, hN18⟩
    have hV17 : _ = eh_u (eh_u G 0 15 (.int 4)) 0 16 (.int (eh_i G 0 12)) := hV17
    have E : eh_e _ _ 43 lo [.int 0] _ rs h' := E
    obtain ⟨r1, r2⟩ := E.reti rfl (m := 1) (ax := []) (w := .null) rfl
    exact Or.inr (Or.inr (⟨c1, r1, ((congrArg eh_V r2).trans hV17), ((congrArg eh_N r2).trans hN18), (iT_u (iT_u iv ((iv.1).ui rfl) rfl) (((iv.1).ui rfl).ui rfl) rfl)⟩))
theorem zi_c {d : Nat} {lo : List (Nat × Value)} {h h' : ri_H} {rs : List Value} {G : eh_W} {b : Nat → Int32} {n m : Nat} {to : Int32} (E : eh_e (ri_calE ri_md (d + 3)) md_238 29 lo [] h rs h') (hV : eh_V h = G) (iv : iT b n m G) (l0 : ri_lk lo 0 = some (.ref 0)) (l1 : ri_lk lo 1 = some (.int to)) (l2 : ri_lk lo 2 = some (.int 0)) : (∃ (h2 : ri_H), ∃ (h5 : ri_H), ∃ (x9 : Int32), ∃ (h7 : ri_H), ¬ ((eh_i G 0 35) = 40) ∧ eh_V h2 = eh_u G 4 (to).toNatClampNeg (.int 3) ∧ ri_calE ri_md (d + 3) 158 [.ref 0] h2 = some (none, h5) ∧ iT b n m (eh_V h5) ∧ ri_calE ri_md (d + 3) 164 [.ref 0, .int 1, .int 60] h5 = some (some (.int x9), h7) ∧ iT b n m (eh_V h7) ∧ ¬ (x9 = 0) ∧ rs = [.int 1] ∧ eh_V h' = eh_u (eh_V h7) 4 (to + 1).toNatClampNeg (.int (eh_i (eh_V h7) 0 18)) ∧ eh_N h' = eh_N h ∧ iT b n m (eh_u (eh_V h7) 4 (to + 1).toNatClampNeg (.int (eh_i (eh_V h7) 0 18)))) ∨ (∃ (h2 : ri_H), ∃ (h5 : ri_H), ∃ (x9 : Int32), ∃ (h7 : ri_H), ¬ ((eh_i G 0 35) = 40) ∧ eh_V h2 = eh_u G 4 (to).toNatClampNeg (.int 3) ∧ ri_calE ri_md (d + 3) 158 [.ref 0] h2 = some (none, h5) ∧ iT b n m (eh_V h5) ∧ ri_calE ri_md (d + 3) 164 [.ref 0, .int 1, .int 60] h5 = some (some (.int x9), h7) ∧ iT b n m (eh_V h7) ∧ x9 = 0 ∧ rs = [.int 0] ∧ eh_V h' = (eh_V h7) ∧ eh_N h' = eh_N h ∧ iT b n m (eh_V h7)) ∨ ((eh_i G 0 35) = 40 ∧ rs = [.int 0] ∧ eh_V h' = eh_u (eh_u G 0 15 (.int 4)) 0 16 (.int (eh_i G 0 12)) ∧ eh_N h' = eh_N h ∧ iT b n m (eh_u (eh_u G 0 15 (.int 4)) 0 16 (.int (eh_i G 0 12)))) := by
  have E := E.ld (p := 30) (t := ri_isA) (i := 0) (n := 1) (v := .ref 0) rfl (e := (.aload_n 0, 1, [], .null)) rfl rfl (fun _ _ => rfl) l0 rfl
  have E := E.gi (y := eh_i G 0 35) (p := 33) rfl (x := 384) (m := 3) (w := .null) (t := 12) (i := 35) (u := 1359) rfl rfl hV (iv.1) rfl rfl
  have E := E.pu (p := 35) (lo' := lo) (st' := [.int 40, .int (eh_i G 0 35)]) rfl (e := (.bipush 40, 2, [], .null)) rfl rfl (fun _ _ => rfl)
  rcases eh_q1 (E.br (p := 38) (c := 1) (tgt := 44) (a := eh_i G 0 35) (b := 40) (st' := []) rfl (e := (.if_icmp .ne 9, 3, [44], .null)) rfl rfl (fun _ _ => rfl) rfl) with ⟨c1, E⟩ | ⟨c1, E⟩
  · skip
    have E := E.ld (p := 45) (t := ri_isA) (i := 0) (n := 1) (v := .ref 0) rfl (e := (.aload_n 0, 1, [], .null)) rfl rfl (fun _ _ => rfl) l0 rfl
    have E := E.gr (n := 4) (p := 48) rfl (x := 40) (m := 3) (w := .null) (t := 12) (i := 8) (u := 1332) rfl rfl hV (iv.1) rfl
    have E := E.ld (p := 49) (t := ri_isI) (i := 1) (n := 1) (v := .int to) rfl (e := (.iload_n 1, 1, [], .null)) rfl rfl (fun _ _ => rfl) l1 rfl
    have E := E.ld (p := 50) (t := ri_isI) (i := 2) (n := 1) (v := .int 0) rfl (e := (.iload_n 2, 1, [], .null)) rfl rfl (fun _ _ => rfl) l2 rfl
    have E := E.brt (c := 0) (tgt := 57) (a := 0) (b := 0) (st' := [.int to, .ref 4]) rfl (e := (.ifCond .eq 7, 3, [57], .null)) rfl rfl (fun _ _ => rfl) (by decide)
    have E := E.pu (p := 58) (lo' := lo) (st' := [.int 3, .int to, .ref 4]) rfl (e := (.iconst 3, 1, [], .null)) rfl rfl (fun _ _ => rfl)
    obtain ⟨h2, hV3, hN4, E⟩ := E.aw (gg := ri_g1) (b := true) (p := 59) (n := (to).toNatClampNeg) rfl (e := (.iastore, 1, [], .null)) rfl rfl (fun _ _ => rfl) rfl hV rfl
    have E := E.ld (p := 60) (t := ri_isA) (i := 0) (n := 1) (v := .ref 0) rfl (e := (.aload_n 0, 1, [], .null)) rfl rfl (fun _ _ => rfl) l0 rfl
    obtain ⟨v1, h5, X, E⟩ := E.cv (p := 63) (as := []) (b := 0) (r := []) rfl (x := 174) (m := 3) (w := .null) (j := 158) (n := 0) (t := 12) (u := [1478, 35, 1480]) rfl rfl rfl
    obtain ⟨rfl, ivk6, hNk6⟩ := ts_158 (d := d + 1) X (by rw [hV3]; exact (iT_u iv ((iv.1).ui rfl) rfl))
    have Xk6 := X
    have E : eh_e _ _ 63 lo [] h5 rs h' := E
    have E := E.ld (p := 64) (t := ri_isI) (i := 2) (n := 1) (v := .int 0) rfl (e := (.iload_n 2, 1, [], .null)) rfl rfl (fun _ _ => rfl) l2 rfl
    have E := E.brt (c := 0) (tgt := 90) (a := 0) (b := 0) (st' := []) rfl (e := (.ifCond .eq 26, 3, [90], .null)) rfl rfl (fun _ _ => rfl) (by decide)
    have E := E.ld (p := 91) (t := ri_isA) (i := 0) (n := 1) (v := .ref 0) rfl (e := (.aload_n 0, 1, [], .null)) rfl rfl (fun _ _ => rfl) l0 rfl
    have E := E.pu (p := 92) (lo' := lo) (st' := [.int 1, .ref 0]) rfl (e := (.iconst 1, 1, [], .null)) rfl rfl (fun _ _ => rfl)
    have E := E.pu (p := 94) (lo' := lo) (st' := [.int 60, .int 1, .ref 0]) rfl (e := (.bipush 60, 2, [], .null)) rfl rfl (fun _ _ => rfl)
    obtain ⟨v1, h7, X, E⟩ := E.cv (p := 97) (as := [.int 1, .int 60]) (b := 0) (r := []) rfl (x := 184) (m := 3) (w := .null) (j := 164) (n := 2) (t := 12) (u := [1515, 42, 1517]) rfl rfl rfl
    obtain ⟨x9, rfl, ivk8, hNk8⟩ := ts_164 (d := d) X (by rw [(rfl : eh_V h5 = eh_V h5)]; exact ivk6)
    have Xk8 := X
    have E : eh_e _ _ 97 lo [.int x9] h7 rs h' := E
    rcases eh_q1 (E.br (p := 100) (c := 1) (tgt := 102) (a := x9) (b := 0) (st' := []) rfl (e := (.ifCond .ne 5, 3, [102], .null)) rfl rfl (fun _ _ => rfl) rfl) with ⟨c10, E⟩ | ⟨c10, E⟩
    · skip
      have E := E.ld (p := 103) (t := ri_isA) (i := 0) (n := 1) (v := .ref 0) rfl (e := (.aload_n 0, 1, [], .null)) rfl rfl (fun _ _ => rfl) l0 rfl
      have E := E.gr (n := 4) (p := 106) rfl (x := 40) (m := 3) (w := .null) (t := 12) (i := 8) (u := 1332) rfl rfl (rfl : eh_V h7 = eh_V h7) ivk8.1 rfl
      have E := E.ld (p := 107) (t := ri_isI) (i := 1) (n := 1) (v := .int to) rfl (e := (.iload_n 1, 1, [], .null)) rfl rfl (fun _ _ => rfl) l1 rfl
      have E := E.pu (p := 108) (lo' := lo) (st' := [.int 1, .int to, .ref 4]) rfl (e := (.iconst 1, 1, [], .null)) rfl rfl (fun _ _ => rfl)
      have E := E.pu (p := 109) (lo' := lo) (st' := [.int (to + 1), .ref 4]) rfl (e := (.iadd, 1, [], .null)) rfl rfl (fun _ _ => rfl)
      have E := E.ld (p := 110) (t := ri_isA) (i := 0) (n := 1) (v := .ref 0) rfl (e := (.aload_n 0, 1, [], .null)) rfl rfl (fun _ _ => rfl) l0 rfl
      have E := E.gi (y := eh_i (eh_V h7) 0 18) (p := 113) rfl (x := 181) (m := 3) (w := .null) (t := 12) (i := 18) (u := 1342) rfl rfl (rfl : eh_V h7 = eh_V h7) ivk8.1 rfl rfl
      obtain ⟨h11, hV12, hN13, E⟩ := E.aw (gg := ri_g1) (b := true) (p := 114) (n := (to + 1).toNatClampNeg) rfl (e := (.iastore, 1, [], .null)) rfl rfl (fun _ _ => rfl) rfl (rfl : eh_V h7 = eh_V h7) rfl
      have E := E.pu (p := 115) (lo' := lo) (st' := [.int 1]) rfl (e := (.iconst 1, 1, [], .null)) rfl rfl (fun _ _ => rfl)
      obtain ⟨r1, r2⟩ := E.reti rfl (m := 1) (ax := []) (w := .null) rfl
      exact Or.inl ⟨h2, h5, x9, h7, c1, hV3, Xk6, ivk6, Xk8, ivk8, c10, r1, ((congrArg eh_V r2).trans hV12), ((congrArg eh_N r2).trans (hN13.trans (hNk8.trans (hNk6.trans hN4)))), (iT_u ivk8 (ivk8.1.ui rfl) rfl)⟩
    · skip
      have E := E.pu (p := 101) (lo' := lo) (st' := [.int 0]) rfl (e := (.iconst 0, 1, [], .null)) rfl rfl (fun _ _ => rfl)
      obtain ⟨r1, r2⟩ := E.reti rfl (m := 1) (ax := []) (w := .null) rfl
      exact Or.inr (Or.inl ⟨h2, h5, x9, h7, c1, hV3, Xk6, ivk6, Xk8, ivk8, c10, r1, ((congrArg eh_V r2).trans (rfl : eh_V h7 = eh_V h7)), ((congrArg eh_N r2).trans (hNk8.trans (hNk6.trans hN4))), ivk8⟩)
  · skip
    have E := E.ld (p := 39) (t := ri_isA) (i := 0) (n := 1) (v := .ref 0) rfl (e := (.aload_n 0, 1, [], .null)) rfl rfl (fun _ _ => rfl) l0 rfl
    have E := E.pu (p := 40) (lo' := lo) (st' := [.int 4, .ref 0]) rfl (e := (.iconst 4, 1, [], .null)) rfl rfl (fun _ _ => rfl)
    obtain ⟨v1, h14, X, E⟩ := E.cv (p := 43) (as := [.int 4]) (b := 0) (r := []) rfl (x := 171) (m := 3) (w := .null) (j := 159) (n := 1) (t := 12) (u := [1507, 40, 1509]) rfl rfl rfl
    rcases sp_159 (d := d + 2) X hV (iv.1) with ⟨rfl, hV15, hN16⟩
    have hV15 : _ = eh_u (eh_u G 0 15 (.int 4)) 0 16 (.int (eh_i G 0 12)) := hV15
    have E : eh_e _ _ 43 lo [.int 0] _ rs h' := E
    obtain ⟨r1, r2⟩ := E.reti rfl (m := 1) (ax := []) (w := .null) rfl
    exact Or.inr (Or.inr (⟨c1, r1, ((congrArg eh_V r2).trans hV15), ((congrArg eh_N r2).trans hN16), (iT_u (iT_u iv ((iv.1).ui rfl) rfl) (((iv.1).ui rfl).ui rfl) rfl)⟩))
theorem zi_d {d : Nat} {lo : List (Nat × Value)} {h h' : ri_H} {rs : List Value} {G : eh_W} {to : Int32} (E : eh_e (ri_calE ri_md (d + 1)) md_238 116 lo [] h rs h') (hV : eh_V h = G) (ty : eh_ty tM G) (l0 : ri_lk lo 0 = some (.ref 0)) (l1 : ri_lk lo 1 = some (.int to)) : (∃ (x9 : Int32), ∃ (x15 : Int32), nm_M G ∧ fd_M G 14 (eh_i G 2 5) x9 ∧ fd_M G 18 (eh_i G 2 6) x15 ∧ ¬ (x9.toInt < 0) ∧ ¬ ((eh_i G 0 35) = 40) ∧ ∃ hz loz, eh_e (ri_calE ri_md (d + 1)) md_238 187 loz [] hz rs h' ∧ eh_V hz = G ∧ eh_N hz = eh_N h ∧ eh_ty tM G ∧ ri_lk loz 0 = some (.ref 0) ∧ ri_lk loz 1 = some (.int to) ∧ ri_lk loz 3 = some (.int x9) ∧ ri_lk loz 4 = some (.int x15)) ∨ (∃ (x9 : Int32), ∃ (x15 : Int32), nm_M G ∧ fd_M G 14 (eh_i G 2 5) x9 ∧ fd_M G 18 (eh_i G 2 6) x15 ∧ ¬ (x9.toInt < 0) ∧ (eh_i G 0 35) = 40 ∧ rs = [.int 0] ∧ eh_V h' = eh_u (eh_u G 0 15 (.int 4)) 0 16 (.int (eh_i G 0 12)) ∧ eh_N h' = eh_N h) ∨ (∃ (x9 : Int32), ∃ (x15 : Int32), nm_M G ∧ fd_M G 14 (eh_i G 2 5) x9 ∧ fd_M G 18 (eh_i G 2 6) x15 ∧ x9.toInt < 0 ∧ ¬ (x15.toInt < 0) ∧ ¬ ((eh_i G 0 35) = 40) ∧ ∃ hz loz, eh_e (ri_calE ri_md (d + 1)) md_238 187 loz [] hz rs h' ∧ eh_V hz = G ∧ eh_N hz = eh_N h ∧ eh_ty tM G ∧ ri_lk loz 0 = some (.ref 0) ∧ ri_lk loz 1 = some (.int to) ∧ ri_lk loz 3 = some (.int x9) ∧ ri_lk loz 4 = some (.int x15)) ∨ (∃ (x9 : Int32), ∃ (x15 : Int32), nm_M G ∧ fd_M G 14 (eh_i G 2 5) x9 ∧ fd_M G 18 (eh_i G 2 6) x15 ∧ x9.toInt < 0 ∧ ¬ (x15.toInt < 0) ∧ (eh_i G 0 35) = 40 ∧ rs = [.int 0] ∧ eh_V h' = eh_u (eh_u G 0 15 (.int 4)) 0 16 (.int (eh_i G 0 12)) ∧ eh_N h' = eh_N h) ∨ (∃ (x9 : Int32), ∃ (x15 : Int32), nm_M G ∧ fd_M G 14 (eh_i G 2 5) x9 ∧ fd_M G 18 (eh_i G 2 6) x15 ∧ x9.toInt < 0 ∧ x15.toInt < 0 ∧ rs = [.int 0] ∧ eh_V h' = eh_u (eh_u G 0 15 (.int 3)) 0 16 (.int (eh_i G 0 12)) ∧ eh_N h' = eh_N h) ∨ (¬ (nm_M G) ∧ rs = [.int 0] ∧ eh_V h' = eh_u (eh_u G 0 15 (.int 1)) 0 16 (.int (eh_i G 0 12)) ∧ eh_N h' = eh_N h) := by
  have E := E.ld (p := 117) (t := ri_isA) (i := 0) (n := 1) (v := .ref 0) rfl (e := (.aload_n 0, 1, [], .null)) rfl rfl (fun _ _ => rfl) l0 rfl
  obtain ⟨v1, h1, X, E⟩ := E.cv (p := 120) (as := []) (b := 0) (r := []) rfl (x := 188) (m := 3) (w := .null) (j := 163) (n := 0) (t := 12) (u := [1526, 44, 1528]) rfl rfl rfl
  rcases sp_163 (d := d) X hV ty with ⟨c2, rfl, hV3, hN4⟩ | ⟨c5, rfl, hV6, hN7⟩
  · skip
    have c2 : nm_M G := c2
    have E : eh_e _ _ 120 lo [.int 1] _ rs h' := E
    have E := E.brt (c := 1) (tgt := 129) (a := 1) (b := 0) (st' := []) rfl (e := (.ifCond .ne 9, 3, [129], .null)) rfl rfl (fun _ _ => rfl) (by decide)
    have E := E.ld (p := 130) (t := ri_isA) (i := 0) (n := 1) (v := .ref 0) rfl (e := (.aload_n 0, 1, [], .null)) rfl rfl (fun _ _ => rfl) l0 rfl
    have E := E.pu (p := 132) (lo' := lo) (st' := [.int 14, .ref 0]) rfl (e := (.bipush 14, 2, [], .null)) rfl rfl (fun _ _ => rfl)
    have E := E.ld (p := 133) (t := ri_isA) (i := 0) (n := 1) (v := .ref 0) rfl (e := (.aload_n 0, 1, [], .null)) rfl rfl (fun _ _ => rfl) l0 rfl
    have E := E.gr (n := 2) (p := 136) rfl (x := 33) (m := 3) (w := .null) (t := 12) (i := 6) (u := 1330) rfl rfl hV3 ty rfl
    have E := E.pu (p := 137) (lo' := lo) (st' := [.int 5, .ref 2, .int 14, .ref 0]) rfl (e := (.iconst 5, 1, [], .null)) rfl rfl (fun _ _ => rfl)
    have E := E.ai (p := 138) (z := eh_i G 2 5) (n := 5) rfl (e := (.iaload, 1, [], .null)) rfl rfl (fun _ _ => rfl) rfl hV3 ty (by decide) rfl rfl
    obtain ⟨v1, h8, X, E⟩ := E.cv (p := 141) (as := [.int 14, .int (eh_i G 2 5)]) (b := 0) (r := []) rfl (x := 192) (m := 3) (w := .null) (j := 166) (n := 2) (t := 12) (u := [1530, 45, 1532]) rfl rfl rfl
    rcases sp_166 (d := d) X hV3 ty with ⟨x9, c10, rfl, hV11, hN12⟩
    have c10 : fd_M G 14 (eh_i G 2 5) x9 := c10
    have E : eh_e _ _ 141 lo [.int x9] _ rs h' := E
    have E := E.so (p := 142) (t := ri_isI) (i := 3) (n := 1) rfl (e := (.istore_n 3, 1, [], .null)) rfl rfl (fun _ _ => rfl) rfl
    have k13_3 : ri_lk (ri_st1 lo 3 (.int x9)) 3 = some (.int x9) := eh_self
    have k13_0 : ri_lk (ri_st1 lo 3 (.int x9)) 0 = some (.ref 0) := eh_keep (by decide) (Or.inl rfl) l0
    have k13_1 : ri_lk (ri_st1 lo 3 (.int x9)) 1 = some (.int to) := eh_keep (by decide) (Or.inl rfl) l1
    have E := E.ld (p := 143) (t := ri_isA) (i := 0) (n := 1) (v := .ref 0) rfl (e := (.aload_n 0, 1, [], .null)) rfl rfl (fun _ _ => rfl) k13_0 rfl
    have E := E.pu (p := 145) (lo' := (ri_st1 lo 3 (.int x9))) (st' := [.int 18, .ref 0]) rfl (e := (.bipush 18, 2, [], .null)) rfl rfl (fun _ _ => rfl)
    have E := E.ld (p := 146) (t := ri_isA) (i := 0) (n := 1) (v := .ref 0) rfl (e := (.aload_n 0, 1, [], .null)) rfl rfl (fun _ _ => rfl) k13_0 rfl
    have E := E.gr (n := 2) (p := 149) rfl (x := 33) (m := 3) (w := .null) (t := 12) (i := 6) (u := 1330) rfl rfl hV11 ty rfl
    have E := E.pu (p := 151) (lo' := (ri_st1 lo 3 (.int x9))) (st' := [.int 6, .ref 2, .int 18, .ref 0]) rfl (e := (.bipush 6, 2, [], .null)) rfl rfl (fun _ _ => rfl)
    have E := E.ai (p := 152) (z := eh_i G 2 6) (n := 6) rfl (e := (.iaload, 1, [], .null)) rfl rfl (fun _ _ => rfl) rfl hV11 ty (by decide) rfl rfl
    obtain ⟨v1, h14, X, E⟩ := E.cv (p := 155) (as := [.int 18, .int (eh_i G 2 6)]) (b := 0) (r := []) rfl (x := 192) (m := 3) (w := .null) (j := 166) (n := 2) (t := 12) (u := [1530, 45, 1532]) rfl rfl rfl
    rcases sp_166 (d := d) X hV11 ty with ⟨x15, c16, rfl, hV17, hN18⟩
    have c16 : fd_M G 18 (eh_i G 2 6) x15 := c16
    have E : eh_e _ _ 155 (ri_st1 lo 3 (.int x9)) [.int x15] _ rs h' := E
    have E := E.so (p := 157) (t := ri_isI) (i := 4) (n := 2) rfl (e := (.istore 4, 2, [], .null)) rfl rfl (fun _ _ => rfl) rfl
    have k19_4 : ri_lk (ri_st1 (ri_st1 lo 3 (.int x9)) 4 (.int x15)) 4 = some (.int x15) := eh_self
    have k19_0 : ri_lk (ri_st1 (ri_st1 lo 3 (.int x9)) 4 (.int x15)) 0 = some (.ref 0) := eh_keep (by decide) (Or.inl rfl) k13_0
    have k19_1 : ri_lk (ri_st1 (ri_st1 lo 3 (.int x9)) 4 (.int x15)) 1 = some (.int to) := eh_keep (by decide) (Or.inl rfl) k13_1
    have k19_3 : ri_lk (ri_st1 (ri_st1 lo 3 (.int x9)) 4 (.int x15)) 3 = some (.int x9) := eh_keep (by decide) (Or.inl rfl) k13_3
    have E := E.ld (p := 158) (t := ri_isI) (i := 3) (n := 1) (v := .int x9) rfl (e := (.iload_n 3, 1, [], .null)) rfl rfl (fun _ _ => rfl) k19_3 rfl
    rcases eh_r3 rfl (show (0 : Int32).toInt = 0 by decide) (E.br (p := 161) (c := 3) (tgt := 172) (a := x9) (b := 0) (st' := []) rfl (e := (.ifCond .ge 14, 3, [172], .null)) rfl rfl (fun _ _ => rfl) rfl) with ⟨c20, E⟩ | ⟨c20, E⟩
    · skip
      have E := E.ld (p := 173) (t := ri_isA) (i := 0) (n := 1) (v := .ref 0) rfl (e := (.aload_n 0, 1, [], .null)) rfl rfl (fun _ _ => rfl) k19_0 rfl
      have E := E.gi (y := eh_i G 0 35) (p := 176) rfl (x := 384) (m := 3) (w := .null) (t := 12) (i := 35) (u := 1359) rfl rfl hV17 ty rfl rfl
      have E := E.pu (p := 178) (lo' := (ri_st1 (ri_st1 lo 3 (.int x9)) 4 (.int x15))) (st' := [.int 40, .int (eh_i G 0 35)]) rfl (e := (.bipush 40, 2, [], .null)) rfl rfl (fun _ _ => rfl)
      rcases eh_q1 (E.br (p := 181) (c := 1) (tgt := 187) (a := eh_i G 0 35) (b := 40) (st' := []) rfl (e := (.if_icmp .ne 9, 3, [187], .null)) rfl rfl (fun _ _ => rfl) rfl) with ⟨c21, E⟩ | ⟨c21, E⟩
      · skip
        exact Or.inl ⟨x9, x15, c2, c10, c16, c20, c21, _, _, E, hV17, (hN18.trans (hN12.trans hN4)), ty, k19_0, k19_1, k19_3, k19_4⟩
      · skip
        have E := E.ld (p := 182) (t := ri_isA) (i := 0) (n := 1) (v := .ref 0) rfl (e := (.aload_n 0, 1, [], .null)) rfl rfl (fun _ _ => rfl) k19_0 rfl
        have E := E.pu (p := 183) (lo' := (ri_st1 (ri_st1 lo 3 (.int x9)) 4 (.int x15))) (st' := [.int 4, .ref 0]) rfl (e := (.iconst 4, 1, [], .null)) rfl rfl (fun _ _ => rfl)
        obtain ⟨v1, h22, X, E⟩ := E.cv (p := 186) (as := [.int 4]) (b := 0) (r := []) rfl (x := 171) (m := 3) (w := .null) (j := 159) (n := 1) (t := 12) (u := [1507, 40, 1509]) rfl rfl rfl
        rcases sp_159 (d := d) X hV17 ty with ⟨rfl, hV23, hN24⟩
        have hV23 : _ = eh_u (eh_u G 0 15 (.int 4)) 0 16 (.int (eh_i G 0 12)) := hV23
        have E : eh_e _ _ 186 (ri_st1 (ri_st1 lo 3 (.int x9)) 4 (.int x15)) [.int 0] _ rs h' := E
        obtain ⟨r1, r2⟩ := E.reti rfl (m := 1) (ax := []) (w := .null) rfl
        exact Or.inr (Or.inl ⟨x9, x15, c2, c10, c16, c20, c21, r1, ((congrArg eh_V r2).trans hV23), ((congrArg eh_N r2).trans (hN24.trans (hN18.trans (hN12.trans hN4))))⟩)
    · skip
      have E := E.ld (p := 163) (t := ri_isI) (i := 4) (n := 2) (v := .int x15) rfl (e := (.iload 4, 2, [], .null)) rfl rfl (fun _ _ => rfl) k19_4 rfl
      rcases eh_r3 rfl (show (0 : Int32).toInt = 0 by decide) (E.br (p := 166) (c := 3) (tgt := 172) (a := x15) (b := 0) (st' := []) rfl (e := (.ifCond .ge 9, 3, [172], .null)) rfl rfl (fun _ _ => rfl) rfl) with ⟨c25, E⟩ | ⟨c25, E⟩
      · skip
        have E := E.ld (p := 173) (t := ri_isA) (i := 0) (n := 1) (v := .ref 0) rfl (e := (.aload_n 0, 1, [], .null)) rfl rfl (fun _ _ => rfl) k19_0 rfl
        have E := E.gi (y := eh_i G 0 35) (p := 176) rfl (x := 384) (m := 3) (w := .null) (t := 12) (i := 35) (u := 1359) rfl rfl hV17 ty rfl rfl
        have E := E.pu (p := 178) (lo' := (ri_st1 (ri_st1 lo 3 (.int x9)) 4 (.int x15))) (st' := [.int 40, .int (eh_i G 0 35)]) rfl (e := (.bipush 40, 2, [], .null)) rfl rfl (fun _ _ => rfl)
        rcases eh_q1 (E.br (p := 181) (c := 1) (tgt := 187) (a := eh_i G 0 35) (b := 40) (st' := []) rfl (e := (.if_icmp .ne 9, 3, [187], .null)) rfl rfl (fun _ _ => rfl) rfl) with ⟨c26, E⟩ | ⟨c26, E⟩
        · skip
          exact Or.inr (Or.inr (Or.inl ⟨x9, x15, c2, c10, c16, c20, c25, c26, _, _, E, hV17, (hN18.trans (hN12.trans hN4)), ty, k19_0, k19_1, k19_3, k19_4⟩))
        · skip
          have E := E.ld (p := 182) (t := ri_isA) (i := 0) (n := 1) (v := .ref 0) rfl (e := (.aload_n 0, 1, [], .null)) rfl rfl (fun _ _ => rfl) k19_0 rfl
          have E := E.pu (p := 183) (lo' := (ri_st1 (ri_st1 lo 3 (.int x9)) 4 (.int x15))) (st' := [.int 4, .ref 0]) rfl (e := (.iconst 4, 1, [], .null)) rfl rfl (fun _ _ => rfl)
          obtain ⟨v1, h27, X, E⟩ := E.cv (p := 186) (as := [.int 4]) (b := 0) (r := []) rfl (x := 171) (m := 3) (w := .null) (j := 159) (n := 1) (t := 12) (u := [1507, 40, 1509]) rfl rfl rfl
          rcases sp_159 (d := d) X hV17 ty with ⟨rfl, hV28, hN29⟩
          have hV28 : _ = eh_u (eh_u G 0 15 (.int 4)) 0 16 (.int (eh_i G 0 12)) := hV28
          have E : eh_e _ _ 186 (ri_st1 (ri_st1 lo 3 (.int x9)) 4 (.int x15)) [.int 0] _ rs h' := E
          obtain ⟨r1, r2⟩ := E.reti rfl (m := 1) (ax := []) (w := .null) rfl
          exact Or.inr (Or.inr (Or.inr (Or.inl ⟨x9, x15, c2, c10, c16, c20, c25, c26, r1, ((congrArg eh_V r2).trans hV28), ((congrArg eh_N r2).trans (hN29.trans (hN18.trans (hN12.trans hN4))))⟩)))
      · skip
        have E := E.ld (p := 167) (t := ri_isA) (i := 0) (n := 1) (v := .ref 0) rfl (e := (.aload_n 0, 1, [], .null)) rfl rfl (fun _ _ => rfl) k19_0 rfl
        have E := E.pu (p := 168) (lo' := (ri_st1 (ri_st1 lo 3 (.int x9)) 4 (.int x15))) (st' := [.int 3, .ref 0]) rfl (e := (.iconst 3, 1, [], .null)) rfl rfl (fun _ _ => rfl)
        obtain ⟨v1, h30, X, E⟩ := E.cv (p := 171) (as := [.int 3]) (b := 0) (r := []) rfl (x := 171) (m := 3) (w := .null) (j := 159) (n := 1) (t := 12) (u := [1507, 40, 1509]) rfl rfl rfl
        rcases sp_159 (d := d) X hV17 ty with ⟨rfl, hV31, hN32⟩
        have hV31 : _ = eh_u (eh_u G 0 15 (.int 3)) 0 16 (.int (eh_i G 0 12)) := hV31
        have E : eh_e _ _ 171 (ri_st1 (ri_st1 lo 3 (.int x9)) 4 (.int x15)) [.int 0] _ rs h' := E
        obtain ⟨r1, r2⟩ := E.reti rfl (m := 1) (ax := []) (w := .null) rfl
        exact Or.inr (Or.inr (Or.inr (Or.inr (Or.inl ⟨x9, x15, c2, c10, c16, c20, c25, r1, ((congrArg eh_V r2).trans hV31), ((congrArg eh_N r2).trans (hN32.trans (hN18.trans (hN12.trans hN4))))⟩))))
  · skip
    have c5 : ¬ (nm_M G) := c5
    have E : eh_e _ _ 120 lo [.int 0] _ rs h' := E
    have E := E.brf (p := 123) (c := 1) (tgt := 129) (a := 0) (b := 0) (st' := []) rfl (e := (.ifCond .ne 9, 3, [129], .null)) rfl rfl (fun _ _ => rfl) (by decide) rfl
    have E := E.ld (p := 124) (t := ri_isA) (i := 0) (n := 1) (v := .ref 0) rfl (e := (.aload_n 0, 1, [], .null)) rfl rfl (fun _ _ => rfl) l0 rfl
    have E := E.pu (p := 125) (lo' := lo) (st' := [.int 1, .ref 0]) rfl (e := (.iconst 1, 1, [], .null)) rfl rfl (fun _ _ => rfl)
    obtain ⟨v1, h33, X, E⟩ := E.cv (p := 128) (as := [.int 1]) (b := 0) (r := []) rfl (x := 171) (m := 3) (w := .null) (j := 159) (n := 1) (t := 12) (u := [1507, 40, 1509]) rfl rfl rfl
    rcases sp_159 (d := d) X hV6 ty with ⟨rfl, hV34, hN35⟩
    have hV34 : _ = eh_u (eh_u G 0 15 (.int 1)) 0 16 (.int (eh_i G 0 12)) := hV34
    have E : eh_e _ _ 128 lo [.int 0] _ rs h' := E
    obtain ⟨r1, r2⟩ := E.reti rfl (m := 1) (ax := []) (w := .null) rfl
    exact Or.inr (Or.inr (Or.inr (Or.inr (Or.inr (⟨c5, r1, ((congrArg eh_V r2).trans hV34), ((congrArg eh_N r2).trans (hN35.trans hN7))⟩)))))
theorem zi_e {d : Nat} {lo : List (Nat × Value)} {h h' : ri_H} {rs : List Value} {G : eh_W} {b : Nat → Int32} {n m : Nat} {to t bo : Int32} (E : eh_e (ri_calE ri_md (d + 3)) md_238 187 lo [] h rs h') (hV : eh_V h = G) (iv : iT b n m G) (l0 : ri_lk lo 0 = some (.ref 0)) (l1 : ri_lk lo 1 = some (.int to)) (l3 : ri_lk lo 3 = some (.int t)) (l4 : ri_lk lo 4 = some (.int bo)) : (∃ (h5 : ri_H), ∃ (h8 : ri_H), ¬ (t.toInt < 0) ∧ eh_V h5 = eh_u (eh_u G 4 (to).toNatClampNeg (.int 0)) 4 (to + 1).toNatClampNeg (.int t) ∧ ri_calE ri_md (d + 3) 158 [.ref 0] h5 = some (none, h8) ∧ iT b n m (eh_V h8) ∧ ¬ ((eh_i (eh_V h8) 0 11) = 1) ∧ rs = [.int 0] ∧ eh_V h' = eh_u (eh_u (eh_V h8) 0 15 (.int 1)) 0 16 (.int (eh_i (eh_V h8) 0 12)) ∧ eh_N h' = eh_N h ∧ iT b n m (eh_u (eh_u (eh_V h8) 0 15 (.int 1)) 0 16 (.int (eh_i (eh_V h8) 0 12)))) ∨ (∃ (h5 : ri_H), ∃ (h8 : ri_H), ¬ (t.toInt < 0) ∧ eh_V h5 = eh_u (eh_u G 4 (to).toNatClampNeg (.int 0)) 4 (to + 1).toNatClampNeg (.int t) ∧ ri_calE ri_md (d + 3) 158 [.ref 0] h5 = some (none, h8) ∧ iT b n m (eh_V h8) ∧ (eh_i (eh_V h8) 0 11) = 1 ∧ ¬ ((eh_l (eh_V h8) 0 17) = 495673374579) ∧ rs = [.int 0] ∧ eh_V h' = eh_u (eh_u (eh_V h8) 0 15 (.int 1)) 0 16 (.int (eh_i (eh_V h8) 0 12)) ∧ eh_N h' = eh_N h ∧ iT b n m (eh_u (eh_u (eh_V h8) 0 15 (.int 1)) 0 16 (.int (eh_i (eh_V h8) 0 12)))) ∨ (∃ (h5 : ri_H), ∃ (h8 : ri_H), ∃ (h10 : ri_H), ∃ (h28 : ri_H), ∃ (x32 : Int32), ∃ (h30 : ri_H), ∃ (h34 : ri_H), ¬ (t.toInt < 0) ∧ eh_V h5 = eh_u (eh_u G 4 (to).toNatClampNeg (.int 0)) 4 (to + 1).toNatClampNeg (.int t) ∧ ri_calE ri_md (d + 3) 158 [.ref 0] h5 = some (none, h8) ∧ iT b n m (eh_V h8) ∧ (eh_i (eh_V h8) 0 11) = 1 ∧ (eh_l (eh_V h8) 0 17) = 495673374579 ∧ eh_V h10 = (eh_V h8) ∧ ri_calE ri_md (d + 3) 158 [.ref 0] h10 = some (none, h28) ∧ iT b n m (eh_V h28) ∧ ri_calE ri_md (d + 3) 168 [.ref 0, .int 6, .int (eh_i (eh_V h28) 2 4)] h28 = some (some (.int x32), h30) ∧ iT b n m (eh_V h30) ∧ ¬ (x32 = 0) ∧ ri_calE ri_md (d + 3) 158 [.ref 0] h30 = some (none, h34) ∧ iT b n m (eh_V h34) ∧ rs = [.int 1] ∧ eh_V h' = eh_u (eh_V h34) 4 (to + 2).toNatClampNeg (.int (eh_i (eh_V h34) 0 18)) ∧ eh_N h' = eh_N h ∧ iT b n m (eh_u (eh_V h34) 4 (to + 2).toNatClampNeg (.int (eh_i (eh_V h34) 0 18)))) ∨ (∃ (h5 : ri_H), ∃ (h8 : ri_H), ∃ (h10 : ri_H), ∃ (h28 : ri_H), ∃ (x32 : Int32), ∃ (h30 : ri_H), ¬ (t.toInt < 0) ∧ eh_V h5 = eh_u (eh_u G 4 (to).toNatClampNeg (.int 0)) 4 (to + 1).toNatClampNeg (.int t) ∧ ri_calE ri_md (d + 3) 158 [.ref 0] h5 = some (none, h8) ∧ iT b n m (eh_V h8) ∧ (eh_i (eh_V h8) 0 11) = 1 ∧ (eh_l (eh_V h8) 0 17) = 495673374579 ∧ eh_V h10 = (eh_V h8) ∧ ri_calE ri_md (d + 3) 158 [.ref 0] h10 = some (none, h28) ∧ iT b n m (eh_V h28) ∧ ri_calE ri_md (d + 3) 168 [.ref 0, .int 6, .int (eh_i (eh_V h28) 2 4)] h28 = some (some (.int x32), h30) ∧ iT b n m (eh_V h30) ∧ x32 = 0 ∧ rs = [.int 0] ∧ eh_V h' = (eh_V h30) ∧ eh_N h' = eh_N h ∧ iT b n m (eh_V h30)) ∨ (∃ (h42 : ri_H), ∃ (h45 : ri_H), t.toInt < 0 ∧ eh_V h42 = eh_u (eh_u G 4 (to).toNatClampNeg (.int 2)) 4 (to + 1).toNatClampNeg (.int bo) ∧ ri_calE ri_md (d + 3) 158 [.ref 0] h42 = some (none, h45) ∧ iT b n m (eh_V h45) ∧ ¬ ((eh_i (eh_V h45) 0 11) = 1) ∧ rs = [.int 0] ∧ eh_V h' = eh_u (eh_u (eh_V h45) 0 15 (.int 1)) 0 16 (.int (eh_i (eh_V h45) 0 12)) ∧ eh_N h' = eh_N h ∧ iT b n m (eh_u (eh_u (eh_V h45) 0 15 (.int 1)) 0 16 (.int (eh_i (eh_V h45) 0 12)))) ∨ (∃ (h42 : ri_H), ∃ (h45 : ri_H), t.toInt < 0 ∧ eh_V h42 = eh_u (eh_u G 4 (to).toNatClampNeg (.int 2)) 4 (to + 1).toNatClampNeg (.int bo) ∧ ri_calE ri_md (d + 3) 158 [.ref 0] h42 = some (none, h45) ∧ iT b n m (eh_V h45) ∧ (eh_i (eh_V h45) 0 11) = 1 ∧ ¬ ((eh_l (eh_V h45) 0 17) = 495555538035) ∧ rs = [.int 0] ∧ eh_V h' = eh_u (eh_u (eh_V h45) 0 15 (.int 1)) 0 16 (.int (eh_i (eh_V h45) 0 12)) ∧ eh_N h' = eh_N h ∧ iT b n m (eh_u (eh_u (eh_V h45) 0 15 (.int 1)) 0 16 (.int (eh_i (eh_V h45) 0 12)))) ∨ (∃ (h42 : ri_H), ∃ (h45 : ri_H), ∃ (h47 : ri_H), ∃ (h65 : ri_H), ∃ (x69 : Int32), ∃ (h67 : ri_H), t.toInt < 0 ∧ eh_V h42 = eh_u (eh_u G 4 (to).toNatClampNeg (.int 2)) 4 (to + 1).toNatClampNeg (.int bo) ∧ ri_calE ri_md (d + 3) 158 [.ref 0] h42 = some (none, h45) ∧ iT b n m (eh_V h45) ∧ (eh_i (eh_V h45) 0 11) = 1 ∧ (eh_l (eh_V h45) 0 17) = 495555538035 ∧ eh_V h47 = (eh_V h45) ∧ ri_calE ri_md (d + 3) 158 [.ref 0] h47 = some (none, h65) ∧ iT b n m (eh_V h65) ∧ ri_calE ri_md (d + 3) 164 [.ref 0, .int 0, .int 7] h65 = some (some (.int x69), h67) ∧ iT b n m (eh_V h67) ∧ ¬ (x69 = 0) ∧ rs = [.int 1] ∧ eh_V h' = eh_u (eh_V h67) 4 (to + 2).toNatClampNeg (.int (eh_i (eh_V h67) 0 18)) ∧ eh_N h' = eh_N h ∧ iT b n m (eh_u (eh_V h67) 4 (to + 2).toNatClampNeg (.int (eh_i (eh_V h67) 0 18)))) ∨ (∃ (h42 : ri_H), ∃ (h45 : ri_H), ∃ (h47 : ri_H), ∃ (h65 : ri_H), ∃ (x69 : Int32), ∃ (h67 : ri_H), t.toInt < 0 ∧ eh_V h42 = eh_u (eh_u G 4 (to).toNatClampNeg (.int 2)) 4 (to + 1).toNatClampNeg (.int bo) ∧ ri_calE ri_md (d + 3) 158 [.ref 0] h42 = some (none, h45) ∧ iT b n m (eh_V h45) ∧ (eh_i (eh_V h45) 0 11) = 1 ∧ (eh_l (eh_V h45) 0 17) = 495555538035 ∧ eh_V h47 = (eh_V h45) ∧ ri_calE ri_md (d + 3) 158 [.ref 0] h47 = some (none, h65) ∧ iT b n m (eh_V h65) ∧ ri_calE ri_md (d + 3) 164 [.ref 0, .int 0, .int 7] h65 = some (some (.int x69), h67) ∧ iT b n m (eh_V h67) ∧ x69 = 0 ∧ rs = [.int 0] ∧ eh_V h' = (eh_V h67) ∧ eh_N h' = eh_N h ∧ iT b n m (eh_V h67)) := by
  have E := E.ld (p := 188) (t := ri_isA) (i := 0) (n := 1) (v := .ref 0) rfl (e := (.aload_n 0, 1, [], .null)) rfl rfl (fun _ _ => rfl) l0 rfl
  have E := E.gr (n := 4) (p := 191) rfl (x := 40) (m := 3) (w := .null) (t := 12) (i := 8) (u := 1332) rfl rfl hV (iv.1) rfl
  have E := E.ld (p := 192) (t := ri_isI) (i := 1) (n := 1) (v := .int to) rfl (e := (.iload_n 1, 1, [], .null)) rfl rfl (fun _ _ => rfl) l1 rfl
  have E := E.ld (p := 193) (t := ri_isI) (i := 3) (n := 1) (v := .int t) rfl (e := (.iload_n 3, 1, [], .null)) rfl rfl (fun _ _ => rfl) l3 rfl
  rcases eh_r3 rfl (show (0 : Int32).toInt = 0 by decide) (E.br (p := 196) (c := 3) (tgt := 200) (a := t) (b := 0) (st' := [.int to, .ref 4]) rfl (e := (.ifCond .ge 7, 3, [200], .null)) rfl rfl (fun _ _ => rfl) rfl) with ⟨c1, E⟩ | ⟨c1, E⟩
  · skip
    have E := E.pu (p := 201) (lo' := lo) (st' := [.int 0, .int to, .ref 4]) rfl (e := (.iconst 0, 1, [], .null)) rfl rfl (fun _ _ => rfl)
    obtain ⟨h2, hV3, hN4, E⟩ := E.aw (gg := ri_g1) (b := true) (p := 202) (n := (to).toNatClampNeg) rfl (e := (.iastore, 1, [], .null)) rfl rfl (fun _ _ => rfl) rfl hV rfl
    have E := E.ld (p := 203) (t := ri_isA) (i := 0) (n := 1) (v := .ref 0) rfl (e := (.aload_n 0, 1, [], .null)) rfl rfl (fun _ _ => rfl) l0 rfl
    have E := E.gr (n := 4) (p := 206) rfl (x := 40) (m := 3) (w := .null) (t := 12) (i := 8) (u := 1332) rfl rfl hV3 ((iv.1).ui rfl) rfl
    have E := E.ld (p := 207) (t := ri_isI) (i := 1) (n := 1) (v := .int to) rfl (e := (.iload_n 1, 1, [], .null)) rfl rfl (fun _ _ => rfl) l1 rfl
    have E := E.pu (p := 208) (lo' := lo) (st' := [.int 1, .int to, .ref 4]) rfl (e := (.iconst 1, 1, [], .null)) rfl rfl (fun _ _ => rfl)
    have E := E.pu (p := 209) (lo' := lo) (st' := [.int (to + 1), .ref 4]) rfl (e := (.iadd, 1, [], .null)) rfl rfl (fun _ _ => rfl)
    have E := E.ld (p := 210) (t := ri_isI) (i := 3) (n := 1) (v := .int t) rfl (e := (.iload_n 3, 1, [], .null)) rfl rfl (fun _ _ => rfl) l3 rfl
    have E := (eh_r3 rfl (show (0 : Int32).toInt = 0 by decide) (E.br (p := 213) (c := 3) (tgt := 218) (a := t) (b := 0) (st' := [.int (to + 1), .ref 4]) rfl (e := (.ifCond .ge 8, 3, [218], .null)) rfl rfl (fun _ _ => rfl) rfl)).elim (fun y => y.2) (fun y => absurd y.1 c1)
    have E := E.ld (p := 219) (t := ri_isI) (i := 3) (n := 1) (v := .int t) rfl (e := (.iload_n 3, 1, [], .null)) rfl rfl (fun _ _ => rfl) l3 rfl
    obtain ⟨h5, hV6, hN7, E⟩ := E.aw (gg := ri_g1) (b := true) (p := 220) (n := (to + 1).toNatClampNeg) rfl (e := (.iastore, 1, [], .null)) rfl rfl (fun _ _ => rfl) rfl hV3 rfl
    have E := E.ld (p := 221) (t := ri_isA) (i := 0) (n := 1) (v := .ref 0) rfl (e := (.aload_n 0, 1, [], .null)) rfl rfl (fun _ _ => rfl) l0 rfl
    obtain ⟨v1, h8, X, E⟩ := E.cv (p := 224) (as := []) (b := 0) (r := []) rfl (x := 174) (m := 3) (w := .null) (j := 158) (n := 0) (t := 12) (u := [1478, 35, 1480]) rfl rfl rfl
    obtain ⟨rfl, ivk9, hNk9⟩ := ts_158 (d := d + 1) X (by rw [hV6]; exact (iT_u (iT_u iv ((iv.1).ui rfl) rfl) (((iv.1).ui rfl).ui rfl) rfl))
    have Xk9 := X
    have E : eh_e _ _ 224 lo [] h8 rs h' := E
    have E := E.ld (p := 225) (t := ri_isA) (i := 0) (n := 1) (v := .ref 0) rfl (e := (.aload_n 0, 1, [], .null)) rfl rfl (fun _ _ => rfl) l0 rfl
    have E := E.ld (p := 226) (t := ri_isI) (i := 3) (n := 1) (v := .int t) rfl (e := (.iload_n 3, 1, [], .null)) rfl rfl (fun _ _ => rfl) l3 rfl
    have E := (eh_r3 rfl (show (0 : Int32).toInt = 0 by decide) (E.br (p := 229) (c := 3) (tgt := 235) (a := t) (b := 0) (st' := [.ref 0]) rfl (e := (.ifCond .ge 9, 3, [235], .null)) rfl rfl (fun _ _ => rfl) rfl)).elim (fun y => y.2) (fun y => absurd y.1 c1)
    have E := E.pu (p := 238) (lo' := lo) (st' := [.long 495673374579, .ref 0]) rfl (e := (.ldc2_w 102, 3, [1305], .long 495673374579)) rfl rfl (fun _ _ => rfl)
    obtain ⟨v1, h10, X, E⟩ := E.cv (p := 241) (as := [.long 495673374579]) (b := 0) (r := []) rfl (x := 202) (m := 3) (w := .null) (j := 160) (n := 1) (t := 12) (u := [1496, 38, 1498]) rfl rfl rfl
    rcases sp_160 (d := d + 2) X (rfl : eh_V h8 = eh_V h8) ivk9.1 with ⟨c11, rfl, hV12, hN13⟩ | ⟨c14, c15, rfl, hV16, hN17⟩ | ⟨c18, c19, rfl, hV20, hN21⟩
    · skip
      have c11 : ¬ ((eh_i (eh_V h8) 0 11) = 1) := c11
      have E : eh_e _ _ 241 lo [.int 0] _ rs h' := E
      have E := E.brf (p := 244) (c := 1) (tgt := 250) (a := 0) (b := 0) (st' := []) rfl (e := (.ifCond .ne 9, 3, [250], .null)) rfl rfl (fun _ _ => rfl) (by decide) rfl
      have E := E.ld (p := 245) (t := ri_isA) (i := 0) (n := 1) (v := .ref 0) rfl (e := (.aload_n 0, 1, [], .null)) rfl rfl (fun _ _ => rfl) l0 rfl
      have E := E.pu (p := 246) (lo' := lo) (st' := [.int 1, .ref 0]) rfl (e := (.iconst 1, 1, [], .null)) rfl rfl (fun _ _ => rfl)
      obtain ⟨v1, h22, X, E⟩ := E.cv (p := 249) (as := [.int 1]) (b := 0) (r := []) rfl (x := 171) (m := 3) (w := .null) (j := 159) (n := 1) (t := 12) (u := [1507, 40, 1509]) rfl rfl rfl
      rcases sp_159 (d := d + 2) X hV12 ivk9.1 with ⟨rfl, hV23, hN24⟩
      have hV23 : _ = eh_u (eh_u (eh_V h8) 0 15 (.int 1)) 0 16 (.int (eh_i (eh_V h8) 0 12)) := hV23
      have E : eh_e _ _ 249 lo [.int 0] _ rs h' := E
      obtain ⟨r1, r2⟩ := E.reti rfl (m := 1) (ax := []) (w := .null) rfl
      exact Or.inl ⟨h5, h8, c1, hV6, Xk9, ivk9, c11, r1, ((congrArg eh_V r2).trans hV23), ((congrArg eh_N r2).trans (hN24.trans (hN13.trans (hNk9.trans (hN7.trans hN4))))), (iT_u (iT_u ivk9 (ivk9.1.ui rfl) rfl) ((ivk9.1.ui rfl).ui rfl) rfl)⟩
    · skip
      have c14 : (eh_i (eh_V h8) 0 11) = 1 := c14
      have c15 : ¬ ((eh_l (eh_V h8) 0 17) = 495673374579) := c15
      have E : eh_e _ _ 241 lo [.int 0] _ rs h' := E
      have E := E.brf (p := 244) (c := 1) (tgt := 250) (a := 0) (b := 0) (st' := []) rfl (e := (.ifCond .ne 9, 3, [250], .null)) rfl rfl (fun _ _ => rfl) (by decide) rfl
      have E := E.ld (p := 245) (t := ri_isA) (i := 0) (n := 1) (v := .ref 0) rfl (e := (.aload_n 0, 1, [], .null)) rfl rfl (fun _ _ => rfl) l0 rfl
      have E := E.pu (p := 246) (lo' := lo) (st' := [.int 1, .ref 0]) rfl (e := (.iconst 1, 1, [], .null)) rfl rfl (fun _ _ => rfl)
      obtain ⟨v1, h25, X, E⟩ := E.cv (p := 249) (as := [.int 1]) (b := 0) (r := []) rfl (x := 171) (m := 3) (w := .null) (j := 159) (n := 1) (t := 12) (u := [1507, 40, 1509]) rfl rfl rfl
      rcases sp_159 (d := d + 2) X hV16 ivk9.1 with ⟨rfl, hV26, hN27⟩
      have hV26 : _ = eh_u (eh_u (eh_V h8) 0 15 (.int 1)) 0 16 (.int (eh_i (eh_V h8) 0 12)) := hV26
      have E : eh_e _ _ 249 lo [.int 0] _ rs h' := E
      obtain ⟨r1, r2⟩ := E.reti rfl (m := 1) (ax := []) (w := .null) rfl
      exact Or.inr (Or.inl ⟨h5, h8, c1, hV6, Xk9, ivk9, c14, c15, r1, ((congrArg eh_V r2).trans hV26), ((congrArg eh_N r2).trans (hN27.trans (hN17.trans (hNk9.trans (hN7.trans hN4))))), (iT_u (iT_u ivk9 (ivk9.1.ui rfl) rfl) ((ivk9.1.ui rfl).ui rfl) rfl)⟩)
    · skip
      have c18 : (eh_i (eh_V h8) 0 11) = 1 := c18
      have c19 : (eh_l (eh_V h8) 0 17) = 495673374579 := c19
      have E : eh_e _ _ 241 lo [.int 1] _ rs h' := E
      have E := E.brt (c := 1) (tgt := 250) (a := 1) (b := 0) (st' := []) rfl (e := (.ifCond .ne 9, 3, [250], .null)) rfl rfl (fun _ _ => rfl) (by decide)
      have E := E.ld (p := 251) (t := ri_isA) (i := 0) (n := 1) (v := .ref 0) rfl (e := (.aload_n 0, 1, [], .null)) rfl rfl (fun _ _ => rfl) l0 rfl
      obtain ⟨v1, h28, X, E⟩ := E.cv (p := 254) (as := []) (b := 0) (r := []) rfl (x := 174) (m := 3) (w := .null) (j := 158) (n := 0) (t := 12) (u := [1478, 35, 1480]) rfl rfl rfl
      obtain ⟨rfl, ivk29, hNk29⟩ := ts_158 (d := d + 1) X (by rw [hV20]; exact ivk9)
      have Xk29 := X
      have E : eh_e _ _ 254 lo [] h28 rs h' := E
      have E := E.ld (p := 255) (t := ri_isI) (i := 3) (n := 1) (v := .int t) rfl (e := (.iload_n 3, 1, [], .null)) rfl rfl (fun _ _ => rfl) l3 rfl
      have E := (eh_r3 rfl (show (0 : Int32).toInt = 0 by decide) (E.br (p := 258) (c := 3) (tgt := 270) (a := t) (b := 0) (st' := []) rfl (e := (.ifCond .ge 15, 3, [270], .null)) rfl rfl (fun _ _ => rfl) rfl)).elim (fun y => y.2) (fun y => absurd y.1 c1)
      have E := E.ld (p := 271) (t := ri_isA) (i := 0) (n := 1) (v := .ref 0) rfl (e := (.aload_n 0, 1, [], .null)) rfl rfl (fun _ _ => rfl) l0 rfl
      have E := E.pu (p := 273) (lo' := lo) (st' := [.int 6, .ref 0]) rfl (e := (.bipush 6, 2, [], .null)) rfl rfl (fun _ _ => rfl)
      have E := E.ld (p := 274) (t := ri_isA) (i := 0) (n := 1) (v := .ref 0) rfl (e := (.aload_n 0, 1, [], .null)) rfl rfl (fun _ _ => rfl) l0 rfl
      have E := E.gr (n := 2) (p := 277) rfl (x := 33) (m := 3) (w := .null) (t := 12) (i := 6) (u := 1330) rfl rfl (rfl : eh_V h28 = eh_V h28) ivk29.1 rfl
      have E := E.pu (p := 278) (lo' := lo) (st' := [.int 4, .ref 2, .int 6, .ref 0]) rfl (e := (.iconst 4, 1, [], .null)) rfl rfl (fun _ _ => rfl)
      have E := E.ai (p := 279) (z := eh_i (eh_V h28) 2 4) (n := 4) rfl (e := (.iaload, 1, [], .null)) rfl rfl (fun _ _ => rfl) rfl (rfl : eh_V h28 = eh_V h28) ivk29.1 (by decide) rfl rfl
      obtain ⟨v1, h30, X, E⟩ := E.cv (p := 282) (as := [.int 6, .int (eh_i (eh_V h28) 2 4)]) (b := 0) (r := []) rfl (x := 218) (m := 3) (w := .null) (j := 168) (n := 2) (t := 12) (u := [1538, 47, 1540]) rfl rfl rfl
      obtain ⟨x32, rfl, ivk31, hNk31⟩ := ts_168 (d := d + 1) X (by rw [(rfl : eh_V h28 = eh_V h28)]; exact ivk29)
      have Xk31 := X
      have E : eh_e _ _ 282 lo [.int x32] h30 rs h' := E
      rcases eh_q1 (E.br (p := 285) (c := 1) (tgt := 287) (a := x32) (b := 0) (st' := []) rfl (e := (.ifCond .ne 5, 3, [287], .null)) rfl rfl (fun _ _ => rfl) rfl) with ⟨c33, E⟩ | ⟨c33, E⟩
      · skip
        have E := E.ld (p := 288) (t := ri_isA) (i := 0) (n := 1) (v := .ref 0) rfl (e := (.aload_n 0, 1, [], .null)) rfl rfl (fun _ _ => rfl) l0 rfl
        obtain ⟨v1, h34, X, E⟩ := E.cv (p := 291) (as := []) (b := 0) (r := []) rfl (x := 174) (m := 3) (w := .null) (j := 158) (n := 0) (t := 12) (u := [1478, 35, 1480]) rfl rfl rfl
        obtain ⟨rfl, ivk35, hNk35⟩ := ts_158 (d := d + 1) X (by rw [(rfl : eh_V h30 = eh_V h30)]; exact ivk31)
        have Xk35 := X
        have E : eh_e _ _ 291 lo [] h34 rs h' := E
        have E := E.ld (p := 292) (t := ri_isA) (i := 0) (n := 1) (v := .ref 0) rfl (e := (.aload_n 0, 1, [], .null)) rfl rfl (fun _ _ => rfl) l0 rfl
        have E := E.gr (n := 4) (p := 295) rfl (x := 40) (m := 3) (w := .null) (t := 12) (i := 8) (u := 1332) rfl rfl (rfl : eh_V h34 = eh_V h34) ivk35.1 rfl
        have E := E.ld (p := 296) (t := ri_isI) (i := 1) (n := 1) (v := .int to) rfl (e := (.iload_n 1, 1, [], .null)) rfl rfl (fun _ _ => rfl) l1 rfl
        have E := E.pu (p := 297) (lo' := lo) (st' := [.int 2, .int to, .ref 4]) rfl (e := (.iconst 2, 1, [], .null)) rfl rfl (fun _ _ => rfl)
        have E := E.pu (p := 298) (lo' := lo) (st' := [.int (to + 2), .ref 4]) rfl (e := (.iadd, 1, [], .null)) rfl rfl (fun _ _ => rfl)
        have E := E.ld (p := 299) (t := ri_isA) (i := 0) (n := 1) (v := .ref 0) rfl (e := (.aload_n 0, 1, [], .null)) rfl rfl (fun _ _ => rfl) l0 rfl
        have E := E.gi (y := eh_i (eh_V h34) 0 18) (p := 302) rfl (x := 181) (m := 3) (w := .null) (t := 12) (i := 18) (u := 1342) rfl rfl (rfl : eh_V h34 = eh_V h34) ivk35.1 rfl rfl
        obtain ⟨h36, hV37, hN38, E⟩ := E.aw (gg := ri_g1) (b := true) (p := 303) (n := (to + 2).toNatClampNeg) rfl (e := (.iastore, 1, [], .null)) rfl rfl (fun _ _ => rfl) rfl (rfl : eh_V h34 = eh_V h34) rfl
        have E := E.pu (p := 304) (lo' := lo) (st' := [.int 1]) rfl (e := (.iconst 1, 1, [], .null)) rfl rfl (fun _ _ => rfl)
        obtain ⟨r1, r2⟩ := E.reti rfl (m := 1) (ax := []) (w := .null) rfl
        exact Or.inr (Or.inr (Or.inl ⟨h5, h8, h10, h28, x32, h30, h34, c1, hV6, Xk9, ivk9, c18, c19, hV20, Xk29, ivk29, Xk31, ivk31, c33, Xk35, ivk35, r1, ((congrArg eh_V r2).trans hV37), ((congrArg eh_N r2).trans (hN38.trans (hNk35.trans (hNk31.trans (hNk29.trans (hN21.trans (hNk9.trans (hN7.trans hN4)))))))), (iT_u ivk35 (ivk35.1.ui rfl) rfl)⟩))
      · skip
        have E := E.pu (p := 286) (lo' := lo) (st' := [.int 0]) rfl (e := (.iconst 0, 1, [], .null)) rfl rfl (fun _ _ => rfl)
        obtain ⟨r1, r2⟩ := E.reti rfl (m := 1) (ax := []) (w := .null) rfl
        exact Or.inr (Or.inr (Or.inr (Or.inl ⟨h5, h8, h10, h28, x32, h30, c1, hV6, Xk9, ivk9, c18, c19, hV20, Xk29, ivk29, Xk31, ivk31, c33, r1, ((congrArg eh_V r2).trans (rfl : eh_V h30 = eh_V h30)), ((congrArg eh_N r2).trans (hNk31.trans (hNk29.trans (hN21.trans (hNk9.trans (hN7.trans hN4)))))), ivk31⟩)))
  · skip
    have E := E.pu (p := 197) (lo' := lo) (st' := [.int 2, .int to, .ref 4]) rfl (e := (.iconst 2, 1, [], .null)) rfl rfl (fun _ _ => rfl)
    have E := E.pu (p := 201) (lo' := lo) (st' := [.int 2, .int to, .ref 4]) rfl (e := (.goto 4, 3, [201], .null)) rfl rfl (fun _ _ => rfl)
    obtain ⟨h39, hV40, hN41, E⟩ := E.aw (gg := ri_g1) (b := true) (p := 202) (n := (to).toNatClampNeg) rfl (e := (.iastore, 1, [], .null)) rfl rfl (fun _ _ => rfl) rfl hV rfl
    have E := E.ld (p := 203) (t := ri_isA) (i := 0) (n := 1) (v := .ref 0) rfl (e := (.aload_n 0, 1, [], .null)) rfl rfl (fun _ _ => rfl) l0 rfl
    have E := E.gr (n := 4) (p := 206) rfl (x := 40) (m := 3) (w := .null) (t := 12) (i := 8) (u := 1332) rfl rfl hV40 ((iv.1).ui rfl) rfl
    have E := E.ld (p := 207) (t := ri_isI) (i := 1) (n := 1) (v := .int to) rfl (e := (.iload_n 1, 1, [], .null)) rfl rfl (fun _ _ => rfl) l1 rfl
    have E := E.pu (p := 208) (lo' := lo) (st' := [.int 1, .int to, .ref 4]) rfl (e := (.iconst 1, 1, [], .null)) rfl rfl (fun _ _ => rfl)
    have E := E.pu (p := 209) (lo' := lo) (st' := [.int (to + 1), .ref 4]) rfl (e := (.iadd, 1, [], .null)) rfl rfl (fun _ _ => rfl)
    have E := E.ld (p := 210) (t := ri_isI) (i := 3) (n := 1) (v := .int t) rfl (e := (.iload_n 3, 1, [], .null)) rfl rfl (fun _ _ => rfl) l3 rfl
    have E := (eh_r3 rfl (show (0 : Int32).toInt = 0 by decide) (E.br (p := 213) (c := 3) (tgt := 218) (a := t) (b := 0) (st' := [.int (to + 1), .ref 4]) rfl (e := (.ifCond .ge 8, 3, [218], .null)) rfl rfl (fun _ _ => rfl) rfl)).elim (fun y => absurd c1 y.1) (fun y => y.2)
    have E := E.ld (p := 215) (t := ri_isI) (i := 4) (n := 2) (v := .int bo) rfl (e := (.iload 4, 2, [], .null)) rfl rfl (fun _ _ => rfl) l4 rfl
    have E := E.pu (p := 219) (lo' := lo) (st' := [.int bo, .int (to + 1), .ref 4]) rfl (e := (.goto 4, 3, [219], .null)) rfl rfl (fun _ _ => rfl)
    obtain ⟨h42, hV43, hN44, E⟩ := E.aw (gg := ri_g1) (b := true) (p := 220) (n := (to + 1).toNatClampNeg) rfl (e := (.iastore, 1, [], .null)) rfl rfl (fun _ _ => rfl) rfl hV40 rfl
    have E := E.ld (p := 221) (t := ri_isA) (i := 0) (n := 1) (v := .ref 0) rfl (e := (.aload_n 0, 1, [], .null)) rfl rfl (fun _ _ => rfl) l0 rfl
    obtain ⟨v1, h45, X, E⟩ := E.cv (p := 224) (as := []) (b := 0) (r := []) rfl (x := 174) (m := 3) (w := .null) (j := 158) (n := 0) (t := 12) (u := [1478, 35, 1480]) rfl rfl rfl
    obtain ⟨rfl, ivk46, hNk46⟩ := ts_158 (d := d + 1) X (by rw [hV43]; exact (iT_u (iT_u iv ((iv.1).ui rfl) rfl) (((iv.1).ui rfl).ui rfl) rfl))
    have Xk46 := X
    have E : eh_e _ _ 224 lo [] h45 rs h' := E
    have E := E.ld (p := 225) (t := ri_isA) (i := 0) (n := 1) (v := .ref 0) rfl (e := (.aload_n 0, 1, [], .null)) rfl rfl (fun _ _ => rfl) l0 rfl
    have E := E.ld (p := 226) (t := ri_isI) (i := 3) (n := 1) (v := .int t) rfl (e := (.iload_n 3, 1, [], .null)) rfl rfl (fun _ _ => rfl) l3 rfl
    have E := (eh_r3 rfl (show (0 : Int32).toInt = 0 by decide) (E.br (p := 229) (c := 3) (tgt := 235) (a := t) (b := 0) (st' := [.ref 0]) rfl (e := (.ifCond .ge 9, 3, [235], .null)) rfl rfl (fun _ _ => rfl) rfl)).elim (fun y => absurd c1 y.1) (fun y => y.2)
    have E := E.pu (p := 232) (lo' := lo) (st' := [.long 495555538035, .ref 0]) rfl (e := (.ldc2_w 106, 3, [1307], .long 495555538035)) rfl rfl (fun _ _ => rfl)
    have E := E.pu (p := 238) (lo' := lo) (st' := [.long 495555538035, .ref 0]) rfl (e := (.goto 6, 3, [238], .null)) rfl rfl (fun _ _ => rfl)
    obtain ⟨v1, h47, X, E⟩ := E.cv (p := 241) (as := [.long 495555538035]) (b := 0) (r := []) rfl (x := 202) (m := 3) (w := .null) (j := 160) (n := 1) (t := 12) (u := [1496, 38, 1498]) rfl rfl rfl
    rcases sp_160 (d := d + 2) X (rfl : eh_V h45 = eh_V h45) ivk46.1 with ⟨c48, rfl, hV49, hN50⟩ | ⟨c51, c52, rfl, hV53, hN54⟩ | ⟨c55, c56, rfl, hV57, hN58⟩
    · skip
      have c48 : ¬ ((eh_i (eh_V h45) 0 11) = 1) := c48
      have E : eh_e _ _ 241 lo [.int 0] _ rs h' := E
      have E := E.brf (p := 244) (c := 1) (tgt := 250) (a := 0) (b := 0) (st' := []) rfl (e := (.ifCond .ne 9, 3, [250], .null)) rfl rfl (fun _ _ => rfl) (by decide) rfl
      have E := E.ld (p := 245) (t := ri_isA) (i := 0) (n := 1) (v := .ref 0) rfl (e := (.aload_n 0, 1, [], .null)) rfl rfl (fun _ _ => rfl) l0 rfl
      have E := E.pu (p := 246) (lo' := lo) (st' := [.int 1, .ref 0]) rfl (e := (.iconst 1, 1, [], .null)) rfl rfl (fun _ _ => rfl)
      obtain ⟨v1, h59, X, E⟩ := E.cv (p := 249) (as := [.int 1]) (b := 0) (r := []) rfl (x := 171) (m := 3) (w := .null) (j := 159) (n := 1) (t := 12) (u := [1507, 40, 1509]) rfl rfl rfl
      rcases sp_159 (d := d + 2) X hV49 ivk46.1 with ⟨rfl, hV60, hN61⟩
      have hV60 : _ = eh_u (eh_u (eh_V h45) 0 15 (.int 1)) 0 16 (.int (eh_i (eh_V h45) 0 12)) := hV60
      have E : eh_e _ _ 249 lo [.int 0] _ rs h' := E
      obtain ⟨r1, r2⟩ := E.reti rfl (m := 1) (ax := []) (w := .null) rfl
      exact Or.inr (Or.inr (Or.inr (Or.inr (Or.inl ⟨h42, h45, c1, hV43, Xk46, ivk46, c48, r1, ((congrArg eh_V r2).trans hV60), ((congrArg eh_N r2).trans (hN61.trans (hN50.trans (hNk46.trans (hN44.trans hN41))))), (iT_u (iT_u ivk46 (ivk46.1.ui rfl) rfl) ((ivk46.1.ui rfl).ui rfl) rfl)⟩))))
    · skip
      have c51 : (eh_i (eh_V h45) 0 11) = 1 := c51
      have c52 : ¬ ((eh_l (eh_V h45) 0 17) = 495555538035) := c52
      have E : eh_e _ _ 241 lo [.int 0] _ rs h' := E
      have E := E.brf (p := 244) (c := 1) (tgt := 250) (a := 0) (b := 0) (st' := []) rfl (e := (.ifCond .ne 9, 3, [250], .null)) rfl rfl (fun _ _ => rfl) (by decide) rfl
      have E := E.ld (p := 245) (t := ri_isA) (i := 0) (n := 1) (v := .ref 0) rfl (e := (.aload_n 0, 1, [], .null)) rfl rfl (fun _ _ => rfl) l0 rfl
      have E := E.pu (p := 246) (lo' := lo) (st' := [.int 1, .ref 0]) rfl (e := (.iconst 1, 1, [], .null)) rfl rfl (fun _ _ => rfl)
      obtain ⟨v1, h62, X, E⟩ := E.cv (p := 249) (as := [.int 1]) (b := 0) (r := []) rfl (x := 171) (m := 3) (w := .null) (j := 159) (n := 1) (t := 12) (u := [1507, 40, 1509]) rfl rfl rfl
      rcases sp_159 (d := d + 2) X hV53 ivk46.1 with ⟨rfl, hV63, hN64⟩
      have hV63 : _ = eh_u (eh_u (eh_V h45) 0 15 (.int 1)) 0 16 (.int (eh_i (eh_V h45) 0 12)) := hV63
      have E : eh_e _ _ 249 lo [.int 0] _ rs h' := E
      obtain ⟨r1, r2⟩ := E.reti rfl (m := 1) (ax := []) (w := .null) rfl
      exact Or.inr (Or.inr (Or.inr (Or.inr (Or.inr (Or.inl ⟨h42, h45, c1, hV43, Xk46, ivk46, c51, c52, r1, ((congrArg eh_V r2).trans hV63), ((congrArg eh_N r2).trans (hN64.trans (hN54.trans (hNk46.trans (hN44.trans hN41))))), (iT_u (iT_u ivk46 (ivk46.1.ui rfl) rfl) ((ivk46.1.ui rfl).ui rfl) rfl)⟩)))))
    · skip
      have c55 : (eh_i (eh_V h45) 0 11) = 1 := c55
      have c56 : (eh_l (eh_V h45) 0 17) = 495555538035 := c56
      have E : eh_e _ _ 241 lo [.int 1] _ rs h' := E
      have E := E.brt (c := 1) (tgt := 250) (a := 1) (b := 0) (st' := []) rfl (e := (.ifCond .ne 9, 3, [250], .null)) rfl rfl (fun _ _ => rfl) (by decide)
      have E := E.ld (p := 251) (t := ri_isA) (i := 0) (n := 1) (v := .ref 0) rfl (e := (.aload_n 0, 1, [], .null)) rfl rfl (fun _ _ => rfl) l0 rfl
      obtain ⟨v1, h65, X, E⟩ := E.cv (p := 254) (as := []) (b := 0) (r := []) rfl (x := 174) (m := 3) (w := .null) (j := 158) (n := 0) (t := 12) (u := [1478, 35, 1480]) rfl rfl rfl
      obtain ⟨rfl, ivk66, hNk66⟩ := ts_158 (d := d + 1) X (by rw [hV57]; exact ivk46)
      have Xk66 := X
      have E : eh_e _ _ 254 lo [] h65 rs h' := E
      have E := E.ld (p := 255) (t := ri_isI) (i := 3) (n := 1) (v := .int t) rfl (e := (.iload_n 3, 1, [], .null)) rfl rfl (fun _ _ => rfl) l3 rfl
      have E := (eh_r3 rfl (show (0 : Int32).toInt = 0 by decide) (E.br (p := 258) (c := 3) (tgt := 270) (a := t) (b := 0) (st' := []) rfl (e := (.ifCond .ge 15, 3, [270], .null)) rfl rfl (fun _ _ => rfl) rfl)).elim (fun y => absurd c1 y.1) (fun y => y.2)
      have E := E.ld (p := 259) (t := ri_isA) (i := 0) (n := 1) (v := .ref 0) rfl (e := (.aload_n 0, 1, [], .null)) rfl rfl (fun _ _ => rfl) l0 rfl
      have E := E.pu (p := 260) (lo' := lo) (st' := [.int 0, .ref 0]) rfl (e := (.iconst 0, 1, [], .null)) rfl rfl (fun _ _ => rfl)
      have E := E.pu (p := 262) (lo' := lo) (st' := [.int 7, .int 0, .ref 0]) rfl (e := (.bipush 7, 2, [], .null)) rfl rfl (fun _ _ => rfl)
      obtain ⟨v1, h67, X, E⟩ := E.cv (p := 265) (as := [.int 0, .int 7]) (b := 0) (r := []) rfl (x := 184) (m := 3) (w := .null) (j := 164) (n := 2) (t := 12) (u := [1515, 42, 1517]) rfl rfl rfl
      obtain ⟨x69, rfl, ivk68, hNk68⟩ := ts_164 (d := d) X (by rw [(rfl : eh_V h65 = eh_V h65)]; exact ivk66)
      have Xk68 := X
      have E : eh_e _ _ 265 lo [.int x69] h67 rs h' := E
      rcases eh_q1 (E.br (p := 268) (c := 1) (tgt := 291) (a := x69) (b := 0) (st' := []) rfl (e := (.ifCond .ne 26, 3, [291], .null)) rfl rfl (fun _ _ => rfl) rfl) with ⟨c70, E⟩ | ⟨c70, E⟩
      · skip
        have E := E.ld (p := 292) (t := ri_isA) (i := 0) (n := 1) (v := .ref 0) rfl (e := (.aload_n 0, 1, [], .null)) rfl rfl (fun _ _ => rfl) l0 rfl
        have E := E.gr (n := 4) (p := 295) rfl (x := 40) (m := 3) (w := .null) (t := 12) (i := 8) (u := 1332) rfl rfl (rfl : eh_V h67 = eh_V h67) ivk68.1 rfl
        have E := E.ld (p := 296) (t := ri_isI) (i := 1) (n := 1) (v := .int to) rfl (e := (.iload_n 1, 1, [], .null)) rfl rfl (fun _ _ => rfl) l1 rfl
        have E := E.pu (p := 297) (lo' := lo) (st' := [.int 2, .int to, .ref 4]) rfl (e := (.iconst 2, 1, [], .null)) rfl rfl (fun _ _ => rfl)
        have E := E.pu (p := 298) (lo' := lo) (st' := [.int (to + 2), .ref 4]) rfl (e := (.iadd, 1, [], .null)) rfl rfl (fun _ _ => rfl)
        have E := E.ld (p := 299) (t := ri_isA) (i := 0) (n := 1) (v := .ref 0) rfl (e := (.aload_n 0, 1, [], .null)) rfl rfl (fun _ _ => rfl) l0 rfl
        have E := E.gi (y := eh_i (eh_V h67) 0 18) (p := 302) rfl (x := 181) (m := 3) (w := .null) (t := 12) (i := 18) (u := 1342) rfl rfl (rfl : eh_V h67 = eh_V h67) ivk68.1 rfl rfl
        obtain ⟨h71, hV72, hN73, E⟩ := E.aw (gg := ri_g1) (b := true) (p := 303) (n := (to + 2).toNatClampNeg) rfl (e := (.iastore, 1, [], .null)) rfl rfl (fun _ _ => rfl) rfl (rfl : eh_V h67 = eh_V h67) rfl
        have E := E.pu (p := 304) (lo' := lo) (st' := [.int 1]) rfl (e := (.iconst 1, 1, [], .null)) rfl rfl (fun _ _ => rfl)
        obtain ⟨r1, r2⟩ := E.reti rfl (m := 1) (ax := []) (w := .null) rfl
        exact Or.inr (Or.inr (Or.inr (Or.inr (Or.inr (Or.inr (Or.inl ⟨h42, h45, h47, h65, x69, h67, c1, hV43, Xk46, ivk46, c55, c56, hV57, Xk66, ivk66, Xk68, ivk68, c70, r1, ((congrArg eh_V r2).trans hV72), ((congrArg eh_N r2).trans (hN73.trans (hNk68.trans (hNk66.trans (hN58.trans (hNk46.trans (hN44.trans hN41))))))), (iT_u ivk68 (ivk68.1.ui rfl) rfl)⟩))))))
      · skip
        have E := E.pu (p := 269) (lo' := lo) (st' := [.int 0]) rfl (e := (.iconst 0, 1, [], .null)) rfl rfl (fun _ _ => rfl)
        obtain ⟨r1, r2⟩ := E.reti rfl (m := 1) (ax := []) (w := .null) rfl
        exact Or.inr (Or.inr (Or.inr (Or.inr (Or.inr (Or.inr (Or.inr (⟨h42, h45, h47, h65, x69, h67, c1, hV43, Xk46, ivk46, c55, c56, hV57, Xk66, ivk66, Xk68, ivk68, c70, r1, ((congrArg eh_V r2).trans (rfl : eh_V h67 = eh_V h67)), ((congrArg eh_N r2).trans (hNk68.trans (hNk66.trans (hN58.trans (hNk46.trans (hN44.trans hN41)))))), ivk68⟩)))))))
