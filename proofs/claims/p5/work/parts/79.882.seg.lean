theorem zp_a {d : Nat} {lo : List (Nat × Value)} {h h' : ri_H} {rs : List Value} {G : eh_W} {b : Nat → Int32} {n m : Nat} (E : eh_e (ri_calE ri_md (d + 2)) md_246 0 lo [] h rs h') (hV : eh_V h = G) (iv : iT b n m G) (l0 : ri_lk lo 0 = some (.ref 0)) : (∃ (x28 : Int32), ¬ ((eh_i G 0 11) = 1) ∧ ¬ ((eh_i G 0 11) = 3) ∧ lf_M G x28 ∧ ∃ hz loz, eh_e (ri_calE ri_md (d + 2)) md_246 20 loz [] hz rs h' ∧ eh_V hz = G ∧ eh_N hz = eh_N h ∧ iT b n m G ∧ ri_lk loz 0 = some (.ref 0) ∧ ri_lk loz 1 = some (.int 0) ∧ ri_lk loz 2 = some (.int 0) ∧ ri_lk loz 3 = some (.int x28)) ∨ (∃ (x35 : Int32), ¬ ((eh_i G 0 11) = 1) ∧ (eh_i G 0 11) = 3 ∧ ¬ ((eh_i G 0 14) = 40) ∧ lf_M G x35 ∧ ∃ hz loz, eh_e (ri_calE ri_md (d + 2)) md_246 20 loz [] hz rs h' ∧ eh_V hz = G ∧ eh_N hz = eh_N h ∧ iT b n m G ∧ ri_lk loz 0 = some (.ref 0) ∧ ri_lk loz 1 = some (.int 0) ∧ ri_lk loz 2 = some (.int 0) ∧ ri_lk loz 3 = some (.int x35)) ∨ (∃ (x42 : Int32), ¬ ((eh_i G 0 11) = 1) ∧ (eh_i G 0 11) = 3 ∧ (eh_i G 0 14) = 40 ∧ lf_M G x42 ∧ ∃ hz loz, eh_e (ri_calE ri_md (d + 2)) md_246 20 loz [] hz rs h' ∧ eh_V hz = G ∧ eh_N hz = eh_N h ∧ iT b n m G ∧ ri_lk loz 0 = some (.ref 0) ∧ ri_lk loz 1 = some (.int 0) ∧ ri_lk loz 2 = some (.int 1) ∧ ri_lk loz 3 = some (.int x42)) ∨ (∃ (x62 : Int32), (eh_i G 0 11) = 1 ∧ ¬ ((eh_l G 0 17) = 7237492) ∧ lf_M G x62 ∧ ∃ hz loz, eh_e (ri_calE ri_md (d + 2)) md_246 20 loz [] hz rs h' ∧ eh_V hz = G ∧ eh_N hz = eh_N h ∧ iT b n m G ∧ ri_lk loz 0 = some (.ref 0) ∧ ri_lk loz 1 = some (.int 0) ∧ ri_lk loz 2 = some (.int 0) ∧ ri_lk loz 3 = some (.int x62)) ∨ (∃ (x82 : Int32), (eh_i G 0 11) = 1 ∧ (eh_l G 0 17) = 7237492 ∧ lf_M G x82 ∧ ∃ hz loz, eh_e (ri_calE ri_md (d + 2)) md_246 20 loz [] hz rs h' ∧ eh_V hz = G ∧ eh_N hz = eh_N h ∧ iT b n m G ∧ ri_lk loz 0 = some (.ref 0) ∧ ri_lk loz 1 = some (.int 1) ∧ ri_lk loz 2 = some (.int 0) ∧ ri_lk loz 3 = some (.int x82)) := by
  have E := E.ld (p := 1) (t := ri_isA) (i := 0) (n := 1) (v := .ref 0) rfl (e := (.aload_n 0, 1, [], .null)) rfl rfl (fun _ _ => rfl) l0 rfl
  have E := E.pu (p := 4) (lo' := lo) (st' := [.long 7237492, .ref 0]) rfl (e := (.ldc2_w 114, 3, [1311], .long 7237492)) rfl rfl (fun _ _ => rfl)
  obtain ⟨v1, h1, X, E⟩ := E.cv (p := 7) (as := [.long 7237492]) (b := 0) (r := []) rfl (x := 202) (m := 3) (w := .null) (j := 160) (n := 1) (t := 12) (u := [1496, 38, 1498]) rfl rfl rfl
  rcases sp_160 (d := d + 1) X hV (iv.1) with ⟨c2, rfl, hV3, hN4⟩ | ⟨c5, c6, rfl, hV7, hN8⟩ | ⟨c9, c10, rfl, hV11, hN12⟩
  · skip
    have c2 : ¬ ((eh_i G 0 11) = 1) := c2
    have E : eh_e _ _ 7 lo [.int 0] _ rs h' := E
    have E := E.so (p := 8) (t := ri_isI) (i := 1) (n := 1) rfl (e := (.istore_n 1, 1, [], .null)) rfl rfl (fun _ _ => rfl) rfl
    have k13_1 : ri_lk (ri_st1 lo 1 (.int 0)) 1 = some (.int 0) := eh_self
    have k13_0 : ri_lk (ri_st1 lo 1 (.int 0)) 0 = some (.ref 0) := eh_keep (by decide) (Or.inl rfl) l0
    have E := E.ld (p := 9) (t := ri_isA) (i := 0) (n := 1) (v := .ref 0) rfl (e := (.aload_n 0, 1, [], .null)) rfl rfl (fun _ _ => rfl) k13_0 rfl
    have E := E.pu (p := 11) (lo' := (ri_st1 lo 1 (.int 0))) (st' := [.int 40, .ref 0]) rfl (e := (.bipush 40, 2, [], .null)) rfl rfl (fun _ _ => rfl)
    obtain ⟨v1, h14, X, E⟩ := E.cv (p := 14) (as := [.int 40]) (b := 0) (r := []) rfl (x := 168) (m := 3) (w := .null) (j := 161) (n := 1) (t := 12) (u := [1542, 48, 1544]) rfl rfl rfl
    rcases sp_161 (d := d + 1) X hV3 (iv.1) with ⟨c15, rfl, hV16, hN17⟩ | ⟨c18, c19, rfl, hV20, hN21⟩ | ⟨c22, c23, rfl, hV24, hN25⟩
    · skip
      have c15 : ¬ ((eh_i G 0 11) = 3) := c15
      have E : eh_e _ _ 14 (ri_st1 lo 1 (.int 0)) [.int 0] _ rs h' := E
      have E := E.so (p := 15) (t := ri_isI) (i := 2) (n := 1) rfl (e := (.istore_n 2, 1, [], .null)) rfl rfl (fun _ _ => rfl) rfl
      have k26_2 : ri_lk (ri_st1 (ri_st1 lo 1 (.int 0)) 2 (.int 0)) 2 = some (.int 0) := eh_self
      have k26_0 : ri_lk (ri_st1 (ri_st1 lo 1 (.int 0)) 2 (.int 0)) 0 = some (.ref 0) := eh_keep (by decide) (Or.inl rfl) k13_0
      have k26_1 : ri_lk (ri_st1 (ri_st1 lo 1 (.int 0)) 2 (.int 0)) 1 = some (.int 0) := eh_keep (by decide) (Or.inl rfl) k13_1
      have E := E.ld (p := 16) (t := ri_isA) (i := 0) (n := 1) (v := .ref 0) rfl (e := (.aload_n 0, 1, [], .null)) rfl rfl (fun _ _ => rfl) k26_0 rfl
      obtain ⟨v1, h27, X, E⟩ := E.cv (p := 19) (as := []) (b := 0) (r := []) rfl (x := 410) (m := 3) (w := .null) (j := 245) (n := 0) (t := 12) (u := [1862, 95, 1864]) rfl rfl rfl
      rcases zl_L (d := d) X hV16 (iv.1) with ⟨x28, c29, rfl, hV30, hN31⟩
      have c29 : lf_M G x28 := c29
      have E : eh_e _ _ 19 (ri_st1 (ri_st1 lo 1 (.int 0)) 2 (.int 0)) [.int x28] _ rs h' := E
      have E := E.so (p := 20) (t := ri_isI) (i := 3) (n := 1) rfl (e := (.istore_n 3, 1, [], .null)) rfl rfl (fun _ _ => rfl) rfl
      have k32_3 : ri_lk (ri_st1 (ri_st1 (ri_st1 lo 1 (.int 0)) 2 (.int 0)) 3 (.int x28)) 3 = some (.int x28) := eh_self
      have k32_0 : ri_lk (ri_st1 (ri_st1 (ri_st1 lo 1 (.int 0)) 2 (.int 0)) 3 (.int x28)) 0 = some (.ref 0) := eh_keep (by decide) (Or.inl rfl) k26_0
      have k32_1 : ri_lk (ri_st1 (ri_st1 (ri_st1 lo 1 (.int 0)) 2 (.int 0)) 3 (.int x28)) 1 = some (.int 0) := eh_keep (by decide) (Or.inl rfl) k26_1
      have k32_2 : ri_lk (ri_st1 (ri_st1 (ri_st1 lo 1 (.int 0)) 2 (.int 0)) 3 (.int x28)) 2 = some (.int 0) := eh_keep (by decide) (Or.inl rfl) k26_2
      exact Or.inl ⟨x28, c2, c15, c29, _, _, E, hV30, (hN31.trans (hN17.trans hN4)), iv, k32_0, k32_1, k32_2, k32_3⟩
    · skip
      have c18 : (eh_i G 0 11) = 3 := c18
      have c19 : ¬ ((eh_i G 0 14) = 40) := c19
      have E : eh_e _ _ 14 (ri_st1 lo 1 (.int 0)) [.int 0] _ rs h' := E
      have E := E.so (p := 15) (t := ri_isI) (i := 2) (n := 1) rfl (e := (.istore_n 2, 1, [], .null)) rfl rfl (fun _ _ => rfl) rfl
      have k33_2 : ri_lk (ri_st1 (ri_st1 lo 1 (.int 0)) 2 (.int 0)) 2 = some (.int 0) := eh_self
      have k33_0 : ri_lk (ri_st1 (ri_st1 lo 1 (.int 0)) 2 (.int 0)) 0 = some (.ref 0) := eh_keep (by decide) (Or.inl rfl) k13_0
      have k33_1 : ri_lk (ri_st1 (ri_st1 lo 1 (.int 0)) 2 (.int 0)) 1 = some (.int 0) := eh_keep (by decide) (Or.inl rfl) k13_1
      have E := E.ld (p := 16) (t := ri_isA) (i := 0) (n := 1) (v := .ref 0) rfl (e := (.aload_n 0, 1, [], .null)) rfl rfl (fun _ _ => rfl) k33_0 rfl
      obtain ⟨v1, h34, X, E⟩ := E.cv (p := 19) (as := []) (b := 0) (r := []) rfl (x := 410) (m := 3) (w := .null) (j := 245) (n := 0) (t := 12) (u := [1862, 95, 1864]) rfl rfl rfl
      rcases zl_L (d := d) X hV20 (iv.1) with ⟨x35, c36, rfl, hV37, hN38⟩
      have c36 : lf_M G x35 := c36
      have E : eh_e _ _ 19 (ri_st1 (ri_st1 lo 1 (.int 0)) 2 (.int 0)) [.int x35] _ rs h' := E
      have E := E.so (p := 20) (t := ri_isI) (i := 3) (n := 1) rfl (e := (.istore_n 3, 1, [], .null)) rfl rfl (fun _ _ => rfl) rfl
      have k39_3 : ri_lk (ri_st1 (ri_st1 (ri_st1 lo 1 (.int 0)) 2 (.int 0)) 3 (.int x35)) 3 = some (.int x35) := eh_self
      have k39_0 : ri_lk (ri_st1 (ri_st1 (ri_st1 lo 1 (.int 0)) 2 (.int 0)) 3 (.int x35)) 0 = some (.ref 0) := eh_keep (by decide) (Or.inl rfl) k33_0
      have k39_1 : ri_lk (ri_st1 (ri_st1 (ri_st1 lo 1 (.int 0)) 2 (.int 0)) 3 (.int x35)) 1 = some (.int 0) := eh_keep (by decide) (Or.inl rfl) k33_1
      have k39_2 : ri_lk (ri_st1 (ri_st1 (ri_st1 lo 1 (.int 0)) 2 (.int 0)) 3 (.int x35)) 2 = some (.int 0) := eh_keep (by decide) (Or.inl rfl) k33_2
      exact Or.inr (Or.inl ⟨x35, c2, c18, c19, c36, _, _, E, hV37, (hN38.trans (hN21.trans hN4)), iv, k39_0, k39_1, k39_2, k39_3⟩)
    · skip
      have c22 : (eh_i G 0 11) = 3 := c22
      have c23 : (eh_i G 0 14) = 40 := c23
      have E : eh_e _ _ 14 (ri_st1 lo 1 (.int 0)) [.int 1] _ rs h' := E
      have E := E.so (p := 15) (t := ri_isI) (i := 2) (n := 1) rfl (e := (.istore_n 2, 1, [], .null)) rfl rfl (fun _ _ => rfl) rfl
      have k40_2 : ri_lk (ri_st1 (ri_st1 lo 1 (.int 0)) 2 (.int 1)) 2 = some (.int 1) := eh_self
      have k40_0 : ri_lk (ri_st1 (ri_st1 lo 1 (.int 0)) 2 (.int 1)) 0 = some (.ref 0) := eh_keep (by decide) (Or.inl rfl) k13_0
      have k40_1 : ri_lk (ri_st1 (ri_st1 lo 1 (.int 0)) 2 (.int 1)) 1 = some (.int 0) := eh_keep (by decide) (Or.inl rfl) k13_1
      have E := E.ld (p := 16) (t := ri_isA) (i := 0) (n := 1) (v := .ref 0) rfl (e := (.aload_n 0, 1, [], .null)) rfl rfl (fun _ _ => rfl) k40_0 rfl
      obtain ⟨v1, h41, X, E⟩ := E.cv (p := 19) (as := []) (b := 0) (r := []) rfl (x := 410) (m := 3) (w := .null) (j := 245) (n := 0) (t := 12) (u := [1862, 95, 1864]) rfl rfl rfl
      rcases zl_L (d := d) X hV24 (iv.1) with ⟨x42, c43, rfl, hV44, hN45⟩
      have c43 : lf_M G x42 := c43
      have E : eh_e _ _ 19 (ri_st1 (ri_st1 lo 1 (.int 0)) 2 (.int 1)) [.int x42] _ rs h' := E
      have E := E.so (p := 20) (t := ri_isI) (i := 3) (n := 1) rfl (e := (.istore_n 3, 1, [], .null)) rfl rfl (fun _ _ => rfl) rfl
      have k46_3 : ri_lk (ri_st1 (ri_st1 (ri_st1 lo 1 (.int 0)) 2 (.int 1)) 3 (.int x42)) 3 = some (.int x42) := eh_self
      have k46_0 : ri_lk (ri_st1 (ri_st1 (ri_st1 lo 1 (.int 0)) 2 (.int 1)) 3 (.int x42)) 0 = some (.ref 0) := eh_keep (by decide) (Or.inl rfl) k40_0
      have k46_1 : ri_lk (ri_st1 (ri_st1 (ri_st1 lo 1 (.int 0)) 2 (.int 1)) 3 (.int x42)) 1 = some (.int 0) := eh_keep (by decide) (Or.inl rfl) k40_1
      have k46_2 : ri_lk (ri_st1 (ri_st1 (ri_st1 lo 1 (.int 0)) 2 (.int 1)) 3 (.int x42)) 2 = some (.int 1) := eh_keep (by decide) (Or.inl rfl) k40_2
      exact Or.inr (Or.inr (Or.inl ⟨x42, c2, c22, c23, c43, _, _, E, hV44, (hN45.trans (hN25.trans hN4)), iv, k46_0, k46_1, k46_2, k46_3⟩))
  · skip
    have c5 : (eh_i G 0 11) = 1 := c5
    have c6 : ¬ ((eh_l G 0 17) = 7237492) := c6
    have E : eh_e _ _ 7 lo [.int 0] _ rs h' := E
    have E := E.so (p := 8) (t := ri_isI) (i := 1) (n := 1) rfl (e := (.istore_n 1, 1, [], .null)) rfl rfl (fun _ _ => rfl) rfl
    have k47_1 : ri_lk (ri_st1 lo 1 (.int 0)) 1 = some (.int 0) := eh_self
    have k47_0 : ri_lk (ri_st1 lo 1 (.int 0)) 0 = some (.ref 0) := eh_keep (by decide) (Or.inl rfl) l0
    have E := E.ld (p := 9) (t := ri_isA) (i := 0) (n := 1) (v := .ref 0) rfl (e := (.aload_n 0, 1, [], .null)) rfl rfl (fun _ _ => rfl) k47_0 rfl
    have E := E.pu (p := 11) (lo' := (ri_st1 lo 1 (.int 0))) (st' := [.int 40, .ref 0]) rfl (e := (.bipush 40, 2, [], .null)) rfl rfl (fun _ _ => rfl)
    obtain ⟨v1, h48, X, E⟩ := E.cv (p := 14) (as := [.int 40]) (b := 0) (r := []) rfl (x := 168) (m := 3) (w := .null) (j := 161) (n := 1) (t := 12) (u := [1542, 48, 1544]) rfl rfl rfl
    rcases sp_161 (d := d + 1) X hV7 (iv.1) with ⟨c49, rfl, hV50, hN51⟩ | ⟨c52, c53, rfl, hV54, hN55⟩ | ⟨c56, c57, rfl, hV58, hN59⟩
    · skip
      have E : eh_e _ _ 14 (ri_st1 lo 1 (.int 0)) [.int 0] _ rs h' := E
      have E := E.so (p := 15) (t := ri_isI) (i := 2) (n := 1) rfl (e := (.istore_n 2, 1, [], .null)) rfl rfl (fun _ _ => rfl) rfl
      have k60_2 : ri_lk (ri_st1 (ri_st1 lo 1 (.int 0)) 2 (.int 0)) 2 = some (.int 0) := eh_self
      have k60_0 : ri_lk (ri_st1 (ri_st1 lo 1 (.int 0)) 2 (.int 0)) 0 = some (.ref 0) := eh_keep (by decide) (Or.inl rfl) k47_0
      have k60_1 : ri_lk (ri_st1 (ri_st1 lo 1 (.int 0)) 2 (.int 0)) 1 = some (.int 0) := eh_keep (by decide) (Or.inl rfl) k47_1
      have E := E.ld (p := 16) (t := ri_isA) (i := 0) (n := 1) (v := .ref 0) rfl (e := (.aload_n 0, 1, [], .null)) rfl rfl (fun _ _ => rfl) k60_0 rfl
      obtain ⟨v1, h61, X, E⟩ := E.cv (p := 19) (as := []) (b := 0) (r := []) rfl (x := 410) (m := 3) (w := .null) (j := 245) (n := 0) (t := 12) (u := [1862, 95, 1864]) rfl rfl rfl
      rcases zl_L (d := d) X hV50 (iv.1) with ⟨x62, c63, rfl, hV64, hN65⟩
      have c63 : lf_M G x62 := c63
      have E : eh_e _ _ 19 (ri_st1 (ri_st1 lo 1 (.int 0)) 2 (.int 0)) [.int x62] _ rs h' := E
      have E := E.so (p := 20) (t := ri_isI) (i := 3) (n := 1) rfl (e := (.istore_n 3, 1, [], .null)) rfl rfl (fun _ _ => rfl) rfl
      have k66_3 : ri_lk (ri_st1 (ri_st1 (ri_st1 lo 1 (.int 0)) 2 (.int 0)) 3 (.int x62)) 3 = some (.int x62) := eh_self
      have k66_0 : ri_lk (ri_st1 (ri_st1 (ri_st1 lo 1 (.int 0)) 2 (.int 0)) 3 (.int x62)) 0 = some (.ref 0) := eh_keep (by decide) (Or.inl rfl) k60_0
      have k66_1 : ri_lk (ri_st1 (ri_st1 (ri_st1 lo 1 (.int 0)) 2 (.int 0)) 3 (.int x62)) 1 = some (.int 0) := eh_keep (by decide) (Or.inl rfl) k60_1
      have k66_2 : ri_lk (ri_st1 (ri_st1 (ri_st1 lo 1 (.int 0)) 2 (.int 0)) 3 (.int x62)) 2 = some (.int 0) := eh_keep (by decide) (Or.inl rfl) k60_2
      exact Or.inr (Or.inr (Or.inr (Or.inl ⟨x62, c5, c6, c63, _, _, E, hV64, (hN65.trans (hN51.trans hN8)), iv, k66_0, k66_1, k66_2, k66_3⟩)))
    · skip
      exact absurd c52 (by rw [c5]; decide)
    · skip
      exact absurd c56 (by rw [c5]; decide)
  · skip
    have c9 : (eh_i G 0 11) = 1 := c9
    have c10 : (eh_l G 0 17) = 7237492 := c10
    have E : eh_e _ _ 7 lo [.int 1] _ rs h' := E
    have E := E.so (p := 8) (t := ri_isI) (i := 1) (n := 1) rfl (e := (.istore_n 1, 1, [], .null)) rfl rfl (fun _ _ => rfl) rfl
    have k67_1 : ri_lk (ri_st1 lo 1 (.int 1)) 1 = some (.int 1) := eh_self
    have k67_0 : ri_lk (ri_st1 lo 1 (.int 1)) 0 = some (.ref 0) := eh_keep (by decide) (Or.inl rfl) l0
    have E := E.ld (p := 9) (t := ri_isA) (i := 0) (n := 1) (v := .ref 0) rfl (e := (.aload_n 0, 1, [], .null)) rfl rfl (fun _ _ => rfl) k67_0 rfl
    have E := E.pu (p := 11) (lo' := (ri_st1 lo 1 (.int 1))) (st' := [.int 40, .ref 0]) rfl (e := (.bipush 40, 2, [], .null)) rfl rfl (fun _ _ => rfl)
    obtain ⟨v1, h68, X, E⟩ := E.cv (p := 14) (as := [.int 40]) (b := 0) (r := []) rfl (x := 168) (m := 3) (w := .null) (j := 161) (n := 1) (t := 12) (u := [1542, 48, 1544]) rfl rfl rfl
    rcases sp_161 (d := d + 1) X hV11 (iv.1) with ⟨c69, rfl, hV70, hN71⟩ | ⟨c72, c73, rfl, hV74, hN75⟩ | ⟨c76, c77, rfl, hV78, hN79⟩
    · skip
      have E : eh_e _ _ 14 (ri_st1 lo 1 (.int 1)) [.int 0] _ rs h' := E
      have E := E.so (p := 15) (t := ri_isI) (i := 2) (n := 1) rfl (e := (.istore_n 2, 1, [], .null)) rfl rfl (fun _ _ => rfl) rfl
      have k80_2 : ri_lk (ri_st1 (ri_st1 lo 1 (.int 1)) 2 (.int 0)) 2 = some (.int 0) := eh_self
      have k80_0 : ri_lk (ri_st1 (ri_st1 lo 1 (.int 1)) 2 (.int 0)) 0 = some (.ref 0) := eh_keep (by decide) (Or.inl rfl) k67_0
      have k80_1 : ri_lk (ri_st1 (ri_st1 lo 1 (.int 1)) 2 (.int 0)) 1 = some (.int 1) := eh_keep (by decide) (Or.inl rfl) k67_1
      have E := E.ld (p := 16) (t := ri_isA) (i := 0) (n := 1) (v := .ref 0) rfl (e := (.aload_n 0, 1, [], .null)) rfl rfl (fun _ _ => rfl) k80_0 rfl
      obtain ⟨v1, h81, X, E⟩ := E.cv (p := 19) (as := []) (b := 0) (r := []) rfl (x := 410) (m := 3) (w := .null) (j := 245) (n := 0) (t := 12) (u := [1862, 95, 1864]) rfl rfl rfl
      rcases zl_L (d := d) X hV70 (iv.1) with ⟨x82, c83, rfl, hV84, hN85⟩
      have c83 : lf_M G x82 := c83
      have E : eh_e _ _ 19 (ri_st1 (ri_st1 lo 1 (.int 1)) 2 (.int 0)) [.int x82] _ rs h' := E
      have E := E.so (p := 20) (t := ri_isI) (i := 3) (n := 1) rfl (e := (.istore_n 3, 1, [], .null)) rfl rfl (fun _ _ => rfl) rfl
      have k86_3 : ri_lk (ri_st1 (ri_st1 (ri_st1 lo 1 (.int 1)) 2 (.int 0)) 3 (.int x82)) 3 = some (.int x82) := eh_self
      have k86_0 : ri_lk (ri_st1 (ri_st1 (ri_st1 lo 1 (.int 1)) 2 (.int 0)) 3 (.int x82)) 0 = some (.ref 0) := eh_keep (by decide) (Or.inl rfl) k80_0
      have k86_1 : ri_lk (ri_st1 (ri_st1 (ri_st1 lo 1 (.int 1)) 2 (.int 0)) 3 (.int x82)) 1 = some (.int 1) := eh_keep (by decide) (Or.inl rfl) k80_1
      have k86_2 : ri_lk (ri_st1 (ri_st1 (ri_st1 lo 1 (.int 1)) 2 (.int 0)) 3 (.int x82)) 2 = some (.int 0) := eh_keep (by decide) (Or.inl rfl) k80_2
      exact Or.inr (Or.inr (Or.inr (Or.inr (⟨x82, c9, c10, c83, _, _, E, hV84, (hN85.trans (hN71.trans hN12)), iv, k86_0, k86_1, k86_2, k86_3⟩))))
    · skip
      exact absurd c72 (by rw [c9]; decide)
    · skip
      exact absurd c76 (by rw [c9]; decide)
theorem zp_n {d : Nat} {lo : List (Nat × Value)} {h h' : ri_H} {rs : List Value} {G : eh_W} {b : Nat → Int32} {n m : Nat} {le : Int32} (E : eh_e (ri_calE ri_md (d + 2)) md_246 20 lo [] h rs h') (hV : eh_V h = G) (iv : iT b n m G) (l0 : ri_lk lo 0 = some (.ref 0)) (l1 : ri_lk lo 1 = some (.int 1)) (l2 : ri_lk lo 2 = some (.int 0)) (l3 : ri_lk lo 3 = some (.int le)) : ((eh_i G 0 40) = 20 ∧ rs = [.int 0] ∧ eh_V h' = eh_u (eh_u G 0 15 (.int 4)) 0 16 (.int (eh_i G 0 12)) ∧ eh_N h' = eh_N h ∧ iT b n m (eh_u (eh_u G 0 15 (.int 4)) 0 16 (.int (eh_i G 0 12)))) ∨ (∃ (h6 : ri_H), ∃ (h9 : ri_H), ¬ ((eh_i G 0 40) = 20) ∧ ¬ (8 < (eh_i G 0 42).toInt) ∧ eh_V h6 = eh_u G 0 40 (.int ((eh_i G 0 40) + 1)) ∧ ri_calE ri_md (d + 2) 158 [.ref 0] h6 = some (none, h9) ∧ iT b n m (eh_V h9) ∧ rs = [.int 1] ∧ eh_V h' = eh_u (eh_u (eh_u (eh_V h9) 13 (eh_i (eh_V h9) 0 41).toNatClampNeg (.int 20)) 0 41 (.int ((eh_i (eh_V h9) 0 41) + 1))) 0 42 (.int ((eh_i (eh_V h9) 0 42) + 1)) ∧ eh_N h' = eh_N h ∧ iT b n m (eh_u (eh_u (eh_u (eh_V h9) 13 (eh_i (eh_V h9) 0 41).toNatClampNeg (.int 20)) 0 41 (.int ((eh_i (eh_V h9) 0 41) + 1))) 0 42 (.int ((eh_i (eh_V h9) 0 42) + 1)))) ∨ (¬ ((eh_i G 0 40) = 20) ∧ 8 < (eh_i G 0 42).toInt ∧ rs = [.int 0] ∧ eh_V h' = eh_u (eh_u G 0 15 (.int 4)) 0 16 (.int (eh_i G 0 12)) ∧ eh_N h' = eh_N h ∧ iT b n m (eh_u (eh_u G 0 15 (.int 4)) 0 16 (.int (eh_i G 0 12)))) := by
  have E := E.ld (p := 21) (t := ri_isI) (i := 1) (n := 1) (v := .int 1) rfl (e := (.iload_n 1, 1, [], .null)) rfl rfl (fun _ _ => rfl) l1 rfl
  have E := E.brt (c := 1) (tgt := 38) (a := 1) (b := 0) (st' := []) rfl (e := (.ifCond .ne 17, 3, [38], .null)) rfl rfl (fun _ _ => rfl) (by decide)
  have E := E.ld (p := 39) (t := ri_isA) (i := 0) (n := 1) (v := .ref 0) rfl (e := (.aload_n 0, 1, [], .null)) rfl rfl (fun _ _ => rfl) l0 rfl
  have E := E.gi (y := eh_i G 0 40) (p := 42) rfl (x := 413) (m := 3) (w := .null) (t := 12) (i := 40) (u := 1364) rfl rfl hV (iv.1) rfl rfl
  have E := E.pu (p := 44) (lo' := lo) (st' := [.int 20, .int (eh_i G 0 40)]) rfl (e := (.bipush 20, 2, [], .null)) rfl rfl (fun _ _ => rfl)
  rcases eh_q0 (E.br (p := 47) (c := 0) (tgt := 56) (a := eh_i G 0 40) (b := 20) (st' := []) rfl (e := (.if_icmp .eq 12, 3, [56], .null)) rfl rfl (fun _ _ => rfl) rfl) with ⟨c1, E⟩ | ⟨c1, E⟩
  · skip
    have E := E.ld (p := 57) (t := ri_isA) (i := 0) (n := 1) (v := .ref 0) rfl (e := (.aload_n 0, 1, [], .null)) rfl rfl (fun _ _ => rfl) l0 rfl
    have E := E.pu (p := 58) (lo' := lo) (st' := [.int 4, .ref 0]) rfl (e := (.iconst 4, 1, [], .null)) rfl rfl (fun _ _ => rfl)
    obtain ⟨v1, h2, X, E⟩ := E.cv (p := 61) (as := [.int 4]) (b := 0) (r := []) rfl (x := 171) (m := 3) (w := .null) (j := 159) (n := 1) (t := 12) (u := [1507, 40, 1509]) rfl rfl rfl
    rcases sp_159 (d := d + 1) X hV (iv.1) with ⟨rfl, hV3, hN4⟩
    have hV3 : _ = eh_u (eh_u G 0 15 (.int 4)) 0 16 (.int (eh_i G 0 12)) := hV3
    have E : eh_e _ _ 61 lo [.int 0] _ rs h' := E
    obtain ⟨r1, r2⟩ := E.reti rfl (m := 1) (ax := []) (w := .null) rfl
    exact Or.inl ⟨c1, r1, ((congrArg eh_V r2).trans hV3), ((congrArg eh_N r2).trans hN4), (iT_u (iT_u iv ((iv.1).ui rfl) rfl) (((iv.1).ui rfl).ui rfl) rfl)⟩
  · skip
    have E := E.ld (p := 48) (t := ri_isA) (i := 0) (n := 1) (v := .ref 0) rfl (e := (.aload_n 0, 1, [], .null)) rfl rfl (fun _ _ => rfl) l0 rfl
    have E := E.gi (y := eh_i G 0 42) (p := 51) rfl (x := 407) (m := 3) (w := .null) (t := 12) (i := 42) (u := 1366) rfl rfl hV (iv.1) rfl rfl
    have E := E.pu (p := 53) (lo' := lo) (st' := [.int 8, .int (eh_i G 0 42)]) rfl (e := (.bipush 8, 2, [], .null)) rfl rfl (fun _ _ => rfl)
    rcases eh_r5 rfl (show (8 : Int32).toInt = 8 by decide) (E.br (p := 56) (c := 5) (tgt := 62) (a := eh_i G 0 42) (b := 8) (st' := []) rfl (e := (.if_icmp .le 9, 3, [62], .null)) rfl rfl (fun _ _ => rfl) rfl) with ⟨c5, E⟩ | ⟨c5, E⟩
    · skip
      have E := E.ld (p := 63) (t := ri_isA) (i := 0) (n := 1) (v := .ref 0) rfl (e := (.aload_n 0, 1, [], .null)) rfl rfl (fun _ _ => rfl) l0 rfl
      have E := E.pu (p := 64) (lo' := lo) (st' := [.ref 0, .ref 0]) rfl (e := (.dup, 1, [], .null)) rfl rfl (fun _ _ => rfl)
      have E := E.gi (y := eh_i G 0 40) (p := 67) rfl (x := 413) (m := 3) (w := .null) (t := 12) (i := 40) (u := 1364) rfl rfl hV (iv.1) rfl rfl
      have E := E.pu (p := 68) (lo' := lo) (st' := [.int 1, .int (eh_i G 0 40), .ref 0]) rfl (e := (.iconst 1, 1, [], .null)) rfl rfl (fun _ _ => rfl)
      have E := E.pu (p := 69) (lo' := lo) (st' := [.int ((eh_i G 0 40) + 1), .ref 0]) rfl (e := (.iadd, 1, [], .null)) rfl rfl (fun _ _ => rfl)
      obtain ⟨h6, hV7, hN8, E⟩ := E.gp (p := 72) rfl (x := 413) (m := 3) (w := .null) (t := 12) (i := 40) (u := 1364) (y := 0) rfl rfl hV
      have E := E.ld (p := 73) (t := ri_isA) (i := 0) (n := 1) (v := .ref 0) rfl (e := (.aload_n 0, 1, [], .null)) rfl rfl (fun _ _ => rfl) l0 rfl
      obtain ⟨v1, h9, X, E⟩ := E.cv (p := 76) (as := []) (b := 0) (r := []) rfl (x := 174) (m := 3) (w := .null) (j := 158) (n := 0) (t := 12) (u := [1478, 35, 1480]) rfl rfl rfl
      obtain ⟨rfl, ivk10, hNk10⟩ := ts_158 (d := d) X (by rw [hV7]; exact (iT_u iv ((iv.1).ui rfl) rfl))
      have Xk10 := X
      have E : eh_e _ _ 76 lo [] h9 rs h' := E
      have E := E.ld (p := 77) (t := ri_isI) (i := 1) (n := 1) (v := .int 1) rfl (e := (.iload_n 1, 1, [], .null)) rfl rfl (fun _ _ => rfl) l1 rfl
      have E := E.brt (c := 1) (tgt := 84) (a := 1) (b := 0) (st' := []) rfl (e := (.ifCond .ne 7, 3, [84], .null)) rfl rfl (fun _ _ => rfl) (by decide)
      have E := E.ld (p := 85) (t := ri_isA) (i := 0) (n := 1) (v := .ref 0) rfl (e := (.aload_n 0, 1, [], .null)) rfl rfl (fun _ _ => rfl) l0 rfl
      have E := E.gr (n := 13) (p := 88) rfl (x := 69) (m := 3) (w := .null) (t := 12) (i := 38) (u := 1362) rfl rfl (rfl : eh_V h9 = eh_V h9) ivk10.1 rfl
      have E := E.ld (p := 89) (t := ri_isA) (i := 0) (n := 1) (v := .ref 0) rfl (e := (.aload_n 0, 1, [], .null)) rfl rfl (fun _ _ => rfl) l0 rfl
      have E := E.gi (y := eh_i (eh_V h9) 0 41) (p := 92) rfl (x := 400) (m := 3) (w := .null) (t := 12) (i := 41) (u := 1365) rfl rfl (rfl : eh_V h9 = eh_V h9) ivk10.1 rfl rfl
      have E := E.ld (p := 93) (t := ri_isI) (i := 1) (n := 1) (v := .int 1) rfl (e := (.iload_n 1, 1, [], .null)) rfl rfl (fun _ _ => rfl) l1 rfl
      have E := E.brf (p := 96) (c := 0) (tgt := 101) (a := 1) (b := 0) (st' := [.int (eh_i (eh_V h9) 0 41), .ref 13]) rfl (e := (.ifCond .eq 8, 3, [101], .null)) rfl rfl (fun _ _ => rfl) (by decide) rfl
      have E := E.pu (p := 98) (lo' := lo) (st' := [.int 20, .int (eh_i (eh_V h9) 0 41), .ref 13]) rfl (e := (.bipush 20, 2, [], .null)) rfl rfl (fun _ _ => rfl)
      have E := E.pu (p := 103) (lo' := lo) (st' := [.int 20, .int (eh_i (eh_V h9) 0 41), .ref 13]) rfl (e := (.goto 5, 3, [103], .null)) rfl rfl (fun _ _ => rfl)
      obtain ⟨h11, hV12, hN13, E⟩ := E.aw (gg := ri_g1) (b := true) (p := 104) (n := (eh_i (eh_V h9) 0 41).toNatClampNeg) rfl (e := (.iastore, 1, [], .null)) rfl rfl (fun _ _ => rfl) rfl (rfl : eh_V h9 = eh_V h9) rfl
      have E := E.ld (p := 105) (t := ri_isA) (i := 0) (n := 1) (v := .ref 0) rfl (e := (.aload_n 0, 1, [], .null)) rfl rfl (fun _ _ => rfl) l0 rfl
      have E := E.pu (p := 106) (lo' := lo) (st' := [.ref 0, .ref 0]) rfl (e := (.dup, 1, [], .null)) rfl rfl (fun _ _ => rfl)
      have E := E.gi (y := eh_i (eh_V h9) 0 41) (p := 109) rfl (x := 400) (m := 3) (w := .null) (t := 12) (i := 41) (u := 1365) rfl rfl hV12 (ivk10.1.ui rfl) rfl rfl
      have E := E.pu (p := 110) (lo' := lo) (st' := [.int 1, .int (eh_i (eh_V h9) 0 41), .ref 0]) rfl (e := (.iconst 1, 1, [], .null)) rfl rfl (fun _ _ => rfl)
      have E := E.pu (p := 111) (lo' := lo) (st' := [.int ((eh_i (eh_V h9) 0 41) + 1), .ref 0]) rfl (e := (.iadd, 1, [], .null)) rfl rfl (fun _ _ => rfl)
      obtain ⟨h14, hV15, hN16, E⟩ := E.gp (p := 114) rfl (x := 400) (m := 3) (w := .null) (t := 12) (i := 41) (u := 1365) (y := 0) rfl rfl hV12
      have E := E.ld (p := 115) (t := ri_isA) (i := 0) (n := 1) (v := .ref 0) rfl (e := (.aload_n 0, 1, [], .null)) rfl rfl (fun _ _ => rfl) l0 rfl
      have E := E.pu (p := 116) (lo' := lo) (st' := [.ref 0, .ref 0]) rfl (e := (.dup, 1, [], .null)) rfl rfl (fun _ _ => rfl)
      have E := E.gi (y := eh_i (eh_V h9) 0 42) (p := 119) rfl (x := 407) (m := 3) (w := .null) (t := 12) (i := 42) (u := 1366) rfl rfl hV15 ((ivk10.1.ui rfl).ui rfl) rfl rfl
      have E := E.pu (p := 120) (lo' := lo) (st' := [.int 1, .int (eh_i (eh_V h9) 0 42), .ref 0]) rfl (e := (.iconst 1, 1, [], .null)) rfl rfl (fun _ _ => rfl)
      have E := E.pu (p := 121) (lo' := lo) (st' := [.int ((eh_i (eh_V h9) 0 42) + 1), .ref 0]) rfl (e := (.iadd, 1, [], .null)) rfl rfl (fun _ _ => rfl)
      obtain ⟨h17, hV18, hN19, E⟩ := E.gp (p := 124) rfl (x := 407) (m := 3) (w := .null) (t := 12) (i := 42) (u := 1366) (y := 0) rfl rfl hV15
      have E := E.pu (p := 125) (lo' := lo) (st' := [.int 1]) rfl (e := (.iconst 1, 1, [], .null)) rfl rfl (fun _ _ => rfl)
      obtain ⟨r1, r2⟩ := E.reti rfl (m := 1) (ax := []) (w := .null) rfl
      exact Or.inr (Or.inl ⟨h6, h9, c1, c5, hV7, Xk10, ivk10, r1, ((congrArg eh_V r2).trans hV18), ((congrArg eh_N r2).trans (hN19.trans (hN16.trans (hN13.trans (hNk10.trans hN8))))), (iT_u (iT_u (iT_u ivk10 (ivk10.1.ui rfl) rfl) ((ivk10.1.ui rfl).ui rfl) rfl) (((ivk10.1.ui rfl).ui rfl).ui rfl) rfl)⟩)
    · skip
      have E := E.ld (p := 57) (t := ri_isA) (i := 0) (n := 1) (v := .ref 0) rfl (e := (.aload_n 0, 1, [], .null)) rfl rfl (fun _ _ => rfl) l0 rfl
      have E := E.pu (p := 58) (lo' := lo) (st' := [.int 4, .ref 0]) rfl (e := (.iconst 4, 1, [], .null)) rfl rfl (fun _ _ => rfl)
      obtain ⟨v1, h20, X, E⟩ := E.cv (p := 61) (as := [.int 4]) (b := 0) (r := []) rfl (x := 171) (m := 3) (w := .null) (j := 159) (n := 1) (t := 12) (u := [1507, 40, 1509]) rfl rfl rfl
      rcases sp_159 (d := d + 1) X hV (iv.1) with ⟨rfl, hV21, hN22⟩
      have hV21 : _ = eh_u (eh_u G 0 15 (.int 4)) 0 16 (.int (eh_i G 0 12)) := hV21
      have E : eh_e _ _ 61 lo [.int 0] _ rs h' := E
      obtain ⟨r1, r2⟩ := E.reti rfl (m := 1) (ax := []) (w := .null) rfl
      exact Or.inr (Or.inr (⟨c1, c5, r1, ((congrArg eh_V r2).trans hV21), ((congrArg eh_N r2).trans hN22), (iT_u (iT_u iv ((iv.1).ui rfl) rfl) (((iv.1).ui rfl).ui rfl) rfl)⟩))
theorem tq_zp_n {d : Nat} {lo : List (Nat × Value)} {h h' : ri_H} {rs : List Value} {G : eh_W} {b : Nat → Int32} {n m : Nat} {le : Int32} (E : eh_e (ri_calE ri_md (d + 2)) md_246 20 lo [] h rs h') (hV : eh_V h = G) (iv : iT b n m G) (l0 : ri_lk lo 0 = some (.ref 0)) (l1 : ri_lk lo 1 = some (.int 1)) (l2 : ri_lk lo 2 = some (.int 0)) (l3 : ri_lk lo 3 = some (.int le)) : ∃ x : Int32, rs = [.int x] ∧ iT b n m (eh_V h') ∧ eh_N h' = eh_N h := by
  rcases zp_n E hV iv l0 l1 l2 l3 with ⟨_, r1, r2, r3, r4⟩ | ⟨_, _, _, _, _, _, _, r1, r2, r3, r4⟩ | ⟨_, _, r1, r2, r3, r4⟩
  · exact ⟨_, r1, by rw [r2]; exact r4, r3⟩
  · exact ⟨_, r1, by rw [r2]; exact r4, r3⟩
  · exact ⟨_, r1, by rw [r2]; exact r4, r3⟩
theorem zp_o {d : Nat} {lo : List (Nat × Value)} {h h' : ri_H} {rs : List Value} {G : eh_W} {b : Nat → Int32} {n m : Nat} {le : Int32} (E : eh_e (ri_calE ri_md (d + 2)) md_246 20 lo [] h rs h') (hV : eh_V h = G) (iv : iT b n m G) (l0 : ri_lk lo 0 = some (.ref 0)) (l1 : ri_lk lo 1 = some (.int 0)) (l2 : ri_lk lo 2 = some (.int 1)) (l3 : ri_lk lo 3 = some (.int le)) : ((eh_i G 0 40) = 20 ∧ rs = [.int 0] ∧ eh_V h' = eh_u (eh_u G 0 15 (.int 4)) 0 16 (.int (eh_i G 0 12)) ∧ eh_N h' = eh_N h ∧ iT b n m (eh_u (eh_u G 0 15 (.int 4)) 0 16 (.int (eh_i G 0 12)))) ∨ (∃ (h6 : ri_H), ∃ (h9 : ri_H), ¬ ((eh_i G 0 40) = 20) ∧ ¬ (8 < (eh_i G 0 42).toInt) ∧ eh_V h6 = eh_u G 0 40 (.int ((eh_i G 0 40) + 1)) ∧ ri_calE ri_md (d + 2) 158 [.ref 0] h6 = some (none, h9) ∧ iT b n m (eh_V h9) ∧ rs = [.int 1] ∧ eh_V h' = eh_u (eh_u (eh_u (eh_V h9) 13 (eh_i (eh_V h9) 0 41).toNatClampNeg (.int 23)) 0 41 (.int ((eh_i (eh_V h9) 0 41) + 1))) 0 42 (.int ((eh_i (eh_V h9) 0 42) + 1)) ∧ eh_N h' = eh_N h ∧ iT b n m (eh_u (eh_u (eh_u (eh_V h9) 13 (eh_i (eh_V h9) 0 41).toNatClampNeg (.int 23)) 0 41 (.int ((eh_i (eh_V h9) 0 41) + 1))) 0 42 (.int ((eh_i (eh_V h9) 0 42) + 1)))) ∨ (¬ ((eh_i G 0 40) = 20) ∧ 8 < (eh_i G 0 42).toInt ∧ rs = [.int 0] ∧ eh_V h' = eh_u (eh_u G 0 15 (.int 4)) 0 16 (.int (eh_i G 0 12)) ∧ eh_N h' = eh_N h ∧ iT b n m (eh_u (eh_u G 0 15 (.int 4)) 0 16 (.int (eh_i G 0 12)))) := by
  have E := E.ld (p := 21) (t := ri_isI) (i := 1) (n := 1) (v := .int 0) rfl (e := (.iload_n 1, 1, [], .null)) rfl rfl (fun _ _ => rfl) l1 rfl
  have E := E.brf (p := 24) (c := 1) (tgt := 38) (a := 0) (b := 0) (st' := []) rfl (e := (.ifCond .ne 17, 3, [38], .null)) rfl rfl (fun _ _ => rfl) (by decide) rfl
  have E := E.ld (p := 25) (t := ri_isI) (i := 2) (n := 1) (v := .int 1) rfl (e := (.iload_n 2, 1, [], .null)) rfl rfl (fun _ _ => rfl) l2 rfl
  have E := E.brt (c := 1) (tgt := 38) (a := 1) (b := 0) (st' := []) rfl (e := (.ifCond .ne 13, 3, [38], .null)) rfl rfl (fun _ _ => rfl) (by decide)
  have E := E.ld (p := 39) (t := ri_isA) (i := 0) (n := 1) (v := .ref 0) rfl (e := (.aload_n 0, 1, [], .null)) rfl rfl (fun _ _ => rfl) l0 rfl
  have E := E.gi (y := eh_i G 0 40) (p := 42) rfl (x := 413) (m := 3) (w := .null) (t := 12) (i := 40) (u := 1364) rfl rfl hV (iv.1) rfl rfl
  have E := E.pu (p := 44) (lo' := lo) (st' := [.int 20, .int (eh_i G 0 40)]) rfl (e := (.bipush 20, 2, [], .null)) rfl rfl (fun _ _ => rfl)
  rcases eh_q0 (E.br (p := 47) (c := 0) (tgt := 56) (a := eh_i G 0 40) (b := 20) (st' := []) rfl (e := (.if_icmp .eq 12, 3, [56], .null)) rfl rfl (fun _ _ => rfl) rfl) with ⟨c1, E⟩ | ⟨c1, E⟩
  · skip
    have E := E.ld (p := 57) (t := ri_isA) (i := 0) (n := 1) (v := .ref 0) rfl (e := (.aload_n 0, 1, [], .null)) rfl rfl (fun _ _ => rfl) l0 rfl
    have E := E.pu (p := 58) (lo' := lo) (st' := [.int 4, .ref 0]) rfl (e := (.iconst 4, 1, [], .null)) rfl rfl (fun _ _ => rfl)
    obtain ⟨v1, h2, X, E⟩ := E.cv (p := 61) (as := [.int 4]) (b := 0) (r := []) rfl (x := 171) (m := 3) (w := .null) (j := 159) (n := 1) (t := 12) (u := [1507, 40, 1509]) rfl rfl rfl
    rcases sp_159 (d := d + 1) X hV (iv.1) with ⟨rfl, hV3, hN4⟩
    have hV3 : _ = eh_u (eh_u G 0 15 (.int 4)) 0 16 (.int (eh_i G 0 12)) := hV3
    have E : eh_e _ _ 61 lo [.int 0] _ rs h' := E
    obtain ⟨r1, r2⟩ := E.reti rfl (m := 1) (ax := []) (w := .null) rfl
    exact Or.inl ⟨c1, r1, ((congrArg eh_V r2).trans hV3), ((congrArg eh_N r2).trans hN4), (iT_u (iT_u iv ((iv.1).ui rfl) rfl) (((iv.1).ui rfl).ui rfl) rfl)⟩
  · skip
    have E := E.ld (p := 48) (t := ri_isA) (i := 0) (n := 1) (v := .ref 0) rfl (e := (.aload_n 0, 1, [], .null)) rfl rfl (fun _ _ => rfl) l0 rfl
    have E := E.gi (y := eh_i G 0 42) (p := 51) rfl (x := 407) (m := 3) (w := .null) (t := 12) (i := 42) (u := 1366) rfl rfl hV (iv.1) rfl rfl
    have E := E.pu (p := 53) (lo' := lo) (st' := [.int 8, .int (eh_i G 0 42)]) rfl (e := (.bipush 8, 2, [], .null)) rfl rfl (fun _ _ => rfl)
    rcases eh_r5 rfl (show (8 : Int32).toInt = 8 by decide) (E.br (p := 56) (c := 5) (tgt := 62) (a := eh_i G 0 42) (b := 8) (st' := []) rfl (e := (.if_icmp .le 9, 3, [62], .null)) rfl rfl (fun _ _ => rfl) rfl) with ⟨c5, E⟩ | ⟨c5, E⟩
    · skip
      have E := E.ld (p := 63) (t := ri_isA) (i := 0) (n := 1) (v := .ref 0) rfl (e := (.aload_n 0, 1, [], .null)) rfl rfl (fun _ _ => rfl) l0 rfl
      have E := E.pu (p := 64) (lo' := lo) (st' := [.ref 0, .ref 0]) rfl (e := (.dup, 1, [], .null)) rfl rfl (fun _ _ => rfl)
      have E := E.gi (y := eh_i G 0 40) (p := 67) rfl (x := 413) (m := 3) (w := .null) (t := 12) (i := 40) (u := 1364) rfl rfl hV (iv.1) rfl rfl
      have E := E.pu (p := 68) (lo' := lo) (st' := [.int 1, .int (eh_i G 0 40), .ref 0]) rfl (e := (.iconst 1, 1, [], .null)) rfl rfl (fun _ _ => rfl)
      have E := E.pu (p := 69) (lo' := lo) (st' := [.int ((eh_i G 0 40) + 1), .ref 0]) rfl (e := (.iadd, 1, [], .null)) rfl rfl (fun _ _ => rfl)
      obtain ⟨h6, hV7, hN8, E⟩ := E.gp (p := 72) rfl (x := 413) (m := 3) (w := .null) (t := 12) (i := 40) (u := 1364) (y := 0) rfl rfl hV
      have E := E.ld (p := 73) (t := ri_isA) (i := 0) (n := 1) (v := .ref 0) rfl (e := (.aload_n 0, 1, [], .null)) rfl rfl (fun _ _ => rfl) l0 rfl
      obtain ⟨v1, h9, X, E⟩ := E.cv (p := 76) (as := []) (b := 0) (r := []) rfl (x := 174) (m := 3) (w := .null) (j := 158) (n := 0) (t := 12) (u := [1478, 35, 1480]) rfl rfl rfl
      obtain ⟨rfl, ivk10, hNk10⟩ := ts_158 (d := d) X (by rw [hV7]; exact (iT_u iv ((iv.1).ui rfl) rfl))
      have Xk10 := X
      have E : eh_e _ _ 76 lo [] h9 rs h' := E
      have E := E.ld (p := 77) (t := ri_isI) (i := 1) (n := 1) (v := .int 0) rfl (e := (.iload_n 1, 1, [], .null)) rfl rfl (fun _ _ => rfl) l1 rfl
      have E := E.brf (p := 80) (c := 1) (tgt := 84) (a := 0) (b := 0) (st' := []) rfl (e := (.ifCond .ne 7, 3, [84], .null)) rfl rfl (fun _ _ => rfl) (by decide) rfl
      have E := E.ld (p := 81) (t := ri_isI) (i := 2) (n := 1) (v := .int 1) rfl (e := (.iload_n 2, 1, [], .null)) rfl rfl (fun _ _ => rfl) l2 rfl
      have E := E.brf (p := 84) (c := 0) (tgt := 126) (a := 1) (b := 0) (st' := []) rfl (e := (.ifCond .eq 45, 3, [126], .null)) rfl rfl (fun _ _ => rfl) (by decide) rfl
      have E := E.ld (p := 85) (t := ri_isA) (i := 0) (n := 1) (v := .ref 0) rfl (e := (.aload_n 0, 1, [], .null)) rfl rfl (fun _ _ => rfl) l0 rfl
      have E := E.gr (n := 13) (p := 88) rfl (x := 69) (m := 3) (w := .null) (t := 12) (i := 38) (u := 1362) rfl rfl (rfl : eh_V h9 = eh_V h9) ivk10.1 rfl
      have E := E.ld (p := 89) (t := ri_isA) (i := 0) (n := 1) (v := .ref 0) rfl (e := (.aload_n 0, 1, [], .null)) rfl rfl (fun _ _ => rfl) l0 rfl
      have E := E.gi (y := eh_i (eh_V h9) 0 41) (p := 92) rfl (x := 400) (m := 3) (w := .null) (t := 12) (i := 41) (u := 1365) rfl rfl (rfl : eh_V h9 = eh_V h9) ivk10.1 rfl rfl
      have E := E.ld (p := 93) (t := ri_isI) (i := 1) (n := 1) (v := .int 0) rfl (e := (.iload_n 1, 1, [], .null)) rfl rfl (fun _ _ => rfl) l1 rfl
      have E := E.brt (c := 0) (tgt := 101) (a := 0) (b := 0) (st' := [.int (eh_i (eh_V h9) 0 41), .ref 13]) rfl (e := (.ifCond .eq 8, 3, [101], .null)) rfl rfl (fun _ _ => rfl) (by decide)
      have E := E.pu (p := 103) (lo' := lo) (st' := [.int 23, .int (eh_i (eh_V h9) 0 41), .ref 13]) rfl (e := (.bipush 23, 2, [], .null)) rfl rfl (fun _ _ => rfl)
      obtain ⟨h11, hV12, hN13, E⟩ := E.aw (gg := ri_g1) (b := true) (p := 104) (n := (eh_i (eh_V h9) 0 41).toNatClampNeg) rfl (e := (.iastore, 1, [], .null)) rfl rfl (fun _ _ => rfl) rfl (rfl : eh_V h9 = eh_V h9) rfl
      have E := E.ld (p := 105) (t := ri_isA) (i := 0) (n := 1) (v := .ref 0) rfl (e := (.aload_n 0, 1, [], .null)) rfl rfl (fun _ _ => rfl) l0 rfl
      have E := E.pu (p := 106) (lo' := lo) (st' := [.ref 0, .ref 0]) rfl (e := (.dup, 1, [], .null)) rfl rfl (fun _ _ => rfl)
      have E := E.gi (y := eh_i (eh_V h9) 0 41) (p := 109) rfl (x := 400) (m := 3) (w := .null) (t := 12) (i := 41) (u := 1365) rfl rfl hV12 (ivk10.1.ui rfl) rfl rfl
      have E := E.pu (p := 110) (lo' := lo) (st' := [.int 1, .int (eh_i (eh_V h9) 0 41), .ref 0]) rfl (e := (.iconst 1, 1, [], .null)) rfl rfl (fun _ _ => rfl)
      have E := E.pu (p := 111) (lo' := lo) (st' := [.int ((eh_i (eh_V h9) 0 41) + 1), .ref 0]) rfl (e := (.iadd, 1, [], .null)) rfl rfl (fun _ _ => rfl)
      obtain ⟨h14, hV15, hN16, E⟩ := E.gp (p := 114) rfl (x := 400) (m := 3) (w := .null) (t := 12) (i := 41) (u := 1365) (y := 0) rfl rfl hV12
      have E := E.ld (p := 115) (t := ri_isA) (i := 0) (n := 1) (v := .ref 0) rfl (e := (.aload_n 0, 1, [], .null)) rfl rfl (fun _ _ => rfl) l0 rfl
      have E := E.pu (p := 116) (lo' := lo) (st' := [.ref 0, .ref 0]) rfl (e := (.dup, 1, [], .null)) rfl rfl (fun _ _ => rfl)
      have E := E.gi (y := eh_i (eh_V h9) 0 42) (p := 119) rfl (x := 407) (m := 3) (w := .null) (t := 12) (i := 42) (u := 1366) rfl rfl hV15 ((ivk10.1.ui rfl).ui rfl) rfl rfl
      have E := E.pu (p := 120) (lo' := lo) (st' := [.int 1, .int (eh_i (eh_V h9) 0 42), .ref 0]) rfl (e := (.iconst 1, 1, [], .null)) rfl rfl (fun _ _ => rfl)
      have E := E.pu (p := 121) (lo' := lo) (st' := [.int ((eh_i (eh_V h9) 0 42) + 1), .ref 0]) rfl (e := (.iadd, 1, [], .null)) rfl rfl (fun _ _ => rfl)
      obtain ⟨h17, hV18, hN19, E⟩ := E.gp (p := 124) rfl (x := 407) (m := 3) (w := .null) (t := 12) (i := 42) (u := 1366) (y := 0) rfl rfl hV15
      have E := E.pu (p := 125) (lo' := lo) (st' := [.int 1]) rfl (e := (.iconst 1, 1, [], .null)) rfl rfl (fun _ _ => rfl)
      obtain ⟨r1, r2⟩ := E.reti rfl (m := 1) (ax := []) (w := .null) rfl
      exact Or.inr (Or.inl ⟨h6, h9, c1, c5, hV7, Xk10, ivk10, r1, ((congrArg eh_V r2).trans hV18), ((congrArg eh_N r2).trans (hN19.trans (hN16.trans (hN13.trans (hNk10.trans hN8))))), (iT_u (iT_u (iT_u ivk10 (ivk10.1.ui rfl) rfl) ((ivk10.1.ui rfl).ui rfl) rfl) (((ivk10.1.ui rfl).ui rfl).ui rfl) rfl)⟩)
    · skip
      have E := E.ld (p := 57) (t := ri_isA) (i := 0) (n := 1) (v := .ref 0) rfl (e := (.aload_n 0, 1, [], .null)) rfl rfl (fun _ _ => rfl) l0 rfl
      have E := E.pu (p := 58) (lo' := lo) (st' := [.int 4, .ref 0]) rfl (e := (.iconst 4, 1, [], .null)) rfl rfl (fun _ _ => rfl)
      obtain ⟨v1, h20, X, E⟩ := E.cv (p := 61) (as := [.int 4]) (b := 0) (r := []) rfl (x := 171) (m := 3) (w := .null) (j := 159) (n := 1) (t := 12) (u := [1507, 40, 1509]) rfl rfl rfl
      rcases sp_159 (d := d + 1) X hV (iv.1) with ⟨rfl, hV21, hN22⟩
      have hV21 : _ = eh_u (eh_u G 0 15 (.int 4)) 0 16 (.int (eh_i G 0 12)) := hV21
      have E : eh_e _ _ 61 lo [.int 0] _ rs h' := E
      obtain ⟨r1, r2⟩ := E.reti rfl (m := 1) (ax := []) (w := .null) rfl
      exact Or.inr (Or.inr (⟨c1, c5, r1, ((congrArg eh_V r2).trans hV21), ((congrArg eh_N r2).trans hN22), (iT_u (iT_u iv ((iv.1).ui rfl) rfl) (((iv.1).ui rfl).ui rfl) rfl)⟩))
theorem tq_zp_o {d : Nat} {lo : List (Nat × Value)} {h h' : ri_H} {rs : List Value} {G : eh_W} {b : Nat → Int32} {n m : Nat} {le : Int32} (E : eh_e (ri_calE ri_md (d + 2)) md_246 20 lo [] h rs h') (hV : eh_V h = G) (iv : iT b n m G) (l0 : ri_lk lo 0 = some (.ref 0)) (l1 : ri_lk lo 1 = some (.int 0)) (l2 : ri_lk lo 2 = some (.int 1)) (l3 : ri_lk lo 3 = some (.int le)) : ∃ x : Int32, rs = [.int x] ∧ iT b n m (eh_V h') ∧ eh_N h' = eh_N h := by
  rcases zp_o E hV iv l0 l1 l2 l3 with ⟨_, r1, r2, r3, r4⟩ | ⟨_, _, _, _, _, _, _, r1, r2, r3, r4⟩ | ⟨_, _, r1, r2, r3, r4⟩
  · exact ⟨_, r1, by rw [r2]; exact r4, r3⟩
  · exact ⟨_, r1, by rw [r2]; exact r4, r3⟩
  · exact ⟨_, r1, by rw [r2]; exact r4, r3⟩
theorem zp_l {d : Nat} {lo : List (Nat × Value)} {h h' : ri_H} {rs : List Value} {G : eh_W} {b : Nat → Int32} {n m : Nat} {le : Int32} (E : eh_e (ri_calE ri_md (d + 2)) md_246 20 lo [] h rs h') (hV : eh_V h = G) (iv : iT b n m G) (l0 : ri_lk lo 0 = some (.ref 0)) (l1 : ri_lk lo 1 = some (.int 0)) (l2 : ri_lk lo 2 = some (.int 0)) (l3 : ri_lk lo 3 = some (.int le)) : (¬ (le.toInt < 0) ∧ (eh_i G 0 40) = 20 ∧ rs = [.int 0] ∧ eh_V h' = eh_u (eh_u G 0 15 (.int 4)) 0 16 (.int (eh_i G 0 12)) ∧ eh_N h' = eh_N h ∧ iT b n m (eh_u (eh_u G 0 15 (.int 4)) 0 16 (.int (eh_i G 0 12)))) ∨ (∃ (h7 : ri_H), ∃ (h10 : ri_H), ¬ (le.toInt < 0) ∧ ¬ ((eh_i G 0 40) = 20) ∧ ¬ (8 < (eh_i G 0 42).toInt) ∧ eh_V h7 = eh_u G 0 40 (.int ((eh_i G 0 40) + 1)) ∧ ri_calE ri_md (d + 2) 158 [.ref 0] h7 = some (none, h10) ∧ iT b n m (eh_V h10) ∧ ¬ (le.toInt < 2) ∧ ¬ (le.toInt < 4) ∧ ¬ ((eh_i (eh_V h10) 0 11) = 3) ∧ rs = [.int 0] ∧ eh_V h' = eh_u (eh_u (eh_u (eh_V h10) 0 43 (.int 1)) 0 15 (.int 1)) 0 16 (.int (eh_i (eh_V h10) 0 12)) ∧ eh_N h' = eh_N h ∧ iT b n m (eh_u (eh_u (eh_u (eh_V h10) 0 43 (.int 1)) 0 15 (.int 1)) 0 16 (.int (eh_i (eh_V h10) 0 12)))) ∨ (∃ (h7 : ri_H), ∃ (h10 : ri_H), ¬ (le.toInt < 0) ∧ ¬ ((eh_i G 0 40) = 20) ∧ ¬ (8 < (eh_i G 0 42).toInt) ∧ eh_V h7 = eh_u G 0 40 (.int ((eh_i G 0 40) + 1)) ∧ ri_calE ri_md (d + 2) 158 [.ref 0] h7 = some (none, h10) ∧ iT b n m (eh_V h10) ∧ ¬ (le.toInt < 2) ∧ ¬ (le.toInt < 4) ∧ (eh_i (eh_V h10) 0 11) = 3 ∧ (eh_i (eh_V h10) 0 14).toInt < 60 ∧ rs = [.int 0] ∧ eh_V h' = eh_u (eh_u (eh_u (eh_V h10) 0 43 (.int 1)) 0 15 (.int 1)) 0 16 (.int (eh_i (eh_V h10) 0 12)) ∧ eh_N h' = eh_N h ∧ iT b n m (eh_u (eh_u (eh_u (eh_V h10) 0 43 (.int 1)) 0 15 (.int 1)) 0 16 (.int (eh_i (eh_V h10) 0 12)))) ∨ (∃ (h7 : ri_H), ∃ (h10 : ri_H), ∃ (h12 : ri_H), ∃ (h27 : ri_H), ∃ (h30 : ri_H), ∃ (h32 : ri_H), ¬ (le.toInt < 0) ∧ ¬ ((eh_i G 0 40) = 20) ∧ ¬ (8 < (eh_i G 0 42).toInt) ∧ eh_V h7 = eh_u G 0 40 (.int ((eh_i G 0 40) + 1)) ∧ ri_calE ri_md (d + 2) 158 [.ref 0] h7 = some (none, h10) ∧ iT b n m (eh_V h10) ∧ ¬ (le.toInt < 2) ∧ ¬ (le.toInt < 4) ∧ (eh_i (eh_V h10) 0 11) = 3 ∧ ¬ ((eh_i (eh_V h10) 0 14).toInt < 60) ∧ ¬ (62 < (eh_i (eh_V h10) 0 14).toInt) ∧ eh_V h12 = eh_u (eh_V h10) 0 43 (.int 1) ∧ ri_calE ri_md (d + 2) 158 [.ref 0] h12 = some (none, h27) ∧ iT b n m (eh_V h27) ∧ (eh_i (eh_V h27) 0 11) = 2 ∧ ri_calE ri_md (d + 2) 242 [.ref 0, .int le, .int (eh_i (eh_V h10) 0 14), .int (eh_i (eh_V h27) 0 14)] h27 = some (none, h30) ∧ iT b n m (eh_V h30) ∧ ri_calE ri_md (d + 2) 158 [.ref 0] h30 = some (none, h32) ∧ iT b n m (eh_V h32) ∧ rs = [.int 1] ∧ eh_V h' = (eh_V h32) ∧ eh_N h' = eh_N h ∧ iT b n m (eh_V h32)) ∨ (∃ (h7 : ri_H), ∃ (h10 : ri_H), ∃ (h12 : ri_H), ∃ (h27 : ri_H), ¬ (le.toInt < 0) ∧ ¬ ((eh_i G 0 40) = 20) ∧ ¬ (8 < (eh_i G 0 42).toInt) ∧ eh_V h7 = eh_u G 0 40 (.int ((eh_i G 0 40) + 1)) ∧ ri_calE ri_md (d + 2) 158 [.ref 0] h7 = some (none, h10) ∧ iT b n m (eh_V h10) ∧ ¬ (le.toInt < 2) ∧ ¬ (le.toInt < 4) ∧ (eh_i (eh_V h10) 0 11) = 3 ∧ ¬ ((eh_i (eh_V h10) 0 14).toInt < 60) ∧ ¬ (62 < (eh_i (eh_V h10) 0 14).toInt) ∧ eh_V h12 = eh_u (eh_V h10) 0 43 (.int 1) ∧ ri_calE ri_md (d + 2) 158 [.ref 0] h12 = some (none, h27) ∧ iT b n m (eh_V h27) ∧ ¬ ((eh_i (eh_V h27) 0 11) = 2) ∧ rs = [.int 0] ∧ eh_V h' = eh_u (eh_u (eh_V h27) 0 15 (.int 1)) 0 16 (.int (eh_i (eh_V h27) 0 12)) ∧ eh_N h' = eh_N h ∧ iT b n m (eh_u (eh_u (eh_V h27) 0 15 (.int 1)) 0 16 (.int (eh_i (eh_V h27) 0 12)))) ∨ (∃ (h7 : ri_H), ∃ (h10 : ri_H), ¬ (le.toInt < 0) ∧ ¬ ((eh_i G 0 40) = 20) ∧ ¬ (8 < (eh_i G 0 42).toInt) ∧ eh_V h7 = eh_u G 0 40 (.int ((eh_i G 0 40) + 1)) ∧ ri_calE ri_md (d + 2) 158 [.ref 0] h7 = some (none, h10) ∧ iT b n m (eh_V h10) ∧ ¬ (le.toInt < 2) ∧ ¬ (le.toInt < 4) ∧ (eh_i (eh_V h10) 0 11) = 3 ∧ ¬ ((eh_i (eh_V h10) 0 14).toInt < 60) ∧ 62 < (eh_i (eh_V h10) 0 14).toInt ∧ rs = [.int 0] ∧ eh_V h' = eh_u (eh_u (eh_u (eh_V h10) 0 43 (.int 1)) 0 15 (.int 1)) 0 16 (.int (eh_i (eh_V h10) 0 12)) ∧ eh_N h' = eh_N h ∧ iT b n m (eh_u (eh_u (eh_u (eh_V h10) 0 43 (.int 1)) 0 15 (.int 1)) 0 16 (.int (eh_i (eh_V h10) 0 12)))) ∨ (∃ (h7 : ri_H), ∃ (h10 : ri_H), ∃ (h12 : ri_H), ∃ (x43 : Int32), ∃ (h41 : ri_H), ∃ (h45 : ri_H), ∃ (h47 : ri_H), ¬ (le.toInt < 0) ∧ ¬ ((eh_i G 0 40) = 20) ∧ ¬ (8 < (eh_i G 0 42).toInt) ∧ eh_V h7 = eh_u G 0 40 (.int ((eh_i G 0 40) + 1)) ∧ ri_calE ri_md (d + 2) 158 [.ref 0] h7 = some (none, h10) ∧ iT b n m (eh_V h10) ∧ ¬ (le.toInt < 2) ∧ le.toInt < 4 ∧ ¬ (le = 2) ∧ eh_V h12 = eh_u (eh_V h10) 0 43 (.int 1) ∧ ri_calE ri_md (d + 2) 168 [.ref 0, .int 14, .int (eh_i (eh_V h10) 2 5)] h12 = some (some (.int x43), h41) ∧ iT b n m (eh_V h41) ∧ ¬ (x43 = 0) ∧ ri_calE ri_md (d + 2) 242 [.ref 0, .int le, .int 0, .int (eh_i (eh_V h41) 0 18)] h41 = some (none, h45) ∧ iT b n m (eh_V h45) ∧ ri_calE ri_md (d + 2) 158 [.ref 0] h45 = some (none, h47) ∧ iT b n m (eh_V h47) ∧ rs = [.int 1] ∧ eh_V h' = (eh_V h47) ∧ eh_N h' = eh_N h ∧ iT b n m (eh_V h47)) ∨ (∃ (h7 : ri_H), ∃ (h10 : ri_H), ∃ (h12 : ri_H), ∃ (x43 : Int32), ∃ (h41 : ri_H), ¬ (le.toInt < 0) ∧ ¬ ((eh_i G 0 40) = 20) ∧ ¬ (8 < (eh_i G 0 42).toInt) ∧ eh_V h7 = eh_u G 0 40 (.int ((eh_i G 0 40) + 1)) ∧ ri_calE ri_md (d + 2) 158 [.ref 0] h7 = some (none, h10) ∧ iT b n m (eh_V h10) ∧ ¬ (le.toInt < 2) ∧ le.toInt < 4 ∧ ¬ (le = 2) ∧ eh_V h12 = eh_u (eh_V h10) 0 43 (.int 1) ∧ ri_calE ri_md (d + 2) 168 [.ref 0, .int 14, .int (eh_i (eh_V h10) 2 5)] h12 = some (some (.int x43), h41) ∧ iT b n m (eh_V h41) ∧ x43 = 0 ∧ rs = [.int 0] ∧ eh_V h' = (eh_V h41) ∧ eh_N h' = eh_N h ∧ iT b n m (eh_V h41)) ∨ (∃ (h7 : ri_H), ∃ (h10 : ri_H), ∃ (h12 : ri_H), ∃ (x51 : Int32), ∃ (h49 : ri_H), ∃ (h53 : ri_H), ∃ (h55 : ri_H), ¬ (le.toInt < 0) ∧ ¬ ((eh_i G 0 40) = 20) ∧ ¬ (8 < (eh_i G 0 42).toInt) ∧ eh_V h7 = eh_u G 0 40 (.int ((eh_i G 0 40) + 1)) ∧ ri_calE ri_md (d + 2) 158 [.ref 0] h7 = some (none, h10) ∧ iT b n m (eh_V h10) ∧ ¬ (le.toInt < 2) ∧ le.toInt < 4 ∧ le = 2 ∧ eh_V h12 = eh_u (eh_V h10) 0 43 (.int 1) ∧ ri_calE ri_md (d + 2) 168 [.ref 0, .int 0, .int (eh_i (eh_V h10) 2 3)] h12 = some (some (.int x51), h49) ∧ iT b n m (eh_V h49) ∧ ¬ (x51 = 0) ∧ ri_calE ri_md (d + 2) 242 [.ref 0, .int le, .int 0, .int (eh_i (eh_V h49) 0 18)] h49 = some (none, h53) ∧ iT b n m (eh_V h53) ∧ ri_calE ri_md (d + 2) 158 [.ref 0] h53 = some (none, h55) ∧ iT b n m (eh_V h55) ∧ rs = [.int 1] ∧ eh_V h' = (eh_V h55) ∧ eh_N h' = eh_N h ∧ iT b n m (eh_V h55)) ∨ (∃ (h7 : ri_H), ∃ (h10 : ri_H), ∃ (h12 : ri_H), ∃ (x51 : Int32), ∃ (h49 : ri_H), ¬ (le.toInt < 0) ∧ ¬ ((eh_i G 0 40) = 20) ∧ ¬ (8 < (eh_i G 0 42).toInt) ∧ eh_V h7 = eh_u G 0 40 (.int ((eh_i G 0 40) + 1)) ∧ ri_calE ri_md (d + 2) 158 [.ref 0] h7 = some (none, h10) ∧ iT b n m (eh_V h10) ∧ ¬ (le.toInt < 2) ∧ le.toInt < 4 ∧ le = 2 ∧ eh_V h12 = eh_u (eh_V h10) 0 43 (.int 1) ∧ ri_calE ri_md (d + 2) 168 [.ref 0, .int 0, .int (eh_i (eh_V h10) 2 3)] h12 = some (some (.int x51), h49) ∧ iT b n m (eh_V h49) ∧ x51 = 0 ∧ rs = [.int 0] ∧ eh_V h' = (eh_V h49) ∧ eh_N h' = eh_N h ∧ iT b n m (eh_V h49)) ∨ (∃ (h7 : ri_H), ∃ (h10 : ri_H), ∃ (h12 : ri_H), ∃ (h57 : ri_H), ¬ (le.toInt < 0) ∧ ¬ ((eh_i G 0 40) = 20) ∧ ¬ (8 < (eh_i G 0 42).toInt) ∧ eh_V h7 = eh_u G 0 40 (.int ((eh_i G 0 40) + 1)) ∧ ri_calE ri_md (d + 2) 158 [.ref 0] h7 = some (none, h10) ∧ iT b n m (eh_V h10) ∧ le.toInt < 2 ∧ eh_V h12 = eh_u (eh_V h10) 0 43 (.int 1) ∧ ri_calE ri_md (d + 2) 242 [.ref 0, .int le, .int 0, .int 0] h12 = some (none, h57) ∧ iT b n m (eh_V h57) ∧ rs = [.int 1] ∧ eh_V h' = (eh_V h57) ∧ eh_N h' = eh_N h ∧ iT b n m (eh_V h57)) ∨ (¬ (le.toInt < 0) ∧ ¬ ((eh_i G 0 40) = 20) ∧ 8 < (eh_i G 0 42).toInt ∧ rs = [.int 0] ∧ eh_V h' = eh_u (eh_u G 0 15 (.int 4)) 0 16 (.int (eh_i G 0 12)) ∧ eh_N h' = eh_N h ∧ iT b n m (eh_u (eh_u G 0 15 (.int 4)) 0 16 (.int (eh_i G 0 12)))) ∨ (le.toInt < 0 ∧ rs = [.int 0] ∧ eh_V h' = eh_u (eh_u G 0 15 (.int 1)) 0 16 (.int (eh_i G 0 12)) ∧ eh_N h' = eh_N h ∧ iT b n m (eh_u (eh_u G 0 15 (.int 1)) 0 16 (.int (eh_i G 0 12)))) := by
  have E := E.ld (p := 21) (t := ri_isI) (i := 1) (n := 1) (v := .int 0) rfl (e := (.iload_n 1, 1, [], .null)) rfl rfl (fun _ _ => rfl) l1 rfl
  have E := E.brf (p := 24) (c := 1) (tgt := 38) (a := 0) (b := 0) (st' := []) rfl (e := (.ifCond .ne 17, 3, [38], .null)) rfl rfl (fun _ _ => rfl) (by decide) rfl
  have E := E.ld (p := 25) (t := ri_isI) (i := 2) (n := 1) (v := .int 0) rfl (e := (.iload_n 2, 1, [], .null)) rfl rfl (fun _ _ => rfl) l2 rfl
  have E := E.brf (p := 28) (c := 1) (tgt := 38) (a := 0) (b := 0) (st' := []) rfl (e := (.ifCond .ne 13, 3, [38], .null)) rfl rfl (fun _ _ => rfl) (by decide) rfl
  have E := E.ld (p := 29) (t := ri_isI) (i := 3) (n := 1) (v := .int le) rfl (e := (.iload_n 3, 1, [], .null)) rfl rfl (fun _ _ => rfl) l3 rfl
  rcases eh_r3 rfl (show (0 : Int32).toInt = 0 by decide) (E.br (p := 32) (c := 3) (tgt := 38) (a := le) (b := 0) (st' := []) rfl (e := (.ifCond .ge 9, 3, [38], .null)) rfl rfl (fun _ _ => rfl) rfl) with ⟨c1, E⟩ | ⟨c1, E⟩
  · skip
    have E := E.ld (p := 39) (t := ri_isA) (i := 0) (n := 1) (v := .ref 0) rfl (e := (.aload_n 0, 1, [], .null)) rfl rfl (fun _ _ => rfl) l0 rfl
    have E := E.gi (y := eh_i G 0 40) (p := 42) rfl (x := 413) (m := 3) (w := .null) (t := 12) (i := 40) (u := 1364) rfl rfl hV (iv.1) rfl rfl
    have E := E.pu (p := 44) (lo' := lo) (st' := [.int 20, .int (eh_i G 0 40)]) rfl (e := (.bipush 20, 2, [], .null)) rfl rfl (fun _ _ => rfl)
    rcases eh_q0 (E.br (p := 47) (c := 0) (tgt := 56) (a := eh_i G 0 40) (b := 20) (st' := []) rfl (e := (.if_icmp .eq 12, 3, [56], .null)) rfl rfl (fun _ _ => rfl) rfl) with ⟨c2, E⟩ | ⟨c2, E⟩
    · skip
      have E := E.ld (p := 57) (t := ri_isA) (i := 0) (n := 1) (v := .ref 0) rfl (e := (.aload_n 0, 1, [], .null)) rfl rfl (fun _ _ => rfl) l0 rfl
      have E := E.pu (p := 58) (lo' := lo) (st' := [.int 4, .ref 0]) rfl (e := (.iconst 4, 1, [], .null)) rfl rfl (fun _ _ => rfl)
      obtain ⟨v1, h3, X, E⟩ := E.cv (p := 61) (as := [.int 4]) (b := 0) (r := []) rfl (x := 171) (m := 3) (w := .null) (j := 159) (n := 1) (t := 12) (u := [1507, 40, 1509]) rfl rfl rfl
      rcases sp_159 (d := d + 1) X hV (iv.1) with ⟨rfl, hV4, hN5⟩
      have hV4 : _ = eh_u (eh_u G 0 15 (.int 4)) 0 16 (.int (eh_i G 0 12)) := hV4
      have E : eh_e _ _ 61 lo [.int 0] _ rs h' := E
      obtain ⟨r1, r2⟩ := E.reti rfl (m := 1) (ax := []) (w := .null) rfl
      exact Or.inl ⟨c1, c2, r1, ((congrArg eh_V r2).trans hV4), ((congrArg eh_N r2).trans hN5), (iT_u (iT_u iv ((iv.1).ui rfl) rfl) (((iv.1).ui rfl).ui rfl) rfl)⟩
    · skip
      have E := E.ld (p := 48) (t := ri_isA) (i := 0) (n := 1) (v := .ref 0) rfl (e := (.aload_n 0, 1, [], .null)) rfl rfl (fun _ _ => rfl) l0 rfl
      have E := E.gi (y := eh_i G 0 42) (p := 51) rfl (x := 407) (m := 3) (w := .null) (t := 12) (i := 42) (u := 1366) rfl rfl hV (iv.1) rfl rfl
      have E := E.pu (p := 53) (lo' := lo) (st' := [.int 8, .int (eh_i G 0 42)]) rfl (e := (.bipush 8, 2, [], .null)) rfl rfl (fun _ _ => rfl)
      rcases eh_r5 rfl (show (8 : Int32).toInt = 8 by decide) (E.br (p := 56) (c := 5) (tgt := 62) (a := eh_i G 0 42) (b := 8) (st' := []) rfl (e := (.if_icmp .le 9, 3, [62], .null)) rfl rfl (fun _ _ => rfl) rfl) with ⟨c6, E⟩ | ⟨c6, E⟩
      · skip
        have E := E.ld (p := 63) (t := ri_isA) (i := 0) (n := 1) (v := .ref 0) rfl (e := (.aload_n 0, 1, [], .null)) rfl rfl (fun _ _ => rfl) l0 rfl
        have E := E.pu (p := 64) (lo' := lo) (st' := [.ref 0, .ref 0]) rfl (e := (.dup, 1, [], .null)) rfl rfl (fun _ _ => rfl)
        have E := E.gi (y := eh_i G 0 40) (p := 67) rfl (x := 413) (m := 3) (w := .null) (t := 12) (i := 40) (u := 1364) rfl rfl hV (iv.1) rfl rfl
        have E := E.pu (p := 68) (lo' := lo) (st' := [.int 1, .int (eh_i G 0 40), .ref 0]) rfl (e := (.iconst 1, 1, [], .null)) rfl rfl (fun _ _ => rfl)
        have E := E.pu (p := 69) (lo' := lo) (st' := [.int ((eh_i G 0 40) + 1), .ref 0]) rfl (e := (.iadd, 1, [], .null)) rfl rfl (fun _ _ => rfl)
        obtain ⟨h7, hV8, hN9, E⟩ := E.gp (p := 72) rfl (x := 413) (m := 3) (w := .null) (t := 12) (i := 40) (u := 1364) (y := 0) rfl rfl hV
        have E := E.ld (p := 73) (t := ri_isA) (i := 0) (n := 1) (v := .ref 0) rfl (e := (.aload_n 0, 1, [], .null)) rfl rfl (fun _ _ => rfl) l0 rfl
        obtain ⟨v1, h10, X, E⟩ := E.cv (p := 76) (as := []) (b := 0) (r := []) rfl (x := 174) (m := 3) (w := .null) (j := 158) (n := 0) (t := 12) (u := [1478, 35, 1480]) rfl rfl rfl
        obtain ⟨rfl, ivk11, hNk11⟩ := ts_158 (d := d) X (by rw [hV8]; exact (iT_u iv ((iv.1).ui rfl) rfl))
        have Xk11 := X
        have E : eh_e _ _ 76 lo [] h10 rs h' := E
        have E := E.ld (p := 77) (t := ri_isI) (i := 1) (n := 1) (v := .int 0) rfl (e := (.iload_n 1, 1, [], .null)) rfl rfl (fun _ _ => rfl) l1 rfl
        have E := E.brf (p := 80) (c := 1) (tgt := 84) (a := 0) (b := 0) (st' := []) rfl (e := (.ifCond .ne 7, 3, [84], .null)) rfl rfl (fun _ _ => rfl) (by decide) rfl
        have E := E.ld (p := 81) (t := ri_isI) (i := 2) (n := 1) (v := .int 0) rfl (e := (.iload_n 2, 1, [], .null)) rfl rfl (fun _ _ => rfl) l2 rfl
        have E := E.brt (c := 0) (tgt := 126) (a := 0) (b := 0) (st' := []) rfl (e := (.ifCond .eq 45, 3, [126], .null)) rfl rfl (fun _ _ => rfl) (by decide)
        have E := E.ld (p := 127) (t := ri_isA) (i := 0) (n := 1) (v := .ref 0) rfl (e := (.aload_n 0, 1, [], .null)) rfl rfl (fun _ _ => rfl) l0 rfl
        have E := E.pu (p := 128) (lo' := lo) (st' := [.int 1, .ref 0]) rfl (e := (.iconst 1, 1, [], .null)) rfl rfl (fun _ _ => rfl)
        obtain ⟨h12, hV13, hN14, E⟩ := E.gp (p := 131) rfl (x := 416) (m := 3) (w := .null) (t := 12) (i := 43) (u := 1367) (y := 1) rfl rfl (rfl : eh_V h10 = eh_V h10)
        have E := E.ld (p := 132) (t := ri_isI) (i := 3) (n := 1) (v := .int le) rfl (e := (.iload_n 3, 1, [], .null)) rfl rfl (fun _ _ => rfl) l3 rfl
        have E := E.pu (p := 133) (lo' := lo) (st' := [.int 2, .int le]) rfl (e := (.iconst 2, 1, [], .null)) rfl rfl (fun _ _ => rfl)
        rcases eh_r3 rfl (show (2 : Int32).toInt = 2 by decide) (E.br (p := 136) (c := 3) (tgt := 145) (a := le) (b := 2) (st' := []) rfl (e := (.if_icmp .ge 12, 3, [145], .null)) rfl rfl (fun _ _ => rfl) rfl) with ⟨c15, E⟩ | ⟨c15, E⟩
        · skip
          have E := E.ld (p := 146) (t := ri_isI) (i := 3) (n := 1) (v := .int le) rfl (e := (.iload_n 3, 1, [], .null)) rfl rfl (fun _ _ => rfl) l3 rfl
          have E := E.pu (p := 147) (lo' := lo) (st' := [.int 4, .int le]) rfl (e := (.iconst 4, 1, [], .null)) rfl rfl (fun _ _ => rfl)
          rcases eh_r3 rfl (show (4 : Int32).toInt = 4 by decide) (E.br (p := 150) (c := 3) (tgt := 201) (a := le) (b := 4) (st' := []) rfl (e := (.if_icmp .ge 54, 3, [201], .null)) rfl rfl (fun _ _ => rfl) rfl) with ⟨c16, E⟩ | ⟨c16, E⟩
          · skip
            have E := E.ld (p := 202) (t := ri_isA) (i := 0) (n := 1) (v := .ref 0) rfl (e := (.aload_n 0, 1, [], .null)) rfl rfl (fun _ _ => rfl) l0 rfl
            have E := E.gi (y := eh_i (eh_V h10) 0 11) (p := 205) rfl (x := 145) (m := 3) (w := .null) (t := 12) (i := 11) (u := 1335) rfl rfl hV13 (ivk11.1.ui rfl) rfl rfl
            have E := E.pu (p := 206) (lo' := lo) (st' := [.int 3, .int (eh_i (eh_V h10) 0 11)]) rfl (e := (.iconst 3, 1, [], .null)) rfl rfl (fun _ _ => rfl)
            rcases eh_q1 (E.br (p := 209) (c := 1) (tgt := 227) (a := eh_i (eh_V h10) 0 11) (b := 3) (st' := []) rfl (e := (.if_icmp .ne 21, 3, [227], .null)) rfl rfl (fun _ _ => rfl) rfl) with ⟨c17, E⟩ | ⟨c17, E⟩
            · skip
              have E := E.ld (p := 228) (t := ri_isA) (i := 0) (n := 1) (v := .ref 0) rfl (e := (.aload_n 0, 1, [], .null)) rfl rfl (fun _ _ => rfl) l0 rfl
              have E := E.pu (p := 229) (lo' := lo) (st' := [.int 1, .ref 0]) rfl (e := (.iconst 1, 1, [], .null)) rfl rfl (fun _ _ => rfl)
              obtain ⟨v1, h18, X, E⟩ := E.cv (p := 232) (as := [.int 1]) (b := 0) (r := []) rfl (x := 171) (m := 3) (w := .null) (j := 159) (n := 1) (t := 12) (u := [1507, 40, 1509]) rfl rfl rfl
              rcases sp_159 (d := d + 1) X hV13 (ivk11.1.ui rfl) with ⟨rfl, hV19, hN20⟩
              have hV19 : _ = eh_u (eh_u (eh_u (eh_V h10) 0 43 (.int 1)) 0 15 (.int 1)) 0 16 (.int (eh_i (eh_V h10) 0 12)) := hV19
              have E : eh_e _ _ 232 lo [.int 0] _ rs h' := E
              obtain ⟨r1, r2⟩ := E.reti rfl (m := 1) (ax := []) (w := .null) rfl
              exact Or.inr (Or.inl ⟨h7, h10, c1, c2, c6, hV8, Xk11, ivk11, c15, c16, c17, r1, ((congrArg eh_V r2).trans hV19), ((congrArg eh_N r2).trans (hN20.trans (hN14.trans (hNk11.trans hN9)))), (iT_u (iT_u (iT_u ivk11 (ivk11.1.ui rfl) rfl) ((ivk11.1.ui rfl).ui rfl) rfl) (((ivk11.1.ui rfl).ui rfl).ui rfl) rfl)⟩)
            · skip
              have E := E.ld (p := 210) (t := ri_isA) (i := 0) (n := 1) (v := .ref 0) rfl (e := (.aload_n 0, 1, [], .null)) rfl rfl (fun _ _ => rfl) l0 rfl
              have E := E.gi (y := eh_i (eh_V h10) 0 14) (p := 213) rfl (x := 155) (m := 3) (w := .null) (t := 12) (i := 14) (u := 1338) rfl rfl hV13 (ivk11.1.ui rfl) rfl rfl
              have E := E.pu (p := 215) (lo' := lo) (st' := [.int 60, .int (eh_i (eh_V h10) 0 14)]) rfl (e := (.bipush 60, 2, [], .null)) rfl rfl (fun _ _ => rfl)
              rcases eh_r2 rfl (show (60 : Int32).toInt = 60 by decide) (E.br (p := 218) (c := 2) (tgt := 227) (a := eh_i (eh_V h10) 0 14) (b := 60) (st' := []) rfl (e := (.if_icmp .lt 12, 3, [227], .null)) rfl rfl (fun _ _ => rfl) rfl) with ⟨c21, E⟩ | ⟨c21, E⟩
              · skip
                have E := E.ld (p := 228) (t := ri_isA) (i := 0) (n := 1) (v := .ref 0) rfl (e := (.aload_n 0, 1, [], .null)) rfl rfl (fun _ _ => rfl) l0 rfl
                have E := E.pu (p := 229) (lo' := lo) (st' := [.int 1, .ref 0]) rfl (e := (.iconst 1, 1, [], .null)) rfl rfl (fun _ _ => rfl)
                obtain ⟨v1, h22, X, E⟩ := E.cv (p := 232) (as := [.int 1]) (b := 0) (r := []) rfl (x := 171) (m := 3) (w := .null) (j := 159) (n := 1) (t := 12) (u := [1507, 40, 1509]) rfl rfl rfl
                rcases sp_159 (d := d + 1) X hV13 (ivk11.1.ui rfl) with ⟨rfl, hV23, hN24⟩
                have hV23 : _ = eh_u (eh_u (eh_u (eh_V h10) 0 43 (.int 1)) 0 15 (.int 1)) 0 16 (.int (eh_i (eh_V h10) 0 12)) := hV23
                have E : eh_e _ _ 232 lo [.int 0] _ rs h' := E
                obtain ⟨r1, r2⟩ := E.reti rfl (m := 1) (ax := []) (w := .null) rfl
                exact Or.inr (Or.inr (Or.inl ⟨h7, h10, c1, c2, c6, hV8, Xk11, ivk11, c15, c16, c17, c21, r1, ((congrArg eh_V r2).trans hV23), ((congrArg eh_N r2).trans (hN24.trans (hN14.trans (hNk11.trans hN9)))), (iT_u (iT_u (iT_u ivk11 (ivk11.1.ui rfl) rfl) ((ivk11.1.ui rfl).ui rfl) rfl) (((ivk11.1.ui rfl).ui rfl).ui rfl) rfl)⟩))
              · skip
                have E := E.ld (p := 219) (t := ri_isA) (i := 0) (n := 1) (v := .ref 0) rfl (e := (.aload_n 0, 1, [], .null)) rfl rfl (fun _ _ => rfl) l0 rfl
                have E := E.gi (y := eh_i (eh_V h10) 0 14) (p := 222) rfl (x := 155) (m := 3) (w := .null) (t := 12) (i := 14) (u := 1338) rfl rfl hV13 (ivk11.1.ui rfl) rfl rfl
                have E := E.pu (p := 224) (lo' := lo) (st' := [.int 62, .int (eh_i (eh_V h10) 0 14)]) rfl (e := (.bipush 62, 2, [], .null)) rfl rfl (fun _ _ => rfl)
                rcases eh_r5 rfl (show (62 : Int32).toInt = 62 by decide) (E.br (p := 227) (c := 5) (tgt := 233) (a := eh_i (eh_V h10) 0 14) (b := 62) (st' := []) rfl (e := (.if_icmp .le 9, 3, [233], .null)) rfl rfl (fun _ _ => rfl) rfl) with ⟨c25, E⟩ | ⟨c25, E⟩
                · skip
                  have E := E.ld (p := 234) (t := ri_isA) (i := 0) (n := 1) (v := .ref 0) rfl (e := (.aload_n 0, 1, [], .null)) rfl rfl (fun _ _ => rfl) l0 rfl
                  have E := E.gi (y := eh_i (eh_V h10) 0 14) (p := 237) rfl (x := 155) (m := 3) (w := .null) (t := 12) (i := 14) (u := 1338) rfl rfl hV13 (ivk11.1.ui rfl) rfl rfl
                  have E := E.so (p := 239) (t := ri_isI) (i := 4) (n := 2) rfl (e := (.istore 4, 2, [], .null)) rfl rfl (fun _ _ => rfl) rfl
                  have k26_4 : ri_lk (ri_st1 lo 4 (.int (eh_i (eh_V h10) 0 14))) 4 = some (.int (eh_i (eh_V h10) 0 14)) := eh_self
                  have k26_0 : ri_lk (ri_st1 lo 4 (.int (eh_i (eh_V h10) 0 14))) 0 = some (.ref 0) := eh_keep (by decide) (Or.inl rfl) l0
                  have k26_1 : ri_lk (ri_st1 lo 4 (.int (eh_i (eh_V h10) 0 14))) 1 = some (.int 0) := eh_keep (by decide) (Or.inl rfl) l1
                  have k26_2 : ri_lk (ri_st1 lo 4 (.int (eh_i (eh_V h10) 0 14))) 2 = some (.int 0) := eh_keep (by decide) (Or.inl rfl) l2
                  have k26_3 : ri_lk (ri_st1 lo 4 (.int (eh_i (eh_V h10) 0 14))) 3 = some (.int le) := eh_keep (by decide) (Or.inl rfl) l3
                  have E := E.ld (p := 240) (t := ri_isA) (i := 0) (n := 1) (v := .ref 0) rfl (e := (.aload_n 0, 1, [], .null)) rfl rfl (fun _ _ => rfl) k26_0 rfl
                  obtain ⟨v1, h27, X, E⟩ := E.cv (p := 243) (as := []) (b := 0) (r := []) rfl (x := 174) (m := 3) (w := .null) (j := 158) (n := 0) (t := 12) (u := [1478, 35, 1480]) rfl rfl rfl
                  obtain ⟨rfl, ivk28, hNk28⟩ := ts_158 (d := d) X (by rw [hV13]; exact (iT_u ivk11 (ivk11.1.ui rfl) rfl))
                  have Xk28 := X
                  have E : eh_e _ _ 243 (ri_st1 lo 4 (.int (eh_i (eh_V h10) 0 14))) [] h27 rs h' := E
                  have E := E.ld (p := 244) (t := ri_isA) (i := 0) (n := 1) (v := .ref 0) rfl (e := (.aload_n 0, 1, [], .null)) rfl rfl (fun _ _ => rfl) k26_0 rfl
                  have E := E.gi (y := eh_i (eh_V h27) 0 11) (p := 247) rfl (x := 145) (m := 3) (w := .null) (t := 12) (i := 11) (u := 1335) rfl rfl (rfl : eh_V h27 = eh_V h27) ivk28.1 rfl rfl
                  have E := E.pu (p := 248) (lo' := (ri_st1 lo 4 (.int (eh_i (eh_V h10) 0 14)))) (st' := [.int 2, .int (eh_i (eh_V h27) 0 11)]) rfl (e := (.iconst 2, 1, [], .null)) rfl rfl (fun _ _ => rfl)
                  rcases eh_q0 (E.br (p := 251) (c := 0) (tgt := 257) (a := eh_i (eh_V h27) 0 11) (b := 2) (st' := []) rfl (e := (.if_icmp .eq 9, 3, [257], .null)) rfl rfl (fun _ _ => rfl) rfl) with ⟨c29, E⟩ | ⟨c29, E⟩
                  · skip
                    have E := E.ld (p := 258) (t := ri_isA) (i := 0) (n := 1) (v := .ref 0) rfl (e := (.aload_n 0, 1, [], .null)) rfl rfl (fun _ _ => rfl) k26_0 rfl
                    have E := E.ld (p := 259) (t := ri_isI) (i := 3) (n := 1) (v := .int le) rfl (e := (.iload_n 3, 1, [], .null)) rfl rfl (fun _ _ => rfl) k26_3 rfl
                    have E := E.ld (p := 261) (t := ri_isI) (i := 4) (n := 2) (v := .int (eh_i (eh_V h10) 0 14)) rfl (e := (.iload 4, 2, [], .null)) rfl rfl (fun _ _ => rfl) k26_4 rfl
                    have E := E.ld (p := 262) (t := ri_isA) (i := 0) (n := 1) (v := .ref 0) rfl (e := (.aload_n 0, 1, [], .null)) rfl rfl (fun _ _ => rfl) k26_0 rfl
                    have E := E.gi (y := eh_i (eh_V h27) 0 14) (p := 265) rfl (x := 155) (m := 3) (w := .null) (t := 12) (i := 14) (u := 1338) rfl rfl (rfl : eh_V h27 = eh_V h27) ivk28.1 rfl rfl
                    obtain ⟨v1, h30, X, E⟩ := E.cv (p := 268) (as := [.int le, .int (eh_i (eh_V h10) 0 14), .int (eh_i (eh_V h27) 0 14)]) (b := 0) (r := []) rfl (x := 403) (m := 3) (w := .null) (j := 242) (n := 3) (t := 12) (u := [1846, 91, 1848]) rfl rfl rfl
                    obtain ⟨rfl, ivk31, hNk31⟩ := ts_242 (d := d + 1) X (by rw [(rfl : eh_V h27 = eh_V h27)]; exact ivk28)
                    have Xk31 := X
                    have E : eh_e _ _ 268 (ri_st1 lo 4 (.int (eh_i (eh_V h10) 0 14))) [] h30 rs h' := E
                    have E := E.ld (p := 269) (t := ri_isA) (i := 0) (n := 1) (v := .ref 0) rfl (e := (.aload_n 0, 1, [], .null)) rfl rfl (fun _ _ => rfl) k26_0 rfl
                    obtain ⟨v1, h32, X, E⟩ := E.cv (p := 272) (as := []) (b := 0) (r := []) rfl (x := 174) (m := 3) (w := .null) (j := 158) (n := 0) (t := 12) (u := [1478, 35, 1480]) rfl rfl rfl
                    obtain ⟨rfl, ivk33, hNk33⟩ := ts_158 (d := d) X (by rw [(rfl : eh_V h30 = eh_V h30)]; exact ivk31)
                    have Xk33 := X
                    have E : eh_e _ _ 272 (ri_st1 lo 4 (.int (eh_i (eh_V h10) 0 14))) [] h32 rs h' := E
                    have E := E.pu (p := 273) (lo' := (ri_st1 lo 4 (.int (eh_i (eh_V h10) 0 14)))) (st' := [.int 1]) rfl (e := (.iconst 1, 1, [], .null)) rfl rfl (fun _ _ => rfl)
                    obtain ⟨r1, r2⟩ := E.reti rfl (m := 1) (ax := []) (w := .null) rfl
                    exact Or.inr (Or.inr (Or.inr (Or.inl ⟨h7, h10, h12, h27, h30, h32, c1, c2, c6, hV8, Xk11, ivk11, c15, c16, c17, c21, c25, hV13, Xk28, ivk28, c29, Xk31, ivk31, Xk33, ivk33, r1, ((congrArg eh_V r2).trans (rfl : eh_V h32 = eh_V h32)), ((congrArg eh_N r2).trans (hNk33.trans (hNk31.trans (hNk28.trans (hN14.trans (hNk11.trans hN9)))))), ivk33⟩)))
                  · skip
                    have E := E.ld (p := 252) (t := ri_isA) (i := 0) (n := 1) (v := .ref 0) rfl (e := (.aload_n 0, 1, [], .null)) rfl rfl (fun _ _ => rfl) k26_0 rfl
                    have E := E.pu (p := 253) (lo' := (ri_st1 lo 4 (.int (eh_i (eh_V h10) 0 14)))) (st' := [.int 1, .ref 0]) rfl (e := (.iconst 1, 1, [], .null)) rfl rfl (fun _ _ => rfl)
                    obtain ⟨v1, h34, X, E⟩ := E.cv (p := 256) (as := [.int 1]) (b := 0) (r := []) rfl (x := 171) (m := 3) (w := .null) (j := 159) (n := 1) (t := 12) (u := [1507, 40, 1509]) rfl rfl rfl
                    rcases sp_159 (d := d + 1) X (rfl : eh_V h27 = eh_V h27) ivk28.1 with ⟨rfl, hV35, hN36⟩
                    have hV35 : _ = eh_u (eh_u (eh_V h27) 0 15 (.int 1)) 0 16 (.int (eh_i (eh_V h27) 0 12)) := hV35
                    have E : eh_e _ _ 256 (ri_st1 lo 4 (.int (eh_i (eh_V h10) 0 14))) [.int 0] _ rs h' := E
                    obtain ⟨r1, r2⟩ := E.reti rfl (m := 1) (ax := []) (w := .null) rfl
                    exact Or.inr (Or.inr (Or.inr (Or.inr (Or.inl ⟨h7, h10, h12, h27, c1, c2, c6, hV8, Xk11, ivk11, c15, c16, c17, c21, c25, hV13, Xk28, ivk28, c29, r1, ((congrArg eh_V r2).trans hV35), ((congrArg eh_N r2).trans (hN36.trans (hNk28.trans (hN14.trans (hNk11.trans hN9))))), (iT_u (iT_u ivk28 (ivk28.1.ui rfl) rfl) ((ivk28.1.ui rfl).ui rfl) rfl)⟩))))
                · skip
                  have E := E.ld (p := 228) (t := ri_isA) (i := 0) (n := 1) (v := .ref 0) rfl (e := (.aload_n 0, 1, [], .null)) rfl rfl (fun _ _ => rfl) l0 rfl
                  have E := E.pu (p := 229) (lo' := lo) (st' := [.int 1, .ref 0]) rfl (e := (.iconst 1, 1, [], .null)) rfl rfl (fun _ _ => rfl)
                  obtain ⟨v1, h37, X, E⟩ := E.cv (p := 232) (as := [.int 1]) (b := 0) (r := []) rfl (x := 171) (m := 3) (w := .null) (j := 159) (n := 1) (t := 12) (u := [1507, 40, 1509]) rfl rfl rfl
                  rcases sp_159 (d := d + 1) X hV13 (ivk11.1.ui rfl) with ⟨rfl, hV38, hN39⟩
                  have hV38 : _ = eh_u (eh_u (eh_u (eh_V h10) 0 43 (.int 1)) 0 15 (.int 1)) 0 16 (.int (eh_i (eh_V h10) 0 12)) := hV38
                  have E : eh_e _ _ 232 lo [.int 0] _ rs h' := E
                  obtain ⟨r1, r2⟩ := E.reti rfl (m := 1) (ax := []) (w := .null) rfl
                  exact Or.inr (Or.inr (Or.inr (Or.inr (Or.inr (Or.inl ⟨h7, h10, c1, c2, c6, hV8, Xk11, ivk11, c15, c16, c17, c21, c25, r1, ((congrArg eh_V r2).trans hV38), ((congrArg eh_N r2).trans (hN39.trans (hN14.trans (hNk11.trans hN9)))), (iT_u (iT_u (iT_u ivk11 (ivk11.1.ui rfl) rfl) ((ivk11.1.ui rfl).ui rfl) rfl) (((ivk11.1.ui rfl).ui rfl).ui rfl) rfl)⟩)))))
          · skip
            have E := E.ld (p := 151) (t := ri_isA) (i := 0) (n := 1) (v := .ref 0) rfl (e := (.aload_n 0, 1, [], .null)) rfl rfl (fun _ _ => rfl) l0 rfl
            have E := E.ld (p := 152) (t := ri_isI) (i := 3) (n := 1) (v := .int le) rfl (e := (.iload_n 3, 1, [], .null)) rfl rfl (fun _ _ => rfl) l3 rfl
            have E := E.pu (p := 153) (lo' := lo) (st' := [.int 2, .int le, .ref 0]) rfl (e := (.iconst 2, 1, [], .null)) rfl rfl (fun _ _ => rfl)
            rcases eh_q1 (E.br (p := 156) (c := 1) (tgt := 160) (a := le) (b := 2) (st' := [.ref 0]) rfl (e := (.if_icmp .ne 7, 3, [160], .null)) rfl rfl (fun _ _ => rfl) rfl) with ⟨c40, E⟩ | ⟨c40, E⟩
            · skip
              have E := E.pu (p := 162) (lo' := lo) (st' := [.int 14, .ref 0]) rfl (e := (.bipush 14, 2, [], .null)) rfl rfl (fun _ _ => rfl)
              have E := E.ld (p := 163) (t := ri_isA) (i := 0) (n := 1) (v := .ref 0) rfl (e := (.aload_n 0, 1, [], .null)) rfl rfl (fun _ _ => rfl) l0 rfl
              have E := E.gr (n := 2) (p := 166) rfl (x := 33) (m := 3) (w := .null) (t := 12) (i := 6) (u := 1330) rfl rfl hV13 (ivk11.1.ui rfl) rfl
              have E := E.ld (p := 167) (t := ri_isI) (i := 3) (n := 1) (v := .int le) rfl (e := (.iload_n 3, 1, [], .null)) rfl rfl (fun _ _ => rfl) l3 rfl
              have E := E.pu (p := 168) (lo' := lo) (st' := [.int 2, .int le, .ref 2, .int 14, .ref 0]) rfl (e := (.iconst 2, 1, [], .null)) rfl rfl (fun _ _ => rfl)
              have E := (eh_q1 (E.br (p := 171) (c := 1) (tgt := 175) (a := le) (b := 2) (st' := [.ref 2, .int 14, .ref 0]) rfl (e := (.if_icmp .ne 7, 3, [175], .null)) rfl rfl (fun _ _ => rfl) rfl)).elim (fun y => y.2) (fun y => absurd y.1 c40)
              have E := E.pu (p := 176) (lo' := lo) (st' := [.int 5, .ref 2, .int 14, .ref 0]) rfl (e := (.iconst 5, 1, [], .null)) rfl rfl (fun _ _ => rfl)
              have E := E.ai (p := 177) (z := eh_i (eh_V h10) 2 5) (n := 5) rfl (e := (.iaload, 1, [], .null)) rfl rfl (fun _ _ => rfl) rfl hV13 (ivk11.1.ui rfl) (by decide) rfl rfl
              obtain ⟨v1, h41, X, E⟩ := E.cv (p := 180) (as := [.int 14, .int (eh_i (eh_V h10) 2 5)]) (b := 0) (r := []) rfl (x := 218) (m := 3) (w := .null) (j := 168) (n := 2) (t := 12) (u := [1538, 47, 1540]) rfl rfl rfl
              obtain ⟨x43, rfl, ivk42, hNk42⟩ := ts_168 (d := d) X (by rw [hV13]; exact (iT_u ivk11 (ivk11.1.ui rfl) rfl))
              have Xk42 := X
              have E : eh_e _ _ 180 lo [.int x43] h41 rs h' := E
              rcases eh_q1 (E.br (p := 183) (c := 1) (tgt := 185) (a := x43) (b := 0) (st' := []) rfl (e := (.ifCond .ne 5, 3, [185], .null)) rfl rfl (fun _ _ => rfl) rfl) with ⟨c44, E⟩ | ⟨c44, E⟩
              · skip
                have E := E.ld (p := 186) (t := ri_isA) (i := 0) (n := 1) (v := .ref 0) rfl (e := (.aload_n 0, 1, [], .null)) rfl rfl (fun _ _ => rfl) l0 rfl
                have E := E.ld (p := 187) (t := ri_isI) (i := 3) (n := 1) (v := .int le) rfl (e := (.iload_n 3, 1, [], .null)) rfl rfl (fun _ _ => rfl) l3 rfl
                have E := E.pu (p := 188) (lo' := lo) (st' := [.int 0, .int le, .ref 0]) rfl (e := (.iconst 0, 1, [], .null)) rfl rfl (fun _ _ => rfl)
                have E := E.ld (p := 189) (t := ri_isA) (i := 0) (n := 1) (v := .ref 0) rfl (e := (.aload_n 0, 1, [], .null)) rfl rfl (fun _ _ => rfl) l0 rfl
                have E := E.gi (y := eh_i (eh_V h41) 0 18) (p := 192) rfl (x := 181) (m := 3) (w := .null) (t := 12) (i := 18) (u := 1342) rfl rfl (rfl : eh_V h41 = eh_V h41) ivk42.1 rfl rfl
                obtain ⟨v1, h45, X, E⟩ := E.cv (p := 195) (as := [.int le, .int 0, .int (eh_i (eh_V h41) 0 18)]) (b := 0) (r := []) rfl (x := 403) (m := 3) (w := .null) (j := 242) (n := 3) (t := 12) (u := [1846, 91, 1848]) rfl rfl rfl
                obtain ⟨rfl, ivk46, hNk46⟩ := ts_242 (d := d + 1) X (by rw [(rfl : eh_V h41 = eh_V h41)]; exact ivk42)
                have Xk46 := X
                have E : eh_e _ _ 195 lo [] h45 rs h' := E
                have E := E.ld (p := 196) (t := ri_isA) (i := 0) (n := 1) (v := .ref 0) rfl (e := (.aload_n 0, 1, [], .null)) rfl rfl (fun _ _ => rfl) l0 rfl
                obtain ⟨v1, h47, X, E⟩ := E.cv (p := 199) (as := []) (b := 0) (r := []) rfl (x := 174) (m := 3) (w := .null) (j := 158) (n := 0) (t := 12) (u := [1478, 35, 1480]) rfl rfl rfl
                obtain ⟨rfl, ivk48, hNk48⟩ := ts_158 (d := d) X (by rw [(rfl : eh_V h45 = eh_V h45)]; exact ivk46)
                have Xk48 := X
                have E : eh_e _ _ 199 lo [] h47 rs h' := E
                have E := E.pu (p := 200) (lo' := lo) (st' := [.int 1]) rfl (e := (.iconst 1, 1, [], .null)) rfl rfl (fun _ _ => rfl)
                obtain ⟨r1, r2⟩ := E.reti rfl (m := 1) (ax := []) (w := .null) rfl
                exact Or.inr (Or.inr (Or.inr (Or.inr (Or.inr (Or.inr (Or.inl ⟨h7, h10, h12, x43, h41, h45, h47, c1, c2, c6, hV8, Xk11, ivk11, c15, c16, c40, hV13, Xk42, ivk42, c44, Xk46, ivk46, Xk48, ivk48, r1, ((congrArg eh_V r2).trans (rfl : eh_V h47 = eh_V h47)), ((congrArg eh_N r2).trans (hNk48.trans (hNk46.trans (hNk42.trans (hN14.trans (hNk11.trans hN9)))))), ivk48⟩))))))
              · skip
                have E := E.pu (p := 184) (lo' := lo) (st' := [.int 0]) rfl (e := (.iconst 0, 1, [], .null)) rfl rfl (fun _ _ => rfl)
                obtain ⟨r1, r2⟩ := E.reti rfl (m := 1) (ax := []) (w := .null) rfl
                exact Or.inr (Or.inr (Or.inr (Or.inr (Or.inr (Or.inr (Or.inr (Or.inl ⟨h7, h10, h12, x43, h41, c1, c2, c6, hV8, Xk11, ivk11, c15, c16, c40, hV13, Xk42, ivk42, c44, r1, ((congrArg eh_V r2).trans (rfl : eh_V h41 = eh_V h41)), ((congrArg eh_N r2).trans (hNk42.trans (hN14.trans (hNk11.trans hN9)))), ivk42⟩)))))))
            · skip
              have E := E.pu (p := 157) (lo' := lo) (st' := [.int 0, .ref 0]) rfl (e := (.iconst 0, 1, [], .null)) rfl rfl (fun _ _ => rfl)
              have E := E.pu (p := 162) (lo' := lo) (st' := [.int 0, .ref 0]) rfl (e := (.goto 5, 3, [162], .null)) rfl rfl (fun _ _ => rfl)
              have E := E.ld (p := 163) (t := ri_isA) (i := 0) (n := 1) (v := .ref 0) rfl (e := (.aload_n 0, 1, [], .null)) rfl rfl (fun _ _ => rfl) l0 rfl
              have E := E.gr (n := 2) (p := 166) rfl (x := 33) (m := 3) (w := .null) (t := 12) (i := 6) (u := 1330) rfl rfl hV13 (ivk11.1.ui rfl) rfl
              have E := E.ld (p := 167) (t := ri_isI) (i := 3) (n := 1) (v := .int le) rfl (e := (.iload_n 3, 1, [], .null)) rfl rfl (fun _ _ => rfl) l3 rfl
              have E := E.pu (p := 168) (lo' := lo) (st' := [.int 2, .int le, .ref 2, .int 0, .ref 0]) rfl (e := (.iconst 2, 1, [], .null)) rfl rfl (fun _ _ => rfl)
              have E := (eh_q1 (E.br (p := 171) (c := 1) (tgt := 175) (a := le) (b := 2) (st' := [.ref 2, .int 0, .ref 0]) rfl (e := (.if_icmp .ne 7, 3, [175], .null)) rfl rfl (fun _ _ => rfl) rfl)).elim (fun y => absurd c40 y.1) (fun y => y.2)
              have E := E.pu (p := 172) (lo' := lo) (st' := [.int 3, .ref 2, .int 0, .ref 0]) rfl (e := (.iconst 3, 1, [], .null)) rfl rfl (fun _ _ => rfl)
              have E := E.pu (p := 176) (lo' := lo) (st' := [.int 3, .ref 2, .int 0, .ref 0]) rfl (e := (.goto 4, 3, [176], .null)) rfl rfl (fun _ _ => rfl)
              have E := E.ai (p := 177) (z := eh_i (eh_V h10) 2 3) (n := 3) rfl (e := (.iaload, 1, [], .null)) rfl rfl (fun _ _ => rfl) rfl hV13 (ivk11.1.ui rfl) (by decide) rfl rfl
              obtain ⟨v1, h49, X, E⟩ := E.cv (p := 180) (as := [.int 0, .int (eh_i (eh_V h10) 2 3)]) (b := 0) (r := []) rfl (x := 218) (m := 3) (w := .null) (j := 168) (n := 2) (t := 12) (u := [1538, 47, 1540]) rfl rfl rfl
              obtain ⟨x51, rfl, ivk50, hNk50⟩ := ts_168 (d := d) X (by rw [hV13]; exact (iT_u ivk11 (ivk11.1.ui rfl) rfl))
              have Xk50 := X
              have E : eh_e _ _ 180 lo [.int x51] h49 rs h' := E
              rcases eh_q1 (E.br (p := 183) (c := 1) (tgt := 185) (a := x51) (b := 0) (st' := []) rfl (e := (.ifCond .ne 5, 3, [185], .null)) rfl rfl (fun _ _ => rfl) rfl) with ⟨c52, E⟩ | ⟨c52, E⟩
              · skip
                have E := E.ld (p := 186) (t := ri_isA) (i := 0) (n := 1) (v := .ref 0) rfl (e := (.aload_n 0, 1, [], .null)) rfl rfl (fun _ _ => rfl) l0 rfl
                have E := E.ld (p := 187) (t := ri_isI) (i := 3) (n := 1) (v := .int le) rfl (e := (.iload_n 3, 1, [], .null)) rfl rfl (fun _ _ => rfl) l3 rfl
                have E := E.pu (p := 188) (lo' := lo) (st' := [.int 0, .int le, .ref 0]) rfl (e := (.iconst 0, 1, [], .null)) rfl rfl (fun _ _ => rfl)
                have E := E.ld (p := 189) (t := ri_isA) (i := 0) (n := 1) (v := .ref 0) rfl (e := (.aload_n 0, 1, [], .null)) rfl rfl (fun _ _ => rfl) l0 rfl
                have E := E.gi (y := eh_i (eh_V h49) 0 18) (p := 192) rfl (x := 181) (m := 3) (w := .null) (t := 12) (i := 18) (u := 1342) rfl rfl (rfl : eh_V h49 = eh_V h49) ivk50.1 rfl rfl
                obtain ⟨v1, h53, X, E⟩ := E.cv (p := 195) (as := [.int le, .int 0, .int (eh_i (eh_V h49) 0 18)]) (b := 0) (r := []) rfl (x := 403) (m := 3) (w := .null) (j := 242) (n := 3) (t := 12) (u := [1846, 91, 1848]) rfl rfl rfl
                obtain ⟨rfl, ivk54, hNk54⟩ := ts_242 (d := d + 1) X (by rw [(rfl : eh_V h49 = eh_V h49)]; exact ivk50)
                have Xk54 := X
                have E : eh_e _ _ 195 lo [] h53 rs h' := E
                have E := E.ld (p := 196) (t := ri_isA) (i := 0) (n := 1) (v := .ref 0) rfl (e := (.aload_n 0, 1, [], .null)) rfl rfl (fun _ _ => rfl) l0 rfl
                obtain ⟨v1, h55, X, E⟩ := E.cv (p := 199) (as := []) (b := 0) (r := []) rfl (x := 174) (m := 3) (w := .null) (j := 158) (n := 0) (t := 12) (u := [1478, 35, 1480]) rfl rfl rfl
                obtain ⟨rfl, ivk56, hNk56⟩ := ts_158 (d := d) X (by rw [(rfl : eh_V h53 = eh_V h53)]; exact ivk54)
                have Xk56 := X
                have E : eh_e _ _ 199 lo [] h55 rs h' := E
                have E := E.pu (p := 200) (lo' := lo) (st' := [.int 1]) rfl (e := (.iconst 1, 1, [], .null)) rfl rfl (fun _ _ => rfl)
                obtain ⟨r1, r2⟩ := E.reti rfl (m := 1) (ax := []) (w := .null) rfl
                exact Or.inr (Or.inr (Or.inr (Or.inr (Or.inr (Or.inr (Or.inr (Or.inr (Or.inl ⟨h7, h10, h12, x51, h49, h53, h55, c1, c2, c6, hV8, Xk11, ivk11, c15, c16, c40, hV13, Xk50, ivk50, c52, Xk54, ivk54, Xk56, ivk56, r1, ((congrArg eh_V r2).trans (rfl : eh_V h55 = eh_V h55)), ((congrArg eh_N r2).trans (hNk56.trans (hNk54.trans (hNk50.trans (hN14.trans (hNk11.trans hN9)))))), ivk56⟩))))))))
              · skip
                have E := E.pu (p := 184) (lo' := lo) (st' := [.int 0]) rfl (e := (.iconst 0, 1, [], .null)) rfl rfl (fun _ _ => rfl)
                obtain ⟨r1, r2⟩ := E.reti rfl (m := 1) (ax := []) (w := .null) rfl
                exact Or.inr (Or.inr (Or.inr (Or.inr (Or.inr (Or.inr (Or.inr (Or.inr (Or.inr (Or.inl ⟨h7, h10, h12, x51, h49, c1, c2, c6, hV8, Xk11, ivk11, c15, c16, c40, hV13, Xk50, ivk50, c52, r1, ((congrArg eh_V r2).trans (rfl : eh_V h49 = eh_V h49)), ((congrArg eh_N r2).trans (hNk50.trans (hN14.trans (hNk11.trans hN9)))), ivk50⟩)))))))))
        · skip
          have E := E.ld (p := 137) (t := ri_isA) (i := 0) (n := 1) (v := .ref 0) rfl (e := (.aload_n 0, 1, [], .null)) rfl rfl (fun _ _ => rfl) l0 rfl
          have E := E.ld (p := 138) (t := ri_isI) (i := 3) (n := 1) (v := .int le) rfl (e := (.iload_n 3, 1, [], .null)) rfl rfl (fun _ _ => rfl) l3 rfl
          have E := E.pu (p := 139) (lo' := lo) (st' := [.int 0, .int le, .ref 0]) rfl (e := (.iconst 0, 1, [], .null)) rfl rfl (fun _ _ => rfl)
          have E := E.pu (p := 140) (lo' := lo) (st' := [.int 0, .int 0, .int le, .ref 0]) rfl (e := (.iconst 0, 1, [], .null)) rfl rfl (fun _ _ => rfl)
          obtain ⟨v1, h57, X, E⟩ := E.cv (p := 143) (as := [.int le, .int 0, .int 0]) (b := 0) (r := []) rfl (x := 403) (m := 3) (w := .null) (j := 242) (n := 3) (t := 12) (u := [1846, 91, 1848]) rfl rfl rfl
          obtain ⟨rfl, ivk58, hNk58⟩ := ts_242 (d := d + 1) X (by rw [hV13]; exact (iT_u ivk11 (ivk11.1.ui rfl) rfl))
          have Xk58 := X
          have E : eh_e _ _ 143 lo [] h57 rs h' := E
          have E := E.pu (p := 144) (lo' := lo) (st' := [.int 1]) rfl (e := (.iconst 1, 1, [], .null)) rfl rfl (fun _ _ => rfl)
          obtain ⟨r1, r2⟩ := E.reti rfl (m := 1) (ax := []) (w := .null) rfl
          exact Or.inr (Or.inr (Or.inr (Or.inr (Or.inr (Or.inr (Or.inr (Or.inr (Or.inr (Or.inr (Or.inl ⟨h7, h10, h12, h57, c1, c2, c6, hV8, Xk11, ivk11, c15, hV13, Xk58, ivk58, r1, ((congrArg eh_V r2).trans (rfl : eh_V h57 = eh_V h57)), ((congrArg eh_N r2).trans (hNk58.trans (hN14.trans (hNk11.trans hN9)))), ivk58⟩))))))))))
      · skip
        have E := E.ld (p := 57) (t := ri_isA) (i := 0) (n := 1) (v := .ref 0) rfl (e := (.aload_n 0, 1, [], .null)) rfl rfl (fun _ _ => rfl) l0 rfl
        have E := E.pu (p := 58) (lo' := lo) (st' := [.int 4, .ref 0]) rfl (e := (.iconst 4, 1, [], .null)) rfl rfl (fun _ _ => rfl)
        obtain ⟨v1, h59, X, E⟩ := E.cv (p := 61) (as := [.int 4]) (b := 0) (r := []) rfl (x := 171) (m := 3) (w := .null) (j := 159) (n := 1) (t := 12) (u := [1507, 40, 1509]) rfl rfl rfl
        rcases sp_159 (d := d + 1) X hV (iv.1) with ⟨rfl, hV60, hN61⟩
        have hV60 : _ = eh_u (eh_u G 0 15 (.int 4)) 0 16 (.int (eh_i G 0 12)) := hV60
        have E : eh_e _ _ 61 lo [.int 0] _ rs h' := E
        obtain ⟨r1, r2⟩ := E.reti rfl (m := 1) (ax := []) (w := .null) rfl
        exact Or.inr (Or.inr (Or.inr (Or.inr (Or.inr (Or.inr (Or.inr (Or.inr (Or.inr (Or.inr (Or.inr (Or.inl ⟨c1, c2, c6, r1, ((congrArg eh_V r2).trans hV60), ((congrArg eh_N r2).trans hN61), (iT_u (iT_u iv ((iv.1).ui rfl) rfl) (((iv.1).ui rfl).ui rfl) rfl)⟩)))))))))))
  · skip
    have E := E.ld (p := 33) (t := ri_isA) (i := 0) (n := 1) (v := .ref 0) rfl (e := (.aload_n 0, 1, [], .null)) rfl rfl (fun _ _ => rfl) l0 rfl
    have E := E.pu (p := 34) (lo' := lo) (st' := [.int 1, .ref 0]) rfl (e := (.iconst 1, 1, [], .null)) rfl rfl (fun _ _ => rfl)
    obtain ⟨v1, h62, X, E⟩ := E.cv (p := 37) (as := [.int 1]) (b := 0) (r := []) rfl (x := 171) (m := 3) (w := .null) (j := 159) (n := 1) (t := 12) (u := [1507, 40, 1509]) rfl rfl rfl
    rcases sp_159 (d := d + 1) X hV (iv.1) with ⟨rfl, hV63, hN64⟩
    have hV63 : _ = eh_u (eh_u G 0 15 (.int 1)) 0 16 (.int (eh_i G 0 12)) := hV63
    have E : eh_e _ _ 37 lo [.int 0] _ rs h' := E
    obtain ⟨r1, r2⟩ := E.reti rfl (m := 1) (ax := []) (w := .null) rfl
    exact Or.inr (Or.inr (Or.inr (Or.inr (Or.inr (Or.inr (Or.inr (Or.inr (Or.inr (Or.inr (Or.inr (Or.inr (⟨c1, r1, ((congrArg eh_V r2).trans hV63), ((congrArg eh_N r2).trans hN64), (iT_u (iT_u iv ((iv.1).ui rfl) rfl) (((iv.1).ui rfl).ui rfl) rfl)⟩))))))))))))
theorem tq_zp_l {d : Nat} {lo : List (Nat × Value)} {h h' : ri_H} {rs : List Value} {G : eh_W} {b : Nat → Int32} {n m : Nat} {le : Int32} (E : eh_e (ri_calE ri_md (d + 2)) md_246 20 lo [] h rs h') (hV : eh_V h = G) (iv : iT b n m G) (l0 : ri_lk lo 0 = some (.ref 0)) (l1 : ri_lk lo 1 = some (.int 0)) (l2 : ri_lk lo 2 = some (.int 0)) (l3 : ri_lk lo 3 = some (.int le)) : ∃ x : Int32, rs = [.int x] ∧ iT b n m (eh_V h') ∧ eh_N h' = eh_N h := by
  rcases zp_l E hV iv l0 l1 l2 l3 with ⟨_, _, r1, r2, r3, r4⟩ | ⟨_, _, _, _, _, _, _, _, _, _, _, r1, r2, r3, r4⟩ | ⟨_, _, _, _, _, _, _, _, _, _, _, _, r1, r2, r3, r4⟩ | ⟨_, _, _, _, _, _, _, _, _, _, _, _, _, _, _, _, _, _, _, _, _, _, _, _, _, r1, r2, r3, r4⟩ | ⟨_, _, _, _, _, _, _, _, _, _, _, _, _, _, _, _, _, _, _, r1, r2, r3, r4⟩ | ⟨_, _, _, _, _, _, _, _, _, _, _, _, _, r1, r2, r3, r4⟩ | ⟨_, _, _, _, _, _, _, _, _, _, _, _, _, _, _, _, _, _, _, _, _, _, _, _, r1, r2, r3, r4⟩ | ⟨_, _, _, _, _, _, _, _, _, _, _, _, _, _, _, _, _, _, r1, r2, r3, r4⟩ | ⟨_, _, _, _, _, _, _, _, _, _, _, _, _, _, _, _, _, _, _, _, _, _, _, _, r1, r2, r3, r4⟩ | ⟨_, _, _, _, _, _, _, _, _, _, _, _, _, _, _, _, _, _, r1, r2, r3, r4⟩ | ⟨_, _, _, _, _, _, _, _, _, _, _, _, _, _, r1, r2, r3, r4⟩ | ⟨_, _, _, r1, r2, r3, r4⟩ | ⟨_, r1, r2, r3, r4⟩
  · exact ⟨_, r1, by rw [r2]; exact r4, r3⟩
  · exact ⟨_, r1, by rw [r2]; exact r4, r3⟩
  · exact ⟨_, r1, by rw [r2]; exact r4, r3⟩
  · exact ⟨_, r1, by rw [r2]; exact r4, r3⟩
  · exact ⟨_, r1, by rw [r2]; exact r4, r3⟩
  · exact ⟨_, r1, by rw [r2]; exact r4, r3⟩
  · exact ⟨_, r1, by rw [r2]; exact r4, r3⟩
  · exact ⟨_, r1, by rw [r2]; exact r4, r3⟩
  · exact ⟨_, r1, by rw [r2]; exact r4, r3⟩
  · exact ⟨_, r1, by rw [r2]; exact r4, r3⟩
  · exact ⟨_, r1, by rw [r2]; exact r4, r3⟩
  · exact ⟨_, r1, by rw [r2]; exact r4, r3⟩
  · exact ⟨_, r1, by rw [r2]; exact r4, r3⟩
