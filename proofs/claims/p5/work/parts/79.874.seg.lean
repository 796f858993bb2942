theorem zc_a {cal : eh_K} {lo : List (Nat × Value)} {h h' : ri_H} {rs : List Value} {G : eh_W} {b : Nat → Int32} {n m : Nat} {dp : Int32} (E : eh_e cal md_96 0 lo [] h rs h') (hV : eh_V h = G) (iv : iS b n m G) (l0 : ri_lk lo 0 = some (.ref 17)) (l1 : ri_lk lo 1 = some (.ref 23)) (l2 : ri_lk lo 2 = some (.int dp)) : ∃ h1 loz v1 hz, eh_V h1 = G ∧ eh_N h1 = eh_N h ∧ iS b n m G ∧ cal 97 [.ref 17, .ref 23, .int dp] h1 = some (v1, hz) ∧ eh_e cal md_96 6 loz (v1.toList ++ []) hz rs h' ∧ ri_lk loz 0 = some (.ref 17) ∧ ri_lk loz 1 = some (.ref 23) ∧ ri_lk loz 2 = some (.int dp) := by
  have E := E.ld (p := 1) (t := ri_isA) (i := 0) (n := 1) (v := .ref 17) rfl (e := (.aload_n 0, 1, [], .null)) rfl rfl (fun _ _ => rfl) l0 rfl
  have E := E.ld (p := 2) (t := ri_isA) (i := 1) (n := 1) (v := .ref 23) rfl (e := (.aload_n 1, 1, [], .null)) rfl rfl (fun _ _ => rfl) l1 rfl
  have E := E.ld (p := 3) (t := ri_isI) (i := 2) (n := 1) (v := .int dp) rfl (e := (.iload_n 2, 1, [], .null)) rfl rfl (fun _ _ => rfl) l2 rfl
  obtain ⟨v1, h1, X, E⟩ := E.cv (p := 6) (as := [.ref 23, .int dp]) (b := 17) (r := []) rfl (x := 39) (m := 3) (w := .null) (j := 97) (n := 2) (t := 10) (u := [1138, 26, 1140]) rfl rfl rfl
  exact ⟨_, _, _, _, hV, rfl, iv, X, E, l0, l1, l2⟩
theorem zc_b {cal : eh_K} {lo : List (Nat × Value)} {h h' : ri_H} {rs : List Value} {G : eh_W} {x dp : Int32} {b : Nat → Int32} {n m : Nat} (E : eh_e cal md_96 6 lo [.int x] h rs h') (hV : eh_V h = G) (iv : iS b n m G) (l0 : ri_lk lo 0 = some (.ref 17)) (l1 : ri_lk lo 1 = some (.ref 23)) (l2 : ri_lk lo 2 = some (.int dp)) : ∃ hz loz, eh_e cal md_96 13 loz [] hz rs h' ∧ eh_V hz = G ∧ eh_N hz = eh_N h ∧ iS b n m G ∧ ri_lk loz 0 = some (.ref 17) ∧ ri_lk loz 1 = some (.ref 23) ∧ ri_lk loz 2 = some (.int dp) ∧ ri_lk loz 3 = some (.int x) ∧ ri_lk loz 4 = some (.int 0) ∧ ri_lk loz 5 = some (.int 0) := by
  have E := E.so (p := 7) (t := ri_isI) (i := 3) (n := 1) rfl (e := (.istore_n 3, 1, [], .null)) rfl rfl (fun _ _ => rfl) rfl
  have k1_3 : ri_lk (ri_st1 lo 3 (.int x)) 3 = some (.int x) := eh_self
  have k1_0 : ri_lk (ri_st1 lo 3 (.int x)) 0 = some (.ref 17) := eh_keep (by decide) (Or.inl rfl) l0
  have k1_1 : ri_lk (ri_st1 lo 3 (.int x)) 1 = some (.ref 23) := eh_keep (by decide) (Or.inl rfl) l1
  have k1_2 : ri_lk (ri_st1 lo 3 (.int x)) 2 = some (.int dp) := eh_keep (by decide) (Or.inl rfl) l2
  have E := E.pu (p := 8) (lo' := (ri_st1 lo 3 (.int x))) (st' := [.int 0]) rfl (e := (.iconst 0, 1, [], .null)) rfl rfl (fun _ _ => rfl)
  have E := E.so (p := 10) (t := ri_isI) (i := 4) (n := 2) rfl (e := (.istore 4, 2, [], .null)) rfl rfl (fun _ _ => rfl) rfl
  have k2_4 : ri_lk (ri_st1 (ri_st1 lo 3 (.int x)) 4 (.int 0)) 4 = some (.int 0) := eh_self
  have k2_0 : ri_lk (ri_st1 (ri_st1 lo 3 (.int x)) 4 (.int 0)) 0 = some (.ref 17) := eh_keep (by decide) (Or.inl rfl) k1_0
  have k2_1 : ri_lk (ri_st1 (ri_st1 lo 3 (.int x)) 4 (.int 0)) 1 = some (.ref 23) := eh_keep (by decide) (Or.inl rfl) k1_1
  have k2_2 : ri_lk (ri_st1 (ri_st1 lo 3 (.int x)) 4 (.int 0)) 2 = some (.int dp) := eh_keep (by decide) (Or.inl rfl) k1_2
  have k2_3 : ri_lk (ri_st1 (ri_st1 lo 3 (.int x)) 4 (.int 0)) 3 = some (.int x) := eh_keep (by decide) (Or.inl rfl) k1_3
  have E := E.pu (p := 11) (lo' := (ri_st1 (ri_st1 lo 3 (.int x)) 4 (.int 0))) (st' := [.int 0]) rfl (e := (.iconst 0, 1, [], .null)) rfl rfl (fun _ _ => rfl)
  have E := E.so (p := 13) (t := ri_isI) (i := 5) (n := 2) rfl (e := (.istore 5, 2, [], .null)) rfl rfl (fun _ _ => rfl) rfl
  have k3_5 : ri_lk (ri_st1 (ri_st1 (ri_st1 lo 3 (.int x)) 4 (.int 0)) 5 (.int 0)) 5 = some (.int 0) := eh_self
  have k3_0 : ri_lk (ri_st1 (ri_st1 (ri_st1 lo 3 (.int x)) 4 (.int 0)) 5 (.int 0)) 0 = some (.ref 17) := eh_keep (by decide) (Or.inl rfl) k2_0
  have k3_1 : ri_lk (ri_st1 (ri_st1 (ri_st1 lo 3 (.int x)) 4 (.int 0)) 5 (.int 0)) 1 = some (.ref 23) := eh_keep (by decide) (Or.inl rfl) k2_1
  have k3_2 : ri_lk (ri_st1 (ri_st1 (ri_st1 lo 3 (.int x)) 4 (.int 0)) 5 (.int 0)) 2 = some (.int dp) := eh_keep (by decide) (Or.inl rfl) k2_2
  have k3_3 : ri_lk (ri_st1 (ri_st1 (ri_st1 lo 3 (.int x)) 4 (.int 0)) 5 (.int 0)) 3 = some (.int x) := eh_keep (by decide) (Or.inl rfl) k2_3
  have k3_4 : ri_lk (ri_st1 (ri_st1 (ri_st1 lo 3 (.int x)) 4 (.int 0)) 5 (.int 0)) 4 = some (.int 0) := eh_keep (by decide) (Or.inl rfl) k2_4
  exact ⟨_, _, E, hV, rfl, iv, k3_0, k3_1, k3_2, k3_3, k3_4, k3_5⟩
theorem zc_l {d : Nat} {lo : List (Nat × Value)} {h h' : ri_H} {rs : List Value} {G : eh_W} {b : Nat → Int32} {n m : Nat} {dp re oo i : Int32} (E : eh_e (ri_calE ri_md (d + 2)) md_96 13 lo [] h rs h') (hV : eh_V h = G) (iv : iS b n m G) (l0 : ri_lk lo 0 = some (.ref 17)) (l1 : ri_lk lo 1 = some (.ref 23)) (l2 : ri_lk lo 2 = some (.int dp)) (l3 : ri_lk lo 3 = some (.int re)) (l4 : ri_lk lo 4 = some (.int oo)) (l5 : ri_lk lo 5 = some (.int i)) : (20 < i.toInt ∧ oo = 0 ∧ rs = [.int re] ∧ eh_V h' = G ∧ eh_N h' = eh_N h ∧ iS b n m G) ∨ (∃ (h3 : ri_H), 20 < i.toInt ∧ ¬ (oo = 0) ∧ ri_calE ri_md (d + 2) 88 [.ref 18, .int 13, .int (-1), .int (-1)] h = some (none, h3) ∧ iS b n m (eh_V h3) ∧ rs = [.int re] ∧ eh_V h' = (eh_V h3) ∧ eh_N h' = eh_N h ∧ iS b n m (eh_V h3)) ∨ (¬ (20 < i.toInt) ∧ re = 0 ∧ oo = 0 ∧ rs = [.int re] ∧ eh_V h' = G ∧ eh_N h' = eh_N h ∧ iS b n m G) ∨ (∃ (h7 : ri_H), ¬ (20 < i.toInt) ∧ re = 0 ∧ ¬ (oo = 0) ∧ ri_calE ri_md (d + 2) 88 [.ref 18, .int 13, .int (-1), .int (-1)] h = some (none, h7) ∧ iS b n m (eh_V h7) ∧ rs = [.int re] ∧ eh_V h' = (eh_V h7) ∧ eh_N h' = eh_N h ∧ iS b n m (eh_V h7)) ∨ (¬ (20 < i.toInt) ∧ ¬ (re = 0) ∧ ¬ ((eh_i G 2 5) = 2) ∧ oo = 0 ∧ rs = [.int re] ∧ eh_V h' = G ∧ eh_N h' = eh_N h ∧ iS b n m G) ∨ (∃ (h21 : ri_H), ∃ (h34 : ri_H), ¬ (20 < i.toInt) ∧ ¬ (re = 0) ∧ ¬ ((eh_i G 2 5) = 2) ∧ ¬ (oo = 0) ∧ eh_V h21 = G ∧ ri_calE ri_md (d + 2) 88 [.ref 18, .int 13, .int (-1), .int (-1)] h21 = some (none, h34) ∧ iS b n m (eh_V h34) ∧ rs = [.int re] ∧ eh_V h' = (eh_V h34) ∧ eh_N h' = eh_N h ∧ iS b n m (eh_V h34)) ∨ (¬ (20 < i.toInt) ∧ ¬ (re = 0) ∧ (eh_i G 2 5) = 2 ∧ ¬ ((eh_i G 2 7) = 13) ∧ ¬ ((eh_i G 2 7) = 14) ∧ oo = 0 ∧ rs = [.int re] ∧ eh_V h' = G ∧ eh_N h' = eh_N h ∧ iS b n m G) ∨ (∃ (h36 : ri_H), ∃ (h49 : ri_H), ¬ (20 < i.toInt) ∧ ¬ (re = 0) ∧ (eh_i G 2 5) = 2 ∧ ¬ ((eh_i G 2 7) = 13) ∧ ¬ ((eh_i G 2 7) = 14) ∧ ¬ (oo = 0) ∧ eh_V h36 = G ∧ ri_calE ri_md (d + 2) 88 [.ref 18, .int 13, .int (-1), .int (-1)] h36 = some (none, h49) ∧ iS b n m (eh_V h49) ∧ rs = [.int re] ∧ eh_V h' = (eh_V h49) ∧ eh_N h' = eh_N h ∧ iS b n m (eh_V h49)) ∨ (∃ (h51 : ri_H), ∃ (h65 : ri_H), ¬ (20 < i.toInt) ∧ ¬ (re = 0) ∧ (eh_i G 2 5) = 2 ∧ ¬ ((eh_i G 2 7) = 13) ∧ (eh_i G 2 7) = 14 ∧ eh_V h51 = G ∧ ri_calE ri_md (d + 2) 74 [.ref 2] h51 = some (none, h65) ∧ iS b n m (eh_V h65) ∧ ∃ h1 loz v1 hz, eh_V h1 = (eh_V h65) ∧ eh_N h1 = eh_N h ∧ iS b n m (eh_V h65) ∧ (ri_calE ri_md (d + 2)) 97 [.ref 17, .ref 23, .int dp] h1 = some (v1, hz) ∧ eh_e (ri_calE ri_md (d + 2)) md_96 100 loz (v1.toList ++ []) hz rs h' ∧ ri_lk loz 0 = some (.ref 17) ∧ ri_lk loz 1 = some (.ref 23) ∧ ri_lk loz 2 = some (.int dp) ∧ ri_lk loz 3 = some (.int re) ∧ ri_lk loz 4 = some (.int (oo ||| 0)) ∧ ri_lk loz 5 = some (.int i) ∧ ri_lk loz 6 = some (.int 0)) ∨ (∃ (h68 : ri_H), ∃ (h83 : ri_H), ¬ (20 < i.toInt) ∧ ¬ (re = 0) ∧ (eh_i G 2 5) = 2 ∧ (eh_i G 2 7) = 13 ∧ oo = 0 ∧ eh_V h68 = G ∧ ri_calE ri_md (d + 2) 74 [.ref 2] h68 = some (none, h83) ∧ iS b n m (eh_V h83) ∧ ∃ h1 loz v1 hz, eh_V h1 = (eh_V h83) ∧ eh_N h1 = eh_N h ∧ iS b n m (eh_V h83) ∧ (ri_calE ri_md (d + 2)) 97 [.ref 17, .ref 23, .int dp] h1 = some (v1, hz) ∧ eh_e (ri_calE ri_md (d + 2)) md_96 100 loz (v1.toList ++ []) hz rs h' ∧ ri_lk loz 0 = some (.ref 17) ∧ ri_lk loz 1 = some (.ref 23) ∧ ri_lk loz 2 = some (.int dp) ∧ ri_lk loz 3 = some (.int re) ∧ ri_lk loz 4 = some (.int (oo ||| 1)) ∧ ri_lk loz 5 = some (.int i) ∧ ri_lk loz 6 = some (.int 1)) ∨ (∃ (h68 : ri_H), ∃ (h86 : ri_H), ∃ (h89 : ri_H), ¬ (20 < i.toInt) ∧ ¬ (re = 0) ∧ (eh_i G 2 5) = 2 ∧ (eh_i G 2 7) = 13 ∧ ¬ (oo = 0) ∧ eh_V h68 = G ∧ ri_calE ri_md (d + 2) 88 [.ref 18, .int 13, .int (-1), .int (-1)] h68 = some (none, h86) ∧ iS b n m (eh_V h86) ∧ ri_calE ri_md (d + 2) 74 [.ref 2] h86 = some (none, h89) ∧ iS b n m (eh_V h89) ∧ ∃ h1 loz v1 hz, eh_V h1 = (eh_V h89) ∧ eh_N h1 = eh_N h ∧ iS b n m (eh_V h89) ∧ (ri_calE ri_md (d + 2)) 97 [.ref 17, .ref 23, .int dp] h1 = some (v1, hz) ∧ eh_e (ri_calE ri_md (d + 2)) md_96 100 loz (v1.toList ++ []) hz rs h' ∧ ri_lk loz 0 = some (.ref 17) ∧ ri_lk loz 1 = some (.ref 23) ∧ ri_lk loz 2 = some (.int dp) ∧ ri_lk loz 3 = some (.int re) ∧ ri_lk loz 4 = some (.int (oo ||| 1)) ∧ ri_lk loz 5 = some (.int i) ∧ ri_lk loz 6 = some (.int 1)) := by
  have E := E.ld (p := 15) (t := ri_isI) (i := 5) (n := 2) (v := .int i) rfl (e := (.iload 5, 2, [], .null)) rfl rfl (fun _ _ => rfl) l5 rfl
  have E := E.pu (p := 17) (lo' := lo) (st' := [.int 20, .int i]) rfl (e := (.bipush 20, 2, [], .null)) rfl rfl (fun _ _ => rfl)
  rcases eh_r4 rfl (show (20 : Int32).toInt = 20 by decide) (E.br (p := 20) (c := 4) (tgt := 123) (a := i) (b := 20) (st' := []) rfl (e := (.if_icmp .gt 106, 3, [123], .null)) rfl rfl (fun _ _ => rfl) rfl) with ⟨c1, E⟩ | ⟨c1, E⟩
  · skip
    have E := E.ld (p := 125) (t := ri_isI) (i := 4) (n := 2) (v := .int oo) rfl (e := (.iload 4, 2, [], .null)) rfl rfl (fun _ _ => rfl) l4 rfl
    rcases eh_q0 (E.br (p := 128) (c := 0) (tgt := 139) (a := oo) (b := 0) (st' := []) rfl (e := (.ifCond .eq 14, 3, [139], .null)) rfl rfl (fun _ _ => rfl) rfl) with ⟨c2, E⟩ | ⟨c2, E⟩
    · skip
      have E := E.ld (p := 140) (t := ri_isI) (i := 3) (n := 1) (v := .int re) rfl (e := (.iload_n 3, 1, [], .null)) rfl rfl (fun _ _ => rfl) l3 rfl
      obtain ⟨r1, r2⟩ := E.reti rfl (m := 1) (ax := []) (w := .null) rfl
      exact Or.inl ⟨c1, c2, r1, ((congrArg eh_V r2).trans hV), (congrArg eh_N r2), iv⟩
    · skip
      have E := E.ld (p := 129) (t := ri_isA) (i := 0) (n := 1) (v := .ref 17) rfl (e := (.aload_n 0, 1, [], .null)) rfl rfl (fun _ _ => rfl) l0 rfl
      have E := E.gr (n := 18) (p := 132) rfl (x := 12) (m := 3) (w := .null) (t := 10) (i := 1) (u := 367) rfl rfl hV (iv.1) rfl
      have E := E.pu (p := 134) (lo' := lo) (st' := [.int 13, .ref 18]) rfl (e := (.bipush 13, 2, [], .null)) rfl rfl (fun _ _ => rfl)
      have E := E.pu (p := 135) (lo' := lo) (st' := [.int (-1), .int 13, .ref 18]) rfl (e := (.iconst (-1), 1, [], .null)) rfl rfl (fun _ _ => rfl)
      have E := E.pu (p := 136) (lo' := lo) (st' := [.int (-1), .int (-1), .int 13, .ref 18]) rfl (e := (.iconst (-1), 1, [], .null)) rfl rfl (fun _ _ => rfl)
      obtain ⟨v1, h3, X, E⟩ := E.cv (p := 139) (as := [.int 13, .int (-1), .int (-1)]) (b := 18) (r := []) rfl (x := 45) (m := 3) (w := .null) (j := 88) (n := 3) (t := 9) (u := [1146, 1148, 1147]) rfl rfl rfl
      obtain ⟨rfl, ivk4, hNk4⟩ := ts_88 (d := d + 1) X (by rw [hV]; exact iv)
      have Xk4 := X
      have E : eh_e _ _ 139 lo [] h3 rs h' := E
      have E := E.ld (p := 140) (t := ri_isI) (i := 3) (n := 1) (v := .int re) rfl (e := (.iload_n 3, 1, [], .null)) rfl rfl (fun _ _ => rfl) l3 rfl
      obtain ⟨r1, r2⟩ := E.reti rfl (m := 1) (ax := []) (w := .null) rfl
      exact Or.inr (Or.inl ⟨h3, c1, c2, Xk4, ivk4, r1, ((congrArg eh_V r2).trans (rfl : eh_V h3 = eh_V h3)), ((congrArg eh_N r2).trans hNk4), ivk4⟩)
  · skip
    have E := E.ld (p := 21) (t := ri_isI) (i := 3) (n := 1) (v := .int re) rfl (e := (.iload_n 3, 1, [], .null)) rfl rfl (fun _ _ => rfl) l3 rfl
    rcases eh_q0 (E.br (p := 24) (c := 0) (tgt := 123) (a := re) (b := 0) (st' := []) rfl (e := (.ifCond .eq 102, 3, [123], .null)) rfl rfl (fun _ _ => rfl) rfl) with ⟨c5, E⟩ | ⟨c5, E⟩
    · skip
      have E := E.ld (p := 125) (t := ri_isI) (i := 4) (n := 2) (v := .int oo) rfl (e := (.iload 4, 2, [], .null)) rfl rfl (fun _ _ => rfl) l4 rfl
      rcases eh_q0 (E.br (p := 128) (c := 0) (tgt := 139) (a := oo) (b := 0) (st' := []) rfl (e := (.ifCond .eq 14, 3, [139], .null)) rfl rfl (fun _ _ => rfl) rfl) with ⟨c6, E⟩ | ⟨c6, E⟩
      · skip
        have E := E.ld (p := 140) (t := ri_isI) (i := 3) (n := 1) (v := .int re) rfl (e := (.iload_n 3, 1, [], .null)) rfl rfl (fun _ _ => rfl) l3 rfl
        obtain ⟨r1, r2⟩ := E.reti rfl (m := 1) (ax := []) (w := .null) rfl
        exact Or.inr (Or.inr (Or.inl ⟨c1, c5, c6, r1, ((congrArg eh_V r2).trans hV), (congrArg eh_N r2), iv⟩))
      · skip
        have E := E.ld (p := 129) (t := ri_isA) (i := 0) (n := 1) (v := .ref 17) rfl (e := (.aload_n 0, 1, [], .null)) rfl rfl (fun _ _ => rfl) l0 rfl
        have E := E.gr (n := 18) (p := 132) rfl (x := 12) (m := 3) (w := .null) (t := 10) (i := 1) (u := 367) rfl rfl hV (iv.1) rfl
        have E := E.pu (p := 134) (lo' := lo) (st' := [.int 13, .ref 18]) rfl (e := (.bipush 13, 2, [], .null)) rfl rfl (fun _ _ => rfl)
        have E := E.pu (p := 135) (lo' := lo) (st' := [.int (-1), .int 13, .ref 18]) rfl (e := (.iconst (-1), 1, [], .null)) rfl rfl (fun _ _ => rfl)
        have E := E.pu (p := 136) (lo' := lo) (st' := [.int (-1), .int (-1), .int 13, .ref 18]) rfl (e := (.iconst (-1), 1, [], .null)) rfl rfl (fun _ _ => rfl)
        obtain ⟨v1, h7, X, E⟩ := E.cv (p := 139) (as := [.int 13, .int (-1), .int (-1)]) (b := 18) (r := []) rfl (x := 45) (m := 3) (w := .null) (j := 88) (n := 3) (t := 9) (u := [1146, 1148, 1147]) rfl rfl rfl
        obtain ⟨rfl, ivk8, hNk8⟩ := ts_88 (d := d + 1) X (by rw [hV]; exact iv)
        have Xk8 := X
        have E : eh_e _ _ 139 lo [] h7 rs h' := E
        have E := E.ld (p := 140) (t := ri_isI) (i := 3) (n := 1) (v := .int re) rfl (e := (.iload_n 3, 1, [], .null)) rfl rfl (fun _ _ => rfl) l3 rfl
        obtain ⟨r1, r2⟩ := E.reti rfl (m := 1) (ax := []) (w := .null) rfl
        exact Or.inr (Or.inr (Or.inr (Or.inl ⟨h7, c1, c5, c6, Xk8, ivk8, r1, ((congrArg eh_V r2).trans (rfl : eh_V h7 = eh_V h7)), ((congrArg eh_N r2).trans hNk8), ivk8⟩)))
    · skip
      have E := E.ld (p := 25) (t := ri_isA) (i := 0) (n := 1) (v := .ref 17) rfl (e := (.aload_n 0, 1, [], .null)) rfl rfl (fun _ _ => rfl) l0 rfl
      have E := E.gr (n := 2) (p := 28) rfl (x := 18) (m := 3) (w := .null) (t := 10) (i := 0) (u := 366) rfl rfl hV (iv.1) rfl
      have E := E.pu (p := 30) (lo' := lo) (st' := [.int 13, .ref 2]) rfl (e := (.bipush 13, 2, [], .null)) rfl rfl (fun _ _ => rfl)
      obtain ⟨v1, h9, X, E⟩ := E.cv (p := 33) (as := [.int 13]) (b := 2) (r := []) rfl (x := 42) (m := 3) (w := .null) (j := 79) (n := 1) (t := 8) (u := [1160, 1076, 1075]) rfl rfl rfl
      rcases zs_79 (d := d + 1) X hV (iv.1) with ⟨c10, rfl, hV11, hN12⟩ | ⟨c13, c14, rfl, hV15, hN16⟩ | ⟨c17, c18, rfl, hV19, hN20⟩
      · skip
        have c10 : ¬ ((eh_i G 2 5) = 2) := c10
        have E : eh_e _ _ 33 lo [.int 0] _ rs h' := E
        have E := E.brf (p := 36) (c := 1) (tgt := 48) (a := 0) (b := 0) (st' := []) rfl (e := (.ifCond .ne 15, 3, [48], .null)) rfl rfl (fun _ _ => rfl) (by decide) rfl
        have E := E.ld (p := 37) (t := ri_isA) (i := 0) (n := 1) (v := .ref 17) rfl (e := (.aload_n 0, 1, [], .null)) rfl rfl (fun _ _ => rfl) l0 rfl
        have E := E.gr (n := 2) (p := 40) rfl (x := 18) (m := 3) (w := .null) (t := 10) (i := 0) (u := 366) rfl rfl hV11 (iv.1) rfl
        have E := E.pu (p := 42) (lo' := lo) (st' := [.int 14, .ref 2]) rfl (e := (.bipush 14, 2, [], .null)) rfl rfl (fun _ _ => rfl)
        obtain ⟨v1, h21, X, E⟩ := E.cv (p := 45) (as := [.int 14]) (b := 2) (r := []) rfl (x := 42) (m := 3) (w := .null) (j := 79) (n := 1) (t := 8) (u := [1160, 1076, 1075]) rfl rfl rfl
        rcases zs_79 (d := d + 1) X hV11 (iv.1) with ⟨c22, rfl, hV23, hN24⟩ | ⟨c25, c26, rfl, hV27, hN28⟩ | ⟨c29, c30, rfl, hV31, hN32⟩
        · skip
          have E : eh_e _ _ 45 lo [.int 0] _ rs h' := E
          have E := E.brt (c := 0) (tgt := 123) (a := 0) (b := 0) (st' := []) rfl (e := (.ifCond .eq 78, 3, [123], .null)) rfl rfl (fun _ _ => rfl) (by decide)
          have E := E.ld (p := 125) (t := ri_isI) (i := 4) (n := 2) (v := .int oo) rfl (e := (.iload 4, 2, [], .null)) rfl rfl (fun _ _ => rfl) l4 rfl
          rcases eh_q0 (E.br (p := 128) (c := 0) (tgt := 139) (a := oo) (b := 0) (st' := []) rfl (e := (.ifCond .eq 14, 3, [139], .null)) rfl rfl (fun _ _ => rfl) rfl) with ⟨c33, E⟩ | ⟨c33, E⟩
          · skip
            have E := E.ld (p := 140) (t := ri_isI) (i := 3) (n := 1) (v := .int re) rfl (e := (.iload_n 3, 1, [], .null)) rfl rfl (fun _ _ => rfl) l3 rfl
            obtain ⟨r1, r2⟩ := E.reti rfl (m := 1) (ax := []) (w := .null) rfl
            exact Or.inr (Or.inr (Or.inr (Or.inr (Or.inl ⟨c1, c5, c10, c33, r1, ((congrArg eh_V r2).trans hV23), ((congrArg eh_N r2).trans (hN24.trans hN12)), iv⟩))))
          · skip
            have E := E.ld (p := 129) (t := ri_isA) (i := 0) (n := 1) (v := .ref 17) rfl (e := (.aload_n 0, 1, [], .null)) rfl rfl (fun _ _ => rfl) l0 rfl
            have E := E.gr (n := 18) (p := 132) rfl (x := 12) (m := 3) (w := .null) (t := 10) (i := 1) (u := 367) rfl rfl hV23 (iv.1) rfl
            have E := E.pu (p := 134) (lo' := lo) (st' := [.int 13, .ref 18]) rfl (e := (.bipush 13, 2, [], .null)) rfl rfl (fun _ _ => rfl)
            have E := E.pu (p := 135) (lo' := lo) (st' := [.int (-1), .int 13, .ref 18]) rfl (e := (.iconst (-1), 1, [], .null)) rfl rfl (fun _ _ => rfl)
            have E := E.pu (p := 136) (lo' := lo) (st' := [.int (-1), .int (-1), .int 13, .ref 18]) rfl (e := (.iconst (-1), 1, [], .null)) rfl rfl (fun _ _ => rfl)
            obtain ⟨v1, h34, X, E⟩ := E.cv (p := 139) (as := [.int 13, .int (-1), .int (-1)]) (b := 18) (r := []) rfl (x := 45) (m := 3) (w := .null) (j := 88) (n := 3) (t := 9) (u := [1146, 1148, 1147]) rfl rfl rfl
            obtain ⟨rfl, ivk35, hNk35⟩ := ts_88 (d := d + 1) X (by rw [hV23]; exact iv)
            have Xk35 := X
            have E : eh_e _ _ 139 lo [] h34 rs h' := E
            have E := E.ld (p := 140) (t := ri_isI) (i := 3) (n := 1) (v := .int re) rfl (e := (.iload_n 3, 1, [], .null)) rfl rfl (fun _ _ => rfl) l3 rfl
            obtain ⟨r1, r2⟩ := E.reti rfl (m := 1) (ax := []) (w := .null) rfl
            exact Or.inr (Or.inr (Or.inr (Or.inr (Or.inr (Or.inl ⟨h21, h34, c1, c5, c10, c33, hV23, Xk35, ivk35, r1, ((congrArg eh_V r2).trans (rfl : eh_V h34 = eh_V h34)), ((congrArg eh_N r2).trans (hNk35.trans (hN24.trans hN12))), ivk35⟩)))))
        · skip
          exact absurd c25 c10
        · skip
          exact absurd c29 c10
      · skip
        have c13 : (eh_i G 2 5) = 2 := c13
        have c14 : ¬ ((eh_i G 2 7) = 13) := c14
        have E : eh_e _ _ 33 lo [.int 0] _ rs h' := E
        have E := E.brf (p := 36) (c := 1) (tgt := 48) (a := 0) (b := 0) (st' := []) rfl (e := (.ifCond .ne 15, 3, [48], .null)) rfl rfl (fun _ _ => rfl) (by decide) rfl
        have E := E.ld (p := 37) (t := ri_isA) (i := 0) (n := 1) (v := .ref 17) rfl (e := (.aload_n 0, 1, [], .null)) rfl rfl (fun _ _ => rfl) l0 rfl
        have E := E.gr (n := 2) (p := 40) rfl (x := 18) (m := 3) (w := .null) (t := 10) (i := 0) (u := 366) rfl rfl hV15 (iv.1) rfl
        have E := E.pu (p := 42) (lo' := lo) (st' := [.int 14, .ref 2]) rfl (e := (.bipush 14, 2, [], .null)) rfl rfl (fun _ _ => rfl)
        obtain ⟨v1, h36, X, E⟩ := E.cv (p := 45) (as := [.int 14]) (b := 2) (r := []) rfl (x := 42) (m := 3) (w := .null) (j := 79) (n := 1) (t := 8) (u := [1160, 1076, 1075]) rfl rfl rfl
        rcases zs_79 (d := d + 1) X hV15 (iv.1) with ⟨c37, rfl, hV38, hN39⟩ | ⟨c40, c41, rfl, hV42, hN43⟩ | ⟨c44, c45, rfl, hV46, hN47⟩
        · skip
          exact absurd c13 c37
        · skip
          have c41 : ¬ ((eh_i G 2 7) = 14) := c41
          have E : eh_e _ _ 45 lo [.int 0] _ rs h' := E
          have E := E.brt (c := 0) (tgt := 123) (a := 0) (b := 0) (st' := []) rfl (e := (.ifCond .eq 78, 3, [123], .null)) rfl rfl (fun _ _ => rfl) (by decide)
          have E := E.ld (p := 125) (t := ri_isI) (i := 4) (n := 2) (v := .int oo) rfl (e := (.iload 4, 2, [], .null)) rfl rfl (fun _ _ => rfl) l4 rfl
          rcases eh_q0 (E.br (p := 128) (c := 0) (tgt := 139) (a := oo) (b := 0) (st' := []) rfl (e := (.ifCond .eq 14, 3, [139], .null)) rfl rfl (fun _ _ => rfl) rfl) with ⟨c48, E⟩ | ⟨c48, E⟩
          · skip
            have E := E.ld (p := 140) (t := ri_isI) (i := 3) (n := 1) (v := .int re) rfl (e := (.iload_n 3, 1, [], .null)) rfl rfl (fun _ _ => rfl) l3 rfl
            obtain ⟨r1, r2⟩ := E.reti rfl (m := 1) (ax := []) (w := .null) rfl
            exact Or.inr (Or.inr (Or.inr (Or.inr (Or.inr (Or.inr (Or.inl ⟨c1, c5, c13, c14, c41, c48, r1, ((congrArg eh_V r2).trans hV42), ((congrArg eh_N r2).trans (hN43.trans hN16)), iv⟩))))))
          · skip
            have E := E.ld (p := 129) (t := ri_isA) (i := 0) (n := 1) (v := .ref 17) rfl (e := (.aload_n 0, 1, [], .null)) rfl rfl (fun _ _ => rfl) l0 rfl
            have E := E.gr (n := 18) (p := 132) rfl (x := 12) (m := 3) (w := .null) (t := 10) (i := 1) (u := 367) rfl rfl hV42 (iv.1) rfl
            have E := E.pu (p := 134) (lo' := lo) (st' := [.int 13, .ref 18]) rfl (e := (.bipush 13, 2, [], .null)) rfl rfl (fun _ _ => rfl)
            have E := E.pu (p := 135) (lo' := lo) (st' := [.int (-1), .int 13, .ref 18]) rfl (e := (.iconst (-1), 1, [], .null)) rfl rfl (fun _ _ => rfl)
            have E := E.pu (p := 136) (lo' := lo) (st' := [.int (-1), .int (-1), .int 13, .ref 18]) rfl (e := (.iconst (-1), 1, [], .null)) rfl rfl (fun _ _ => rfl)
            obtain ⟨v1, h49, X, E⟩ := E.cv (p := 139) (as := [.int 13, .int (-1), .int (-1)]) (b := 18) (r := []) rfl (x := 45) (m := 3) (w := .null) (j := 88) (n := 3) (t := 9) (u := [1146, 1148, 1147]) rfl rfl rfl
            obtain ⟨rfl, ivk50, hNk50⟩ := ts_88 (d := d + 1) X (by rw [hV42]; exact iv)
            have Xk50 := X
            have E : eh_e _ _ 139 lo [] h49 rs h' := E
            have E := E.ld (p := 140) (t := ri_isI) (i := 3) (n := 1) (v := .int re) rfl (e := (.iload_n 3, 1, [], .null)) rfl rfl (fun _ _ => rfl) l3 rfl
            obtain ⟨r1, r2⟩ := E.reti rfl (m := 1) (ax := []) (w := .null) rfl
            exact Or.inr (Or.inr (Or.inr (Or.inr (Or.inr (Or.inr (Or.inr (Or.inl ⟨h36, h49, c1, c5, c13, c14, c41, c48, hV42, Xk50, ivk50, r1, ((congrArg eh_V r2).trans (rfl : eh_V h49 = eh_V h49)), ((congrArg eh_N r2).trans (hNk50.trans (hN43.trans hN16))), ivk50⟩)))))))
        · skip
          have c45 : (eh_i G 2 7) = 14 := c45
          have E : eh_e _ _ 45 lo [.int 1] _ rs h' := E
          have E := E.brf (p := 48) (c := 0) (tgt := 123) (a := 1) (b := 0) (st' := []) rfl (e := (.ifCond .eq 78, 3, [123], .null)) rfl rfl (fun _ _ => rfl) (by decide) rfl
          have E := E.ld (p := 49) (t := ri_isA) (i := 0) (n := 1) (v := .ref 17) rfl (e := (.aload_n 0, 1, [], .null)) rfl rfl (fun _ _ => rfl) l0 rfl
          have E := E.gr (n := 2) (p := 52) rfl (x := 18) (m := 3) (w := .null) (t := 10) (i := 0) (u := 366) rfl rfl hV46 (iv.1) rfl
          have E := E.pu (p := 54) (lo' := lo) (st' := [.int 13, .ref 2]) rfl (e := (.bipush 13, 2, [], .null)) rfl rfl (fun _ _ => rfl)
          obtain ⟨v1, h51, X, E⟩ := E.cv (p := 57) (as := [.int 13]) (b := 2) (r := []) rfl (x := 42) (m := 3) (w := .null) (j := 79) (n := 1) (t := 8) (u := [1160, 1076, 1075]) rfl rfl rfl
          rcases zs_79 (d := d + 1) X hV46 (iv.1) with ⟨c52, rfl, hV53, hN54⟩ | ⟨c55, c56, rfl, hV57, hN58⟩ | ⟨c59, c60, rfl, hV61, hN62⟩
          · skip
            exact absurd c13 c52
          · skip
            have E : eh_e _ _ 57 lo [.int 0] _ rs h' := E
            have E := E.so (p := 59) (t := ri_isI) (i := 6) (n := 2) rfl (e := (.istore 6, 2, [], .null)) rfl rfl (fun _ _ => rfl) rfl
            have k63_6 : ri_lk (ri_st1 lo 6 (.int 0)) 6 = some (.int 0) := eh_self
            have k63_0 : ri_lk (ri_st1 lo 6 (.int 0)) 0 = some (.ref 17) := eh_keep (by decide) (Or.inl rfl) l0
            have k63_1 : ri_lk (ri_st1 lo 6 (.int 0)) 1 = some (.ref 23) := eh_keep (by decide) (Or.inl rfl) l1
            have k63_2 : ri_lk (ri_st1 lo 6 (.int 0)) 2 = some (.int dp) := eh_keep (by decide) (Or.inl rfl) l2
            have k63_3 : ri_lk (ri_st1 lo 6 (.int 0)) 3 = some (.int re) := eh_keep (by decide) (Or.inl rfl) l3
            have k63_4 : ri_lk (ri_st1 lo 6 (.int 0)) 4 = some (.int oo) := eh_keep (by decide) (Or.inl rfl) l4
            have k63_5 : ri_lk (ri_st1 lo 6 (.int 0)) 5 = some (.int i) := eh_keep (by decide) (Or.inl rfl) l5
            have E := E.ld (p := 61) (t := ri_isI) (i := 6) (n := 2) (v := .int 0) rfl (e := (.iload 6, 2, [], .null)) rfl rfl (fun _ _ => rfl) k63_6 rfl
            have E := E.brt (c := 0) (tgt := 80) (a := 0) (b := 0) (st' := []) rfl (e := (.ifCond .eq 19, 3, [80], .null)) rfl rfl (fun _ _ => rfl) (by decide)
            have E := E.ld (p := 82) (t := ri_isI) (i := 4) (n := 2) (v := .int oo) rfl (e := (.iload 4, 2, [], .null)) rfl rfl (fun _ _ => rfl) k63_4 rfl
            have E := E.ld (p := 84) (t := ri_isI) (i := 6) (n := 2) (v := .int 0) rfl (e := (.iload 6, 2, [], .null)) rfl rfl (fun _ _ => rfl) k63_6 rfl
            have E := E.pu (p := 85) (lo' := (ri_st1 lo 6 (.int 0))) (st' := [.int (oo ||| 0)]) rfl (e := (.ior, 1, [], .null)) rfl rfl (fun _ _ => rfl)
            have E := E.so (p := 87) (t := ri_isI) (i := 4) (n := 2) rfl (e := (.istore 4, 2, [], .null)) rfl rfl (fun _ _ => rfl) rfl
            have k64_4 : ri_lk (ri_st1 (ri_st1 lo 6 (.int 0)) 4 (.int (oo ||| 0))) 4 = some (.int (oo ||| 0)) := eh_self
            have k64_0 : ri_lk (ri_st1 (ri_st1 lo 6 (.int 0)) 4 (.int (oo ||| 0))) 0 = some (.ref 17) := eh_keep (by decide) (Or.inl rfl) k63_0
            have k64_1 : ri_lk (ri_st1 (ri_st1 lo 6 (.int 0)) 4 (.int (oo ||| 0))) 1 = some (.ref 23) := eh_keep (by decide) (Or.inl rfl) k63_1
            have k64_2 : ri_lk (ri_st1 (ri_st1 lo 6 (.int 0)) 4 (.int (oo ||| 0))) 2 = some (.int dp) := eh_keep (by decide) (Or.inl rfl) k63_2
            have k64_3 : ri_lk (ri_st1 (ri_st1 lo 6 (.int 0)) 4 (.int (oo ||| 0))) 3 = some (.int re) := eh_keep (by decide) (Or.inl rfl) k63_3
            have k64_5 : ri_lk (ri_st1 (ri_st1 lo 6 (.int 0)) 4 (.int (oo ||| 0))) 5 = some (.int i) := eh_keep (by decide) (Or.inl rfl) k63_5
            have k64_6 : ri_lk (ri_st1 (ri_st1 lo 6 (.int 0)) 4 (.int (oo ||| 0))) 6 = some (.int 0) := eh_keep (by decide) (Or.inl rfl) k63_6
            have E := E.ld (p := 88) (t := ri_isA) (i := 0) (n := 1) (v := .ref 17) rfl (e := (.aload_n 0, 1, [], .null)) rfl rfl (fun _ _ => rfl) k64_0 rfl
            have E := E.gr (n := 2) (p := 91) rfl (x := 18) (m := 3) (w := .null) (t := 10) (i := 0) (u := 366) rfl rfl hV57 (iv.1) rfl
            obtain ⟨v1, h65, X, E⟩ := E.cv (p := 94) (as := []) (b := 2) (r := []) rfl (x := 49) (m := 3) (w := .null) (j := 74) (n := 0) (t := 8) (u := [1144, 648, 647]) rfl rfl rfl
            obtain ⟨rfl, ivk66, hNk66⟩ := ts_74 (d := d) X (by rw [hV57]; exact iv)
            have Xk66 := X
            have E : eh_e _ _ 94 (ri_st1 (ri_st1 lo 6 (.int 0)) 4 (.int (oo ||| 0))) [] h65 rs h' := E
            have E := E.ld (p := 95) (t := ri_isA) (i := 0) (n := 1) (v := .ref 17) rfl (e := (.aload_n 0, 1, [], .null)) rfl rfl (fun _ _ => rfl) k64_0 rfl
            have E := E.ld (p := 96) (t := ri_isA) (i := 1) (n := 1) (v := .ref 23) rfl (e := (.aload_n 1, 1, [], .null)) rfl rfl (fun _ _ => rfl) k64_1 rfl
            have E := E.ld (p := 97) (t := ri_isI) (i := 2) (n := 1) (v := .int dp) rfl (e := (.iload_n 2, 1, [], .null)) rfl rfl (fun _ _ => rfl) k64_2 rfl
            obtain ⟨v1, h67, X, E⟩ := E.cv (p := 100) (as := [.ref 23, .int dp]) (b := 17) (r := []) rfl (x := 39) (m := 3) (w := .null) (j := 97) (n := 2) (t := 10) (u := [1138, 26, 1140]) rfl rfl rfl
            exact Or.inr (Or.inr (Or.inr (Or.inr (Or.inr (Or.inr (Or.inr (Or.inr (Or.inl ⟨h51, h65, c1, c5, c13, c14, c45, hV57, Xk66, ivk66, _, _, _, _, (rfl : eh_V h65 = eh_V h65), (hNk66.trans (hN58.trans (hN47.trans hN16))), ivk66, X, E, k64_0, k64_1, k64_2, k64_3, k64_4, k64_5, k64_6⟩))))))))
          · skip
            exact absurd c60 c14
      · skip
        have c17 : (eh_i G 2 5) = 2 := c17
        have c18 : (eh_i G 2 7) = 13 := c18
        have E : eh_e _ _ 33 lo [.int 1] _ rs h' := E
        have E := E.brt (c := 1) (tgt := 48) (a := 1) (b := 0) (st' := []) rfl (e := (.ifCond .ne 15, 3, [48], .null)) rfl rfl (fun _ _ => rfl) (by decide)
        have E := E.ld (p := 49) (t := ri_isA) (i := 0) (n := 1) (v := .ref 17) rfl (e := (.aload_n 0, 1, [], .null)) rfl rfl (fun _ _ => rfl) l0 rfl
        have E := E.gr (n := 2) (p := 52) rfl (x := 18) (m := 3) (w := .null) (t := 10) (i := 0) (u := 366) rfl rfl hV19 (iv.1) rfl
        have E := E.pu (p := 54) (lo' := lo) (st' := [.int 13, .ref 2]) rfl (e := (.bipush 13, 2, [], .null)) rfl rfl (fun _ _ => rfl)
        obtain ⟨v1, h68, X, E⟩ := E.cv (p := 57) (as := [.int 13]) (b := 2) (r := []) rfl (x := 42) (m := 3) (w := .null) (j := 79) (n := 1) (t := 8) (u := [1160, 1076, 1075]) rfl rfl rfl
        rcases zs_79 (d := d + 1) X hV19 (iv.1) with ⟨c69, rfl, hV70, hN71⟩ | ⟨c72, c73, rfl, hV74, hN75⟩ | ⟨c76, c77, rfl, hV78, hN79⟩
        · skip
          exact absurd c17 c69
        · skip
          exact absurd c18 c73
        · skip
          have E : eh_e _ _ 57 lo [.int 1] _ rs h' := E
          have E := E.so (p := 59) (t := ri_isI) (i := 6) (n := 2) rfl (e := (.istore 6, 2, [], .null)) rfl rfl (fun _ _ => rfl) rfl
          have k80_6 : ri_lk (ri_st1 lo 6 (.int 1)) 6 = some (.int 1) := eh_self
          have k80_0 : ri_lk (ri_st1 lo 6 (.int 1)) 0 = some (.ref 17) := eh_keep (by decide) (Or.inl rfl) l0
          have k80_1 : ri_lk (ri_st1 lo 6 (.int 1)) 1 = some (.ref 23) := eh_keep (by decide) (Or.inl rfl) l1
          have k80_2 : ri_lk (ri_st1 lo 6 (.int 1)) 2 = some (.int dp) := eh_keep (by decide) (Or.inl rfl) l2
          have k80_3 : ri_lk (ri_st1 lo 6 (.int 1)) 3 = some (.int re) := eh_keep (by decide) (Or.inl rfl) l3
          have k80_4 : ri_lk (ri_st1 lo 6 (.int 1)) 4 = some (.int oo) := eh_keep (by decide) (Or.inl rfl) l4
          have k80_5 : ri_lk (ri_st1 lo 6 (.int 1)) 5 = some (.int i) := eh_keep (by decide) (Or.inl rfl) l5
          have E := E.ld (p := 61) (t := ri_isI) (i := 6) (n := 2) (v := .int 1) rfl (e := (.iload 6, 2, [], .null)) rfl rfl (fun _ _ => rfl) k80_6 rfl
          have E := E.brf (p := 64) (c := 0) (tgt := 80) (a := 1) (b := 0) (st' := []) rfl (e := (.ifCond .eq 19, 3, [80], .null)) rfl rfl (fun _ _ => rfl) (by decide) rfl
          have E := E.ld (p := 66) (t := ri_isI) (i := 4) (n := 2) (v := .int oo) rfl (e := (.iload 4, 2, [], .null)) rfl rfl (fun _ _ => rfl) k80_4 rfl
          rcases eh_q0 (E.br (p := 69) (c := 0) (tgt := 80) (a := oo) (b := 0) (st' := []) rfl (e := (.ifCond .eq 14, 3, [80], .null)) rfl rfl (fun _ _ => rfl) rfl) with ⟨c81, E⟩ | ⟨c81, E⟩
          · skip
            have E := E.ld (p := 82) (t := ri_isI) (i := 4) (n := 2) (v := .int oo) rfl (e := (.iload 4, 2, [], .null)) rfl rfl (fun _ _ => rfl) k80_4 rfl
            have E := E.ld (p := 84) (t := ri_isI) (i := 6) (n := 2) (v := .int 1) rfl (e := (.iload 6, 2, [], .null)) rfl rfl (fun _ _ => rfl) k80_6 rfl
            have E := E.pu (p := 85) (lo' := (ri_st1 lo 6 (.int 1))) (st' := [.int (oo ||| 1)]) rfl (e := (.ior, 1, [], .null)) rfl rfl (fun _ _ => rfl)
            have E := E.so (p := 87) (t := ri_isI) (i := 4) (n := 2) rfl (e := (.istore 4, 2, [], .null)) rfl rfl (fun _ _ => rfl) rfl
            have k82_4 : ri_lk (ri_st1 (ri_st1 lo 6 (.int 1)) 4 (.int (oo ||| 1))) 4 = some (.int (oo ||| 1)) := eh_self
            have k82_0 : ri_lk (ri_st1 (ri_st1 lo 6 (.int 1)) 4 (.int (oo ||| 1))) 0 = some (.ref 17) := eh_keep (by decide) (Or.inl rfl) k80_0
            have k82_1 : ri_lk (ri_st1 (ri_st1 lo 6 (.int 1)) 4 (.int (oo ||| 1))) 1 = some (.ref 23) := eh_keep (by decide) (Or.inl rfl) k80_1
            have k82_2 : ri_lk (ri_st1 (ri_st1 lo 6 (.int 1)) 4 (.int (oo ||| 1))) 2 = some (.int dp) := eh_keep (by decide) (Or.inl rfl) k80_2
            have k82_3 : ri_lk (ri_st1 (ri_st1 lo 6 (.int 1)) 4 (.int (oo ||| 1))) 3 = some (.int re) := eh_keep (by decide) (Or.inl rfl) k80_3
            have k82_5 : ri_lk (ri_st1 (ri_st1 lo 6 (.int 1)) 4 (.int (oo ||| 1))) 5 = some (.int i) := eh_keep (by decide) (Or.inl rfl) k80_5
            have k82_6 : ri_lk (ri_st1 (ri_st1 lo 6 (.int 1)) 4 (.int (oo ||| 1))) 6 = some (.int 1) := eh_keep (by decide) (Or.inl rfl) k80_6
            have E := E.ld (p := 88) (t := ri_isA) (i := 0) (n := 1) (v := .ref 17) rfl (e := (.aload_n 0, 1, [], .null)) rfl rfl (fun _ _ => rfl) k82_0 rfl
            have E := E.gr (n := 2) (p := 91) rfl (x := 18) (m := 3) (w := .null) (t := 10) (i := 0) (u := 366) rfl rfl hV78 (iv.1) rfl
            obtain ⟨v1, h83, X, E⟩ := E.cv (p := 94) (as := []) (b := 2) (r := []) rfl (x := 49) (m := 3) (w := .null) (j := 74) (n := 0) (t := 8) (u := [1144, 648, 647]) rfl rfl rfl
            obtain ⟨rfl, ivk84, hNk84⟩ := ts_74 (d := d) X (by rw [hV78]; exact iv)
            have Xk84 := X
            have E : eh_e _ _ 94 (ri_st1 (ri_st1 lo 6 (.int 1)) 4 (.int (oo ||| 1))) [] h83 rs h' := E
            have E := E.ld (p := 95) (t := ri_isA) (i := 0) (n := 1) (v := .ref 17) rfl (e := (.aload_n 0, 1, [], .null)) rfl rfl (fun _ _ => rfl) k82_0 rfl
            have E := E.ld (p := 96) (t := ri_isA) (i := 1) (n := 1) (v := .ref 23) rfl (e := (.aload_n 1, 1, [], .null)) rfl rfl (fun _ _ => rfl) k82_1 rfl
            have E := E.ld (p := 97) (t := ri_isI) (i := 2) (n := 1) (v := .int dp) rfl (e := (.iload_n 2, 1, [], .null)) rfl rfl (fun _ _ => rfl) k82_2 rfl
            obtain ⟨v1, h85, X, E⟩ := E.cv (p := 100) (as := [.ref 23, .int dp]) (b := 17) (r := []) rfl (x := 39) (m := 3) (w := .null) (j := 97) (n := 2) (t := 10) (u := [1138, 26, 1140]) rfl rfl rfl
            exact Or.inr (Or.inr (Or.inr (Or.inr (Or.inr (Or.inr (Or.inr (Or.inr (Or.inr (Or.inl ⟨h68, h83, c1, c5, c17, c18, c81, hV78, Xk84, ivk84, _, _, _, _, (rfl : eh_V h83 = eh_V h83), (hNk84.trans (hN79.trans hN20)), ivk84, X, E, k82_0, k82_1, k82_2, k82_3, k82_4, k82_5, k82_6⟩)))))))))
          · skip
            have E := E.ld (p := 70) (t := ri_isA) (i := 0) (n := 1) (v := .ref 17) rfl (e := (.aload_n 0, 1, [], .null)) rfl rfl (fun _ _ => rfl) k80_0 rfl
            have E := E.gr (n := 18) (p := 73) rfl (x := 12) (m := 3) (w := .null) (t := 10) (i := 1) (u := 367) rfl rfl hV78 (iv.1) rfl
            have E := E.pu (p := 75) (lo' := (ri_st1 lo 6 (.int 1))) (st' := [.int 13, .ref 18]) rfl (e := (.bipush 13, 2, [], .null)) rfl rfl (fun _ _ => rfl)
            have E := E.pu (p := 76) (lo' := (ri_st1 lo 6 (.int 1))) (st' := [.int (-1), .int 13, .ref 18]) rfl (e := (.iconst (-1), 1, [], .null)) rfl rfl (fun _ _ => rfl)
            have E := E.pu (p := 77) (lo' := (ri_st1 lo 6 (.int 1))) (st' := [.int (-1), .int (-1), .int 13, .ref 18]) rfl (e := (.iconst (-1), 1, [], .null)) rfl rfl (fun _ _ => rfl)
            obtain ⟨v1, h86, X, E⟩ := E.cv (p := 80) (as := [.int 13, .int (-1), .int (-1)]) (b := 18) (r := []) rfl (x := 45) (m := 3) (w := .null) (j := 88) (n := 3) (t := 9) (u := [1146, 1148, 1147]) rfl rfl rfl
            obtain ⟨rfl, ivk87, hNk87⟩ := ts_88 (d := d + 1) X (by rw [hV78]; exact iv)
            have Xk87 := X
            have E : eh_e _ _ 80 (ri_st1 lo 6 (.int 1)) [] h86 rs h' := E
            have E := E.ld (p := 82) (t := ri_isI) (i := 4) (n := 2) (v := .int oo) rfl (e := (.iload 4, 2, [], .null)) rfl rfl (fun _ _ => rfl) k80_4 rfl
            have E := E.ld (p := 84) (t := ri_isI) (i := 6) (n := 2) (v := .int 1) rfl (e := (.iload 6, 2, [], .null)) rfl rfl (fun _ _ => rfl) k80_6 rfl
            have E := E.pu (p := 85) (lo' := (ri_st1 lo 6 (.int 1))) (st' := [.int (oo ||| 1)]) rfl (e := (.ior, 1, [], .null)) rfl rfl (fun _ _ => rfl)
            have E := E.so (p := 87) (t := ri_isI) (i := 4) (n := 2) rfl (e := (.istore 4, 2, [], .null)) rfl rfl (fun _ _ => rfl) rfl
            have k88_4 : ri_lk (ri_st1 (ri_st1 lo 6 (.int 1)) 4 (.int (oo ||| 1))) 4 = some (.int (oo ||| 1)) := eh_self
            have k88_0 : ri_lk (ri_st1 (ri_st1 lo 6 (.int 1)) 4 (.int (oo ||| 1))) 0 = some (.ref 17) := eh_keep (by decide) (Or.inl rfl) k80_0
            have k88_1 : ri_lk (ri_st1 (ri_st1 lo 6 (.int 1)) 4 (.int (oo ||| 1))) 1 = some (.ref 23) := eh_keep (by decide) (Or.inl rfl) k80_1
            have k88_2 : ri_lk (ri_st1 (ri_st1 lo 6 (.int 1)) 4 (.int (oo ||| 1))) 2 = some (.int dp) := eh_keep (by decide) (Or.inl rfl) k80_2
            have k88_3 : ri_lk (ri_st1 (ri_st1 lo 6 (.int 1)) 4 (.int (oo ||| 1))) 3 = some (.int re) := eh_keep (by decide) (Or.inl rfl) k80_3
            have k88_5 : ri_lk (ri_st1 (ri_st1 lo 6 (.int 1)) 4 (.int (oo ||| 1))) 5 = some (.int i) := eh_keep (by decide) (Or.inl rfl) k80_5
            have k88_6 : ri_lk (ri_st1 (ri_st1 lo 6 (.int 1)) 4 (.int (oo ||| 1))) 6 = some (.int 1) := eh_keep (by decide) (Or.inl rfl) k80_6
            have E := E.ld (p := 88) (t := ri_isA) (i := 0) (n := 1) (v := .ref 17) rfl (e := (.aload_n 0, 1, [], .null)) rfl rfl (fun _ _ => rfl) k88_0 rfl
            have E := E.gr (n := 2) (p := 91) rfl (x := 18) (m := 3) (w := .null) (t := 10) (i := 0) (u := 366) rfl rfl (rfl : eh_V h86 = eh_V h86) ivk87.1 rfl
            obtain ⟨v1, h89, X, E⟩ := E.cv (p := 94) (as := []) (b := 2) (r := []) rfl (x := 49) (m := 3) (w := .null) (j := 74) (n := 0) (t := 8) (u := [1144, 648, 647]) rfl rfl rfl
            obtain ⟨rfl, ivk90, hNk90⟩ := ts_74 (d := d) X (by rw [(rfl : eh_V h86 = eh_V h86)]; exact ivk87)
            have Xk90 := X
            have E : eh_e _ _ 94 (ri_st1 (ri_st1 lo 6 (.int 1)) 4 (.int (oo ||| 1))) [] h89 rs h' := E
            have E := E.ld (p := 95) (t := ri_isA) (i := 0) (n := 1) (v := .ref 17) rfl (e := (.aload_n 0, 1, [], .null)) rfl rfl (fun _ _ => rfl) k88_0 rfl
            have E := E.ld (p := 96) (t := ri_isA) (i := 1) (n := 1) (v := .ref 23) rfl (e := (.aload_n 1, 1, [], .null)) rfl rfl (fun _ _ => rfl) k88_1 rfl
            have E := E.ld (p := 97) (t := ri_isI) (i := 2) (n := 1) (v := .int dp) rfl (e := (.iload_n 2, 1, [], .null)) rfl rfl (fun _ _ => rfl) k88_2 rfl
            obtain ⟨v1, h91, X, E⟩ := E.cv (p := 100) (as := [.ref 23, .int dp]) (b := 17) (r := []) rfl (x := 39) (m := 3) (w := .null) (j := 97) (n := 2) (t := 10) (u := [1138, 26, 1140]) rfl rfl rfl
            exact Or.inr (Or.inr (Or.inr (Or.inr (Or.inr (Or.inr (Or.inr (Or.inr (Or.inr (Or.inr (⟨h68, h86, h89, c1, c5, c17, c18, c81, hV78, Xk87, ivk87, Xk90, ivk90, _, _, _, _, (rfl : eh_V h89 = eh_V h89), (hNk90.trans (hNk87.trans (hN79.trans hN20))), ivk90, X, E, k88_0, k88_1, k88_2, k88_3, k88_4, k88_5, k88_6⟩))))))))))
theorem zc_c {d : Nat} {lo : List (Nat × Value)} {h h' : ri_H} {rs : List Value} {G : eh_W} {x dp re oo i o : Int32} {b : Nat → Int32} {n m : Nat} (E : eh_e (ri_calE ri_md (d + 1)) md_96 100 lo [.int x] h rs h') (hV : eh_V h = G) (iv : iS b n m G) (l0 : ri_lk lo 0 = some (.ref 17)) (l1 : ri_lk lo 1 = some (.ref 23)) (l2 : ri_lk lo 2 = some (.int dp)) (l3 : ri_lk lo 3 = some (.int re)) (l4 : ri_lk lo 4 = some (.int oo)) (l5 : ri_lk lo 5 = some (.int i)) (l6 : ri_lk lo 6 = some (.int o)) : (¬ (o = 0) ∧ ∃ hz loz, eh_e (ri_calE ri_md (d + 1)) md_96 13 loz [] hz rs h' ∧ eh_V hz = G ∧ eh_N hz = eh_N h ∧ iS b n m G ∧ ri_lk loz 0 = some (.ref 17) ∧ ri_lk loz 1 = some (.ref 23) ∧ ri_lk loz 2 = some (.int dp) ∧ ri_lk loz 3 = some (.int x) ∧ ri_lk loz 4 = some (.int oo) ∧ ri_lk loz 5 = some (.int (i + 1)) ∧ ri_lk loz 6 = some (.int o)) ∨ (∃ (h4 : ri_H), o = 0 ∧ ri_calE ri_md (d + 1) 88 [.ref 18, .int 14, .int (-1), .int (-1)] h = some (none, h4) ∧ iS b n m (eh_V h4) ∧ ∃ hz loz, eh_e (ri_calE ri_md (d + 1)) md_96 13 loz [] hz rs h' ∧ eh_V hz = (eh_V h4) ∧ eh_N hz = eh_N h ∧ iS b n m (eh_V h4) ∧ ri_lk loz 0 = some (.ref 17) ∧ ri_lk loz 1 = some (.ref 23) ∧ ri_lk loz 2 = some (.int dp) ∧ ri_lk loz 3 = some (.int x) ∧ ri_lk loz 4 = some (.int oo) ∧ ri_lk loz 5 = some (.int (i + 1)) ∧ ri_lk loz 6 = some (.int o)) := by
  have E := E.so (p := 101) (t := ri_isI) (i := 3) (n := 1) rfl (e := (.istore_n 3, 1, [], .null)) rfl rfl (fun _ _ => rfl) rfl
  have k1_3 : ri_lk (ri_st1 lo 3 (.int x)) 3 = some (.int x) := eh_self
  have k1_0 : ri_lk (ri_st1 lo 3 (.int x)) 0 = some (.ref 17) := eh_keep (by decide) (Or.inl rfl) l0
  have k1_1 : ri_lk (ri_st1 lo 3 (.int x)) 1 = some (.ref 23) := eh_keep (by decide) (Or.inl rfl) l1
  have k1_2 : ri_lk (ri_st1 lo 3 (.int x)) 2 = some (.int dp) := eh_keep (by decide) (Or.inl rfl) l2
  have k1_4 : ri_lk (ri_st1 lo 3 (.int x)) 4 = some (.int oo) := eh_keep (by decide) (Or.inl rfl) l4
  have k1_5 : ri_lk (ri_st1 lo 3 (.int x)) 5 = some (.int i) := eh_keep (by decide) (Or.inl rfl) l5
  have k1_6 : ri_lk (ri_st1 lo 3 (.int x)) 6 = some (.int o) := eh_keep (by decide) (Or.inl rfl) l6
  have E := E.ld (p := 103) (t := ri_isI) (i := 6) (n := 2) (v := .int o) rfl (e := (.iload 6, 2, [], .null)) rfl rfl (fun _ _ => rfl) k1_6 rfl
  rcases eh_q1 (E.br (p := 106) (c := 1) (tgt := 117) (a := o) (b := 0) (st' := []) rfl (e := (.ifCond .ne 14, 3, [117], .null)) rfl rfl (fun _ _ => rfl) rfl) with ⟨c2, E⟩ | ⟨c2, E⟩
  · skip
    have E := E.ii (p := 120) (y := i + 1) rfl (i := 5) (n := 1) (m := 3) (ax := []) (w := .null) rfl k1_5 rfl rfl
    have k3_5 : ri_lk (ri_st1 (ri_st1 lo 3 (.int x)) 5 (.int (i + 1))) 5 = some (.int (i + 1)) := eh_self
    have k3_0 : ri_lk (ri_st1 (ri_st1 lo 3 (.int x)) 5 (.int (i + 1))) 0 = some (.ref 17) := eh_keep (by decide) (Or.inl rfl) k1_0
    have k3_1 : ri_lk (ri_st1 (ri_st1 lo 3 (.int x)) 5 (.int (i + 1))) 1 = some (.ref 23) := eh_keep (by decide) (Or.inl rfl) k1_1
    have k3_2 : ri_lk (ri_st1 (ri_st1 lo 3 (.int x)) 5 (.int (i + 1))) 2 = some (.int dp) := eh_keep (by decide) (Or.inl rfl) k1_2
    have k3_3 : ri_lk (ri_st1 (ri_st1 lo 3 (.int x)) 5 (.int (i + 1))) 3 = some (.int x) := eh_keep (by decide) (Or.inl rfl) k1_3
    have k3_4 : ri_lk (ri_st1 (ri_st1 lo 3 (.int x)) 5 (.int (i + 1))) 4 = some (.int oo) := eh_keep (by decide) (Or.inl rfl) k1_4
    have k3_6 : ri_lk (ri_st1 (ri_st1 lo 3 (.int x)) 5 (.int (i + 1))) 6 = some (.int o) := eh_keep (by decide) (Or.inl rfl) k1_6
    have E := E.pu (p := 13) (lo' := (ri_st1 (ri_st1 lo 3 (.int x)) 5 (.int (i + 1)))) (st' := []) rfl (e := (.goto (-107), 3, [13], .null)) rfl rfl (fun _ _ => rfl)
    exact Or.inl ⟨c2, _, _, E, hV, rfl, iv, k3_0, k3_1, k3_2, k3_3, k3_4, k3_5, k3_6⟩
  · skip
    have E := E.ld (p := 107) (t := ri_isA) (i := 0) (n := 1) (v := .ref 17) rfl (e := (.aload_n 0, 1, [], .null)) rfl rfl (fun _ _ => rfl) k1_0 rfl
    have E := E.gr (n := 18) (p := 110) rfl (x := 12) (m := 3) (w := .null) (t := 10) (i := 1) (u := 367) rfl rfl hV (iv.1) rfl
    have E := E.pu (p := 112) (lo' := (ri_st1 lo 3 (.int x))) (st' := [.int 14, .ref 18]) rfl (e := (.bipush 14, 2, [], .null)) rfl rfl (fun _ _ => rfl)
    have E := E.pu (p := 113) (lo' := (ri_st1 lo 3 (.int x))) (st' := [.int (-1), .int 14, .ref 18]) rfl (e := (.iconst (-1), 1, [], .null)) rfl rfl (fun _ _ => rfl)
    have E := E.pu (p := 114) (lo' := (ri_st1 lo 3 (.int x))) (st' := [.int (-1), .int (-1), .int 14, .ref 18]) rfl (e := (.iconst (-1), 1, [], .null)) rfl rfl (fun _ _ => rfl)
    obtain ⟨v1, h4, X, E⟩ := E.cv (p := 117) (as := [.int 14, .int (-1), .int (-1)]) (b := 18) (r := []) rfl (x := 45) (m := 3) (w := .null) (j := 88) (n := 3) (t := 9) (u := [1146, 1148, 1147]) rfl rfl rfl
    obtain ⟨rfl, ivk5, hNk5⟩ := ts_88 (d := d) X (by rw [hV]; exact iv)
    have Xk5 := X
    have E : eh_e _ _ 117 (ri_st1 lo 3 (.int x)) [] h4 rs h' := E
    have E := E.ii (p := 120) (y := i + 1) rfl (i := 5) (n := 1) (m := 3) (ax := []) (w := .null) rfl k1_5 rfl rfl
    have k6_5 : ri_lk (ri_st1 (ri_st1 lo 3 (.int x)) 5 (.int (i + 1))) 5 = some (.int (i + 1)) := eh_self
    have k6_0 : ri_lk (ri_st1 (ri_st1 lo 3 (.int x)) 5 (.int (i + 1))) 0 = some (.ref 17) := eh_keep (by decide) (Or.inl rfl) k1_0
    have k6_1 : ri_lk (ri_st1 (ri_st1 lo 3 (.int x)) 5 (.int (i + 1))) 1 = some (.ref 23) := eh_keep (by decide) (Or.inl rfl) k1_1
    have k6_2 : ri_lk (ri_st1 (ri_st1 lo 3 (.int x)) 5 (.int (i + 1))) 2 = some (.int dp) := eh_keep (by decide) (Or.inl rfl) k1_2
    have k6_3 : ri_lk (ri_st1 (ri_st1 lo 3 (.int x)) 5 (.int (i + 1))) 3 = some (.int x) := eh_keep (by decide) (Or.inl rfl) k1_3
    have k6_4 : ri_lk (ri_st1 (ri_st1 lo 3 (.int x)) 5 (.int (i + 1))) 4 = some (.int oo) := eh_keep (by decide) (Or.inl rfl) k1_4
    have k6_6 : ri_lk (ri_st1 (ri_st1 lo 3 (.int x)) 5 (.int (i + 1))) 6 = some (.int o) := eh_keep (by decide) (Or.inl rfl) k1_6
    have E := E.pu (p := 13) (lo' := (ri_st1 (ri_st1 lo 3 (.int x)) 5 (.int (i + 1)))) (st' := []) rfl (e := (.goto (-107), 3, [13], .null)) rfl rfl (fun _ _ => rfl)
    exact Or.inr (⟨h4, c2, Xk5, ivk5, _, _, E, (rfl : eh_V h4 = eh_V h4), hNk5, ivk5, k6_0, k6_1, k6_2, k6_3, k6_4, k6_5, k6_6⟩)
