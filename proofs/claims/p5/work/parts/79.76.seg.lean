theorem yjc_a {cal : eh_K} {lo : List (Nat × Value)} {h h' : ri_H} {rs : List Value} {G : eh_W} (E : eh_e cal md_20 0 lo [] h rs h') (hV : eh_V h = G) (ty : eh_ty tC G) (l0 : ri_lk lo 0 = some (.ref 203)) (l1 : ri_lk lo 1 = some (.ref 23)) : ∃ hz loz, eh_e cal md_20 4 loz [] hz rs h' ∧ eh_V hz = G ∧ eh_N hz = eh_N h ∧ eh_ty tC G ∧ ri_lk loz 0 = some (.ref 203) ∧ ri_lk loz 1 = some (.ref 23) ∧ ri_lk loz 2 = some (.int 0) ∧ ri_lk loz 3 = some (.int 0) := by
  have E := E.pu (p := 1) (lo' := lo) (st' := [.int 0]) rfl (e := (.iconst 0, 1, [], .null)) rfl rfl (fun _ _ => rfl)
  have E := E.so (p := 2) (t := ri_isI) (i := 2) (n := 1) rfl (e := (.istore_n 2, 1, [], .null)) rfl rfl (fun _ _ => rfl) rfl
  have k1_2 : ri_lk (ri_st1 lo 2 (.int 0)) 2 = some (.int 0) := eh_self
  have k1_0 : ri_lk (ri_st1 lo 2 (.int 0)) 0 = some (.ref 203) := eh_keep (by decide) (Or.inl rfl) l0
  have k1_1 : ri_lk (ri_st1 lo 2 (.int 0)) 1 = some (.ref 23) := eh_keep (by decide) (Or.inl rfl) l1
  have E := E.pu (p := 3) (lo' := (ri_st1 lo 2 (.int 0))) (st' := [.int 0]) rfl (e := (.iconst 0, 1, [], .null)) rfl rfl (fun _ _ => rfl)
  have E := E.so (p := 4) (t := ri_isI) (i := 3) (n := 1) rfl (e := (.istore_n 3, 1, [], .null)) rfl rfl (fun _ _ => rfl) rfl
  have k2_3 : ri_lk (ri_st1 (ri_st1 lo 2 (.int 0)) 3 (.int 0)) 3 = some (.int 0) := eh_self
  have k2_0 : ri_lk (ri_st1 (ri_st1 lo 2 (.int 0)) 3 (.int 0)) 0 = some (.ref 203) := eh_keep (by decide) (Or.inl rfl) k1_0
  have k2_1 : ri_lk (ri_st1 (ri_st1 lo 2 (.int 0)) 3 (.int 0)) 1 = some (.ref 23) := eh_keep (by decide) (Or.inl rfl) k1_1
  have k2_2 : ri_lk (ri_st1 (ri_st1 lo 2 (.int 0)) 3 (.int 0)) 2 = some (.int 0) := eh_keep (by decide) (Or.inl rfl) k1_2
  exact ⟨_, _, E, hV, rfl, ty, k2_0, k2_1, k2_2, k2_3⟩
theorem yjc_l {d : Nat} {lo : List (Nat × Value)} {h h' : ri_H} {rs : List Value} {G : eh_W} {c P w N : Nat} {ku sz : Nat → Nat} {ce hi : Nat → Nat → Nat} {ex : Nat → Bool} {mo k : Int32} (E : eh_e (ri_calE ri_md (d + 3)) md_20 4 lo [] h rs h') (hV : eh_V h = G) (ty : eh_ty tC G) (l0 : ri_lk lo 0 = some (.ref 203)) (l1 : ri_lk lo 1 = some (.ref 23)) (l2 : ri_lk lo 2 = some (.int mo)) (l3 : ri_lk lo 3 = some (.int k)) (D : k.toInt < (eh_i G 25 0).toInt → xU c P w N ku sz ce hi ex k G) : (¬ (k.toInt < (eh_i G 25 0).toInt) ∧ rs = [] ∧ eh_V h' = G ∧ eh_N h' = eh_N h) ∨ (∃ (x3 : Int32), ∃ (x4 : eh_W), k.toInt < (eh_i G 25 0).toInt ∧ x3 = nI (cn (fsT (fun s => ht_M c s P w ku sz ce hi) ex) N) ∧ eh_fr pGc G x4 ∧ eh_ty tC x4 ∧ ¬ (mo.toInt < x3.toInt) ∧ ∃ hz loz, eh_e (ri_calE ri_md (d + 3)) md_20 4 loz [] hz rs h' ∧ eh_V hz = x4 ∧ eh_N hz = eh_N h ∧ eh_ty tC x4 ∧ ri_lk loz 0 = some (.ref 203) ∧ ri_lk loz 1 = some (.ref 23) ∧ ri_lk loz 2 = some (.int mo) ∧ ri_lk loz 3 = some (.int (k + 1)) ∧ ri_lk loz 4 = some (.int x3)) ∨ (∃ (x3 : Int32), ∃ (x4 : eh_W), k.toInt < (eh_i G 25 0).toInt ∧ x3 = nI (cn (fsT (fun s => ht_M c s P w ku sz ce hi) ex) N) ∧ eh_fr pGc G x4 ∧ eh_ty tC x4 ∧ mo.toInt < x3.toInt ∧ ∃ hz loz, eh_e (ri_calE ri_md (d + 3)) md_20 4 loz [] hz rs h' ∧ eh_V hz = eh_u x4 203 2 (.int k) ∧ eh_N hz = eh_N h ∧ eh_ty tC (eh_u x4 203 2 (.int k)) ∧ ri_lk loz 0 = some (.ref 203) ∧ ri_lk loz 1 = some (.ref 23) ∧ ri_lk loz 2 = some (.int x3) ∧ ri_lk loz 3 = some (.int (k + 1)) ∧ ri_lk loz 4 = some (.int x3)) := by
  have E := E.ld (p := 5) (t := ri_isI) (i := 3) (n := 1) (v := .int k) rfl (e := (.iload_n 3, 1, [], .null)) rfl rfl (fun _ _ => rfl) l3 rfl
  have E := E.ld (p := 6) (t := ri_isA) (i := 1) (n := 1) (v := .ref 23) rfl (e := (.aload_n 1, 1, [], .null)) rfl rfl (fun _ _ => rfl) l1 rfl
  have E := E.gr (n := 25) (p := 9) rfl (x := 69) (m := 3) (w := .null) (t := 4) (i := 2) (u := 265) rfl rfl hV ty rfl
  have E := E.pu (p := 10) (lo' := lo) (st' := [.int 0, .ref 25, .int k]) rfl (e := (.iconst 0, 1, [], .null)) rfl rfl (fun _ _ => rfl)
  have E := E.ai (p := 11) (z := eh_i G 25 0) (n := 0) rfl (e := (.iaload, 1, [], .null)) rfl rfl (fun _ _ => rfl) rfl hV ty (by decide) rfl rfl
  rcases eh_r3 rfl rfl (E.br (p := 14) (c := 3) (tgt := 42) (a := k) (b := eh_i G 25 0) (st' := []) rfl (e := (.if_icmp .ge 31, 3, [42], .null)) rfl rfl (fun _ _ => rfl) rfl) with ⟨c1, E⟩ | ⟨c1, E⟩
  · skip
    obtain ⟨r1, r2⟩ := E.retv rfl (m := 1) (ax := []) (w := .null) rfl
    exact Or.inl ⟨c1, r1, ((congrArg eh_V r2).trans hV), (congrArg eh_N r2)⟩
  · skip
    have E := E.ld (p := 15) (t := ri_isA) (i := 0) (n := 1) (v := .ref 203) rfl (e := (.aload_n 0, 1, [], .null)) rfl rfl (fun _ _ => rfl) l0 rfl
    have E := E.ld (p := 16) (t := ri_isA) (i := 1) (n := 1) (v := .ref 23) rfl (e := (.aload_n 1, 1, [], .null)) rfl rfl (fun _ _ => rfl) l1 rfl
    have E := E.ld (p := 17) (t := ri_isI) (i := 3) (n := 1) (v := .int k) rfl (e := (.iload_n 3, 1, [], .null)) rfl rfl (fun _ _ => rfl) l3 rfl
    obtain ⟨v1, h2, X, E⟩ := E.cv (p := 20) (as := [.ref 23, .int k]) (b := 203) (r := []) rfl (x := 80) (m := 3) (w := .null) (j := 21) (n := 2) (t := 2) (u := [960, 18, 962]) rfl rfl rfl
    rcases ycu_21 (d := d) X hV ty (D c1) with ⟨x3, x4, c5, c6, c7, rfl, hV8, hN9⟩
    have c5 : x3 = nI (cn (fsT (fun s => ht_M c s P w ku sz ce hi) ex) N) := c5
    have c6 : eh_fr pGc G x4 := c6
    have c7 : eh_ty tC x4 := c7
    have hV8 : _ = x4 := hV8
    have E : eh_e _ _ 20 lo [.int x3] _ rs h' := E
    have E := E.so (p := 22) (t := ri_isI) (i := 4) (n := 2) rfl (e := (.istore 4, 2, [], .null)) rfl rfl (fun _ _ => rfl) rfl
    have k10_4 : ri_lk (ri_st1 lo 4 (.int x3)) 4 = some (.int x3) := eh_self
    have k10_0 : ri_lk (ri_st1 lo 4 (.int x3)) 0 = some (.ref 203) := eh_keep (by decide) (Or.inl rfl) l0
    have k10_1 : ri_lk (ri_st1 lo 4 (.int x3)) 1 = some (.ref 23) := eh_keep (by decide) (Or.inl rfl) l1
    have k10_2 : ri_lk (ri_st1 lo 4 (.int x3)) 2 = some (.int mo) := eh_keep (by decide) (Or.inl rfl) l2
    have k10_3 : ri_lk (ri_st1 lo 4 (.int x3)) 3 = some (.int k) := eh_keep (by decide) (Or.inl rfl) l3
    have E := E.ld (p := 24) (t := ri_isI) (i := 4) (n := 2) (v := .int x3) rfl (e := (.iload 4, 2, [], .null)) rfl rfl (fun _ _ => rfl) k10_4 rfl
    have E := E.ld (p := 25) (t := ri_isI) (i := 2) (n := 1) (v := .int mo) rfl (e := (.iload_n 2, 1, [], .null)) rfl rfl (fun _ _ => rfl) k10_2 rfl
    rcases eh_r5 rfl rfl (E.br (p := 28) (c := 5) (tgt := 36) (a := x3) (b := mo) (st' := []) rfl (e := (.if_icmp .le 11, 3, [36], .null)) rfl rfl (fun _ _ => rfl) rfl) with ⟨c11, E⟩ | ⟨c11, E⟩
    · skip
      have E := E.ii (p := 39) (y := k + 1) rfl (i := 3) (n := 1) (m := 3) (ax := []) (w := .null) rfl k10_3 rfl rfl
      have k12_3 : ri_lk (ri_st1 (ri_st1 lo 4 (.int x3)) 3 (.int (k + 1))) 3 = some (.int (k + 1)) := eh_self
      have k12_0 : ri_lk (ri_st1 (ri_st1 lo 4 (.int x3)) 3 (.int (k + 1))) 0 = some (.ref 203) := eh_keep (by decide) (Or.inl rfl) k10_0
      have k12_1 : ri_lk (ri_st1 (ri_st1 lo 4 (.int x3)) 3 (.int (k + 1))) 1 = some (.ref 23) := eh_keep (by decide) (Or.inl rfl) k10_1
      have k12_2 : ri_lk (ri_st1 (ri_st1 lo 4 (.int x3)) 3 (.int (k + 1))) 2 = some (.int mo) := eh_keep (by decide) (Or.inl rfl) k10_2
      have k12_4 : ri_lk (ri_st1 (ri_st1 lo 4 (.int x3)) 3 (.int (k + 1))) 4 = some (.int x3) := eh_keep (by decide) (Or.inl rfl) k10_4
      have E := E.pu (p := 4) (lo' := (ri_st1 (ri_st1 lo 4 (.int x3)) 3 (.int (k + 1)))) (st' := []) rfl (e := (.goto (-35), 3, [4], .null)) rfl rfl (fun _ _ => rfl)
      exact Or.inr (Or.inl ⟨x3, x4, c1, c5, c6, c7, c11, _, _, E, hV8, hN9, c7, k12_0, k12_1, k12_2, k12_3, k12_4⟩)
    · skip
      have E := E.ld (p := 30) (t := ri_isI) (i := 4) (n := 2) (v := .int x3) rfl (e := (.iload 4, 2, [], .null)) rfl rfl (fun _ _ => rfl) k10_4 rfl
      have E := E.so (p := 31) (t := ri_isI) (i := 2) (n := 1) rfl (e := (.istore_n 2, 1, [], .null)) rfl rfl (fun _ _ => rfl) rfl
      have k13_2 : ri_lk (ri_st1 (ri_st1 lo 4 (.int x3)) 2 (.int x3)) 2 = some (.int x3) := eh_self
      have k13_0 : ri_lk (ri_st1 (ri_st1 lo 4 (.int x3)) 2 (.int x3)) 0 = some (.ref 203) := eh_keep (by decide) (Or.inl rfl) k10_0
      have k13_1 : ri_lk (ri_st1 (ri_st1 lo 4 (.int x3)) 2 (.int x3)) 1 = some (.ref 23) := eh_keep (by decide) (Or.inl rfl) k10_1
      have k13_3 : ri_lk (ri_st1 (ri_st1 lo 4 (.int x3)) 2 (.int x3)) 3 = some (.int k) := eh_keep (by decide) (Or.inl rfl) k10_3
      have k13_4 : ri_lk (ri_st1 (ri_st1 lo 4 (.int x3)) 2 (.int x3)) 4 = some (.int x3) := eh_keep (by decide) (Or.inl rfl) k10_4
      have E := E.ld (p := 32) (t := ri_isA) (i := 0) (n := 1) (v := .ref 203) rfl (e := (.aload_n 0, 1, [], .null)) rfl rfl (fun _ _ => rfl) k13_0 rfl
      have E := E.ld (p := 33) (t := ri_isI) (i := 3) (n := 1) (v := .int k) rfl (e := (.iload_n 3, 1, [], .null)) rfl rfl (fun _ _ => rfl) k13_3 rfl
      obtain ⟨h14, hV15, hN16, E⟩ := E.gp (p := 36) rfl (x := 18) (m := 3) (w := .null) (t := 2) (i := 2) (u := 533) (y := 0) rfl rfl hV8
      have E := E.ii (p := 39) (y := k + 1) rfl (i := 3) (n := 1) (m := 3) (ax := []) (w := .null) rfl k13_3 rfl rfl
      have k17_3 : ri_lk (ri_st1 (ri_st1 (ri_st1 lo 4 (.int x3)) 2 (.int x3)) 3 (.int (k + 1))) 3 = some (.int (k + 1)) := eh_self
      have k17_0 : ri_lk (ri_st1 (ri_st1 (ri_st1 lo 4 (.int x3)) 2 (.int x3)) 3 (.int (k + 1))) 0 = some (.ref 203) := eh_keep (by decide) (Or.inl rfl) k13_0
      have k17_1 : ri_lk (ri_st1 (ri_st1 (ri_st1 lo 4 (.int x3)) 2 (.int x3)) 3 (.int (k + 1))) 1 = some (.ref 23) := eh_keep (by decide) (Or.inl rfl) k13_1
      have k17_2 : ri_lk (ri_st1 (ri_st1 (ri_st1 lo 4 (.int x3)) 2 (.int x3)) 3 (.int (k + 1))) 2 = some (.int x3) := eh_keep (by decide) (Or.inl rfl) k13_2
      have k17_4 : ri_lk (ri_st1 (ri_st1 (ri_st1 lo 4 (.int x3)) 2 (.int x3)) 3 (.int (k + 1))) 4 = some (.int x3) := eh_keep (by decide) (Or.inl rfl) k13_4
      have E := E.pu (p := 4) (lo' := (ri_st1 (ri_st1 (ri_st1 lo 4 (.int x3)) 2 (.int x3)) 3 (.int (k + 1)))) (st' := []) rfl (e := (.goto (-35), 3, [4], .null)) rfl rfl (fun _ _ => rfl)
      exact Or.inr (Or.inr (⟨x3, x4, c1, c5, c6, c7, c11, _, _, E, hV15, (hN16.trans hN9), (c7.ui rfl), k17_0, k17_1, k17_2, k17_3, k17_4⟩))
theorem yjd_a {cal : eh_K} {lo : List (Nat × Value)} {h h' : ri_H} {rs : List Value} {G : eh_W} {n : Int32} (E : eh_e cal md_15 0 lo [] h rs h') (hV : eh_V h = G) (ty : eh_ty tC G) (l0 : ri_lk lo 0 = some (.ref 203)) (l1 : ri_lk lo 1 = some (.ref 23)) (l2 : ri_lk lo 2 = some (.ref 1)) (l3 : ri_lk lo 3 = some (.int n)) : ∃ h1 loz v1 hz, eh_V h1 = G ∧ eh_N h1 = eh_N h ∧ eh_ty tC G ∧ cal 16 [.ref 203, .ref 23, .ref 1, .int n] h1 = some (v1, hz) ∧ eh_e cal md_15 7 loz (v1.toList ++ []) hz rs h' ∧ ri_lk loz 0 = some (.ref 203) ∧ ri_lk loz 1 = some (.ref 23) ∧ ri_lk loz 2 = some (.ref 1) ∧ ri_lk loz 3 = some (.int n) := by
  have E := E.ld (p := 1) (t := ri_isA) (i := 0) (n := 1) (v := .ref 203) rfl (e := (.aload_n 0, 1, [], .null)) rfl rfl (fun _ _ => rfl) l0 rfl
  have E := E.ld (p := 2) (t := ri_isA) (i := 1) (n := 1) (v := .ref 23) rfl (e := (.aload_n 1, 1, [], .null)) rfl rfl (fun _ _ => rfl) l1 rfl
  have E := E.ld (p := 3) (t := ri_isA) (i := 2) (n := 1) (v := .ref 1) rfl (e := (.aload_n 2, 1, [], .null)) rfl rfl (fun _ _ => rfl) l2 rfl
  have E := E.ld (p := 4) (t := ri_isI) (i := 3) (n := 1) (v := .int n) rfl (e := (.iload_n 3, 1, [], .null)) rfl rfl (fun _ _ => rfl) l3 rfl
  obtain ⟨v1, h1, X, E⟩ := E.cv (p := 7) (as := [.ref 23, .ref 1, .int n]) (b := 203) (r := []) rfl (x := 38) (m := 3) (w := .null) (j := 16) (n := 3) (t := 2) (u := [930, 13, 932]) rfl rfl rfl
  exact ⟨_, _, _, _, hV, rfl, ty, X, E, l0, l1, l2, l3⟩
theorem yjd_b {cal : eh_K} {lo : List (Nat × Value)} {h h' : ri_H} {rs : List Value} {G : eh_W} {x n : Int32} (E : eh_e cal md_15 7 lo [.int x] h rs h') (hV : eh_V h = G) (ty : eh_ty tC G) (l0 : ri_lk lo 0 = some (.ref 203)) (l1 : ri_lk lo 1 = some (.ref 23)) (l2 : ri_lk lo 2 = some (.ref 1)) (l3 : ri_lk lo 3 = some (.int n)) : (¬ (x = 0) ∧ ∃ h1 loz v1 hz, eh_V h1 = G ∧ eh_N h1 = eh_N h ∧ eh_ty tC G ∧ cal 17 [.ref 203, .ref 23] h1 = some (v1, hz) ∧ eh_e cal md_15 17 loz (v1.toList ++ []) hz rs h' ∧ ri_lk loz 0 = some (.ref 203) ∧ ri_lk loz 1 = some (.ref 23) ∧ ri_lk loz 2 = some (.ref 1) ∧ ri_lk loz 3 = some (.int n)) ∨ (x = 0 ∧ rs = [.int (-1)] ∧ eh_V h' = G ∧ eh_N h' = eh_N h) := by
  rcases eh_q1 (E.br (p := 10) (c := 1) (tgt := 12) (a := x) (b := 0) (st' := []) rfl (e := (.ifCond .ne 5, 3, [12], .null)) rfl rfl (fun _ _ => rfl) rfl) with ⟨c1, E⟩ | ⟨c1, E⟩
  · skip
    have E := E.ld (p := 13) (t := ri_isA) (i := 0) (n := 1) (v := .ref 203) rfl (e := (.aload_n 0, 1, [], .null)) rfl rfl (fun _ _ => rfl) l0 rfl
    have E := E.ld (p := 14) (t := ri_isA) (i := 1) (n := 1) (v := .ref 23) rfl (e := (.aload_n 1, 1, [], .null)) rfl rfl (fun _ _ => rfl) l1 rfl
    obtain ⟨v1, h2, X, E⟩ := E.cv (p := 17) (as := [.ref 23]) (b := 203) (r := []) rfl (x := 42) (m := 3) (w := .null) (j := 17) (n := 1) (t := 2) (u := [943, 14, 945]) rfl rfl rfl
    exact Or.inl ⟨c1, _, _, _, _, hV, rfl, ty, X, E, l0, l1, l2, l3⟩
  · skip
    have E := E.pu (p := 11) (lo' := lo) (st' := [.int (-1)]) rfl (e := (.iconst (-1), 1, [], .null)) rfl rfl (fun _ _ => rfl)
    obtain ⟨r1, r2⟩ := E.reti rfl (m := 1) (ax := []) (w := .null) rfl
    exact Or.inr (⟨c1, r1, ((congrArg eh_V r2).trans hV), (congrArg eh_N r2)⟩)
theorem yjd_c {cal : eh_K} {lo : List (Nat × Value)} {h h' : ri_H} {rs : List Value} {G : eh_W} {n : Int32} (E : eh_e cal md_15 17 lo [] h rs h') (hV : eh_V h = G) (ty : eh_ty tC G) (l0 : ri_lk lo 0 = some (.ref 203)) (l1 : ri_lk lo 1 = some (.ref 23)) (l2 : ri_lk lo 2 = some (.ref 1)) (l3 : ri_lk lo 3 = some (.int n)) : (¬ (0 < (eh_i G 203 6).toInt) ∧ rs = [.int (eh_i G 203 6)] ∧ eh_V h' = G ∧ eh_N h' = eh_N h) ∨ (0 < (eh_i G 203 6).toInt ∧ ∃ h1 loz v1 hz, eh_V h1 = G ∧ eh_N h1 = eh_N h ∧ eh_ty tC G ∧ cal 19 [.ref 203, .ref 23] h1 = some (v1, hz) ∧ eh_e cal md_15 29 loz (v1.toList ++ []) hz rs h' ∧ ri_lk loz 0 = some (.ref 203) ∧ ri_lk loz 1 = some (.ref 23) ∧ ri_lk loz 2 = some (.ref 1) ∧ ri_lk loz 3 = some (.int n)) := by
  have E := E.ld (p := 18) (t := ri_isA) (i := 0) (n := 1) (v := .ref 203) rfl (e := (.aload_n 0, 1, [], .null)) rfl rfl (fun _ _ => rfl) l0 rfl
  have E := E.gi (y := eh_i G 203 6) (p := 21) rfl (x := 32) (m := 3) (w := .null) (t := 2) (i := 6) (u := 538) rfl rfl hV ty rfl rfl
  rcases eh_r5 rfl (show (0 : Int32).toInt = 0 by decide) (E.br (p := 24) (c := 5) (tgt := 34) (a := eh_i G 203 6) (b := 0) (st' := []) rfl (e := (.ifCond .le 13, 3, [34], .null)) rfl rfl (fun _ _ => rfl) rfl) with ⟨c1, E⟩ | ⟨c1, E⟩
  · skip
    have E := E.ld (p := 35) (t := ri_isA) (i := 0) (n := 1) (v := .ref 203) rfl (e := (.aload_n 0, 1, [], .null)) rfl rfl (fun _ _ => rfl) l0 rfl
    have E := E.gi (y := eh_i G 203 6) (p := 38) rfl (x := 32) (m := 3) (w := .null) (t := 2) (i := 6) (u := 538) rfl rfl hV ty rfl rfl
    obtain ⟨r1, r2⟩ := E.reti rfl (m := 1) (ax := []) (w := .null) rfl
    exact Or.inl ⟨c1, r1, ((congrArg eh_V r2).trans hV), (congrArg eh_N r2)⟩
  · skip
    have E := E.ld (p := 25) (t := ri_isA) (i := 0) (n := 1) (v := .ref 203) rfl (e := (.aload_n 0, 1, [], .null)) rfl rfl (fun _ _ => rfl) l0 rfl
    have E := E.ld (p := 26) (t := ri_isA) (i := 1) (n := 1) (v := .ref 23) rfl (e := (.aload_n 1, 1, [], .null)) rfl rfl (fun _ _ => rfl) l1 rfl
    obtain ⟨v1, h2, X, E⟩ := E.cv (p := 29) (as := [.ref 23]) (b := 203) (r := []) rfl (x := 46) (m := 3) (w := .null) (j := 19) (n := 1) (t := 2) (u := [952, 16, 954]) rfl rfl rfl
    exact Or.inr (⟨c1, _, _, _, _, hV, rfl, ty, X, E, l0, l1, l2, l3⟩)
theorem yjd_d {cal : eh_K} {lo : List (Nat × Value)} {h h' : ri_H} {rs : List Value} {G : eh_W} {n : Int32} (E : eh_e cal md_15 29 lo [] h rs h') (hV : eh_V h = G) (ty : eh_ty tC G) (l0 : ri_lk lo 0 = some (.ref 203)) (l1 : ri_lk lo 1 = some (.ref 23)) (l2 : ri_lk lo 2 = some (.ref 1)) (l3 : ri_lk lo 3 = some (.int n)) : ∃ h1 loz v1 hz, eh_V h1 = G ∧ eh_N h1 = eh_N h ∧ eh_ty tC G ∧ cal 20 [.ref 203, .ref 23] h1 = some (v1, hz) ∧ eh_e cal md_15 34 loz (v1.toList ++ []) hz rs h' ∧ ri_lk loz 0 = some (.ref 203) ∧ ri_lk loz 1 = some (.ref 23) ∧ ri_lk loz 2 = some (.ref 1) ∧ ri_lk loz 3 = some (.int n) := by
  have E := E.ld (p := 30) (t := ri_isA) (i := 0) (n := 1) (v := .ref 203) rfl (e := (.aload_n 0, 1, [], .null)) rfl rfl (fun _ _ => rfl) l0 rfl
  have E := E.ld (p := 31) (t := ri_isA) (i := 1) (n := 1) (v := .ref 23) rfl (e := (.aload_n 1, 1, [], .null)) rfl rfl (fun _ _ => rfl) l1 rfl
  obtain ⟨v1, h1, X, E⟩ := E.cv (p := 34) (as := [.ref 23]) (b := 203) (r := []) rfl (x := 49) (m := 3) (w := .null) (j := 20) (n := 1) (t := 2) (u := [956, 17, 958]) rfl rfl rfl
  exact ⟨_, _, _, _, hV, rfl, ty, X, E, l0, l1, l2, l3⟩
theorem yjd_e {cal : eh_K} {lo : List (Nat × Value)} {h h' : ri_H} {rs : List Value} {G : eh_W} {n : Int32} (E : eh_e cal md_15 34 lo [] h rs h') (hV : eh_V h = G) (ty : eh_ty tC G) (l0 : ri_lk lo 0 = some (.ref 203)) (l1 : ri_lk lo 1 = some (.ref 23)) (l2 : ri_lk lo 2 = some (.ref 1)) (l3 : ri_lk lo 3 = some (.int n)) : rs = [.int (eh_i G 203 6)] ∧ eh_V h' = G ∧ eh_N h' = eh_N h := by
  have E := E.ld (p := 35) (t := ri_isA) (i := 0) (n := 1) (v := .ref 203) rfl (e := (.aload_n 0, 1, [], .null)) rfl rfl (fun _ _ => rfl) l0 rfl
  have E := E.gi (y := eh_i G 203 6) (p := 38) rfl (x := 32) (m := 3) (w := .null) (t := 2) (i := 6) (u := 538) rfl rfl hV ty rfl rfl
  obtain ⟨r1, r2⟩ := E.reti rfl (m := 1) (ax := []) (w := .null) rfl
  exact ⟨r1, ((congrArg eh_V r2).trans hV), (congrArg eh_N r2)⟩
theorem yle_c {d : Nat} {h h' : ri_H} {v : Option Value} {G : eh_W} (E : ri_calE ri_md (d + 1) 121 [.ref 0] h = some (v, h')) (hV : eh_V h = G) (ty : eh_ty tC G) : ∃ h1, eh_V h1 = eh_u G 0 1 (.int 0) ∧ eh_N h1 = eh_N h ∧ eh_ty tC (eh_u G 0 1 (.int 0)) ∧ ri_calE ri_md (d) 15 [.ref 203, .ref 23, .ref 1, .int (eh_i G 0 1)] h1 = some (v, h') := by
  obtain ⟨rs, hrs, E⟩ := eh_in E (q := md_121) rfl
  have E := E.ld (p := 1) (t := ri_isA) (i := 0) (n := 1) (v := .ref 0) rfl (e := (.aload_n 0, 1, [], .null)) rfl rfl (fun _ _ => rfl) rfl rfl
  have E := E.gi (y := eh_i G 0 1) (p := 4) rfl (x := 13) (m := 3) (w := .null) (t := 11) (i := 1) (u := 568) rfl rfl hV ty rfl rfl
  have E := E.so (p := 5) (t := ri_isI) (i := 1) (n := 1) rfl (e := (.istore_n 1, 1, [], .null)) rfl rfl (fun _ _ => rfl) rfl
  have k1_1 : ri_lk (ri_st1 (ri_as 0 [.ref 0]) 1 (.int (eh_i G 0 1))) 1 = some (.int (eh_i G 0 1)) := eh_self
  have k1_0 : ri_lk (ri_st1 (ri_as 0 [.ref 0]) 1 (.int (eh_i G 0 1))) 0 = some (.ref 0) := eh_keep (by decide) (Or.inl rfl) rfl
  have E := E.ld (p := 6) (t := ri_isA) (i := 0) (n := 1) (v := .ref 0) rfl (e := (.aload_n 0, 1, [], .null)) rfl rfl (fun _ _ => rfl) k1_0 rfl
  have E := E.pu (p := 7) (lo' := (ri_st1 (ri_as 0 [.ref 0]) 1 (.int (eh_i G 0 1)))) (st' := [.int 0, .ref 0]) rfl (e := (.iconst 0, 1, [], .null)) rfl rfl (fun _ _ => rfl)
  obtain ⟨h2, hV3, hN4, E⟩ := E.gp (p := 10) rfl (x := 13) (m := 3) (w := .null) (t := 11) (i := 1) (u := 568) (y := 0) rfl rfl hV
  have E := E.ld (p := 11) (t := ri_isA) (i := 0) (n := 1) (v := .ref 0) rfl (e := (.aload_n 0, 1, [], .null)) rfl rfl (fun _ _ => rfl) k1_0 rfl
  have E := E.gr (n := 203) (p := 14) rfl (x := 90) (m := 3) (w := .null) (t := 11) (i := 12) (u := 579) rfl rfl hV3 (ty.ui rfl) rfl
  have E := E.ld (p := 15) (t := ri_isA) (i := 0) (n := 1) (v := .ref 0) rfl (e := (.aload_n 0, 1, [], .null)) rfl rfl (fun _ _ => rfl) k1_0 rfl
  have E := E.gr (n := 23) (p := 18) rfl (x := 45) (m := 3) (w := .null) (t := 11) (i := 5) (u := 572) rfl rfl hV3 (ty.ui rfl) rfl
  have E := E.ld (p := 19) (t := ri_isA) (i := 0) (n := 1) (v := .ref 0) rfl (e := (.aload_n 0, 1, [], .null)) rfl rfl (fun _ _ => rfl) k1_0 rfl
  have E := E.gr (n := 1) (p := 22) rfl (x := 9) (m := 3) (w := .null) (t := 11) (i := 0) (u := 567) rfl rfl hV3 (ty.ui rfl) rfl
  have E := E.ld (p := 23) (t := ri_isI) (i := 1) (n := 1) (v := .int (eh_i G 0 1)) rfl (e := (.iload_n 1, 1, [], .null)) rfl rfl (fun _ _ => rfl) k1_1 rfl
  obtain ⟨v1, h5, X, E⟩ := E.cv (p := 26) (as := [.ref 23, .ref 1, .int (eh_i G 0 1)]) (b := 203) (r := []) rfl (x := 279) (m := 3) (w := .null) (j := 15) (n := 3) (t := 2) (u := [926, 928, 927]) rfl rfl rfl
  obtain ⟨r1, r2⟩ := E.rett rfl (m := 1) (ax := []) (w := .null) rfl
  have r3 : v1 = v := r1.symm.trans hrs
  subst r3
  subst r2
  exact ⟨_, hV3, hN4, (ty.ui rfl), X⟩
