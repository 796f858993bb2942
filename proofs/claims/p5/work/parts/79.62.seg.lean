theorem yli_a {cal : eh_K} {lo : List (Nat × Value)} {h h' : ri_H} {rs : List Value} {G : eh_W} {n : Int32} (E : eh_e cal md_16 0 lo [] h rs h') (hV : eh_V h = G) (ty : eh_ty tC G) (l0 : ri_lk lo 0 = some (.ref 203)) (l1 : ri_lk lo 1 = some (.ref 23)) (l2 : ri_lk lo 2 = some (.ref 1)) (l3 : ri_lk lo 3 = some (.int n)) (hl : (eh_N h).take 209 = NCl) : (n = 0 ∧ rs = [.int 0] ∧ eh_V h' = G ∧ eh_N h' = eh_N h) ∨ (¬ (n = 0) ∧ 940 < n.toInt ∧ rs = [.int 0] ∧ eh_V h' = G ∧ eh_N h' = eh_N h) ∨ (¬ (n = 0) ∧ ¬ (940 < n.toInt) ∧ ¬ (0 < (1 + (eh_i G 24 0)).toInt) ∧ rs = [.int 0] ∧ eh_V h' = G ∧ eh_N h' = eh_N h) ∨ (¬ (n = 0) ∧ ¬ (940 < n.toInt) ∧ 0 < (1 + (eh_i G 24 0)).toInt ∧ (n - n / (1 + (eh_i G 24 0)) * (1 + (eh_i G 24 0))) = 0 ∧ ∃ hz loz, eh_e cal md_16 42 loz [] hz rs h' ∧ eh_V hz = eh_u G 203 4 (.int 0) ∧ eh_N hz = eh_N h ∧ eh_ty tC (eh_u G 203 4 (.int 0)) ∧ ri_lk loz 0 = some (.ref 203) ∧ ri_lk loz 1 = some (.ref 23) ∧ ri_lk loz 2 = some (.ref 1) ∧ ri_lk loz 3 = some (.int n) ∧ ri_lk loz 4 = some (.int (1 + (eh_i G 24 0))) ∧ ri_lk loz 5 = some (.int 0)) ∨ (¬ (n = 0) ∧ ¬ (940 < n.toInt) ∧ 0 < (1 + (eh_i G 24 0)).toInt ∧ ¬ ((n - n / (1 + (eh_i G 24 0)) * (1 + (eh_i G 24 0))) = 0) ∧ rs = [.int 0] ∧ eh_V h' = G ∧ eh_N h' = eh_N h) := by
  have E := E.pu (p := 1) (lo' := lo) (st' := [.int 1]) rfl (e := (.iconst 1, 1, [], .null)) rfl rfl (fun _ _ => rfl)
  have E := E.ld (p := 2) (t := ri_isA) (i := 1) (n := 1) (v := .ref 23) rfl (e := (.aload_n 1, 1, [], .null)) rfl rfl (fun _ _ => rfl) l1 rfl
  have E := E.gr (n := 24) (p := 5) rfl (x := 52) (m := 3) (w := .null) (t := 4) (i := 0) (u := 255) rfl rfl hV ty rfl
  have E := E.pu (p := 6) (lo' := lo) (st' := [.int 0, .ref 24, .int 1]) rfl (e := (.iconst 0, 1, [], .null)) rfl rfl (fun _ _ => rfl)
  have E := E.ai (p := 7) (z := eh_i G 24 0) (n := 0) rfl (e := (.iaload, 1, [], .null)) rfl rfl (fun _ _ => rfl) rfl hV ty (by decide) rfl rfl
  have E := E.pu (p := 8) (lo' := lo) (st' := [.int (1 + (eh_i G 24 0))]) rfl (e := (.iadd, 1, [], .null)) rfl rfl (fun _ _ => rfl)
  have E := E.so (p := 10) (t := ri_isI) (i := 4) (n := 2) rfl (e := (.istore 4, 2, [], .null)) rfl rfl (fun _ _ => rfl) rfl
  have k1_4 : ri_lk (ri_st1 lo 4 (.int (1 + (eh_i G 24 0)))) 4 = some (.int (1 + (eh_i G 24 0))) := eh_self
  have k1_0 : ri_lk (ri_st1 lo 4 (.int (1 + (eh_i G 24 0)))) 0 = some (.ref 203) := eh_keep (by decide) (Or.inl rfl) l0
  have k1_1 : ri_lk (ri_st1 lo 4 (.int (1 + (eh_i G 24 0)))) 1 = some (.ref 23) := eh_keep (by decide) (Or.inl rfl) l1
  have k1_2 : ri_lk (ri_st1 lo 4 (.int (1 + (eh_i G 24 0)))) 2 = some (.ref 1) := eh_keep (by decide) (Or.inl rfl) l2
  have k1_3 : ri_lk (ri_st1 lo 4 (.int (1 + (eh_i G 24 0)))) 3 = some (.int n) := eh_keep (by decide) (Or.inl rfl) l3
  have E := E.ld (p := 11) (t := ri_isI) (i := 3) (n := 1) (v := .int n) rfl (e := (.iload_n 3, 1, [], .null)) rfl rfl (fun _ _ => rfl) k1_3 rfl
  rcases eh_q0 (E.br (p := 14) (c := 0) (tgt := 32) (a := n) (b := 0) (st' := []) rfl (e := (.ifCond .eq 21, 3, [32], .null)) rfl rfl (fun _ _ => rfl) rfl) with ⟨c2, E⟩ | ⟨c2, E⟩
  · skip
    have E := E.pu (p := 33) (lo' := (ri_st1 lo 4 (.int (1 + (eh_i G 24 0))))) (st' := [.int 0]) rfl (e := (.iconst 0, 1, [], .null)) rfl rfl (fun _ _ => rfl)
    obtain ⟨r1, r2⟩ := E.reti rfl (m := 1) (ax := []) (w := .null) rfl
    exact Or.inl ⟨c2, r1, ((congrArg eh_V r2).trans hV), (congrArg eh_N r2)⟩
  · skip
    have E := E.ld (p := 15) (t := ri_isI) (i := 3) (n := 1) (v := .int n) rfl (e := (.iload_n 3, 1, [], .null)) rfl rfl (fun _ _ => rfl) k1_3 rfl
    have E := E.ld (p := 16) (t := ri_isA) (i := 2) (n := 1) (v := .ref 1) rfl (e := (.aload_n 2, 1, [], .null)) rfl rfl (fun _ _ => rfl) k1_2 rfl
    have E := E.an (p := 17) (n := 940) rfl (m := 1) (ax := []) (w := .null) rfl (by rw [(rfl : eh_N h = eh_N h)]; exact (nc_at hl (k := 1) rfl)) rfl
    have E : eh_e _ _ 17 (ri_st1 lo 4 (.int (1 + (eh_i G 24 0)))) [.int 940, .int n] _ rs h' := E
    rcases eh_r4 rfl (show (940 : Int32).toInt = 940 by decide) (E.br (p := 20) (c := 4) (tgt := 32) (a := n) (b := 940) (st' := []) rfl (e := (.if_icmp .gt 15, 3, [32], .null)) rfl rfl (fun _ _ => rfl) rfl) with ⟨c3, E⟩ | ⟨c3, E⟩
    · skip
      have E := E.pu (p := 33) (lo' := (ri_st1 lo 4 (.int (1 + (eh_i G 24 0))))) (st' := [.int 0]) rfl (e := (.iconst 0, 1, [], .null)) rfl rfl (fun _ _ => rfl)
      obtain ⟨r1, r2⟩ := E.reti rfl (m := 1) (ax := []) (w := .null) rfl
      exact Or.inr (Or.inl ⟨c2, c3, r1, ((congrArg eh_V r2).trans hV), (congrArg eh_N r2)⟩)
    · skip
      have E := E.ld (p := 22) (t := ri_isI) (i := 4) (n := 2) (v := .int (1 + (eh_i G 24 0))) rfl (e := (.iload 4, 2, [], .null)) rfl rfl (fun _ _ => rfl) k1_4 rfl
      rcases eh_r5 rfl (show (0 : Int32).toInt = 0 by decide) (E.br (p := 25) (c := 5) (tgt := 32) (a := 1 + (eh_i G 24 0)) (b := 0) (st' := []) rfl (e := (.ifCond .le 10, 3, [32], .null)) rfl rfl (fun _ _ => rfl) rfl) with ⟨c4, E⟩ | ⟨c4, E⟩
      · skip
        have E := E.pu (p := 33) (lo' := (ri_st1 lo 4 (.int (1 + (eh_i G 24 0))))) (st' := [.int 0]) rfl (e := (.iconst 0, 1, [], .null)) rfl rfl (fun _ _ => rfl)
        obtain ⟨r1, r2⟩ := E.reti rfl (m := 1) (ax := []) (w := .null) rfl
        exact Or.inr (Or.inr (Or.inl ⟨c2, c3, c4, r1, ((congrArg eh_V r2).trans hV), (congrArg eh_N r2)⟩))
      · skip
        have E := E.ld (p := 26) (t := ri_isI) (i := 3) (n := 1) (v := .int n) rfl (e := (.iload_n 3, 1, [], .null)) rfl rfl (fun _ _ => rfl) k1_3 rfl
        have E := E.ld (p := 28) (t := ri_isI) (i := 4) (n := 2) (v := .int (1 + (eh_i G 24 0))) rfl (e := (.iload 4, 2, [], .null)) rfl rfl (fun _ _ => rfl) k1_4 rfl
        have E := E.dv (p := 29) (v := n - n / (1 + (eh_i G 24 0)) * (1 + (eh_i G 24 0))) rfl (e := (.irem, 1, [], .null)) rfl rfl (op := fun x y => x - x / y * y) (fun _ _ => rfl) rfl rfl
        rcases eh_q0 (E.br (p := 32) (c := 0) (tgt := 34) (a := n - n / (1 + (eh_i G 24 0)) * (1 + (eh_i G 24 0))) (b := 0) (st' := []) rfl (e := (.ifCond .eq 5, 3, [34], .null)) rfl rfl (fun _ _ => rfl) rfl) with ⟨c5, E⟩ | ⟨c5, E⟩
        · skip
          have E := E.ld (p := 35) (t := ri_isA) (i := 0) (n := 1) (v := .ref 203) rfl (e := (.aload_n 0, 1, [], .null)) rfl rfl (fun _ _ => rfl) k1_0 rfl
          have E := E.pu (p := 36) (lo' := (ri_st1 lo 4 (.int (1 + (eh_i G 24 0))))) (st' := [.int 0, .ref 203]) rfl (e := (.iconst 0, 1, [], .null)) rfl rfl (fun _ _ => rfl)
          obtain ⟨h6, hV7, hN8, E⟩ := E.gp (p := 39) rfl (x := 25) (m := 3) (w := .null) (t := 2) (i := 4) (u := 536) (y := 1) rfl rfl hV
          have E := E.pu (p := 40) (lo' := (ri_st1 lo 4 (.int (1 + (eh_i G 24 0))))) (st' := [.int 0]) rfl (e := (.iconst 0, 1, [], .null)) rfl rfl (fun _ _ => rfl)
          have E := E.so (p := 42) (t := ri_isI) (i := 5) (n := 2) rfl (e := (.istore 5, 2, [], .null)) rfl rfl (fun _ _ => rfl) rfl
          have k9_5 : ri_lk (ri_st1 (ri_st1 lo 4 (.int (1 + (eh_i G 24 0)))) 5 (.int 0)) 5 = some (.int 0) := eh_self
          have k9_0 : ri_lk (ri_st1 (ri_st1 lo 4 (.int (1 + (eh_i G 24 0)))) 5 (.int 0)) 0 = some (.ref 203) := eh_keep (by decide) (Or.inl rfl) k1_0
          have k9_1 : ri_lk (ri_st1 (ri_st1 lo 4 (.int (1 + (eh_i G 24 0)))) 5 (.int 0)) 1 = some (.ref 23) := eh_keep (by decide) (Or.inl rfl) k1_1
          have k9_2 : ri_lk (ri_st1 (ri_st1 lo 4 (.int (1 + (eh_i G 24 0)))) 5 (.int 0)) 2 = some (.ref 1) := eh_keep (by decide) (Or.inl rfl) k1_2
          have k9_3 : ri_lk (ri_st1 (ri_st1 lo 4 (.int (1 + (eh_i G 24 0)))) 5 (.int 0)) 3 = some (.int n) := eh_keep (by decide) (Or.inl rfl) k1_3
          have k9_4 : ri_lk (ri_st1 (ri_st1 lo 4 (.int (1 + (eh_i G 24 0)))) 5 (.int 0)) 4 = some (.int (1 + (eh_i G 24 0))) := eh_keep (by decide) (Or.inl rfl) k1_4
          exact Or.inr (Or.inr (Or.inr (Or.inl ⟨c2, c3, c4, c5, _, _, E, hV7, hN8, (ty.ui rfl), k9_0, k9_1, k9_2, k9_3, k9_4, k9_5⟩)))
        · skip
          have E := E.pu (p := 33) (lo' := (ri_st1 lo 4 (.int (1 + (eh_i G 24 0))))) (st' := [.int 0]) rfl (e := (.iconst 0, 1, [], .null)) rfl rfl (fun _ _ => rfl)
          obtain ⟨r1, r2⟩ := E.reti rfl (m := 1) (ax := []) (w := .null) rfl
          exact Or.inr (Or.inr (Or.inr (Or.inr (⟨c2, c3, c4, c5, r1, ((congrArg eh_V r2).trans hV), (congrArg eh_N r2)⟩))))
theorem yli_h {cal : eh_K} {lo : List (Nat × Value)} {h h' : ri_H} {rs : List Value} {G : eh_W} {n wd c : Int32} (E : eh_e cal md_16 42 lo [] h rs h') (hV : eh_V h = G) (ty : eh_ty tC G) (l0 : ri_lk lo 0 = some (.ref 203)) (l1 : ri_lk lo 1 = some (.ref 23)) (l2 : ri_lk lo 2 = some (.ref 1)) (l3 : ri_lk lo 3 = some (.int n)) (l4 : ri_lk lo 4 = some (.int wd)) (l5 : ri_lk lo 5 = some (.int c)) : (¬ (c.toInt < 6) ∧ ∃ hz loz, eh_e cal md_16 66 loz [] hz rs h' ∧ eh_V hz = G ∧ eh_N hz = eh_N h ∧ eh_ty tC G ∧ ri_lk loz 0 = some (.ref 203) ∧ ri_lk loz 1 = some (.ref 23) ∧ ri_lk loz 2 = some (.ref 1) ∧ ri_lk loz 3 = some (.int n) ∧ ri_lk loz 4 = some (.int wd) ∧ ri_lk loz 5 = some (.int 0)) ∨ (c.toInt < 6 ∧ ∃ hz loz, eh_e cal md_16 42 loz [] hz rs h' ∧ eh_V hz = eh_u G 204 (c).toNatClampNeg (.int (-1)) ∧ eh_N hz = eh_N h ∧ eh_ty tC (eh_u G 204 (c).toNatClampNeg (.int (-1))) ∧ ri_lk loz 0 = some (.ref 203) ∧ ri_lk loz 1 = some (.ref 23) ∧ ri_lk loz 2 = some (.ref 1) ∧ ri_lk loz 3 = some (.int n) ∧ ri_lk loz 4 = some (.int wd) ∧ ri_lk loz 5 = some (.int (c + 1))) := by
  have E := E.ld (p := 44) (t := ri_isI) (i := 5) (n := 2) (v := .int c) rfl (e := (.iload 5, 2, [], .null)) rfl rfl (fun _ _ => rfl) l5 rfl
  have E := E.pu (p := 46) (lo' := lo) (st' := [.int 6, .int c]) rfl (e := (.bipush 6, 2, [], .null)) rfl rfl (fun _ _ => rfl)
  rcases eh_r3 rfl (show (6 : Int32).toInt = 6 by decide) (E.br (p := 49) (c := 3) (tgt := 63) (a := c) (b := 6) (st' := []) rfl (e := (.if_icmp .ge 17, 3, [63], .null)) rfl rfl (fun _ _ => rfl) rfl) with ⟨c1, E⟩ | ⟨c1, E⟩
  · skip
    have E := E.pu (p := 64) (lo' := lo) (st' := [.int 0]) rfl (e := (.iconst 0, 1, [], .null)) rfl rfl (fun _ _ => rfl)
    have E := E.so (p := 66) (t := ri_isI) (i := 5) (n := 2) rfl (e := (.istore 5, 2, [], .null)) rfl rfl (fun _ _ => rfl) rfl
    have k2_5 : ri_lk (ri_st1 lo 5 (.int 0)) 5 = some (.int 0) := eh_self
    have k2_0 : ri_lk (ri_st1 lo 5 (.int 0)) 0 = some (.ref 203) := eh_keep (by decide) (Or.inl rfl) l0
    have k2_1 : ri_lk (ri_st1 lo 5 (.int 0)) 1 = some (.ref 23) := eh_keep (by decide) (Or.inl rfl) l1
    have k2_2 : ri_lk (ri_st1 lo 5 (.int 0)) 2 = some (.ref 1) := eh_keep (by decide) (Or.inl rfl) l2
    have k2_3 : ri_lk (ri_st1 lo 5 (.int 0)) 3 = some (.int n) := eh_keep (by decide) (Or.inl rfl) l3
    have k2_4 : ri_lk (ri_st1 lo 5 (.int 0)) 4 = some (.int wd) := eh_keep (by decide) (Or.inl rfl) l4
    exact Or.inl ⟨c1, _, _, E, hV, rfl, ty, k2_0, k2_1, k2_2, k2_3, k2_4, k2_5⟩
  · skip
    have E := E.ld (p := 50) (t := ri_isA) (i := 0) (n := 1) (v := .ref 203) rfl (e := (.aload_n 0, 1, [], .null)) rfl rfl (fun _ _ => rfl) l0 rfl
    have E := E.gr (n := 204) (p := 53) rfl (x := 21) (m := 3) (w := .null) (t := 2) (i := 3) (u := 535) rfl rfl hV ty rfl
    have E := E.ld (p := 55) (t := ri_isI) (i := 5) (n := 2) (v := .int c) rfl (e := (.iload 5, 2, [], .null)) rfl rfl (fun _ _ => rfl) l5 rfl
    have E := E.pu (p := 56) (lo' := lo) (st' := [.int (-1), .int c, .ref 204]) rfl (e := (.iconst (-1), 1, [], .null)) rfl rfl (fun _ _ => rfl)
    obtain ⟨h3, hV4, hN5, E⟩ := E.aw (gg := ri_g1) (b := true) (p := 57) (n := (c).toNatClampNeg) rfl (e := (.iastore, 1, [], .null)) rfl rfl (fun _ _ => rfl) rfl hV rfl
    have E := E.ii (p := 60) (y := c + 1) rfl (i := 5) (n := 1) (m := 3) (ax := []) (w := .null) rfl l5 rfl rfl
    have k6_5 : ri_lk (ri_st1 lo 5 (.int (c + 1))) 5 = some (.int (c + 1)) := eh_self
    have k6_0 : ri_lk (ri_st1 lo 5 (.int (c + 1))) 0 = some (.ref 203) := eh_keep (by decide) (Or.inl rfl) l0
    have k6_1 : ri_lk (ri_st1 lo 5 (.int (c + 1))) 1 = some (.ref 23) := eh_keep (by decide) (Or.inl rfl) l1
    have k6_2 : ri_lk (ri_st1 lo 5 (.int (c + 1))) 2 = some (.ref 1) := eh_keep (by decide) (Or.inl rfl) l2
    have k6_3 : ri_lk (ri_st1 lo 5 (.int (c + 1))) 3 = some (.int n) := eh_keep (by decide) (Or.inl rfl) l3
    have k6_4 : ri_lk (ri_st1 lo 5 (.int (c + 1))) 4 = some (.int wd) := eh_keep (by decide) (Or.inl rfl) l4
    have E := E.pu (p := 42) (lo' := (ri_st1 lo 5 (.int (c + 1)))) (st' := []) rfl (e := (.goto (-18), 3, [42], .null)) rfl rfl (fun _ _ => rfl)
    exact Or.inr (⟨c1, _, _, E, hV4, hN5, (ty.ui rfl), k6_0, k6_1, k6_2, k6_3, k6_4, k6_5⟩)
theorem yha_26 {d : Nat} {h h' : ri_H} {v : Option Value} {G : eh_W} {so nu : Int32} (E : ri_calE ri_md (d + 1) 26 [.ref 23, .int so, .int nu] h = some (v, h')) (hV : eh_V h = G) (ty : eh_ty tC G) : (nu.toInt < 0 ∧ v = some (.int 0) ∧ eh_V h' = G ∧ eh_N h' = eh_N h) ∨ (¬ (nu.toInt < 0) ∧ ¬ (nu.toInt < (eh_i G 25 (so).toNatClampNeg).toInt) ∧ v = some (.int 0) ∧ eh_V h' = G ∧ eh_N h' = eh_N h) ∨ (¬ (nu.toInt < 0) ∧ nu.toInt < (eh_i G 25 (so).toNatClampNeg).toInt ∧ v = some (.int 1) ∧ eh_V h' = G ∧ eh_N h' = eh_N h) := by
  obtain ⟨rs, hrs, E⟩ := eh_in E (q := md_26) rfl
  have E := E.ld (p := 1) (t := ri_isI) (i := 2) (n := 1) (v := .int nu) rfl (e := (.iload_n 2, 1, [], .null)) rfl rfl (fun _ _ => rfl) rfl rfl
  rcases eh_r2 rfl (show (0 : Int32).toInt = 0 by decide) (E.br (p := 4) (c := 2) (tgt := 18) (a := nu) (b := 0) (st' := []) rfl (e := (.ifCond .lt 17, 3, [18], .null)) rfl rfl (fun _ _ => rfl) rfl) with ⟨c1, E⟩ | ⟨c1, E⟩
  · skip
    have E := E.pu (p := 19) (lo' := (ri_as 0 [.ref 23, .int so, .int nu])) (st' := [.int 0]) rfl (e := (.iconst 0, 1, [], .null)) rfl rfl (fun _ _ => rfl)
    obtain ⟨r1, r2⟩ := E.reti rfl (m := 1) (ax := []) (w := .null) rfl
    exact Or.inl ⟨c1, (by rw [← hrs, r1]; rfl), ((congrArg eh_V r2).trans hV), (congrArg eh_N r2)⟩
  · skip
    have E := E.ld (p := 5) (t := ri_isI) (i := 2) (n := 1) (v := .int nu) rfl (e := (.iload_n 2, 1, [], .null)) rfl rfl (fun _ _ => rfl) rfl rfl
    have E := E.ld (p := 6) (t := ri_isA) (i := 0) (n := 1) (v := .ref 23) rfl (e := (.aload_n 0, 1, [], .null)) rfl rfl (fun _ _ => rfl) rfl rfl
    have E := E.gr (n := 25) (p := 9) rfl (x := 27) (m := 3) (w := .null) (t := 4) (i := 2) (u := 262) rfl rfl hV ty rfl
    have E := E.ld (p := 10) (t := ri_isI) (i := 1) (n := 1) (v := .int so) rfl (e := (.iload_n 1, 1, [], .null)) rfl rfl (fun _ _ => rfl) rfl rfl
    have E := E.ai (p := 11) (z := eh_i G 25 (so).toNatClampNeg) (n := (so).toNatClampNeg) rfl (e := (.iaload, 1, [], .null)) rfl rfl (fun _ _ => rfl) rfl hV ty rfl rfl rfl
    rcases eh_r3 rfl rfl (E.br (p := 14) (c := 3) (tgt := 18) (a := nu) (b := eh_i G 25 (so).toNatClampNeg) (st' := []) rfl (e := (.if_icmp .ge 7, 3, [18], .null)) rfl rfl (fun _ _ => rfl) rfl) with ⟨c2, E⟩ | ⟨c2, E⟩
    · skip
      have E := E.pu (p := 19) (lo' := (ri_as 0 [.ref 23, .int so, .int nu])) (st' := [.int 0]) rfl (e := (.iconst 0, 1, [], .null)) rfl rfl (fun _ _ => rfl)
      obtain ⟨r1, r2⟩ := E.reti rfl (m := 1) (ax := []) (w := .null) rfl
      exact Or.inr (Or.inl ⟨c1, c2, (by rw [← hrs, r1]; rfl), ((congrArg eh_V r2).trans hV), (congrArg eh_N r2)⟩)
    · skip
      have E := E.pu (p := 15) (lo' := (ri_as 0 [.ref 23, .int so, .int nu])) (st' := [.int 1]) rfl (e := (.iconst 1, 1, [], .null)) rfl rfl (fun _ _ => rfl)
      have E := E.pu (p := 19) (lo' := (ri_as 0 [.ref 23, .int so, .int nu])) (st' := [.int 1]) rfl (e := (.goto 4, 3, [19], .null)) rfl rfl (fun _ _ => rfl)
      obtain ⟨r1, r2⟩ := E.reti rfl (m := 1) (ax := []) (w := .null) rfl
      exact Or.inr (Or.inr (⟨c1, c2, (by rw [← hrs, r1]; rfl), ((congrArg eh_V r2).trans hV), (congrArg eh_N r2)⟩))
theorem yli_l {d : Nat} {lo : List (Nat × Value)} {h h' : ri_H} {rs : List Value} {G : eh_W} {a w : Nat} {n wd i : Int32} (E : eh_e (ri_calE ri_md (d + 1)) md_16 66 lo [] h rs h') (hV : eh_V h = G) (ty : eh_ty tC G) (l0 : ri_lk lo 0 = some (.ref 203)) (l1 : ri_lk lo 1 = some (.ref 23)) (l2 : ri_lk lo 2 = some (.ref 1)) (l3 : ri_lk lo 3 = some (.int n)) (l4 : ri_lk lo 4 = some (.int wd)) (l5 : ri_lk lo 5 = some (.int i)) (hl : (eh_N h).take 209 = NCl) (ia : i = nI a) (hw : eh_i G 24 0 = nI w) (w8 : w ≤ 8) (hf : i.toInt < n.toInt → a + 1 + w ≤ 940) : (¬ (i.toInt < n.toInt) ∧ rs = [.int 1] ∧ eh_V h' = G ∧ eh_N h' = eh_N h) ∨ (i.toInt < n.toInt ∧ (eh_i G 1 (i).toNatClampNeg).toInt < 0 ∧ rs = [.int 0] ∧ eh_V h' = G ∧ eh_N h' = eh_N h) ∨ (i.toInt < n.toInt ∧ ¬ ((eh_i G 1 (i).toNatClampNeg).toInt < 0) ∧ ¬ ((eh_i G 1 (i).toNatClampNeg).toInt < (eh_i G 25 0).toInt) ∧ rs = [.int 0] ∧ eh_V h' = G ∧ eh_N h' = eh_N h) ∨ (∃ (x23 : Int32), i.toInt < n.toInt ∧ ¬ ((eh_i G 1 (i).toNatClampNeg).toInt < 0) ∧ (eh_i G 1 (i).toNatClampNeg).toInt < (eh_i G 25 0).toInt ∧ hOK G w (a + 1) ∧ x23 = nI (hNM G w (a + 1)) ∧ (eh_i G 204 (eh_i G 1 (i).toNatClampNeg).toNatClampNeg) = (-1) ∧ ∃ hz loz, eh_e (ri_calE ri_md (d + 1)) md_16 66 loz [] hz rs h' ∧ eh_V hz = eh_u (eh_u G 203 4 (.int ((eh_i G 203 4) ||| 0))) 204 (eh_i G 1 (i).toNatClampNeg).toNatClampNeg (.int x23) ∧ eh_N hz = eh_N h ∧ eh_ty tC (eh_u (eh_u G 203 4 (.int ((eh_i G 203 4) ||| 0))) 204 (eh_i G 1 (i).toNatClampNeg).toNatClampNeg (.int x23)) ∧ ri_lk loz 0 = some (.ref 203) ∧ ri_lk loz 1 = some (.ref 23) ∧ ri_lk loz 2 = some (.ref 1) ∧ ri_lk loz 3 = some (.int n) ∧ ri_lk loz 4 = some (.int wd) ∧ ri_lk loz 5 = some (.int (i + wd)) ∧ ri_lk loz 6 = some (.int (eh_i G 1 (i).toNatClampNeg)) ∧ ri_lk loz 7 = some (.int x23)) ∨ (∃ (x23 : Int32), i.toInt < n.toInt ∧ ¬ ((eh_i G 1 (i).toNatClampNeg).toInt < 0) ∧ (eh_i G 1 (i).toNatClampNeg).toInt < (eh_i G 25 0).toInt ∧ hOK G w (a + 1) ∧ x23 = nI (hNM G w (a + 1)) ∧ ¬ ((eh_i G 204 (eh_i G 1 (i).toNatClampNeg).toNatClampNeg) = (-1)) ∧ (eh_i G 204 (eh_i G 1 (i).toNatClampNeg).toNatClampNeg) = x23 ∧ ∃ hz loz, eh_e (ri_calE ri_md (d + 1)) md_16 66 loz [] hz rs h' ∧ eh_V hz = eh_u (eh_u G 203 4 (.int ((eh_i G 203 4) ||| 0))) 204 (eh_i G 1 (i).toNatClampNeg).toNatClampNeg (.int x23) ∧ eh_N hz = eh_N h ∧ eh_ty tC (eh_u (eh_u G 203 4 (.int ((eh_i G 203 4) ||| 0))) 204 (eh_i G 1 (i).toNatClampNeg).toNatClampNeg (.int x23)) ∧ ri_lk loz 0 = some (.ref 203) ∧ ri_lk loz 1 = some (.ref 23) ∧ ri_lk loz 2 = some (.ref 1) ∧ ri_lk loz 3 = some (.int n) ∧ ri_lk loz 4 = some (.int wd) ∧ ri_lk loz 5 = some (.int (i + wd)) ∧ ri_lk loz 6 = some (.int (eh_i G 1 (i).toNatClampNeg)) ∧ ri_lk loz 7 = some (.int x23)) ∨ (∃ (x23 : Int32), i.toInt < n.toInt ∧ ¬ ((eh_i G 1 (i).toNatClampNeg).toInt < 0) ∧ (eh_i G 1 (i).toNatClampNeg).toInt < (eh_i G 25 0).toInt ∧ hOK G w (a + 1) ∧ x23 = nI (hNM G w (a + 1)) ∧ ¬ ((eh_i G 204 (eh_i G 1 (i).toNatClampNeg).toNatClampNeg) = (-1)) ∧ ¬ ((eh_i G 204 (eh_i G 1 (i).toNatClampNeg).toNatClampNeg) = x23) ∧ ∃ hz loz, eh_e (ri_calE ri_md (d + 1)) md_16 66 loz [] hz rs h' ∧ eh_V hz = eh_u (eh_u G 203 4 (.int ((eh_i G 203 4) ||| 1))) 204 (eh_i G 1 (i).toNatClampNeg).toNatClampNeg (.int x23) ∧ eh_N hz = eh_N h ∧ eh_ty tC (eh_u (eh_u G 203 4 (.int ((eh_i G 203 4) ||| 1))) 204 (eh_i G 1 (i).toNatClampNeg).toNatClampNeg (.int x23)) ∧ ri_lk loz 0 = some (.ref 203) ∧ ri_lk loz 1 = some (.ref 23) ∧ ri_lk loz 2 = some (.ref 1) ∧ ri_lk loz 3 = some (.int n) ∧ ri_lk loz 4 = some (.int wd) ∧ ri_lk loz 5 = some (.int (i + wd)) ∧ ri_lk loz 6 = some (.int (eh_i G 1 (i).toNatClampNeg)) ∧ ri_lk loz 7 = some (.int x23)) ∨ (i.toInt < n.toInt ∧ ¬ ((eh_i G 1 (i).toNatClampNeg).toInt < 0) ∧ (eh_i G 1 (i).toNatClampNeg).toInt < (eh_i G 25 0).toInt ∧ ¬ (hOK G w (a + 1)) ∧ rs = [.int 0] ∧ eh_V h' = G ∧ eh_N h' = eh_N h) := by
  have E := E.ld (p := 68) (t := ri_isI) (i := 5) (n := 2) (v := .int i) rfl (e := (.iload 5, 2, [], .null)) rfl rfl (fun _ _ => rfl) l5 rfl
  have E := E.ld (p := 69) (t := ri_isI) (i := 3) (n := 1) (v := .int n) rfl (e := (.iload_n 3, 1, [], .null)) rfl rfl (fun _ _ => rfl) l3 rfl
  rcases eh_r3 rfl rfl (E.br (p := 72) (c := 3) (tgt := 169) (a := i) (b := n) (st' := []) rfl (e := (.if_icmp .ge 100, 3, [169], .null)) rfl rfl (fun _ _ => rfl) rfl) with ⟨c1, E⟩ | ⟨c1, E⟩
  · skip
    have E := E.pu (p := 170) (lo' := lo) (st' := [.int 1]) rfl (e := (.iconst 1, 1, [], .null)) rfl rfl (fun _ _ => rfl)
    obtain ⟨r1, r2⟩ := E.reti rfl (m := 1) (ax := []) (w := .null) rfl
    exact Or.inl ⟨c1, r1, ((congrArg eh_V r2).trans hV), (congrArg eh_N r2)⟩
  · skip
    have E := E.ld (p := 73) (t := ri_isA) (i := 2) (n := 1) (v := .ref 1) rfl (e := (.aload_n 2, 1, [], .null)) rfl rfl (fun _ _ => rfl) l2 rfl
    have E := E.ld (p := 75) (t := ri_isI) (i := 5) (n := 2) (v := .int i) rfl (e := (.iload 5, 2, [], .null)) rfl rfl (fun _ _ => rfl) l5 rfl
    have E := E.ai (p := 76) (z := eh_i G 1 (i).toNatClampNeg) (n := (i).toNatClampNeg) rfl (e := (.baload, 1, [], .null)) rfl rfl (fun _ _ => rfl) rfl hV ty rfl rfl rfl
    have E := E.so (p := 78) (t := ri_isI) (i := 6) (n := 2) rfl (e := (.istore 6, 2, [], .null)) rfl rfl (fun _ _ => rfl) rfl
    have k2_6 : ri_lk (ri_st1 lo 6 (.int (eh_i G 1 (i).toNatClampNeg))) 6 = some (.int (eh_i G 1 (i).toNatClampNeg)) := eh_self
    have k2_0 : ri_lk (ri_st1 lo 6 (.int (eh_i G 1 (i).toNatClampNeg))) 0 = some (.ref 203) := eh_keep (by decide) (Or.inl rfl) l0
    have k2_1 : ri_lk (ri_st1 lo 6 (.int (eh_i G 1 (i).toNatClampNeg))) 1 = some (.ref 23) := eh_keep (by decide) (Or.inl rfl) l1
    have k2_2 : ri_lk (ri_st1 lo 6 (.int (eh_i G 1 (i).toNatClampNeg))) 2 = some (.ref 1) := eh_keep (by decide) (Or.inl rfl) l2
    have k2_3 : ri_lk (ri_st1 lo 6 (.int (eh_i G 1 (i).toNatClampNeg))) 3 = some (.int n) := eh_keep (by decide) (Or.inl rfl) l3
    have k2_4 : ri_lk (ri_st1 lo 6 (.int (eh_i G 1 (i).toNatClampNeg))) 4 = some (.int wd) := eh_keep (by decide) (Or.inl rfl) l4
    have k2_5 : ri_lk (ri_st1 lo 6 (.int (eh_i G 1 (i).toNatClampNeg))) 5 = some (.int i) := eh_keep (by decide) (Or.inl rfl) l5
    have E := E.ld (p := 79) (t := ri_isA) (i := 1) (n := 1) (v := .ref 23) rfl (e := (.aload_n 1, 1, [], .null)) rfl rfl (fun _ _ => rfl) k2_1 rfl
    have E := E.pu (p := 80) (lo' := (ri_st1 lo 6 (.int (eh_i G 1 (i).toNatClampNeg)))) (st' := [.int 0, .ref 23]) rfl (e := (.iconst 0, 1, [], .null)) rfl rfl (fun _ _ => rfl)
    have E := E.ld (p := 82) (t := ri_isI) (i := 6) (n := 2) (v := .int (eh_i G 1 (i).toNatClampNeg)) rfl (e := (.iload 6, 2, [], .null)) rfl rfl (fun _ _ => rfl) k2_6 rfl
    obtain ⟨v1, h3, X, E⟩ := E.cv (p := 85) (as := [.int 0, .int (eh_i G 1 (i).toNatClampNeg)]) (b := 23) (r := []) rfl (x := 57) (m := 3) (w := .null) (j := 26) (n := 2) (t := 4) (u := [934, 769, 768]) rfl rfl rfl
    rcases yha_26 (d := d) X hV ty with ⟨c4, rfl, hV5, hN6⟩ | ⟨c7, c8, rfl, hV9, hN10⟩ | ⟨c11, c12, rfl, hV13, hN14⟩
    · skip
      have c4 : (eh_i G 1 (i).toNatClampNeg).toInt < 0 := c4
      have E : eh_e _ _ 85 (ri_st1 lo 6 (.int (eh_i G 1 (i).toNatClampNeg))) [.int 0] _ rs h' := E
      have E := E.brt (c := 0) (tgt := 100) (a := 0) (b := 0) (st' := []) rfl (e := (.ifCond .eq 15, 3, [100], .null)) rfl rfl (fun _ _ => rfl) (by decide)
      have E := E.pu (p := 101) (lo' := (ri_st1 lo 6 (.int (eh_i G 1 (i).toNatClampNeg)))) (st' := [.int 0]) rfl (e := (.iconst 0, 1, [], .null)) rfl rfl (fun _ _ => rfl)
      obtain ⟨r1, r2⟩ := E.reti rfl (m := 1) (ax := []) (w := .null) rfl
      exact Or.inr (Or.inl ⟨c1, c4, r1, ((congrArg eh_V r2).trans hV5), ((congrArg eh_N r2).trans hN6)⟩)
    · skip
      have c7 : ¬ ((eh_i G 1 (i).toNatClampNeg).toInt < 0) := c7
      have c8 : ¬ ((eh_i G 1 (i).toNatClampNeg).toInt < (eh_i G 25 0).toInt) := c8
      have E : eh_e _ _ 85 (ri_st1 lo 6 (.int (eh_i G 1 (i).toNatClampNeg))) [.int 0] _ rs h' := E
      have E := E.brt (c := 0) (tgt := 100) (a := 0) (b := 0) (st' := []) rfl (e := (.ifCond .eq 15, 3, [100], .null)) rfl rfl (fun _ _ => rfl) (by decide)
      have E := E.pu (p := 101) (lo' := (ri_st1 lo 6 (.int (eh_i G 1 (i).toNatClampNeg)))) (st' := [.int 0]) rfl (e := (.iconst 0, 1, [], .null)) rfl rfl (fun _ _ => rfl)
      obtain ⟨r1, r2⟩ := E.reti rfl (m := 1) (ax := []) (w := .null) rfl
      exact Or.inr (Or.inr (Or.inl ⟨c1, c7, c8, r1, ((congrArg eh_V r2).trans hV9), ((congrArg eh_N r2).trans hN10)⟩))
    · skip
      have c11 : ¬ ((eh_i G 1 (i).toNatClampNeg).toInt < 0) := c11
      have c12 : (eh_i G 1 (i).toNatClampNeg).toInt < (eh_i G 25 0).toInt := c12
      have E : eh_e _ _ 85 (ri_st1 lo 6 (.int (eh_i G 1 (i).toNatClampNeg))) [.int 1] _ rs h' := E
      have E := E.brf (p := 88) (c := 0) (tgt := 100) (a := 1) (b := 0) (st' := []) rfl (e := (.ifCond .eq 15, 3, [100], .null)) rfl rfl (fun _ _ => rfl) (by decide) rfl
      have E := E.ld (p := 89) (t := ri_isA) (i := 1) (n := 1) (v := .ref 23) rfl (e := (.aload_n 1, 1, [], .null)) rfl rfl (fun _ _ => rfl) k2_1 rfl
      have E := E.ld (p := 90) (t := ri_isA) (i := 2) (n := 1) (v := .ref 1) rfl (e := (.aload_n 2, 1, [], .null)) rfl rfl (fun _ _ => rfl) k2_2 rfl
      have E := E.ld (p := 92) (t := ri_isI) (i := 5) (n := 2) (v := .int i) rfl (e := (.iload 5, 2, [], .null)) rfl rfl (fun _ _ => rfl) k2_5 rfl
      have E := E.pu (p := 93) (lo' := (ri_st1 lo 6 (.int (eh_i G 1 (i).toNatClampNeg)))) (st' := [.int 1, .int i, .ref 1, .ref 23]) rfl (e := (.iconst 1, 1, [], .null)) rfl rfl (fun _ _ => rfl)
      have E := E.pu (p := 94) (lo' := (ri_st1 lo 6 (.int (eh_i G 1 (i).toNatClampNeg)))) (st' := [.int (i + 1), .ref 1, .ref 23]) rfl (e := (.iadd, 1, [], .null)) rfl rfl (fun _ _ => rfl)
      obtain ⟨v1, h15, X, E⟩ := E.cv (p := 97) (as := [.ref 1, .int (i + 1)]) (b := 23) (r := []) rfl (x := 61) (m := 3) (w := .null) (j := 36) (n := 2) (t := 4) (u := [935, 937, 936]) rfl rfl rfl
      rcases yah_36 (d := d) X hV13 ty (by rw [hN14]; exact hl) (fr_e ia) hw w8 (hf c1) with ⟨c16, rfl, hV17, hN18⟩ | ⟨c19, rfl, hV20, hN21⟩
      · skip
        have c16 : hOK G w (a + 1) := c16
        have E : eh_e _ _ 97 (ri_st1 lo 6 (.int (eh_i G 1 (i).toNatClampNeg))) [.int 1] _ rs h' := E
        have E := E.brt (c := 1) (tgt := 102) (a := 1) (b := 0) (st' := []) rfl (e := (.ifCond .ne 5, 3, [102], .null)) rfl rfl (fun _ _ => rfl) (by decide)
        have E := E.ld (p := 103) (t := ri_isA) (i := 1) (n := 1) (v := .ref 23) rfl (e := (.aload_n 1, 1, [], .null)) rfl rfl (fun _ _ => rfl) k2_1 rfl
        have E := E.ld (p := 104) (t := ri_isA) (i := 2) (n := 1) (v := .ref 1) rfl (e := (.aload_n 2, 1, [], .null)) rfl rfl (fun _ _ => rfl) k2_2 rfl
        have E := E.ld (p := 106) (t := ri_isI) (i := 5) (n := 2) (v := .int i) rfl (e := (.iload 5, 2, [], .null)) rfl rfl (fun _ _ => rfl) k2_5 rfl
        have E := E.pu (p := 107) (lo' := (ri_st1 lo 6 (.int (eh_i G 1 (i).toNatClampNeg)))) (st' := [.int 1, .int i, .ref 1, .ref 23]) rfl (e := (.iconst 1, 1, [], .null)) rfl rfl (fun _ _ => rfl)
        have E := E.pu (p := 108) (lo' := (ri_st1 lo 6 (.int (eh_i G 1 (i).toNatClampNeg)))) (st' := [.int (i + 1), .ref 1, .ref 23]) rfl (e := (.iadd, 1, [], .null)) rfl rfl (fun _ _ => rfl)
        obtain ⟨v1, h22, X, E⟩ := E.cv (p := 111) (as := [.ref 1, .int (i + 1)]) (b := 23) (r := []) rfl (x := 65) (m := 3) (w := .null) (j := 37) (n := 2) (t := 4) (u := [939, 941, 940]) rfl rfl rfl
        rcases yph_37 (d := d) X hV17 ty (by rw [(hN18.trans hN14)]; exact hl) (fr_e ia) hw w8 (hf c1) c16 with ⟨x23, c24, rfl, hV25, hN26⟩
        have c24 : x23 = nI (hNM G w (a + 1)) := c24
        have E : eh_e _ _ 111 (ri_st1 lo 6 (.int (eh_i G 1 (i).toNatClampNeg))) [.int x23] _ rs h' := E
        have E := E.so (p := 113) (t := ri_isI) (i := 7) (n := 2) rfl (e := (.istore 7, 2, [], .null)) rfl rfl (fun _ _ => rfl) rfl
        have k27_7 : ri_lk (ri_st1 (ri_st1 lo 6 (.int (eh_i G 1 (i).toNatClampNeg))) 7 (.int x23)) 7 = some (.int x23) := eh_self
        have k27_0 : ri_lk (ri_st1 (ri_st1 lo 6 (.int (eh_i G 1 (i).toNatClampNeg))) 7 (.int x23)) 0 = some (.ref 203) := eh_keep (by decide) (Or.inl rfl) k2_0
        have k27_1 : ri_lk (ri_st1 (ri_st1 lo 6 (.int (eh_i G 1 (i).toNatClampNeg))) 7 (.int x23)) 1 = some (.ref 23) := eh_keep (by decide) (Or.inl rfl) k2_1
        have k27_2 : ri_lk (ri_st1 (ri_st1 lo 6 (.int (eh_i G 1 (i).toNatClampNeg))) 7 (.int x23)) 2 = some (.ref 1) := eh_keep (by decide) (Or.inl rfl) k2_2
        have k27_3 : ri_lk (ri_st1 (ri_st1 lo 6 (.int (eh_i G 1 (i).toNatClampNeg))) 7 (.int x23)) 3 = some (.int n) := eh_keep (by decide) (Or.inl rfl) k2_3
        have k27_4 : ri_lk (ri_st1 (ri_st1 lo 6 (.int (eh_i G 1 (i).toNatClampNeg))) 7 (.int x23)) 4 = some (.int wd) := eh_keep (by decide) (Or.inl rfl) k2_4
        have k27_5 : ri_lk (ri_st1 (ri_st1 lo 6 (.int (eh_i G 1 (i).toNatClampNeg))) 7 (.int x23)) 5 = some (.int i) := eh_keep (by decide) (Or.inl rfl) k2_5
        have k27_6 : ri_lk (ri_st1 (ri_st1 lo 6 (.int (eh_i G 1 (i).toNatClampNeg))) 7 (.int x23)) 6 = some (.int (eh_i G 1 (i).toNatClampNeg)) := eh_keep (by decide) (Or.inl rfl) k2_6
        have E := E.ld (p := 114) (t := ri_isA) (i := 0) (n := 1) (v := .ref 203) rfl (e := (.aload_n 0, 1, [], .null)) rfl rfl (fun _ _ => rfl) k27_0 rfl
        have E := E.pu (p := 115) (lo' := (ri_st1 (ri_st1 lo 6 (.int (eh_i G 1 (i).toNatClampNeg))) 7 (.int x23))) (st' := [.ref 203, .ref 203]) rfl (e := (.dup, 1, [], .null)) rfl rfl (fun _ _ => rfl)
        have E := E.gi (y := eh_i G 203 4) (p := 118) rfl (x := 25) (m := 3) (w := .null) (t := 2) (i := 4) (u := 536) rfl rfl hV25 ty rfl rfl
        have E := E.ld (p := 119) (t := ri_isA) (i := 0) (n := 1) (v := .ref 203) rfl (e := (.aload_n 0, 1, [], .null)) rfl rfl (fun _ _ => rfl) k27_0 rfl
        have E := E.gr (n := 204) (p := 122) rfl (x := 21) (m := 3) (w := .null) (t := 2) (i := 3) (u := 535) rfl rfl hV25 ty rfl
        have E := E.ld (p := 124) (t := ri_isI) (i := 6) (n := 2) (v := .int (eh_i G 1 (i).toNatClampNeg)) rfl (e := (.iload 6, 2, [], .null)) rfl rfl (fun _ _ => rfl) k27_6 rfl
        have E := E.ai (p := 125) (z := eh_i G 204 (eh_i G 1 (i).toNatClampNeg).toNatClampNeg) (n := (eh_i G 1 (i).toNatClampNeg).toNatClampNeg) rfl (e := (.iaload, 1, [], .null)) rfl rfl (fun _ _ => rfl) rfl hV25 ty rfl rfl rfl
        have E := E.pu (p := 126) (lo' := (ri_st1 (ri_st1 lo 6 (.int (eh_i G 1 (i).toNatClampNeg))) 7 (.int x23))) (st' := [.int (-1), .int (eh_i G 204 (eh_i G 1 (i).toNatClampNeg).toNatClampNeg), .int (eh_i G 203 4), .ref 203]) rfl (e := (.iconst (-1), 1, [], .null)) rfl rfl (fun _ _ => rfl)
        rcases eh_q0 (E.br (p := 129) (c := 0) (tgt := 145) (a := eh_i G 204 (eh_i G 1 (i).toNatClampNeg).toNatClampNeg) (b := (-1)) (st' := [.int (eh_i G 203 4), .ref 203]) rfl (e := (.if_icmp .eq 19, 3, [145], .null)) rfl rfl (fun _ _ => rfl) rfl) with ⟨c28, E⟩ | ⟨c28, E⟩
        · skip
          have E := E.pu (p := 146) (lo' := (ri_st1 (ri_st1 lo 6 (.int (eh_i G 1 (i).toNatClampNeg))) 7 (.int x23))) (st' := [.int 0, .int (eh_i G 203 4), .ref 203]) rfl (e := (.iconst 0, 1, [], .null)) rfl rfl (fun _ _ => rfl)
          have E := E.pu (p := 147) (lo' := (ri_st1 (ri_st1 lo 6 (.int (eh_i G 1 (i).toNatClampNeg))) 7 (.int x23))) (st' := [.int ((eh_i G 203 4) ||| 0), .ref 203]) rfl (e := (.ior, 1, [], .null)) rfl rfl (fun _ _ => rfl)
          obtain ⟨h29, hV30, hN31, E⟩ := E.gp (p := 150) rfl (x := 25) (m := 3) (w := .null) (t := 2) (i := 4) (u := 536) (y := 1) rfl rfl hV25
          have E := E.ld (p := 151) (t := ri_isA) (i := 0) (n := 1) (v := .ref 203) rfl (e := (.aload_n 0, 1, [], .null)) rfl rfl (fun _ _ => rfl) k27_0 rfl
          have E := E.gr (n := 204) (p := 154) rfl (x := 21) (m := 3) (w := .null) (t := 2) (i := 3) (u := 535) rfl rfl hV30 (ty.ui rfl) rfl
          have E := E.ld (p := 156) (t := ri_isI) (i := 6) (n := 2) (v := .int (eh_i G 1 (i).toNatClampNeg)) rfl (e := (.iload 6, 2, [], .null)) rfl rfl (fun _ _ => rfl) k27_6 rfl
          have E := E.ld (p := 158) (t := ri_isI) (i := 7) (n := 2) (v := .int x23) rfl (e := (.iload 7, 2, [], .null)) rfl rfl (fun _ _ => rfl) k27_7 rfl
          obtain ⟨h32, hV33, hN34, E⟩ := E.aw (gg := ri_g1) (b := true) (p := 159) (n := (eh_i G 1 (i).toNatClampNeg).toNatClampNeg) rfl (e := (.iastore, 1, [], .null)) rfl rfl (fun _ _ => rfl) rfl hV30 rfl
          have E := E.ld (p := 161) (t := ri_isI) (i := 5) (n := 2) (v := .int i) rfl (e := (.iload 5, 2, [], .null)) rfl rfl (fun _ _ => rfl) k27_5 rfl
          have E := E.ld (p := 163) (t := ri_isI) (i := 4) (n := 2) (v := .int wd) rfl (e := (.iload 4, 2, [], .null)) rfl rfl (fun _ _ => rfl) k27_4 rfl
          have E := E.pu (p := 164) (lo' := (ri_st1 (ri_st1 lo 6 (.int (eh_i G 1 (i).toNatClampNeg))) 7 (.int x23))) (st' := [.int (i + wd)]) rfl (e := (.iadd, 1, [], .null)) rfl rfl (fun _ _ => rfl)
          have E := E.so (p := 166) (t := ri_isI) (i := 5) (n := 2) rfl (e := (.istore 5, 2, [], .null)) rfl rfl (fun _ _ => rfl) rfl
          have k35_5 : ri_lk (ri_st1 (ri_st1 (ri_st1 lo 6 (.int (eh_i G 1 (i).toNatClampNeg))) 7 (.int x23)) 5 (.int (i + wd))) 5 = some (.int (i + wd)) := eh_self
          have k35_0 : ri_lk (ri_st1 (ri_st1 (ri_st1 lo 6 (.int (eh_i G 1 (i).toNatClampNeg))) 7 (.int x23)) 5 (.int (i + wd))) 0 = some (.ref 203) := eh_keep (by decide) (Or.inl rfl) k27_0
          have k35_1 : ri_lk (ri_st1 (ri_st1 (ri_st1 lo 6 (.int (eh_i G 1 (i).toNatClampNeg))) 7 (.int x23)) 5 (.int (i + wd))) 1 = some (.ref 23) := eh_keep (by decide) (Or.inl rfl) k27_1
          have k35_2 : ri_lk (ri_st1 (ri_st1 (ri_st1 lo 6 (.int (eh_i G 1 (i).toNatClampNeg))) 7 (.int x23)) 5 (.int (i + wd))) 2 = some (.ref 1) := eh_keep (by decide) (Or.inl rfl) k27_2
          have k35_3 : ri_lk (ri_st1 (ri_st1 (ri_st1 lo 6 (.int (eh_i G 1 (i).toNatClampNeg))) 7 (.int x23)) 5 (.int (i + wd))) 3 = some (.int n) := eh_keep (by decide) (Or.inl rfl) k27_3
          have k35_4 : ri_lk (ri_st1 (ri_st1 (ri_st1 lo 6 (.int (eh_i G 1 (i).toNatClampNeg))) 7 (.int x23)) 5 (.int (i + wd))) 4 = some (.int wd) := eh_keep (by decide) (Or.inl rfl) k27_4
          have k35_6 : ri_lk (ri_st1 (ri_st1 (ri_st1 lo 6 (.int (eh_i G 1 (i).toNatClampNeg))) 7 (.int x23)) 5 (.int (i + wd))) 6 = some (.int (eh_i G 1 (i).toNatClampNeg)) := eh_keep (by decide) (Or.inl rfl) k27_6
          have k35_7 : ri_lk (ri_st1 (ri_st1 (ri_st1 lo 6 (.int (eh_i G 1 (i).toNatClampNeg))) 7 (.int x23)) 5 (.int (i + wd))) 7 = some (.int x23) := eh_keep (by decide) (Or.inl rfl) k27_7
          have E := E.pu (p := 66) (lo' := (ri_st1 (ri_st1 (ri_st1 lo 6 (.int (eh_i G 1 (i).toNatClampNeg))) 7 (.int x23)) 5 (.int (i + wd)))) (st' := []) rfl (e := (.goto (-100), 3, [66], .null)) rfl rfl (fun _ _ => rfl)
          exact Or.inr (Or.inr (Or.inr (Or.inl ⟨x23, c1, c11, c12, c16, c24, c28, _, _, E, hV33, (hN34.trans (hN31.trans (hN26.trans (hN18.trans hN14)))), ((ty.ui rfl).ui rfl), k35_0, k35_1, k35_2, k35_3, k35_4, k35_5, k35_6, k35_7⟩)))
        · skip
          have E := E.ld (p := 130) (t := ri_isA) (i := 0) (n := 1) (v := .ref 203) rfl (e := (.aload_n 0, 1, [], .null)) rfl rfl (fun _ _ => rfl) k27_0 rfl
          have E := E.gr (n := 204) (p := 133) rfl (x := 21) (m := 3) (w := .null) (t := 2) (i := 3) (u := 535) rfl rfl hV25 ty rfl
          have E := E.ld (p := 135) (t := ri_isI) (i := 6) (n := 2) (v := .int (eh_i G 1 (i).toNatClampNeg)) rfl (e := (.iload 6, 2, [], .null)) rfl rfl (fun _ _ => rfl) k27_6 rfl
          have E := E.ai (p := 136) (z := eh_i G 204 (eh_i G 1 (i).toNatClampNeg).toNatClampNeg) (n := (eh_i G 1 (i).toNatClampNeg).toNatClampNeg) rfl (e := (.iaload, 1, [], .null)) rfl rfl (fun _ _ => rfl) rfl hV25 ty rfl rfl rfl
          have E := E.ld (p := 138) (t := ri_isI) (i := 7) (n := 2) (v := .int x23) rfl (e := (.iload 7, 2, [], .null)) rfl rfl (fun _ _ => rfl) k27_7 rfl
          rcases eh_q0 (E.br (p := 141) (c := 0) (tgt := 145) (a := eh_i G 204 (eh_i G 1 (i).toNatClampNeg).toNatClampNeg) (b := x23) (st' := [.int (eh_i G 203 4), .ref 203]) rfl (e := (.if_icmp .eq 7, 3, [145], .null)) rfl rfl (fun _ _ => rfl) rfl) with ⟨c36, E⟩ | ⟨c36, E⟩
          · skip
            have E := E.pu (p := 146) (lo' := (ri_st1 (ri_st1 lo 6 (.int (eh_i G 1 (i).toNatClampNeg))) 7 (.int x23))) (st' := [.int 0, .int (eh_i G 203 4), .ref 203]) rfl (e := (.iconst 0, 1, [], .null)) rfl rfl (fun _ _ => rfl)
            have E := E.pu (p := 147) (lo' := (ri_st1 (ri_st1 lo 6 (.int (eh_i G 1 (i).toNatClampNeg))) 7 (.int x23))) (st' := [.int ((eh_i G 203 4) ||| 0), .ref 203]) rfl (e := (.ior, 1, [], .null)) rfl rfl (fun _ _ => rfl)
            obtain ⟨h37, hV38, hN39, E⟩ := E.gp (p := 150) rfl (x := 25) (m := 3) (w := .null) (t := 2) (i := 4) (u := 536) (y := 1) rfl rfl hV25
            have E := E.ld (p := 151) (t := ri_isA) (i := 0) (n := 1) (v := .ref 203) rfl (e := (.aload_n 0, 1, [], .null)) rfl rfl (fun _ _ => rfl) k27_0 rfl
            have E := E.gr (n := 204) (p := 154) rfl (x := 21) (m := 3) (w := .null) (t := 2) (i := 3) (u := 535) rfl rfl hV38 (ty.ui rfl) rfl
            have E := E.ld (p := 156) (t := ri_isI) (i := 6) (n := 2) (v := .int (eh_i G 1 (i).toNatClampNeg)) rfl (e := (.iload 6, 2, [], .null)) rfl rfl (fun _ _ => rfl) k27_6 rfl
            have E := E.ld (p := 158) (t := ri_isI) (i := 7) (n := 2) (v := .int x23) rfl (e := (.iload 7, 2, [], .null)) rfl rfl (fun _ _ => rfl) k27_7 rfl
            obtain ⟨h40, hV41, hN42, E⟩ := E.aw (gg := ri_g1) (b := true) (p := 159) (n := (eh_i G 1 (i).toNatClampNeg).toNatClampNeg) rfl (e := (.iastore, 1, [], .null)) rfl rfl (fun _ _ => rfl) rfl hV38 rfl
            have E := E.ld (p := 161) (t := ri_isI) (i := 5) (n := 2) (v := .int i) rfl (e := (.iload 5, 2, [], .null)) rfl rfl (fun _ _ => rfl) k27_5 rfl
            have E := E.ld (p := 163) (t := ri_isI) (i := 4) (n := 2) (v := .int wd) rfl (e := (.iload 4, 2, [], .null)) rfl rfl (fun _ _ => rfl) k27_4 rfl
            have E := E.pu (p := 164) (lo' := (ri_st1 (ri_st1 lo 6 (.int (eh_i G 1 (i).toNatClampNeg))) 7 (.int x23))) (st' := [.int (i + wd)]) rfl (e := (.iadd, 1, [], .null)) rfl rfl (fun _ _ => rfl)
            have E := E.so (p := 166) (t := ri_isI) (i := 5) (n := 2) rfl (e := (.istore 5, 2, [], .null)) rfl rfl (fun _ _ => rfl) rfl
            have k43_5 : ri_lk (ri_st1 (ri_st1 (ri_st1 lo 6 (.int (eh_i G 1 (i).toNatClampNeg))) 7 (.int x23)) 5 (.int (i + wd))) 5 = some (.int (i + wd)) := eh_self
            have k43_0 : ri_lk (ri_st1 (ri_st1 (ri_st1 lo 6 (.int (eh_i G 1 (i).toNatClampNeg))) 7 (.int x23)) 5 (.int (i + wd))) 0 = some (.ref 203) := eh_keep (by decide) (Or.inl rfl) k27_0
            have k43_1 : ri_lk (ri_st1 (ri_st1 (ri_st1 lo 6 (.int (eh_i G 1 (i).toNatClampNeg))) 7 (.int x23)) 5 (.int (i + wd))) 1 = some (.ref 23) := eh_keep (by decide) (Or.inl rfl) k27_1
            have k43_2 : ri_lk (ri_st1 (ri_st1 (ri_st1 lo 6 (.int (eh_i G 1 (i).toNatClampNeg))) 7 (.int x23)) 5 (.int (i + wd))) 2 = some (.ref 1) := eh_keep (by decide) (Or.inl rfl) k27_2
            have k43_3 : ri_lk (ri_st1 (ri_st1 (ri_st1 lo 6 (.int (eh_i G 1 (i).toNatClampNeg))) 7 (.int x23)) 5 (.int (i + wd))) 3 = some (.int n) := eh_keep (by decide) (Or.inl rfl) k27_3
            have k43_4 : ri_lk (ri_st1 (ri_st1 (ri_st1 lo 6 (.int (eh_i G 1 (i).toNatClampNeg))) 7 (.int x23)) 5 (.int (i + wd))) 4 = some (.int wd) := eh_keep (by decide) (Or.inl rfl) k27_4
            have k43_6 : ri_lk (ri_st1 (ri_st1 (ri_st1 lo 6 (.int (eh_i G 1 (i).toNatClampNeg))) 7 (.int x23)) 5 (.int (i + wd))) 6 = some (.int (eh_i G 1 (i).toNatClampNeg)) := eh_keep (by decide) (Or.inl rfl) k27_6
            have k43_7 : ri_lk (ri_st1 (ri_st1 (ri_st1 lo 6 (.int (eh_i G 1 (i).toNatClampNeg))) 7 (.int x23)) 5 (.int (i + wd))) 7 = some (.int x23) := eh_keep (by decide) (Or.inl rfl) k27_7
            have E := E.pu (p := 66) (lo' := (ri_st1 (ri_st1 (ri_st1 lo 6 (.int (eh_i G 1 (i).toNatClampNeg))) 7 (.int x23)) 5 (.int (i + wd)))) (st' := []) rfl (e := (.goto (-100), 3, [66], .null)) rfl rfl (fun _ _ => rfl)
            exact Or.inr (Or.inr (Or.inr (Or.inr (Or.inl ⟨x23, c1, c11, c12, c16, c24, c28, c36, _, _, E, hV41, (hN42.trans (hN39.trans (hN26.trans (hN18.trans hN14)))), ((ty.ui rfl).ui rfl), k43_0, k43_1, k43_2, k43_3, k43_4, k43_5, k43_6, k43_7⟩))))
          · skip
            have E := E.pu (p := 142) (lo' := (ri_st1 (ri_st1 lo 6 (.int (eh_i G 1 (i).toNatClampNeg))) 7 (.int x23))) (st' := [.int 1, .int (eh_i G 203 4), .ref 203]) rfl (e := (.iconst 1, 1, [], .null)) rfl rfl (fun _ _ => rfl)
            have E := E.pu (p := 146) (lo' := (ri_st1 (ri_st1 lo 6 (.int (eh_i G 1 (i).toNatClampNeg))) 7 (.int x23))) (st' := [.int 1, .int (eh_i G 203 4), .ref 203]) rfl (e := (.goto 4, 3, [146], .null)) rfl rfl (fun _ _ => rfl)
            have E := E.pu (p := 147) (lo' := (ri_st1 (ri_st1 lo 6 (.int (eh_i G 1 (i).toNatClampNeg))) 7 (.int x23))) (st' := [.int ((eh_i G 203 4) ||| 1), .ref 203]) rfl (e := (.ior, 1, [], .null)) rfl rfl (fun _ _ => rfl)
            obtain ⟨h44, hV45, hN46, E⟩ := E.gp (p := 150) rfl (x := 25) (m := 3) (w := .null) (t := 2) (i := 4) (u := 536) (y := 1) rfl rfl hV25
            have E := E.ld (p := 151) (t := ri_isA) (i := 0) (n := 1) (v := .ref 203) rfl (e := (.aload_n 0, 1, [], .null)) rfl rfl (fun _ _ => rfl) k27_0 rfl
            have E := E.gr (n := 204) (p := 154) rfl (x := 21) (m := 3) (w := .null) (t := 2) (i := 3) (u := 535) rfl rfl hV45 (ty.ui rfl) rfl
            have E := E.ld (p := 156) (t := ri_isI) (i := 6) (n := 2) (v := .int (eh_i G 1 (i).toNatClampNeg)) rfl (e := (.iload 6, 2, [], .null)) rfl rfl (fun _ _ => rfl) k27_6 rfl
            have E := E.ld (p := 158) (t := ri_isI) (i := 7) (n := 2) (v := .int x23) rfl (e := (.iload 7, 2, [], .null)) rfl rfl (fun _ _ => rfl) k27_7 rfl
            obtain ⟨h47, hV48, hN49, E⟩ := E.aw (gg := ri_g1) (b := true) (p := 159) (n := (eh_i G 1 (i).toNatClampNeg).toNatClampNeg) rfl (e := (.iastore, 1, [], .null)) rfl rfl (fun _ _ => rfl) rfl hV45 rfl
            have E := E.ld (p := 161) (t := ri_isI) (i := 5) (n := 2) (v := .int i) rfl (e := (.iload 5, 2, [], .null)) rfl rfl (fun _ _ => rfl) k27_5 rfl
            have E := E.ld (p := 163) (t := ri_isI) (i := 4) (n := 2) (v := .int wd) rfl (e := (.iload 4, 2, [], .null)) rfl rfl (fun _ _ => rfl) k27_4 rfl
            have E := E.pu (p := 164) (lo' := (ri_st1 (ri_st1 lo 6 (.int (eh_i G 1 (i).toNatClampNeg))) 7 (.int x23))) (st' := [.int (i + wd)]) rfl (e := (.iadd, 1, [], .null)) rfl rfl (fun _ _ => rfl)
            have E := E.so (p := 166) (t := ri_isI) (i := 5) (n := 2) rfl (e := (.istore 5, 2, [], .null)) rfl rfl (fun _ _ => rfl) rfl
            have k50_5 : ri_lk (ri_st1 (ri_st1 (ri_st1 lo 6 (.int (eh_i G 1 (i).toNatClampNeg))) 7 (.int x23)) 5 (.int (i + wd))) 5 = some (.int (i + wd)) := eh_self
            have k50_0 : ri_lk (ri_st1 (ri_st1 (ri_st1 lo 6 (.int (eh_i G 1 (i).toNatClampNeg))) 7 (.int x23)) 5 (.int (i + wd))) 0 = some (.ref 203) := eh_keep (by decide) (Or.inl rfl) k27_0
            have k50_1 : ri_lk (ri_st1 (ri_st1 (ri_st1 lo 6 (.int (eh_i G 1 (i).toNatClampNeg))) 7 (.int x23)) 5 (.int (i + wd))) 1 = some (.ref 23) := eh_keep (by decide) (Or.inl rfl) k27_1
            have k50_2 : ri_lk (ri_st1 (ri_st1 (ri_st1 lo 6 (.int (eh_i G 1 (i).toNatClampNeg))) 7 (.int x23)) 5 (.int (i + wd))) 2 = some (.ref 1) := eh_keep (by decide) (Or.inl rfl) k27_2
            have k50_3 : ri_lk (ri_st1 (ri_st1 (ri_st1 lo 6 (.int (eh_i G 1 (i).toNatClampNeg))) 7 (.int x23)) 5 (.int (i + wd))) 3 = some (.int n) := eh_keep (by decide) (Or.inl rfl) k27_3
            have k50_4 : ri_lk (ri_st1 (ri_st1 (ri_st1 lo 6 (.int (eh_i G 1 (i).toNatClampNeg))) 7 (.int x23)) 5 (.int (i + wd))) 4 = some (.int wd) := eh_keep (by decide) (Or.inl rfl) k27_4
            have k50_6 : ri_lk (ri_st1 (ri_st1 (ri_st1 lo 6 (.int (eh_i G 1 (i).toNatClampNeg))) 7 (.int x23)) 5 (.int (i + wd))) 6 = some (.int (eh_i G 1 (i).toNatClampNeg)) := eh_keep (by decide) (Or.inl rfl) k27_6
            have k50_7 : ri_lk (ri_st1 (ri_st1 (ri_st1 lo 6 (.int (eh_i G 1 (i).toNatClampNeg))) 7 (.int x23)) 5 (.int (i + wd))) 7 = some (.int x23) := eh_keep (by decide) (Or.inl rfl) k27_7
            have E := E.pu (p := 66) (lo' := (ri_st1 (ri_st1 (ri_st1 lo 6 (.int (eh_i G 1 (i).toNatClampNeg))) 7 (.int x23)) 5 (.int (i + wd)))) (st' := []) rfl (e := (.goto (-100), 3, [66], .null)) rfl rfl (fun _ _ => rfl)
            exact Or.inr (Or.inr (Or.inr (Or.inr (Or.inr (Or.inl ⟨x23, c1, c11, c12, c16, c24, c28, c36, _, _, E, hV48, (hN49.trans (hN46.trans (hN26.trans (hN18.trans hN14)))), ((ty.ui rfl).ui rfl), k50_0, k50_1, k50_2, k50_3, k50_4, k50_5, k50_6, k50_7⟩)))))
      · skip
        have c19 : ¬ (hOK G w (a + 1)) := c19
        have E : eh_e _ _ 97 (ri_st1 lo 6 (.int (eh_i G 1 (i).toNatClampNeg))) [.int 0] _ rs h' := E
        have E := E.brf (p := 100) (c := 1) (tgt := 102) (a := 0) (b := 0) (st' := []) rfl (e := (.ifCond .ne 5, 3, [102], .null)) rfl rfl (fun _ _ => rfl) (by decide) rfl
        have E := E.pu (p := 101) (lo' := (ri_st1 lo 6 (.int (eh_i G 1 (i).toNatClampNeg)))) (st' := [.int 0]) rfl (e := (.iconst 0, 1, [], .null)) rfl rfl (fun _ _ => rfl)
        obtain ⟨r1, r2⟩ := E.reti rfl (m := 1) (ax := []) (w := .null) rfl
        exact Or.inr (Or.inr (Or.inr (Or.inr (Or.inr (Or.inr (⟨c1, c11, c12, c19, r1, ((congrArg eh_V r2).trans hV20), ((congrArg eh_N r2).trans (hN21.trans hN14))⟩))))))
