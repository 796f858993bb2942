theorem le_a {d : Nat} {lo : List (Nat × Value)} {h h' : ri_H} {rs : List Value} {G : eh_W} {b : Nat → Int32} {n m : Nat} {l : Int32} (E : eh_e (ri_calE ri_md (d + 3)) md_47 0 lo [] h rs h') (hV : eh_V h = G) (iv : iC b n m G) (l0 : ri_lk lo 0 = some (.ref 4)) (l1 : ri_lk lo 1 = some (.int l)) : (∃ (x3 : Int32), ∃ (h1 : ri_H), ri_calE ri_md (d + 3) 84 [.ref 2, .ref 5, .int 0] h = some (some (.int x3), h1) ∧ iC b n m (eh_V h1) ∧ ¬ (x3 = (-1)) ∧ ∃ hz loz, eh_e (ri_calE ri_md (d + 3)) md_47 47 loz [] hz rs h' ∧ eh_V hz = eh_u (eh_u (eh_V h1) 8 (l).toNatClampNeg (.int x3)) 9 (x3).toNatClampNeg (.int ((eh_i (eh_V h1) 9 (x3).toNatClampNeg) ||| (1 <<< (l &&& 31)))) ∧ eh_N hz = eh_N h ∧ iC b n m (eh_u (eh_u (eh_V h1) 8 (l).toNatClampNeg (.int x3)) 9 (x3).toNatClampNeg (.int ((eh_i (eh_V h1) 9 (x3).toNatClampNeg) ||| (1 <<< (l &&& 31))))) ∧ ri_lk loz 0 = some (.ref 4) ∧ ri_lk loz 1 = some (.int l) ∧ ri_lk loz 2 = some (.int x3) ∧ ri_lk loz 3 = some (.int 0)) ∨ (∃ (x3 : Int32), ∃ (h1 : ri_H), ri_calE ri_md (d + 3) 84 [.ref 2, .ref 5, .int 0] h = some (some (.int x3), h1) ∧ iC b n m (eh_V h1) ∧ x3 = (-1) ∧ rs = [.int 0] ∧ eh_V h' = (eh_V h1) ∧ eh_N h' = eh_N h ∧ iC b n m (eh_V h1)) := by
  have E := E.ld (p := 1) (t := ri_isA) (i := 0) (n := 1) (v := .ref 4) rfl (e := (.aload_n 0, 1, [], .null)) rfl rfl (fun _ _ => rfl) l0 rfl
  have E := E.gr (n := 2) (p := 4) rfl (x := 22) (m := 3) (w := .null) (t := 5) (i := 0) (u := 322) rfl rfl hV (iv.1) rfl
  have E := E.ld (p := 5) (t := ri_isA) (i := 0) (n := 1) (v := .ref 4) rfl (e := (.aload_n 0, 1, [], .null)) rfl rfl (fun _ _ => rfl) l0 rfl
  have E := E.gr (n := 5) (p := 8) rfl (x := 12) (m := 3) (w := .null) (t := 5) (i := 1) (u := 323) rfl rfl hV (iv.1) rfl
  have E := E.pu (p := 9) (lo' := lo) (st' := [.int 0, .ref 5, .ref 2]) rfl (e := (.iconst 0, 1, [], .null)) rfl rfl (fun _ _ => rfl)
  obtain ⟨v1, h1, X, E⟩ := E.cv (p := 12) (as := [.ref 5, .int 0]) (b := 2) (r := []) rfl (x := 102) (m := 3) (w := .null) (j := 84) (n := 2) (t := 8) (u := [696, 698, 697]) rfl rfl rfl
  obtain ⟨x3, rfl, ivk2, hNk2⟩ := tp_84 (d := d) X (by rw [hV]; exact iv)
  have Xk2 := X
  have E : eh_e _ _ 12 lo [.int x3] h1 rs h' := E
  have E := E.so (p := 13) (t := ri_isI) (i := 2) (n := 1) rfl (e := (.istore_n 2, 1, [], .null)) rfl rfl (fun _ _ => rfl) rfl
  have k4_2 : ri_lk (ri_st1 lo 2 (.int x3)) 2 = some (.int x3) := eh_self
  have k4_0 : ri_lk (ri_st1 lo 2 (.int x3)) 0 = some (.ref 4) := eh_keep (by decide) (Or.inl rfl) l0
  have k4_1 : ri_lk (ri_st1 lo 2 (.int x3)) 1 = some (.int l) := eh_keep (by decide) (Or.inl rfl) l1
  have E := E.ld (p := 14) (t := ri_isI) (i := 2) (n := 1) (v := .int x3) rfl (e := (.iload_n 2, 1, [], .null)) rfl rfl (fun _ _ => rfl) k4_2 rfl
  have E := E.pu (p := 15) (lo' := (ri_st1 lo 2 (.int x3))) (st' := [.int (-1), .int x3]) rfl (e := (.iconst (-1), 1, [], .null)) rfl rfl (fun _ _ => rfl)
  rcases eh_q1 (E.br (p := 18) (c := 1) (tgt := 20) (a := x3) (b := (-1)) (st' := []) rfl (e := (.if_icmp .ne 5, 3, [20], .null)) rfl rfl (fun _ _ => rfl) rfl) with ⟨c5, E⟩ | ⟨c5, E⟩
  · skip
    have E := E.ld (p := 21) (t := ri_isA) (i := 0) (n := 1) (v := .ref 4) rfl (e := (.aload_n 0, 1, [], .null)) rfl rfl (fun _ _ => rfl) k4_0 rfl
    have E := E.gr (n := 5) (p := 24) rfl (x := 12) (m := 3) (w := .null) (t := 5) (i := 1) (u := 323) rfl rfl (rfl : eh_V h1 = eh_V h1) ivk2.1 rfl
    have E := E.gr (n := 8) (p := 27) rfl (x := 106) (m := 3) (w := .null) (t := 4) (i := 3) (u := 270) rfl rfl (rfl : eh_V h1 = eh_V h1) ivk2.1 rfl
    have E := E.ld (p := 28) (t := ri_isI) (i := 1) (n := 1) (v := .int l) rfl (e := (.iload_n 1, 1, [], .null)) rfl rfl (fun _ _ => rfl) k4_1 rfl
    have E := E.ld (p := 29) (t := ri_isI) (i := 2) (n := 1) (v := .int x3) rfl (e := (.iload_n 2, 1, [], .null)) rfl rfl (fun _ _ => rfl) k4_2 rfl
    obtain ⟨h6, hV7, hN8, E⟩ := E.aw (gg := ri_g1) (b := true) (p := 30) (n := (l).toNatClampNeg) rfl (e := (.iastore, 1, [], .null)) rfl rfl (fun _ _ => rfl) rfl (rfl : eh_V h1 = eh_V h1) rfl
    have E := E.ld (p := 31) (t := ri_isA) (i := 0) (n := 1) (v := .ref 4) rfl (e := (.aload_n 0, 1, [], .null)) rfl rfl (fun _ _ => rfl) k4_0 rfl
    have E := E.gr (n := 5) (p := 34) rfl (x := 12) (m := 3) (w := .null) (t := 5) (i := 1) (u := 323) rfl rfl hV7 (ivk2.1.ui rfl) rfl
    have E := E.gr (n := 9) (p := 37) rfl (x := 109) (m := 3) (w := .null) (t := 4) (i := 4) (u := 274) rfl rfl hV7 (ivk2.1.ui rfl) rfl
    have E := E.ld (p := 38) (t := ri_isI) (i := 2) (n := 1) (v := .int x3) rfl (e := (.iload_n 2, 1, [], .null)) rfl rfl (fun _ _ => rfl) k4_2 rfl
    have E := E.pu (p := 39) (lo' := (ri_st1 lo 2 (.int x3))) (st' := [.int x3, .ref 9, .int x3, .ref 9]) rfl (e := (.dup2, 1, [], .null)) rfl rfl (fun _ _ => rfl)
    have E := E.ai (p := 40) (z := eh_i (eh_V h1) 9 (x3).toNatClampNeg) (n := (x3).toNatClampNeg) rfl (e := (.iaload, 1, [], .null)) rfl rfl (fun _ _ => rfl) rfl hV7 (ivk2.1.ui rfl) rfl rfl rfl
    have E := E.pu (p := 41) (lo' := (ri_st1 lo 2 (.int x3))) (st' := [.int 1, .int (eh_i (eh_V h1) 9 (x3).toNatClampNeg), .int x3, .ref 9]) rfl (e := (.iconst 1, 1, [], .null)) rfl rfl (fun _ _ => rfl)
    have E := E.ld (p := 42) (t := ri_isI) (i := 1) (n := 1) (v := .int l) rfl (e := (.iload_n 1, 1, [], .null)) rfl rfl (fun _ _ => rfl) k4_1 rfl
    have E := E.pu (p := 43) (lo' := (ri_st1 lo 2 (.int x3))) (st' := [.int (1 <<< (l &&& 31)), .int (eh_i (eh_V h1) 9 (x3).toNatClampNeg), .int x3, .ref 9]) rfl (e := (.ishl, 1, [], .null)) rfl rfl (fun _ _ => rfl)
    have E := E.pu (p := 44) (lo' := (ri_st1 lo 2 (.int x3))) (st' := [.int ((eh_i (eh_V h1) 9 (x3).toNatClampNeg) ||| (1 <<< (l &&& 31))), .int x3, .ref 9]) rfl (e := (.ior, 1, [], .null)) rfl rfl (fun _ _ => rfl)
    obtain ⟨h9, hV10, hN11, E⟩ := E.aw (gg := ri_g1) (b := true) (p := 45) (n := (x3).toNatClampNeg) rfl (e := (.iastore, 1, [], .null)) rfl rfl (fun _ _ => rfl) rfl hV7 rfl
    have E := E.pu (p := 46) (lo' := (ri_st1 lo 2 (.int x3))) (st' := [.int 0]) rfl (e := (.iconst 0, 1, [], .null)) rfl rfl (fun _ _ => rfl)
    have E := E.so (p := 47) (t := ri_isI) (i := 3) (n := 1) rfl (e := (.istore_n 3, 1, [], .null)) rfl rfl (fun _ _ => rfl) rfl
    have k12_3 : ri_lk (ri_st1 (ri_st1 lo 2 (.int x3)) 3 (.int 0)) 3 = some (.int 0) := eh_self
    have k12_0 : ri_lk (ri_st1 (ri_st1 lo 2 (.int x3)) 3 (.int 0)) 0 = some (.ref 4) := eh_keep (by decide) (Or.inl rfl) k4_0
    have k12_1 : ri_lk (ri_st1 (ri_st1 lo 2 (.int x3)) 3 (.int 0)) 1 = some (.int l) := eh_keep (by decide) (Or.inl rfl) k4_1
    have k12_2 : ri_lk (ri_st1 (ri_st1 lo 2 (.int x3)) 3 (.int 0)) 2 = some (.int x3) := eh_keep (by decide) (Or.inl rfl) k4_2
    exact Or.inl ⟨x3, h1, Xk2, ivk2, c5, _, _, E, hV10, (hN11.trans (hN8.trans hNk2)), (iC_u (iC_u ivk2 (ivk2.1.ui rfl) rfl) ((ivk2.1.ui rfl).ui rfl) rfl), k12_0, k12_1, k12_2, k12_3⟩
  · skip
    have E := E.pu (p := 19) (lo' := (ri_st1 lo 2 (.int x3))) (st' := [.int 0]) rfl (e := (.iconst 0, 1, [], .null)) rfl rfl (fun _ _ => rfl)
    obtain ⟨r1, r2⟩ := E.reti rfl (m := 1) (ax := []) (w := .null) rfl
    exact Or.inr (⟨x3, h1, Xk2, ivk2, c5, r1, ((congrArg eh_V r2).trans (rfl : eh_V h1 = eh_V h1)), ((congrArg eh_N r2).trans hNk2), ivk2⟩)
theorem le_i {d : Nat} {lo : List (Nat × Value)} {h h' : ri_H} {rs : List Value} {G : eh_W} {b : Nat → Int32} {n m : Nat} {l cu i : Int32} (E : eh_e (ri_calE ri_md (d + 4)) md_47 47 lo [] h rs h') (hV : eh_V h = G) (iv : iC b n m G) (l0 : ri_lk lo 0 = some (.ref 4)) (l1 : ri_lk lo 1 = some (.int l)) (l2 : ri_lk lo 2 = some (.int cu)) (l3 : ri_lk lo 3 = some (.int i)) : (¬ (i.toInt < 8) ∧ ¬ ((eh_i G 2 5) = 4) ∧ rs = [.int 1] ∧ eh_V h' = G ∧ eh_N h' = eh_N h ∧ iC b n m G) ∨ (¬ (i.toInt < 8) ∧ (eh_i G 2 5) = 4 ∧ rs = [.int 0] ∧ eh_V h' = eh_u (eh_u G 2 9 (.int 4)) 2 10 (.int (eh_i G 2 6)) ∧ eh_N h' = eh_N h ∧ iC b n m (eh_u (eh_u G 2 9 (.int 4)) 2 10 (.int (eh_i G 2 6)))) ∨ (i.toInt < 8 ∧ ¬ ((eh_i G 2 5) = 4) ∧ rs = [.int 1] ∧ eh_V h' = G ∧ eh_N h' = eh_N h ∧ iC b n m G) ∨ (∃ (x9 : Int32), ∃ (h7 : ri_H), i.toInt < 8 ∧ (eh_i G 2 5) = 4 ∧ ri_calE ri_md (d + 4) 48 [.ref 4, .int l] h = some (some (.int x9), h7) ∧ iC b n m (eh_V h7) ∧ ¬ (x9 = 0) ∧ ∃ hz loz, eh_e (ri_calE ri_md (d + 4)) md_47 47 loz [] hz rs h' ∧ eh_V hz = (eh_V h7) ∧ eh_N hz = eh_N h ∧ iC b n m (eh_V h7) ∧ ri_lk loz 0 = some (.ref 4) ∧ ri_lk loz 1 = some (.int l) ∧ ri_lk loz 2 = some (.int cu) ∧ ri_lk loz 3 = some (.int (i + 1))) ∨ (∃ (x9 : Int32), ∃ (h7 : ri_H), i.toInt < 8 ∧ (eh_i G 2 5) = 4 ∧ ri_calE ri_md (d + 4) 48 [.ref 4, .int l] h = some (some (.int x9), h7) ∧ iC b n m (eh_V h7) ∧ x9 = 0 ∧ rs = [.int 0] ∧ eh_V h' = (eh_V h7) ∧ eh_N h' = eh_N h ∧ iC b n m (eh_V h7)) := by
  have E := E.ld (p := 48) (t := ri_isI) (i := 3) (n := 1) (v := .int i) rfl (e := (.iload_n 3, 1, [], .null)) rfl rfl (fun _ _ => rfl) l3 rfl
  have E := E.pu (p := 50) (lo' := lo) (st' := [.int 8, .int i]) rfl (e := (.bipush 8, 2, [], .null)) rfl rfl (fun _ _ => rfl)
  rcases eh_r3 rfl (show (8 : Int32).toInt = 8 by decide) (E.br (p := 53) (c := 3) (tgt := 80) (a := i) (b := 8) (st' := []) rfl (e := (.if_icmp .ge 30, 3, [80], .null)) rfl rfl (fun _ _ => rfl) rfl) with ⟨c1, E⟩ | ⟨c1, E⟩
  · skip
    have E := E.ld (p := 81) (t := ri_isA) (i := 0) (n := 1) (v := .ref 4) rfl (e := (.aload_n 0, 1, [], .null)) rfl rfl (fun _ _ => rfl) l0 rfl
    have E := E.gr (n := 2) (p := 84) rfl (x := 22) (m := 3) (w := .null) (t := 5) (i := 0) (u := 322) rfl rfl hV (iv.1) rfl
    have E := E.gi (y := eh_i G 2 5) (p := 87) rfl (x := 29) (m := 3) (w := .null) (t := 8) (i := 5) (u := 195) rfl rfl hV (iv.1) rfl rfl
    have E := E.pu (p := 88) (lo' := lo) (st' := [.int 4, .int (eh_i G 2 5)]) rfl (e := (.iconst 4, 1, [], .null)) rfl rfl (fun _ _ => rfl)
    rcases eh_q1 (E.br (p := 91) (c := 1) (tgt := 102) (a := eh_i G 2 5) (b := 4) (st' := []) rfl (e := (.if_icmp .ne 14, 3, [102], .null)) rfl rfl (fun _ _ => rfl) rfl) with ⟨c2, E⟩ | ⟨c2, E⟩
    · skip
      have E := E.pu (p := 103) (lo' := lo) (st' := [.int 1]) rfl (e := (.iconst 1, 1, [], .null)) rfl rfl (fun _ _ => rfl)
      have E := E.pu (p := 107) (lo' := lo) (st' := [.int 1]) rfl (e := (.goto 4, 3, [107], .null)) rfl rfl (fun _ _ => rfl)
      obtain ⟨r1, r2⟩ := E.reti rfl (m := 1) (ax := []) (w := .null) rfl
      exact Or.inl ⟨c1, c2, r1, ((congrArg eh_V r2).trans hV), (congrArg eh_N r2), iv⟩
    · skip
      have E := E.ld (p := 92) (t := ri_isA) (i := 0) (n := 1) (v := .ref 4) rfl (e := (.aload_n 0, 1, [], .null)) rfl rfl (fun _ _ => rfl) l0 rfl
      have E := E.gr (n := 2) (p := 95) rfl (x := 22) (m := 3) (w := .null) (t := 5) (i := 0) (u := 322) rfl rfl hV (iv.1) rfl
      have E := E.pu (p := 96) (lo' := lo) (st' := [.int 4, .ref 2]) rfl (e := (.iconst 4, 1, [], .null)) rfl rfl (fun _ _ => rfl)
      obtain ⟨v1, h3, X, E⟩ := E.cv (p := 99) (as := [.int 4]) (b := 2) (r := []) rfl (x := 47) (m := 3) (w := .null) (j := 78) (n := 1) (t := 8) (u := [676, 678, 677]) rfl rfl rfl
      rcases sp_78 (d := d + 3) X hV (iv.1) with ⟨rfl, hV4, hN5⟩
      have hV4 : _ = eh_u (eh_u G 2 9 (.int 4)) 2 10 (.int (eh_i G 2 6)) := hV4
      have E : eh_e _ _ 99 lo [.int 0] _ rs h' := E
      have E := E.brt (c := 0) (tgt := 106) (a := 0) (b := 0) (st' := []) rfl (e := (.ifCond .eq 7, 3, [106], .null)) rfl rfl (fun _ _ => rfl) (by decide)
      have E := E.pu (p := 107) (lo' := lo) (st' := [.int 0]) rfl (e := (.iconst 0, 1, [], .null)) rfl rfl (fun _ _ => rfl)
      obtain ⟨r1, r2⟩ := E.reti rfl (m := 1) (ax := []) (w := .null) rfl
      exact Or.inr (Or.inl ⟨c1, c2, r1, ((congrArg eh_V r2).trans hV4), ((congrArg eh_N r2).trans hN5), (iC_u (iC_u iv ((iv.1).ui rfl) rfl) (((iv.1).ui rfl).ui rfl) rfl)⟩)
  · skip
    have E := E.ld (p := 54) (t := ri_isA) (i := 0) (n := 1) (v := .ref 4) rfl (e := (.aload_n 0, 1, [], .null)) rfl rfl (fun _ _ => rfl) l0 rfl
    have E := E.gr (n := 2) (p := 57) rfl (x := 22) (m := 3) (w := .null) (t := 5) (i := 0) (u := 322) rfl rfl hV (iv.1) rfl
    have E := E.gi (y := eh_i G 2 5) (p := 60) rfl (x := 29) (m := 3) (w := .null) (t := 8) (i := 5) (u := 195) rfl rfl hV (iv.1) rfl rfl
    have E := E.pu (p := 61) (lo' := lo) (st' := [.int 4, .int (eh_i G 2 5)]) rfl (e := (.iconst 4, 1, [], .null)) rfl rfl (fun _ _ => rfl)
    rcases eh_q1 (E.br (p := 64) (c := 1) (tgt := 80) (a := eh_i G 2 5) (b := 4) (st' := []) rfl (e := (.if_icmp .ne 19, 3, [80], .null)) rfl rfl (fun _ _ => rfl) rfl) with ⟨c6, E⟩ | ⟨c6, E⟩
    · skip
      have E := E.ld (p := 81) (t := ri_isA) (i := 0) (n := 1) (v := .ref 4) rfl (e := (.aload_n 0, 1, [], .null)) rfl rfl (fun _ _ => rfl) l0 rfl
      have E := E.gr (n := 2) (p := 84) rfl (x := 22) (m := 3) (w := .null) (t := 5) (i := 0) (u := 322) rfl rfl hV (iv.1) rfl
      have E := E.gi (y := eh_i G 2 5) (p := 87) rfl (x := 29) (m := 3) (w := .null) (t := 8) (i := 5) (u := 195) rfl rfl hV (iv.1) rfl rfl
      have E := E.pu (p := 88) (lo' := lo) (st' := [.int 4, .int (eh_i G 2 5)]) rfl (e := (.iconst 4, 1, [], .null)) rfl rfl (fun _ _ => rfl)
      have E := (eh_q1 (E.br (p := 91) (c := 1) (tgt := 102) (a := eh_i G 2 5) (b := 4) (st' := []) rfl (e := (.if_icmp .ne 14, 3, [102], .null)) rfl rfl (fun _ _ => rfl) rfl)).elim (fun y => y.2) (fun y => absurd y.1 c6)
      have E := E.pu (p := 103) (lo' := lo) (st' := [.int 1]) rfl (e := (.iconst 1, 1, [], .null)) rfl rfl (fun _ _ => rfl)
      have E := E.pu (p := 107) (lo' := lo) (st' := [.int 1]) rfl (e := (.goto 4, 3, [107], .null)) rfl rfl (fun _ _ => rfl)
      obtain ⟨r1, r2⟩ := E.reti rfl (m := 1) (ax := []) (w := .null) rfl
      exact Or.inr (Or.inr (Or.inl ⟨c1, c6, r1, ((congrArg eh_V r2).trans hV), (congrArg eh_N r2), iv⟩))
    · skip
      have E := E.ld (p := 65) (t := ri_isA) (i := 0) (n := 1) (v := .ref 4) rfl (e := (.aload_n 0, 1, [], .null)) rfl rfl (fun _ _ => rfl) l0 rfl
      have E := E.ld (p := 66) (t := ri_isI) (i := 1) (n := 1) (v := .int l) rfl (e := (.iload_n 1, 1, [], .null)) rfl rfl (fun _ _ => rfl) l1 rfl
      obtain ⟨v1, h7, X, E⟩ := E.cv (p := 69) (as := [.int l]) (b := 4) (r := []) rfl (x := 112) (m := 3) (w := .null) (j := 48) (n := 1) (t := 5) (u := [702, 6, 704]) rfl rfl rfl
      obtain ⟨x9, rfl, ivk8, hNk8⟩ := tp_48 (d := d) X (by rw [hV]; exact iv)
      have Xk8 := X
      have E : eh_e _ _ 69 lo [.int x9] h7 rs h' := E
      rcases eh_q1 (E.br (p := 72) (c := 1) (tgt := 74) (a := x9) (b := 0) (st' := []) rfl (e := (.ifCond .ne 5, 3, [74], .null)) rfl rfl (fun _ _ => rfl) rfl) with ⟨c10, E⟩ | ⟨c10, E⟩
      · skip
        have E := E.ii (p := 77) (y := i + 1) rfl (i := 3) (n := 1) (m := 3) (ax := []) (w := .null) rfl l3 rfl rfl
        have k11_3 : ri_lk (ri_st1 lo 3 (.int (i + 1))) 3 = some (.int (i + 1)) := eh_self
        have k11_0 : ri_lk (ri_st1 lo 3 (.int (i + 1))) 0 = some (.ref 4) := eh_keep (by decide) (Or.inl rfl) l0
        have k11_1 : ri_lk (ri_st1 lo 3 (.int (i + 1))) 1 = some (.int l) := eh_keep (by decide) (Or.inl rfl) l1
        have k11_2 : ri_lk (ri_st1 lo 3 (.int (i + 1))) 2 = some (.int cu) := eh_keep (by decide) (Or.inl rfl) l2
        have E := E.pu (p := 47) (lo' := (ri_st1 lo 3 (.int (i + 1)))) (st' := []) rfl (e := (.goto (-30), 3, [47], .null)) rfl rfl (fun _ _ => rfl)
        exact Or.inr (Or.inr (Or.inr (Or.inl ⟨x9, h7, c1, c6, Xk8, ivk8, c10, _, _, E, (rfl : eh_V h7 = eh_V h7), hNk8, ivk8, k11_0, k11_1, k11_2, k11_3⟩)))
      · skip
        have E := E.pu (p := 73) (lo' := lo) (st' := [.int 0]) rfl (e := (.iconst 0, 1, [], .null)) rfl rfl (fun _ _ => rfl)
        obtain ⟨r1, r2⟩ := E.reti rfl (m := 1) (ax := []) (w := .null) rfl
        exact Or.inr (Or.inr (Or.inr (Or.inr (⟨x9, h7, c1, c6, Xk8, ivk8, c10, r1, ((congrArg eh_V r2).trans (rfl : eh_V h7 = eh_V h7)), ((congrArg eh_N r2).trans hNk8), ivk8⟩))))
