theorem yah_a {cal : eh_K} {lo : List (Nat × Value)} {h h' : ri_H} {rs : List Value} {G : eh_W} {fr : Int32} (E : eh_e cal md_36 0 lo [] h rs h') (hV : eh_V h = G) (ty : eh_ty tC G) (l0 : ri_lk lo 0 = some (.ref 23)) (l1 : ri_lk lo 1 = some (.ref 1)) (l2 : ri_lk lo 2 = some (.int fr)) : ∃ hz loz, eh_e cal md_36 2 loz [] hz rs h' ∧ eh_V hz = G ∧ eh_N hz = eh_N h ∧ eh_ty tC G ∧ ri_lk loz 0 = some (.ref 23) ∧ ri_lk loz 1 = some (.ref 1) ∧ ri_lk loz 2 = some (.int fr) ∧ ri_lk loz 3 = some (.int fr) := by
  have E := E.ld (p := 1) (t := ri_isI) (i := 2) (n := 1) (v := .int fr) rfl (e := (.iload_n 2, 1, [], .null)) rfl rfl (fun _ _ => rfl) l2 rfl
  have E := E.so (p := 2) (t := ri_isI) (i := 3) (n := 1) rfl (e := (.istore_n 3, 1, [], .null)) rfl rfl (fun _ _ => rfl) rfl
  have k1_3 : ri_lk (ri_st1 lo 3 (.int fr)) 3 = some (.int fr) := eh_self
  have k1_0 : ri_lk (ri_st1 lo 3 (.int fr)) 0 = some (.ref 23) := eh_keep (by decide) (Or.inl rfl) l0
  have k1_1 : ri_lk (ri_st1 lo 3 (.int fr)) 1 = some (.ref 1) := eh_keep (by decide) (Or.inl rfl) l1
  have k1_2 : ri_lk (ri_st1 lo 3 (.int fr)) 2 = some (.int fr) := eh_keep (by decide) (Or.inl rfl) l2
  exact ⟨_, _, E, hV, rfl, ty, k1_0, k1_1, k1_2, k1_3⟩
theorem yah_l {cal : eh_K} {lo : List (Nat × Value)} {h h' : ri_H} {rs : List Value} {G : eh_W} {fr i : Int32} (E : eh_e cal md_36 2 lo [] h rs h') (hV : eh_V h = G) (ty : eh_ty tC G) (l0 : ri_lk lo 0 = some (.ref 23)) (l1 : ri_lk lo 1 = some (.ref 1)) (l2 : ri_lk lo 2 = some (.int fr)) (l3 : ri_lk lo 3 = some (.int i)) (hl : (eh_N h).take 209 = NCl) : (¬ (i.toInt < (fr + (eh_i G 24 0)).toInt) ∧ rs = [.int 1] ∧ eh_V h' = G ∧ eh_N h' = eh_N h) ∨ (i.toInt < (fr + (eh_i G 24 0)).toInt ∧ ¬ (i.toInt < 940) ∧ rs = [.int 1] ∧ eh_V h' = G ∧ eh_N h' = eh_N h) ∨ (i.toInt < (fr + (eh_i G 24 0)).toInt ∧ i.toInt < 940 ∧ (eh_i G 1 (i).toNatClampNeg).toInt < 0 ∧ rs = [.int 0] ∧ eh_V h' = G ∧ eh_N h' = eh_N h) ∨ (i.toInt < (fr + (eh_i G 24 0)).toInt ∧ i.toInt < 940 ∧ ¬ ((eh_i G 1 (i).toNatClampNeg).toInt < 0) ∧ ¬ (3 < (eh_i G 1 (i).toNatClampNeg).toInt) ∧ ∃ hz loz, eh_e cal md_36 2 loz [] hz rs h' ∧ eh_V hz = G ∧ eh_N hz = eh_N h ∧ eh_ty tC G ∧ ri_lk loz 0 = some (.ref 23) ∧ ri_lk loz 1 = some (.ref 1) ∧ ri_lk loz 2 = some (.int fr) ∧ ri_lk loz 3 = some (.int (i + 1))) ∨ (i.toInt < (fr + (eh_i G 24 0)).toInt ∧ i.toInt < 940 ∧ ¬ ((eh_i G 1 (i).toNatClampNeg).toInt < 0) ∧ 3 < (eh_i G 1 (i).toNatClampNeg).toInt ∧ rs = [.int 0] ∧ eh_V h' = G ∧ eh_N h' = eh_N h) := by
  have E := E.ld (p := 3) (t := ri_isI) (i := 3) (n := 1) (v := .int i) rfl (e := (.iload_n 3, 1, [], .null)) rfl rfl (fun _ _ => rfl) l3 rfl
  have E := E.ld (p := 4) (t := ri_isI) (i := 2) (n := 1) (v := .int fr) rfl (e := (.iload_n 2, 1, [], .null)) rfl rfl (fun _ _ => rfl) l2 rfl
  have E := E.ld (p := 5) (t := ri_isA) (i := 0) (n := 1) (v := .ref 23) rfl (e := (.aload_n 0, 1, [], .null)) rfl rfl (fun _ _ => rfl) l0 rfl
  have E := E.gr (n := 24) (p := 8) rfl (x := 18) (m := 3) (w := .null) (t := 4) (i := 0) (u := 254) rfl rfl hV ty rfl
  have E := E.pu (p := 9) (lo' := lo) (st' := [.int 0, .ref 24, .int fr, .int i]) rfl (e := (.iconst 0, 1, [], .null)) rfl rfl (fun _ _ => rfl)
  have E := E.ai (p := 10) (z := eh_i G 24 0) (n := 0) rfl (e := (.iaload, 1, [], .null)) rfl rfl (fun _ _ => rfl) rfl hV ty (by decide) rfl rfl
  have E := E.pu (p := 11) (lo' := lo) (st' := [.int (fr + (eh_i G 24 0)), .int i]) rfl (e := (.iadd, 1, [], .null)) rfl rfl (fun _ _ => rfl)
  rcases eh_r3 rfl rfl (E.br (p := 14) (c := 3) (tgt := 41) (a := i) (b := fr + (eh_i G 24 0)) (st' := []) rfl (e := (.if_icmp .ge 30, 3, [41], .null)) rfl rfl (fun _ _ => rfl) rfl) with ⟨c1, E⟩ | ⟨c1, E⟩
  · skip
    have E := E.pu (p := 42) (lo' := lo) (st' := [.int 1]) rfl (e := (.iconst 1, 1, [], .null)) rfl rfl (fun _ _ => rfl)
    obtain ⟨r1, r2⟩ := E.reti rfl (m := 1) (ax := []) (w := .null) rfl
    exact Or.inl ⟨c1, r1, ((congrArg eh_V r2).trans hV), (congrArg eh_N r2)⟩
  · skip
    have E := E.ld (p := 15) (t := ri_isI) (i := 3) (n := 1) (v := .int i) rfl (e := (.iload_n 3, 1, [], .null)) rfl rfl (fun _ _ => rfl) l3 rfl
    have E := E.ld (p := 16) (t := ri_isA) (i := 1) (n := 1) (v := .ref 1) rfl (e := (.aload_n 1, 1, [], .null)) rfl rfl (fun _ _ => rfl) l1 rfl
    have E := E.an (p := 17) (n := 940) rfl (m := 1) (ax := []) (w := .null) rfl (by rw [(rfl : eh_N h = eh_N h)]; exact (nc_at hl (k := 1) rfl)) rfl
    have E : eh_e _ _ 17 lo [.int 940, .int i] _ rs h' := E
    rcases eh_r3 rfl (show (940 : Int32).toInt = 940 by decide) (E.br (p := 20) (c := 3) (tgt := 41) (a := i) (b := 940) (st' := []) rfl (e := (.if_icmp .ge 24, 3, [41], .null)) rfl rfl (fun _ _ => rfl) rfl) with ⟨c2, E⟩ | ⟨c2, E⟩
    · skip
      have E := E.pu (p := 42) (lo' := lo) (st' := [.int 1]) rfl (e := (.iconst 1, 1, [], .null)) rfl rfl (fun _ _ => rfl)
      obtain ⟨r1, r2⟩ := E.reti rfl (m := 1) (ax := []) (w := .null) rfl
      exact Or.inr (Or.inl ⟨c1, c2, r1, ((congrArg eh_V r2).trans hV), (congrArg eh_N r2)⟩)
    · skip
      have E := E.ld (p := 21) (t := ri_isA) (i := 1) (n := 1) (v := .ref 1) rfl (e := (.aload_n 1, 1, [], .null)) rfl rfl (fun _ _ => rfl) l1 rfl
      have E := E.ld (p := 22) (t := ri_isI) (i := 3) (n := 1) (v := .int i) rfl (e := (.iload_n 3, 1, [], .null)) rfl rfl (fun _ _ => rfl) l3 rfl
      have E := E.ai (p := 23) (z := eh_i G 1 (i).toNatClampNeg) (n := (i).toNatClampNeg) rfl (e := (.baload, 1, [], .null)) rfl rfl (fun _ _ => rfl) rfl hV ty rfl rfl rfl
      rcases eh_r2 rfl (show (0 : Int32).toInt = 0 by decide) (E.br (p := 26) (c := 2) (tgt := 33) (a := eh_i G 1 (i).toNatClampNeg) (b := 0) (st' := []) rfl (e := (.ifCond .lt 10, 3, [33], .null)) rfl rfl (fun _ _ => rfl) rfl) with ⟨c3, E⟩ | ⟨c3, E⟩
      · skip
        have E := E.pu (p := 34) (lo' := lo) (st' := [.int 0]) rfl (e := (.iconst 0, 1, [], .null)) rfl rfl (fun _ _ => rfl)
        obtain ⟨r1, r2⟩ := E.reti rfl (m := 1) (ax := []) (w := .null) rfl
        exact Or.inr (Or.inr (Or.inl ⟨c1, c2, c3, r1, ((congrArg eh_V r2).trans hV), (congrArg eh_N r2)⟩))
      · skip
        have E := E.ld (p := 27) (t := ri_isA) (i := 1) (n := 1) (v := .ref 1) rfl (e := (.aload_n 1, 1, [], .null)) rfl rfl (fun _ _ => rfl) l1 rfl
        have E := E.ld (p := 28) (t := ri_isI) (i := 3) (n := 1) (v := .int i) rfl (e := (.iload_n 3, 1, [], .null)) rfl rfl (fun _ _ => rfl) l3 rfl
        have E := E.ai (p := 29) (z := eh_i G 1 (i).toNatClampNeg) (n := (i).toNatClampNeg) rfl (e := (.baload, 1, [], .null)) rfl rfl (fun _ _ => rfl) rfl hV ty rfl rfl rfl
        have E := E.pu (p := 30) (lo' := lo) (st' := [.int 3, .int (eh_i G 1 (i).toNatClampNeg)]) rfl (e := (.iconst 3, 1, [], .null)) rfl rfl (fun _ _ => rfl)
        rcases eh_r5 rfl (show (3 : Int32).toInt = 3 by decide) (E.br (p := 33) (c := 5) (tgt := 35) (a := eh_i G 1 (i).toNatClampNeg) (b := 3) (st' := []) rfl (e := (.if_icmp .le 5, 3, [35], .null)) rfl rfl (fun _ _ => rfl) rfl) with ⟨c4, E⟩ | ⟨c4, E⟩
        · skip
          have E := E.ii (p := 38) (y := i + 1) rfl (i := 3) (n := 1) (m := 3) (ax := []) (w := .null) rfl l3 rfl rfl
          have k5_3 : ri_lk (ri_st1 lo 3 (.int (i + 1))) 3 = some (.int (i + 1)) := eh_self
          have k5_0 : ri_lk (ri_st1 lo 3 (.int (i + 1))) 0 = some (.ref 23) := eh_keep (by decide) (Or.inl rfl) l0
          have k5_1 : ri_lk (ri_st1 lo 3 (.int (i + 1))) 1 = some (.ref 1) := eh_keep (by decide) (Or.inl rfl) l1
          have k5_2 : ri_lk (ri_st1 lo 3 (.int (i + 1))) 2 = some (.int fr) := eh_keep (by decide) (Or.inl rfl) l2
          have E := E.pu (p := 2) (lo' := (ri_st1 lo 3 (.int (i + 1)))) (st' := []) rfl (e := (.goto (-36), 3, [2], .null)) rfl rfl (fun _ _ => rfl)
          exact Or.inr (Or.inr (Or.inr (Or.inl ⟨c1, c2, c3, c4, _, _, E, hV, rfl, ty, k5_0, k5_1, k5_2, k5_3⟩)))
        · skip
          have E := E.pu (p := 34) (lo' := lo) (st' := [.int 0]) rfl (e := (.iconst 0, 1, [], .null)) rfl rfl (fun _ _ => rfl)
          obtain ⟨r1, r2⟩ := E.reti rfl (m := 1) (ax := []) (w := .null) rfl
          exact Or.inr (Or.inr (Or.inr (Or.inr (⟨c1, c2, c3, c4, r1, ((congrArg eh_V r2).trans hV), (congrArg eh_N r2)⟩))))
theorem yph_a {cal : eh_K} {lo : List (Nat × Value)} {h h' : ri_H} {rs : List Value} {G : eh_W} {fr : Int32} (E : eh_e cal md_37 0 lo [] h rs h') (hV : eh_V h = G) (ty : eh_ty tC G) (l0 : ri_lk lo 0 = some (.ref 23)) (l1 : ri_lk lo 1 = some (.ref 1)) (l2 : ri_lk lo 2 = some (.int fr)) : ∃ hz loz, eh_e cal md_37 5 loz [] hz rs h' ∧ eh_V hz = G ∧ eh_N hz = eh_N h ∧ eh_ty tC G ∧ ri_lk loz 0 = some (.ref 23) ∧ ri_lk loz 1 = some (.ref 1) ∧ ri_lk loz 2 = some (.int fr) ∧ ri_lk loz 3 = some (.int 0) ∧ ri_lk loz 4 = some (.int 0) := by
  have E := E.pu (p := 1) (lo' := lo) (st' := [.int 0]) rfl (e := (.iconst 0, 1, [], .null)) rfl rfl (fun _ _ => rfl)
  have E := E.so (p := 2) (t := ri_isI) (i := 3) (n := 1) rfl (e := (.istore_n 3, 1, [], .null)) rfl rfl (fun _ _ => rfl) rfl
  have k1_3 : ri_lk (ri_st1 lo 3 (.int 0)) 3 = some (.int 0) := eh_self
  have k1_0 : ri_lk (ri_st1 lo 3 (.int 0)) 0 = some (.ref 23) := eh_keep (by decide) (Or.inl rfl) l0
  have k1_1 : ri_lk (ri_st1 lo 3 (.int 0)) 1 = some (.ref 1) := eh_keep (by decide) (Or.inl rfl) l1
  have k1_2 : ri_lk (ri_st1 lo 3 (.int 0)) 2 = some (.int fr) := eh_keep (by decide) (Or.inl rfl) l2
  have E := E.pu (p := 3) (lo' := (ri_st1 lo 3 (.int 0))) (st' := [.int 0]) rfl (e := (.iconst 0, 1, [], .null)) rfl rfl (fun _ _ => rfl)
  have E := E.so (p := 5) (t := ri_isI) (i := 4) (n := 2) rfl (e := (.istore 4, 2, [], .null)) rfl rfl (fun _ _ => rfl) rfl
  have k2_4 : ri_lk (ri_st1 (ri_st1 lo 3 (.int 0)) 4 (.int 0)) 4 = some (.int 0) := eh_self
  have k2_0 : ri_lk (ri_st1 (ri_st1 lo 3 (.int 0)) 4 (.int 0)) 0 = some (.ref 23) := eh_keep (by decide) (Or.inl rfl) k1_0
  have k2_1 : ri_lk (ri_st1 (ri_st1 lo 3 (.int 0)) 4 (.int 0)) 1 = some (.ref 1) := eh_keep (by decide) (Or.inl rfl) k1_1
  have k2_2 : ri_lk (ri_st1 (ri_st1 lo 3 (.int 0)) 4 (.int 0)) 2 = some (.int fr) := eh_keep (by decide) (Or.inl rfl) k1_2
  have k2_3 : ri_lk (ri_st1 (ri_st1 lo 3 (.int 0)) 4 (.int 0)) 3 = some (.int 0) := eh_keep (by decide) (Or.inl rfl) k1_3
  exact ⟨_, _, E, hV, rfl, ty, k2_0, k2_1, k2_2, k2_3, k2_4⟩
theorem yph_l {cal : eh_K} {lo : List (Nat × Value)} {h h' : ri_H} {rs : List Value} {G : eh_W} {fr hs i : Int32} (E : eh_e cal md_37 5 lo [] h rs h') (hV : eh_V h = G) (ty : eh_ty tC G) (l0 : ri_lk lo 0 = some (.ref 23)) (l1 : ri_lk lo 1 = some (.ref 1)) (l2 : ri_lk lo 2 = some (.int fr)) (l3 : ri_lk lo 3 = some (.int hs)) (l4 : ri_lk lo 4 = some (.int i)) (hl : (eh_N h).take 209 = NCl) : (¬ (i.toInt < (eh_i G 24 0).toInt) ∧ rs = [.int hs] ∧ eh_V h' = G ∧ eh_N h' = eh_N h) ∨ (i.toInt < (eh_i G 24 0).toInt ∧ ¬ ((fr + i).toInt < 940) ∧ rs = [.int hs] ∧ eh_V h' = G ∧ eh_N h' = eh_N h) ∨ (i.toInt < (eh_i G 24 0).toInt ∧ (fr + i).toInt < 940 ∧ ∃ hz loz, eh_e cal md_37 5 loz [] hz rs h' ∧ eh_V hz = G ∧ eh_N hz = eh_N h ∧ eh_ty tC G ∧ ri_lk loz 0 = some (.ref 23) ∧ ri_lk loz 1 = some (.ref 1) ∧ ri_lk loz 2 = some (.int fr) ∧ ri_lk loz 3 = some (.int (hs ||| (((eh_i G 1 (fr + i).toNatClampNeg) &&& 3) <<< ((2 * i) &&& 31)))) ∧ ri_lk loz 4 = some (.int (i + 1))) := by
  have E := E.ld (p := 7) (t := ri_isI) (i := 4) (n := 2) (v := .int i) rfl (e := (.iload 4, 2, [], .null)) rfl rfl (fun _ _ => rfl) l4 rfl
  have E := E.ld (p := 8) (t := ri_isA) (i := 0) (n := 1) (v := .ref 23) rfl (e := (.aload_n 0, 1, [], .null)) rfl rfl (fun _ _ => rfl) l0 rfl
  have E := E.gr (n := 24) (p := 11) rfl (x := 18) (m := 3) (w := .null) (t := 4) (i := 0) (u := 254) rfl rfl hV ty rfl
  have E := E.pu (p := 12) (lo' := lo) (st' := [.int 0, .ref 24, .int i]) rfl (e := (.iconst 0, 1, [], .null)) rfl rfl (fun _ _ => rfl)
  have E := E.ai (p := 13) (z := eh_i G 24 0) (n := 0) rfl (e := (.iaload, 1, [], .null)) rfl rfl (fun _ _ => rfl) rfl hV ty (by decide) rfl rfl
  rcases eh_r3 rfl rfl (E.br (p := 16) (c := 3) (tgt := 47) (a := i) (b := eh_i G 24 0) (st' := []) rfl (e := (.if_icmp .ge 34, 3, [47], .null)) rfl rfl (fun _ _ => rfl) rfl) with ⟨c1, E⟩ | ⟨c1, E⟩
  · skip
    have E := E.ld (p := 48) (t := ri_isI) (i := 3) (n := 1) (v := .int hs) rfl (e := (.iload_n 3, 1, [], .null)) rfl rfl (fun _ _ => rfl) l3 rfl
    obtain ⟨r1, r2⟩ := E.reti rfl (m := 1) (ax := []) (w := .null) rfl
    exact Or.inl ⟨c1, r1, ((congrArg eh_V r2).trans hV), (congrArg eh_N r2)⟩
  · skip
    have E := E.ld (p := 17) (t := ri_isI) (i := 2) (n := 1) (v := .int fr) rfl (e := (.iload_n 2, 1, [], .null)) rfl rfl (fun _ _ => rfl) l2 rfl
    have E := E.ld (p := 19) (t := ri_isI) (i := 4) (n := 2) (v := .int i) rfl (e := (.iload 4, 2, [], .null)) rfl rfl (fun _ _ => rfl) l4 rfl
    have E := E.pu (p := 20) (lo' := lo) (st' := [.int (fr + i)]) rfl (e := (.iadd, 1, [], .null)) rfl rfl (fun _ _ => rfl)
    have E := E.ld (p := 21) (t := ri_isA) (i := 1) (n := 1) (v := .ref 1) rfl (e := (.aload_n 1, 1, [], .null)) rfl rfl (fun _ _ => rfl) l1 rfl
    have E := E.an (p := 22) (n := 940) rfl (m := 1) (ax := []) (w := .null) rfl (by rw [(rfl : eh_N h = eh_N h)]; exact (nc_at hl (k := 1) rfl)) rfl
    have E : eh_e _ _ 22 lo [.int 940, .int (fr + i)] _ rs h' := E
    rcases eh_r3 rfl (show (940 : Int32).toInt = 940 by decide) (E.br (p := 25) (c := 3) (tgt := 47) (a := fr + i) (b := 940) (st' := []) rfl (e := (.if_icmp .ge 25, 3, [47], .null)) rfl rfl (fun _ _ => rfl) rfl) with ⟨c2, E⟩ | ⟨c2, E⟩
    · skip
      have E := E.ld (p := 48) (t := ri_isI) (i := 3) (n := 1) (v := .int hs) rfl (e := (.iload_n 3, 1, [], .null)) rfl rfl (fun _ _ => rfl) l3 rfl
      obtain ⟨r1, r2⟩ := E.reti rfl (m := 1) (ax := []) (w := .null) rfl
      exact Or.inr (Or.inl ⟨c1, c2, r1, ((congrArg eh_V r2).trans hV), (congrArg eh_N r2)⟩)
    · skip
      have E := E.ld (p := 26) (t := ri_isI) (i := 3) (n := 1) (v := .int hs) rfl (e := (.iload_n 3, 1, [], .null)) rfl rfl (fun _ _ => rfl) l3 rfl
      have E := E.ld (p := 27) (t := ri_isA) (i := 1) (n := 1) (v := .ref 1) rfl (e := (.aload_n 1, 1, [], .null)) rfl rfl (fun _ _ => rfl) l1 rfl
      have E := E.ld (p := 28) (t := ri_isI) (i := 2) (n := 1) (v := .int fr) rfl (e := (.iload_n 2, 1, [], .null)) rfl rfl (fun _ _ => rfl) l2 rfl
      have E := E.ld (p := 30) (t := ri_isI) (i := 4) (n := 2) (v := .int i) rfl (e := (.iload 4, 2, [], .null)) rfl rfl (fun _ _ => rfl) l4 rfl
      have E := E.pu (p := 31) (lo' := lo) (st' := [.int (fr + i), .ref 1, .int hs]) rfl (e := (.iadd, 1, [], .null)) rfl rfl (fun _ _ => rfl)
      have E := E.ai (p := 32) (z := eh_i G 1 (fr + i).toNatClampNeg) (n := (fr + i).toNatClampNeg) rfl (e := (.baload, 1, [], .null)) rfl rfl (fun _ _ => rfl) rfl hV ty rfl rfl rfl
      have E := E.pu (p := 33) (lo' := lo) (st' := [.int 3, .int (eh_i G 1 (fr + i).toNatClampNeg), .int hs]) rfl (e := (.iconst 3, 1, [], .null)) rfl rfl (fun _ _ => rfl)
      have E := E.pu (p := 34) (lo' := lo) (st' := [.int ((eh_i G 1 (fr + i).toNatClampNeg) &&& 3), .int hs]) rfl (e := (.iand, 1, [], .null)) rfl rfl (fun _ _ => rfl)
      have E := E.pu (p := 35) (lo' := lo) (st' := [.int 2, .int ((eh_i G 1 (fr + i).toNatClampNeg) &&& 3), .int hs]) rfl (e := (.iconst 2, 1, [], .null)) rfl rfl (fun _ _ => rfl)
      have E := E.ld (p := 37) (t := ri_isI) (i := 4) (n := 2) (v := .int i) rfl (e := (.iload 4, 2, [], .null)) rfl rfl (fun _ _ => rfl) l4 rfl
      have E := E.pu (p := 38) (lo' := lo) (st' := [.int (2 * i), .int ((eh_i G 1 (fr + i).toNatClampNeg) &&& 3), .int hs]) rfl (e := (.imul, 1, [], .null)) rfl rfl (fun _ _ => rfl)
      have E := E.pu (p := 39) (lo' := lo) (st' := [.int (((eh_i G 1 (fr + i).toNatClampNeg) &&& 3) <<< ((2 * i) &&& 31)), .int hs]) rfl (e := (.ishl, 1, [], .null)) rfl rfl (fun _ _ => rfl)
      have E := E.pu (p := 40) (lo' := lo) (st' := [.int (hs ||| (((eh_i G 1 (fr + i).toNatClampNeg) &&& 3) <<< ((2 * i) &&& 31)))]) rfl (e := (.ior, 1, [], .null)) rfl rfl (fun _ _ => rfl)
      have E := E.so (p := 41) (t := ri_isI) (i := 3) (n := 1) rfl (e := (.istore_n 3, 1, [], .null)) rfl rfl (fun _ _ => rfl) rfl
      have k3_3 : ri_lk (ri_st1 lo 3 (.int (hs ||| (((eh_i G 1 (fr + i).toNatClampNeg) &&& 3) <<< ((2 * i) &&& 31))))) 3 = some (.int (hs ||| (((eh_i G 1 (fr + i).toNatClampNeg) &&& 3) <<< ((2 * i) &&& 31)))) := eh_self
      have k3_0 : ri_lk (ri_st1 lo 3 (.int (hs ||| (((eh_i G 1 (fr + i).toNatClampNeg) &&& 3) <<< ((2 * i) &&& 31))))) 0 = some (.ref 23) := eh_keep (by decide) (Or.inl rfl) l0
      have k3_1 : ri_lk (ri_st1 lo 3 (.int (hs ||| (((eh_i G 1 (fr + i).toNatClampNeg) &&& 3) <<< ((2 * i) &&& 31))))) 1 = some (.ref 1) := eh_keep (by decide) (Or.inl rfl) l1
      have k3_2 : ri_lk (ri_st1 lo 3 (.int (hs ||| (((eh_i G 1 (fr + i).toNatClampNeg) &&& 3) <<< ((2 * i) &&& 31))))) 2 = some (.int fr) := eh_keep (by decide) (Or.inl rfl) l2
      have k3_4 : ri_lk (ri_st1 lo 3 (.int (hs ||| (((eh_i G 1 (fr + i).toNatClampNeg) &&& 3) <<< ((2 * i) &&& 31))))) 4 = some (.int i) := eh_keep (by decide) (Or.inl rfl) l4
      have E := E.ii (p := 44) (y := i + 1) rfl (i := 4) (n := 1) (m := 3) (ax := []) (w := .null) rfl k3_4 rfl rfl
      have k4_4 : ri_lk (ri_st1 (ri_st1 lo 3 (.int (hs ||| (((eh_i G 1 (fr + i).toNatClampNeg) &&& 3) <<< ((2 * i) &&& 31))))) 4 (.int (i + 1))) 4 = some (.int (i + 1)) := eh_self
      have k4_0 : ri_lk (ri_st1 (ri_st1 lo 3 (.int (hs ||| (((eh_i G 1 (fr + i).toNatClampNeg) &&& 3) <<< ((2 * i) &&& 31))))) 4 (.int (i + 1))) 0 = some (.ref 23) := eh_keep (by decide) (Or.inl rfl) k3_0
      have k4_1 : ri_lk (ri_st1 (ri_st1 lo 3 (.int (hs ||| (((eh_i G 1 (fr + i).toNatClampNeg) &&& 3) <<< ((2 * i) &&& 31))))) 4 (.int (i + 1))) 1 = some (.ref 1) := eh_keep (by decide) (Or.inl rfl) k3_1
      have k4_2 : ri_lk (ri_st1 (ri_st1 lo 3 (.int (hs ||| (((eh_i G 1 (fr + i).toNatClampNeg) &&& 3) <<< ((2 * i) &&& 31))))) 4 (.int (i + 1))) 2 = some (.int fr) := eh_keep (by decide) (Or.inl rfl) k3_2
      have k4_3 : ri_lk (ri_st1 (ri_st1 lo 3 (.int (hs ||| (((eh_i G 1 (fr + i).toNatClampNeg) &&& 3) <<< ((2 * i) &&& 31))))) 4 (.int (i + 1))) 3 = some (.int (hs ||| (((eh_i G 1 (fr + i).toNatClampNeg) &&& 3) <<< ((2 * i) &&& 31)))) := eh_keep (by decide) (Or.inl rfl) k3_3
      have E := E.pu (p := 5) (lo' := (ri_st1 (ri_st1 lo 3 (.int (hs ||| (((eh_i G 1 (fr + i).toNatClampNeg) &&& 3) <<< ((2 * i) &&& 31))))) 4 (.int (i + 1)))) (st' := []) rfl (e := (.goto (-39), 3, [5], .null)) rfl rfl (fun _ _ => rfl)
      exact Or.inr (Or.inr (⟨c1, c2, _, _, E, hV, rfl, ty, k4_0, k4_1, k4_2, k4_3, k4_4⟩))
theorem yoc_152 {d : Nat} {h h' : ri_H} {v : Option Value} {G : eh_W} {k : Int32} (E : ri_calE ri_md (d + 1) 152 [.ref 0, .int k] h = some (v, h')) (hV : eh_V h = G) (ty : eh_ty tM G) : v = some (.int ((eh_i G 1 (k).toNatClampNeg) &&& 255)) ∧ eh_V h' = G ∧ eh_N h' = eh_N h := by
  obtain ⟨rs, hrs, E⟩ := eh_in E (q := md_152) rfl
  have E := E.ld (p := 1) (t := ri_isA) (i := 0) (n := 1) (v := .ref 0) rfl (e := (.aload_n 0, 1, [], .null)) rfl rfl (fun _ _ => rfl) rfl rfl
  have E := E.gr (n := 1) (p := 4) rfl (x := 14) (m := 3) (w := .null) (t := 12) (i := 1) (u := 1325) rfl rfl hV ty rfl
  have E := E.ld (p := 5) (t := ri_isI) (i := 1) (n := 1) (v := .int k) rfl (e := (.iload_n 1, 1, [], .null)) rfl rfl (fun _ _ => rfl) rfl rfl
  have E := E.ai (p := 6) (z := eh_i G 1 (k).toNatClampNeg) (n := (k).toNatClampNeg) rfl (e := (.baload, 1, [], .null)) rfl rfl (fun _ _ => rfl) rfl hV ty rfl rfl rfl
  have E := E.pu (p := 9) (lo' := (ri_as 0 [.ref 0, .int k])) (st' := [.int 255, .int (eh_i G 1 (k).toNatClampNeg)]) rfl (e := (.sipush 255, 3, [], .null)) rfl rfl (fun _ _ => rfl)
  have E := E.pu (p := 10) (lo' := (ri_as 0 [.ref 0, .int k])) (st' := [.int ((eh_i G 1 (k).toNatClampNeg) &&& 255)]) rfl (e := (.iand, 1, [], .null)) rfl rfl (fun _ _ => rfl)
  obtain ⟨r1, r2⟩ := E.reti rfl (m := 1) (ax := []) (w := .null) rfl
  exact ⟨(by rw [← hrs, r1]; rfl), ((congrArg eh_V r2).trans hV), (congrArg eh_N r2)⟩
theorem yhm_a {cal : eh_K} {lo : List (Nat × Value)} {h h' : ri_H} {rs : List Value} {G : eh_W} {fr : Int32} (E : eh_e cal md_217 0 lo [] h rs h') (hV : eh_V h = G) (ty : eh_ty tM G) (l0 : ri_lk lo 0 = some (.ref 0)) (l1 : ri_lk lo 1 = some (.int fr)) : ∃ hz loz, eh_e cal md_217 11 loz [] hz rs h' ∧ eh_V hz = G ∧ eh_N hz = eh_N h ∧ eh_ty tM G ∧ ri_lk loz 0 = some (.ref 0) ∧ ri_lk loz 1 = some (.int fr) ∧ ri_lk loz 2 = some (.int 0) ∧ ri_lk loz 3 = some (.int ((eh_i G 2 0) - 1)) := by
  have E := E.pu (p := 1) (lo' := lo) (st' := [.int 0]) rfl (e := (.iconst 0, 1, [], .null)) rfl rfl (fun _ _ => rfl)
  have E := E.so (p := 2) (t := ri_isI) (i := 2) (n := 1) rfl (e := (.istore_n 2, 1, [], .null)) rfl rfl (fun _ _ => rfl) rfl
  have k1_2 : ri_lk (ri_st1 lo 2 (.int 0)) 2 = some (.int 0) := eh_self
  have k1_0 : ri_lk (ri_st1 lo 2 (.int 0)) 0 = some (.ref 0) := eh_keep (by decide) (Or.inl rfl) l0
  have k1_1 : ri_lk (ri_st1 lo 2 (.int 0)) 1 = some (.int fr) := eh_keep (by decide) (Or.inl rfl) l1
  have E := E.ld (p := 3) (t := ri_isA) (i := 0) (n := 1) (v := .ref 0) rfl (e := (.aload_n 0, 1, [], .null)) rfl rfl (fun _ _ => rfl) k1_0 rfl
  have E := E.gr (n := 2) (p := 6) rfl (x := 33) (m := 3) (w := .null) (t := 12) (i := 6) (u := 1330) rfl rfl hV ty rfl
  have E := E.pu (p := 7) (lo' := (ri_st1 lo 2 (.int 0))) (st' := [.int 0, .ref 2]) rfl (e := (.iconst 0, 1, [], .null)) rfl rfl (fun _ _ => rfl)
  have E := E.ai (p := 8) (z := eh_i G 2 0) (n := 0) rfl (e := (.iaload, 1, [], .null)) rfl rfl (fun _ _ => rfl) rfl hV ty (by decide) rfl rfl
  have E := E.pu (p := 9) (lo' := (ri_st1 lo 2 (.int 0))) (st' := [.int 1, .int (eh_i G 2 0)]) rfl (e := (.iconst 1, 1, [], .null)) rfl rfl (fun _ _ => rfl)
  have E := E.pu (p := 10) (lo' := (ri_st1 lo 2 (.int 0))) (st' := [.int ((eh_i G 2 0) - 1)]) rfl (e := (.isub, 1, [], .null)) rfl rfl (fun _ _ => rfl)
  have E := E.so (p := 11) (t := ri_isI) (i := 3) (n := 1) rfl (e := (.istore_n 3, 1, [], .null)) rfl rfl (fun _ _ => rfl) rfl
  have k2_3 : ri_lk (ri_st1 (ri_st1 lo 2 (.int 0)) 3 (.int ((eh_i G 2 0) - 1))) 3 = some (.int ((eh_i G 2 0) - 1)) := eh_self
  have k2_0 : ri_lk (ri_st1 (ri_st1 lo 2 (.int 0)) 3 (.int ((eh_i G 2 0) - 1))) 0 = some (.ref 0) := eh_keep (by decide) (Or.inl rfl) k1_0
  have k2_1 : ri_lk (ri_st1 (ri_st1 lo 2 (.int 0)) 3 (.int ((eh_i G 2 0) - 1))) 1 = some (.int fr) := eh_keep (by decide) (Or.inl rfl) k1_1
  have k2_2 : ri_lk (ri_st1 (ri_st1 lo 2 (.int 0)) 3 (.int ((eh_i G 2 0) - 1))) 2 = some (.int 0) := eh_keep (by decide) (Or.inl rfl) k1_2
  exact ⟨_, _, E, hV, rfl, ty, k2_0, k2_1, k2_2, k2_3⟩
theorem yhm_l {d : Nat} {lo : List (Nat × Value)} {h h' : ri_H} {rs : List Value} {G : eh_W} {fr v k : Int32} (E : eh_e (ri_calE ri_md (d + 1)) md_217 11 lo [] h rs h') (hV : eh_V h = G) (ty : eh_ty tM G) (l0 : ri_lk lo 0 = some (.ref 0)) (l1 : ri_lk lo 1 = some (.int fr)) (l2 : ri_lk lo 2 = some (.int v)) (l3 : ri_lk lo 3 = some (.int k)) : (k.toInt < 0 ∧ rs = [.int v] ∧ eh_V h' = G ∧ eh_N h' = eh_N h) ∨ (¬ (k.toInt < 0) ∧ ¬ (3 < ((eh_i G 1 (fr + k).toNatClampNeg) &&& 255).toInt) ∧ ∃ hz loz, eh_e (ri_calE ri_md (d + 1)) md_217 11 loz [] hz rs h' ∧ eh_V hz = G ∧ eh_N hz = eh_N h ∧ eh_ty tM G ∧ ri_lk loz 0 = some (.ref 0) ∧ ri_lk loz 1 = some (.int fr) ∧ ri_lk loz 2 = some (.int ((4 * v) + ((eh_i G 1 (fr + k).toNatClampNeg) &&& 255))) ∧ ri_lk loz 3 = some (.int (k + (-1)))) ∨ (¬ (k.toInt < 0) ∧ 3 < ((eh_i G 1 (fr + k).toNatClampNeg) &&& 255).toInt ∧ rs = [.int (-1)] ∧ eh_V h' = G ∧ eh_N h' = eh_N h) := by
  have E := E.ld (p := 12) (t := ri_isI) (i := 3) (n := 1) (v := .int k) rfl (e := (.iload_n 3, 1, [], .null)) rfl rfl (fun _ _ => rfl) l3 rfl
  rcases eh_r2 rfl (show (0 : Int32).toInt = 0 by decide) (E.br (p := 15) (c := 2) (tgt := 46) (a := k) (b := 0) (st' := []) rfl (e := (.ifCond .lt 34, 3, [46], .null)) rfl rfl (fun _ _ => rfl) rfl) with ⟨c1, E⟩ | ⟨c1, E⟩
  · skip
    have E := E.ld (p := 47) (t := ri_isI) (i := 2) (n := 1) (v := .int v) rfl (e := (.iload_n 2, 1, [], .null)) rfl rfl (fun _ _ => rfl) l2 rfl
    obtain ⟨r1, r2⟩ := E.reti rfl (m := 1) (ax := []) (w := .null) rfl
    exact Or.inl ⟨c1, r1, ((congrArg eh_V r2).trans hV), (congrArg eh_N r2)⟩
  · skip
    have E := E.ld (p := 16) (t := ri_isA) (i := 0) (n := 1) (v := .ref 0) rfl (e := (.aload_n 0, 1, [], .null)) rfl rfl (fun _ _ => rfl) l0 rfl
    have E := E.ld (p := 17) (t := ri_isI) (i := 1) (n := 1) (v := .int fr) rfl (e := (.iload_n 1, 1, [], .null)) rfl rfl (fun _ _ => rfl) l1 rfl
    have E := E.ld (p := 18) (t := ri_isI) (i := 3) (n := 1) (v := .int k) rfl (e := (.iload_n 3, 1, [], .null)) rfl rfl (fun _ _ => rfl) l3 rfl
    have E := E.pu (p := 19) (lo' := lo) (st' := [.int (fr + k), .ref 0]) rfl (e := (.iadd, 1, [], .null)) rfl rfl (fun _ _ => rfl)
    obtain ⟨v1, h2, X, E⟩ := E.cv (p := 22) (as := [.int (fr + k)]) (b := 0) (r := []) rfl (x := 329) (m := 3) (w := .null) (j := 152) (n := 1) (t := 12) (u := [1729, 78, 1731]) rfl rfl rfl
    rcases yoc_152 (d := d) X hV ty with ⟨rfl, hV3, hN4⟩
    have E : eh_e _ _ 22 lo [.int ((eh_i G 1 (fr + k).toNatClampNeg) &&& 255)] _ rs h' := E
    have E := E.pu (p := 23) (lo' := lo) (st' := [.int 3, .int ((eh_i G 1 (fr + k).toNatClampNeg) &&& 255)]) rfl (e := (.iconst 3, 1, [], .null)) rfl rfl (fun _ _ => rfl)
    rcases eh_r5 rfl (show (3 : Int32).toInt = 3 by decide) (E.br (p := 26) (c := 5) (tgt := 28) (a := (eh_i G 1 (fr + k).toNatClampNeg) &&& 255) (b := 3) (st' := []) rfl (e := (.if_icmp .le 5, 3, [28], .null)) rfl rfl (fun _ _ => rfl) rfl) with ⟨c5, E⟩ | ⟨c5, E⟩
    · skip
      have E := E.pu (p := 29) (lo' := lo) (st' := [.int 4]) rfl (e := (.iconst 4, 1, [], .null)) rfl rfl (fun _ _ => rfl)
      have E := E.ld (p := 30) (t := ri_isI) (i := 2) (n := 1) (v := .int v) rfl (e := (.iload_n 2, 1, [], .null)) rfl rfl (fun _ _ => rfl) l2 rfl
      have E := E.pu (p := 31) (lo' := lo) (st' := [.int (4 * v)]) rfl (e := (.imul, 1, [], .null)) rfl rfl (fun _ _ => rfl)
      have E := E.ld (p := 32) (t := ri_isA) (i := 0) (n := 1) (v := .ref 0) rfl (e := (.aload_n 0, 1, [], .null)) rfl rfl (fun _ _ => rfl) l0 rfl
      have E := E.ld (p := 33) (t := ri_isI) (i := 1) (n := 1) (v := .int fr) rfl (e := (.iload_n 1, 1, [], .null)) rfl rfl (fun _ _ => rfl) l1 rfl
      have E := E.ld (p := 34) (t := ri_isI) (i := 3) (n := 1) (v := .int k) rfl (e := (.iload_n 3, 1, [], .null)) rfl rfl (fun _ _ => rfl) l3 rfl
      have E := E.pu (p := 35) (lo' := lo) (st' := [.int (fr + k), .ref 0, .int (4 * v)]) rfl (e := (.iadd, 1, [], .null)) rfl rfl (fun _ _ => rfl)
      obtain ⟨v1, h6, X, E⟩ := E.cv (p := 38) (as := [.int (fr + k)]) (b := 0) (r := [.int (4 * v)]) rfl (x := 329) (m := 3) (w := .null) (j := 152) (n := 1) (t := 12) (u := [1729, 78, 1731]) rfl rfl rfl
      rcases yoc_152 (d := d) X hV3 ty with ⟨rfl, hV7, hN8⟩
      have E : eh_e _ _ 38 lo [.int ((eh_i G 1 (fr + k).toNatClampNeg) &&& 255), .int (4 * v)] _ rs h' := E
      have E := E.pu (p := 39) (lo' := lo) (st' := [.int ((4 * v) + ((eh_i G 1 (fr + k).toNatClampNeg) &&& 255))]) rfl (e := (.iadd, 1, [], .null)) rfl rfl (fun _ _ => rfl)
      have E := E.so (p := 40) (t := ri_isI) (i := 2) (n := 1) rfl (e := (.istore_n 2, 1, [], .null)) rfl rfl (fun _ _ => rfl) rfl
      have k9_2 : ri_lk (ri_st1 lo 2 (.int ((4 * v) + ((eh_i G 1 (fr + k).toNatClampNeg) &&& 255)))) 2 = some (.int ((4 * v) + ((eh_i G 1 (fr + k).toNatClampNeg) &&& 255))) := eh_self
      have k9_0 : ri_lk (ri_st1 lo 2 (.int ((4 * v) + ((eh_i G 1 (fr + k).toNatClampNeg) &&& 255)))) 0 = some (.ref 0) := eh_keep (by decide) (Or.inl rfl) l0
      have k9_1 : ri_lk (ri_st1 lo 2 (.int ((4 * v) + ((eh_i G 1 (fr + k).toNatClampNeg) &&& 255)))) 1 = some (.int fr) := eh_keep (by decide) (Or.inl rfl) l1
      have k9_3 : ri_lk (ri_st1 lo 2 (.int ((4 * v) + ((eh_i G 1 (fr + k).toNatClampNeg) &&& 255)))) 3 = some (.int k) := eh_keep (by decide) (Or.inl rfl) l3
      have E := E.ii (p := 43) (y := k + (-1)) rfl (i := 3) (n := (-1)) (m := 3) (ax := []) (w := .null) rfl k9_3 rfl rfl
      have k10_3 : ri_lk (ri_st1 (ri_st1 lo 2 (.int ((4 * v) + ((eh_i G 1 (fr + k).toNatClampNeg) &&& 255)))) 3 (.int (k + (-1)))) 3 = some (.int (k + (-1))) := eh_self
      have k10_0 : ri_lk (ri_st1 (ri_st1 lo 2 (.int ((4 * v) + ((eh_i G 1 (fr + k).toNatClampNeg) &&& 255)))) 3 (.int (k + (-1)))) 0 = some (.ref 0) := eh_keep (by decide) (Or.inl rfl) k9_0
      have k10_1 : ri_lk (ri_st1 (ri_st1 lo 2 (.int ((4 * v) + ((eh_i G 1 (fr + k).toNatClampNeg) &&& 255)))) 3 (.int (k + (-1)))) 1 = some (.int fr) := eh_keep (by decide) (Or.inl rfl) k9_1
      have k10_2 : ri_lk (ri_st1 (ri_st1 lo 2 (.int ((4 * v) + ((eh_i G 1 (fr + k).toNatClampNeg) &&& 255)))) 3 (.int (k + (-1)))) 2 = some (.int ((4 * v) + ((eh_i G 1 (fr + k).toNatClampNeg) &&& 255))) := eh_keep (by decide) (Or.inl rfl) k9_2
      have E := E.pu (p := 11) (lo' := (ri_st1 (ri_st1 lo 2 (.int ((4 * v) + ((eh_i G 1 (fr + k).toNatClampNeg) &&& 255)))) 3 (.int (k + (-1))))) (st' := []) rfl (e := (.goto (-32), 3, [11], .null)) rfl rfl (fun _ _ => rfl)
      exact Or.inr (Or.inl ⟨c1, c5, _, _, E, hV7, (hN8.trans hN4), ty, k10_0, k10_1, k10_2, k10_3⟩)
    · skip
      have E := E.pu (p := 27) (lo' := lo) (st' := [.int (-1)]) rfl (e := (.iconst (-1), 1, [], .null)) rfl rfl (fun _ _ => rfl)
      obtain ⟨r1, r2⟩ := E.reti rfl (m := 1) (ax := []) (w := .null) rfl
      exact Or.inr (Or.inr (⟨c1, c5, r1, ((congrArg eh_V r2).trans hV3), ((congrArg eh_N r2).trans hN4)⟩))
