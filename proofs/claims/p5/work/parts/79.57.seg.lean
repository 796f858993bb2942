theorem iq_226 {d : Nat} {h h' : ri_H} {v : Option Value} {G : eh_W} {c sa sb sc P w : Nat} {ku sz : Nat → Nat} {ce hi : Nat → Nat → Nat} {l m : Int32} (E : ri_calE ri_md (d + 5) 226 [.ref 0, .int l, .int m, .int 1] h = some (v, h')) (hV : eh_V h = G) (ty : eh_ty tM G) (F1 : ∀ G1, eh_fr pMv G G1 → xD c sa P ku sz ce hi (eh_i G 2 (10 + l).toNatClampNeg) (1 <<< (l &&& 31)) G1) (F2 : ∀ G1, eh_fr pMv G G1 → xD c sb P ku sz ce hi (eh_i G 2 (10 + l).toNatClampNeg) (1 <<< (m &&& 31)) G1) (F3 : ∀ G1, eh_fr pMv G G1 → xD c sc P ku sz ce hi (eh_i G 2 (10 + l).toNatClampNeg) ((1 <<< (l &&& 31)) ||| (1 <<< (m &&& 31))) G1) (hw : eh_i G 2 0 = nI w) (hw8 : w ≤ 8) : (∃ (x4 : Int32), ∃ (x5 : eh_W), (eh_i G 2 (10 + m).toNatClampNeg) = (eh_i G 2 (10 + l).toNatClampNeg) ∧ x4 = nI (ht_M c sa P w ku sz ce hi) ∧ eh_fr pMv G x5 ∧ eh_ty tM x5 ∧ x4 = 0 ∧ v = some (.int 0) ∧ eh_V h' = x5 ∧ eh_N h' = eh_N h) ∨ (∃ (x4 : Int32), ∃ (x5 : eh_W), ∃ (x13 : Int32), ∃ (x14 : eh_W), (eh_i G 2 (10 + m).toNatClampNeg) = (eh_i G 2 (10 + l).toNatClampNeg) ∧ x4 = nI (ht_M c sa P w ku sz ce hi) ∧ eh_fr pMv G x5 ∧ eh_ty tM x5 ∧ ¬ (x4 = 0) ∧ x13 = nI (ht_M c sb P w ku sz ce hi) ∧ eh_fr pMv x5 x14 ∧ eh_ty tM x14 ∧ x13 = 0 ∧ v = some (.int 0) ∧ eh_V h' = x14 ∧ eh_N h' = eh_N h) ∨ (∃ (x4 : Int32), ∃ (x5 : eh_W), ∃ (x13 : Int32), ∃ (x14 : eh_W), ∃ (x22 : Int32), ∃ (x23 : eh_W), (eh_i G 2 (10 + m).toNatClampNeg) = (eh_i G 2 (10 + l).toNatClampNeg) ∧ x4 = nI (ht_M c sa P w ku sz ce hi) ∧ eh_fr pMv G x5 ∧ eh_ty tM x5 ∧ ¬ (x4 = 0) ∧ x13 = nI (ht_M c sb P w ku sz ce hi) ∧ eh_fr pMv x5 x14 ∧ eh_ty tM x14 ∧ ¬ (x13 = 0) ∧ x22 = nI (ht_M c sc P w ku sz ce hi) ∧ eh_fr pMv x14 x23 ∧ eh_ty tM x23 ∧ ¬ (x22 = 0) ∧ v = some (.int 0) ∧ eh_V h' = x23 ∧ eh_N h' = eh_N h) ∨ (∃ (x4 : Int32), ∃ (x5 : eh_W), ∃ (x13 : Int32), ∃ (x14 : eh_W), ∃ (x22 : Int32), ∃ (x23 : eh_W), (eh_i G 2 (10 + m).toNatClampNeg) = (eh_i G 2 (10 + l).toNatClampNeg) ∧ x4 = nI (ht_M c sa P w ku sz ce hi) ∧ eh_fr pMv G x5 ∧ eh_ty tM x5 ∧ ¬ (x4 = 0) ∧ x13 = nI (ht_M c sb P w ku sz ce hi) ∧ eh_fr pMv x5 x14 ∧ eh_ty tM x14 ∧ ¬ (x13 = 0) ∧ x22 = nI (ht_M c sc P w ku sz ce hi) ∧ eh_fr pMv x14 x23 ∧ eh_ty tM x23 ∧ x22 = 0 ∧ v = some (.int 1) ∧ eh_V h' = x23 ∧ eh_N h' = eh_N h) ∨ (¬ ((eh_i G 2 (10 + m).toNatClampNeg) = (eh_i G 2 (10 + l).toNatClampNeg)) ∧ v = some (.int 0) ∧ eh_V h' = G ∧ eh_N h' = eh_N h) := by
  obtain ⟨rs, hrs, E⟩ := eh_in E (q := md_226) rfl
  have E := E.ld (p := 1) (t := ri_isA) (i := 0) (n := 1) (v := .ref 0) rfl (e := (.aload_n 0, 1, [], .null)) rfl rfl (fun _ _ => rfl) rfl rfl
  have E := E.gr (n := 2) (p := 4) rfl (x := 33) (m := 3) (w := .null) (t := 12) (i := 6) (u := 1330) rfl rfl hV ty rfl
  have E := E.pu (p := 6) (lo' := (ri_as 0 [.ref 0, .int l, .int m, .int 1])) (st' := [.int 10, .ref 2]) rfl (e := (.bipush 10, 2, [], .null)) rfl rfl (fun _ _ => rfl)
  have E := E.ld (p := 7) (t := ri_isI) (i := 1) (n := 1) (v := .int l) rfl (e := (.iload_n 1, 1, [], .null)) rfl rfl (fun _ _ => rfl) rfl rfl
  have E := E.pu (p := 8) (lo' := (ri_as 0 [.ref 0, .int l, .int m, .int 1])) (st' := [.int (10 + l), .ref 2]) rfl (e := (.iadd, 1, [], .null)) rfl rfl (fun _ _ => rfl)
  have E := E.ai (p := 9) (z := eh_i G 2 (10 + l).toNatClampNeg) (n := (10 + l).toNatClampNeg) rfl (e := (.iaload, 1, [], .null)) rfl rfl (fun _ _ => rfl) rfl hV ty rfl rfl rfl
  have E := E.so (p := 11) (t := ri_isI) (i := 4) (n := 2) rfl (e := (.istore 4, 2, [], .null)) rfl rfl (fun _ _ => rfl) rfl
  have k1_4 : ri_lk (ri_st1 (ri_as 0 [.ref 0, .int l, .int m, .int 1]) 4 (.int (eh_i G 2 (10 + l).toNatClampNeg))) 4 = some (.int (eh_i G 2 (10 + l).toNatClampNeg)) := eh_self
  have k1_0 : ri_lk (ri_st1 (ri_as 0 [.ref 0, .int l, .int m, .int 1]) 4 (.int (eh_i G 2 (10 + l).toNatClampNeg))) 0 = some (.ref 0) := eh_keep (by decide) (Or.inl rfl) rfl
  have k1_1 : ri_lk (ri_st1 (ri_as 0 [.ref 0, .int l, .int m, .int 1]) 4 (.int (eh_i G 2 (10 + l).toNatClampNeg))) 1 = some (.int l) := eh_keep (by decide) (Or.inl rfl) rfl
  have k1_2 : ri_lk (ri_st1 (ri_as 0 [.ref 0, .int l, .int m, .int 1]) 4 (.int (eh_i G 2 (10 + l).toNatClampNeg))) 2 = some (.int m) := eh_keep (by decide) (Or.inl rfl) rfl
  have k1_3 : ri_lk (ri_st1 (ri_as 0 [.ref 0, .int l, .int m, .int 1]) 4 (.int (eh_i G 2 (10 + l).toNatClampNeg))) 3 = some (.int 1) := eh_keep (by decide) (Or.inl rfl) rfl
  have E := E.ld (p := 12) (t := ri_isA) (i := 0) (n := 1) (v := .ref 0) rfl (e := (.aload_n 0, 1, [], .null)) rfl rfl (fun _ _ => rfl) k1_0 rfl
  have E := E.gr (n := 2) (p := 15) rfl (x := 33) (m := 3) (w := .null) (t := 12) (i := 6) (u := 1330) rfl rfl hV ty rfl
  have E := E.pu (p := 17) (lo' := (ri_st1 (ri_as 0 [.ref 0, .int l, .int m, .int 1]) 4 (.int (eh_i G 2 (10 + l).toNatClampNeg)))) (st' := [.int 10, .ref 2]) rfl (e := (.bipush 10, 2, [], .null)) rfl rfl (fun _ _ => rfl)
  have E := E.ld (p := 18) (t := ri_isI) (i := 2) (n := 1) (v := .int m) rfl (e := (.iload_n 2, 1, [], .null)) rfl rfl (fun _ _ => rfl) k1_2 rfl
  have E := E.pu (p := 19) (lo' := (ri_st1 (ri_as 0 [.ref 0, .int l, .int m, .int 1]) 4 (.int (eh_i G 2 (10 + l).toNatClampNeg)))) (st' := [.int (10 + m), .ref 2]) rfl (e := (.iadd, 1, [], .null)) rfl rfl (fun _ _ => rfl)
  have E := E.ai (p := 20) (z := eh_i G 2 (10 + m).toNatClampNeg) (n := (10 + m).toNatClampNeg) rfl (e := (.iaload, 1, [], .null)) rfl rfl (fun _ _ => rfl) rfl hV ty rfl rfl rfl
  have E := E.ld (p := 22) (t := ri_isI) (i := 4) (n := 2) (v := .int (eh_i G 2 (10 + l).toNatClampNeg)) rfl (e := (.iload 4, 2, [], .null)) rfl rfl (fun _ _ => rfl) k1_4 rfl
  rcases eh_q0 (E.br (p := 25) (c := 0) (tgt := 27) (a := eh_i G 2 (10 + m).toNatClampNeg) (b := eh_i G 2 (10 + l).toNatClampNeg) (st' := []) rfl (e := (.if_icmp .eq 5, 3, [27], .null)) rfl rfl (fun _ _ => rfl) rfl) with ⟨c2, E⟩ | ⟨c2, E⟩
  · skip
    have E := E.ld (p := 28) (t := ri_isI) (i := 3) (n := 1) (v := .int 1) rfl (e := (.iload_n 3, 1, [], .null)) rfl rfl (fun _ _ => rfl) k1_3 rfl
    have E := E.brf (p := 31) (c := 0) (tgt := 71) (a := 1) (b := 0) (st' := []) rfl (e := (.ifCond .eq 43, 3, [71], .null)) rfl rfl (fun _ _ => rfl) (by decide) rfl
    have E := E.ld (p := 32) (t := ri_isA) (i := 0) (n := 1) (v := .ref 0) rfl (e := (.aload_n 0, 1, [], .null)) rfl rfl (fun _ _ => rfl) k1_0 rfl
    have E := E.ld (p := 34) (t := ri_isI) (i := 4) (n := 2) (v := .int (eh_i G 2 (10 + l).toNatClampNeg)) rfl (e := (.iload 4, 2, [], .null)) rfl rfl (fun _ _ => rfl) k1_4 rfl
    have E := E.pu (p := 35) (lo' := (ri_st1 (ri_as 0 [.ref 0, .int l, .int m, .int 1]) 4 (.int (eh_i G 2 (10 + l).toNatClampNeg)))) (st' := [.int 1, .int (eh_i G 2 (10 + l).toNatClampNeg), .ref 0]) rfl (e := (.iconst 1, 1, [], .null)) rfl rfl (fun _ _ => rfl)
    have E := E.ld (p := 36) (t := ri_isI) (i := 1) (n := 1) (v := .int l) rfl (e := (.iload_n 1, 1, [], .null)) rfl rfl (fun _ _ => rfl) k1_1 rfl
    have E := E.pu (p := 37) (lo' := (ri_st1 (ri_as 0 [.ref 0, .int l, .int m, .int 1]) 4 (.int (eh_i G 2 (10 + l).toNatClampNeg)))) (st' := [.int (1 <<< (l &&& 31)), .int (eh_i G 2 (10 + l).toNatClampNeg), .ref 0]) rfl (e := (.ishl, 1, [], .null)) rfl rfl (fun _ _ => rfl)
    obtain ⟨v1, h3, X, E⟩ := E.cv (p := 40) (as := [.int (eh_i G 2 (10 + l).toNatClampNeg), .int (1 <<< (l &&& 31))]) (b := 0) (r := []) rfl (x := 323) (m := 3) (w := .null) (j := 192) (n := 2) (t := 12) (u := [1705, 76, 1707]) rfl rfl rfl
    rcases xh_192 (d := d) X hV ty (F1 _ eh_fr.rf) hw hw8 with ⟨x4, x5, c6, c7, c8, rfl, hV9, hN10⟩
    have c6 : x4 = nI (ht_M c sa P w ku sz ce hi) := c6
    have c7 : eh_fr pMv G x5 := c7
    have c8 : eh_ty tM x5 := c8
    have hV9 : _ = x5 := hV9
    have E : eh_e _ _ 40 (ri_st1 (ri_as 0 [.ref 0, .int l, .int m, .int 1]) 4 (.int (eh_i G 2 (10 + l).toNatClampNeg))) [.int x4] _ rs h' := E
    rcases eh_q0 (E.br (p := 43) (c := 0) (tgt := 75) (a := x4) (b := 0) (st' := []) rfl (e := (.ifCond .eq 35, 3, [75], .null)) rfl rfl (fun _ _ => rfl) rfl) with ⟨c11, E⟩ | ⟨c11, E⟩
    · skip
      have E := E.pu (p := 76) (lo' := (ri_st1 (ri_as 0 [.ref 0, .int l, .int m, .int 1]) 4 (.int (eh_i G 2 (10 + l).toNatClampNeg)))) (st' := [.int 0]) rfl (e := (.iconst 0, 1, [], .null)) rfl rfl (fun _ _ => rfl)
      obtain ⟨r1, r2⟩ := E.reti rfl (m := 1) (ax := []) (w := .null) rfl
      exact Or.inl ⟨x4, x5, c2, c6, c7, c8, c11, (by rw [← hrs, r1]; rfl), ((congrArg eh_V r2).trans hV9), ((congrArg eh_N r2).trans hN10)⟩
    · skip
      have E := E.ld (p := 44) (t := ri_isA) (i := 0) (n := 1) (v := .ref 0) rfl (e := (.aload_n 0, 1, [], .null)) rfl rfl (fun _ _ => rfl) k1_0 rfl
      have E := E.ld (p := 46) (t := ri_isI) (i := 4) (n := 2) (v := .int (eh_i G 2 (10 + l).toNatClampNeg)) rfl (e := (.iload 4, 2, [], .null)) rfl rfl (fun _ _ => rfl) k1_4 rfl
      have E := E.pu (p := 47) (lo' := (ri_st1 (ri_as 0 [.ref 0, .int l, .int m, .int 1]) 4 (.int (eh_i G 2 (10 + l).toNatClampNeg)))) (st' := [.int 1, .int (eh_i G 2 (10 + l).toNatClampNeg), .ref 0]) rfl (e := (.iconst 1, 1, [], .null)) rfl rfl (fun _ _ => rfl)
      have E := E.ld (p := 48) (t := ri_isI) (i := 2) (n := 1) (v := .int m) rfl (e := (.iload_n 2, 1, [], .null)) rfl rfl (fun _ _ => rfl) k1_2 rfl
      have E := E.pu (p := 49) (lo' := (ri_st1 (ri_as 0 [.ref 0, .int l, .int m, .int 1]) 4 (.int (eh_i G 2 (10 + l).toNatClampNeg)))) (st' := [.int (1 <<< (m &&& 31)), .int (eh_i G 2 (10 + l).toNatClampNeg), .ref 0]) rfl (e := (.ishl, 1, [], .null)) rfl rfl (fun _ _ => rfl)
      obtain ⟨v1, h12, X, E⟩ := E.cv (p := 52) (as := [.int (eh_i G 2 (10 + l).toNatClampNeg), .int (1 <<< (m &&& 31))]) (b := 0) (r := []) rfl (x := 323) (m := 3) (w := .null) (j := 192) (n := 2) (t := 12) (u := [1705, 76, 1707]) rfl rfl rfl
      rcases xh_192 (d := d) X hV9 c8 (F2 _ c7) ((c7.i rfl).trans hw) hw8 with ⟨x13, x14, c15, c16, c17, rfl, hV18, hN19⟩
      have c15 : x13 = nI (ht_M c sb P w ku sz ce hi) := c15
      have c16 : eh_fr pMv x5 x14 := c16
      have c17 : eh_ty tM x14 := c17
      have hV18 : _ = x14 := hV18
      have E : eh_e _ _ 52 (ri_st1 (ri_as 0 [.ref 0, .int l, .int m, .int 1]) 4 (.int (eh_i G 2 (10 + l).toNatClampNeg))) [.int x13] _ rs h' := E
      rcases eh_q0 (E.br (p := 55) (c := 0) (tgt := 75) (a := x13) (b := 0) (st' := []) rfl (e := (.ifCond .eq 23, 3, [75], .null)) rfl rfl (fun _ _ => rfl) rfl) with ⟨c20, E⟩ | ⟨c20, E⟩
      · skip
        have E := E.pu (p := 76) (lo' := (ri_st1 (ri_as 0 [.ref 0, .int l, .int m, .int 1]) 4 (.int (eh_i G 2 (10 + l).toNatClampNeg)))) (st' := [.int 0]) rfl (e := (.iconst 0, 1, [], .null)) rfl rfl (fun _ _ => rfl)
        obtain ⟨r1, r2⟩ := E.reti rfl (m := 1) (ax := []) (w := .null) rfl
        exact Or.inr (Or.inl ⟨x4, x5, x13, x14, c2, c6, c7, c8, c11, c15, c16, c17, c20, (by rw [← hrs, r1]; rfl), ((congrArg eh_V r2).trans hV18), ((congrArg eh_N r2).trans (hN19.trans hN10))⟩)
      · skip
        have E := E.ld (p := 56) (t := ri_isA) (i := 0) (n := 1) (v := .ref 0) rfl (e := (.aload_n 0, 1, [], .null)) rfl rfl (fun _ _ => rfl) k1_0 rfl
        have E := E.ld (p := 58) (t := ri_isI) (i := 4) (n := 2) (v := .int (eh_i G 2 (10 + l).toNatClampNeg)) rfl (e := (.iload 4, 2, [], .null)) rfl rfl (fun _ _ => rfl) k1_4 rfl
        have E := E.pu (p := 59) (lo' := (ri_st1 (ri_as 0 [.ref 0, .int l, .int m, .int 1]) 4 (.int (eh_i G 2 (10 + l).toNatClampNeg)))) (st' := [.int 1, .int (eh_i G 2 (10 + l).toNatClampNeg), .ref 0]) rfl (e := (.iconst 1, 1, [], .null)) rfl rfl (fun _ _ => rfl)
        have E := E.ld (p := 60) (t := ri_isI) (i := 1) (n := 1) (v := .int l) rfl (e := (.iload_n 1, 1, [], .null)) rfl rfl (fun _ _ => rfl) k1_1 rfl
        have E := E.pu (p := 61) (lo' := (ri_st1 (ri_as 0 [.ref 0, .int l, .int m, .int 1]) 4 (.int (eh_i G 2 (10 + l).toNatClampNeg)))) (st' := [.int (1 <<< (l &&& 31)), .int (eh_i G 2 (10 + l).toNatClampNeg), .ref 0]) rfl (e := (.ishl, 1, [], .null)) rfl rfl (fun _ _ => rfl)
        have E := E.pu (p := 62) (lo' := (ri_st1 (ri_as 0 [.ref 0, .int l, .int m, .int 1]) 4 (.int (eh_i G 2 (10 + l).toNatClampNeg)))) (st' := [.int 1, .int (1 <<< (l &&& 31)), .int (eh_i G 2 (10 + l).toNatClampNeg), .ref 0]) rfl (e := (.iconst 1, 1, [], .null)) rfl rfl (fun _ _ => rfl)
        have E := E.ld (p := 63) (t := ri_isI) (i := 2) (n := 1) (v := .int m) rfl (e := (.iload_n 2, 1, [], .null)) rfl rfl (fun _ _ => rfl) k1_2 rfl
        have E := E.pu (p := 64) (lo' := (ri_st1 (ri_as 0 [.ref 0, .int l, .int m, .int 1]) 4 (.int (eh_i G 2 (10 + l).toNatClampNeg)))) (st' := [.int (1 <<< (m &&& 31)), .int (1 <<< (l &&& 31)), .int (eh_i G 2 (10 + l).toNatClampNeg), .ref 0]) rfl (e := (.ishl, 1, [], .null)) rfl rfl (fun _ _ => rfl)
        have E := E.pu (p := 65) (lo' := (ri_st1 (ri_as 0 [.ref 0, .int l, .int m, .int 1]) 4 (.int (eh_i G 2 (10 + l).toNatClampNeg)))) (st' := [.int ((1 <<< (l &&& 31)) ||| (1 <<< (m &&& 31))), .int (eh_i G 2 (10 + l).toNatClampNeg), .ref 0]) rfl (e := (.ior, 1, [], .null)) rfl rfl (fun _ _ => rfl)
        obtain ⟨v1, h21, X, E⟩ := E.cv (p := 68) (as := [.int (eh_i G 2 (10 + l).toNatClampNeg), .int ((1 <<< (l &&& 31)) ||| (1 <<< (m &&& 31)))]) (b := 0) (r := []) rfl (x := 323) (m := 3) (w := .null) (j := 192) (n := 2) (t := 12) (u := [1705, 76, 1707]) rfl rfl rfl
        rcases xh_192 (d := d) X hV18 c17 (F3 _ (c7.tr c16)) (((c7.tr c16).i rfl).trans hw) hw8 with ⟨x22, x23, c24, c25, c26, rfl, hV27, hN28⟩
        have c24 : x22 = nI (ht_M c sc P w ku sz ce hi) := c24
        have c25 : eh_fr pMv x14 x23 := c25
        have c26 : eh_ty tM x23 := c26
        have hV27 : _ = x23 := hV27
        have E : eh_e _ _ 68 (ri_st1 (ri_as 0 [.ref 0, .int l, .int m, .int 1]) 4 (.int (eh_i G 2 (10 + l).toNatClampNeg))) [.int x22] _ rs h' := E
        rcases eh_q1 (E.br (p := 71) (c := 1) (tgt := 75) (a := x22) (b := 0) (st' := []) rfl (e := (.ifCond .ne 7, 3, [75], .null)) rfl rfl (fun _ _ => rfl) rfl) with ⟨c29, E⟩ | ⟨c29, E⟩
        · skip
          have E := E.pu (p := 76) (lo' := (ri_st1 (ri_as 0 [.ref 0, .int l, .int m, .int 1]) 4 (.int (eh_i G 2 (10 + l).toNatClampNeg)))) (st' := [.int 0]) rfl (e := (.iconst 0, 1, [], .null)) rfl rfl (fun _ _ => rfl)
          obtain ⟨r1, r2⟩ := E.reti rfl (m := 1) (ax := []) (w := .null) rfl
          exact Or.inr (Or.inr (Or.inl ⟨x4, x5, x13, x14, x22, x23, c2, c6, c7, c8, c11, c15, c16, c17, c20, c24, c25, c26, c29, (by rw [← hrs, r1]; rfl), ((congrArg eh_V r2).trans hV27), ((congrArg eh_N r2).trans (hN28.trans (hN19.trans hN10)))⟩))
        · skip
          have E := E.pu (p := 72) (lo' := (ri_st1 (ri_as 0 [.ref 0, .int l, .int m, .int 1]) 4 (.int (eh_i G 2 (10 + l).toNatClampNeg)))) (st' := [.int 1]) rfl (e := (.iconst 1, 1, [], .null)) rfl rfl (fun _ _ => rfl)
          have E := E.pu (p := 76) (lo' := (ri_st1 (ri_as 0 [.ref 0, .int l, .int m, .int 1]) 4 (.int (eh_i G 2 (10 + l).toNatClampNeg)))) (st' := [.int 1]) rfl (e := (.goto 4, 3, [76], .null)) rfl rfl (fun _ _ => rfl)
          obtain ⟨r1, r2⟩ := E.reti rfl (m := 1) (ax := []) (w := .null) rfl
          exact Or.inr (Or.inr (Or.inr (Or.inl ⟨x4, x5, x13, x14, x22, x23, c2, c6, c7, c8, c11, c15, c16, c17, c20, c24, c25, c26, c29, (by rw [← hrs, r1]; rfl), ((congrArg eh_V r2).trans hV27), ((congrArg eh_N r2).trans (hN28.trans (hN19.trans hN10)))⟩)))
  · skip
    have E := E.pu (p := 26) (lo' := (ri_st1 (ri_as 0 [.ref 0, .int l, .int m, .int 1]) 4 (.int (eh_i G 2 (10 + l).toNatClampNeg)))) (st' := [.int 0]) rfl (e := (.iconst 0, 1, [], .null)) rfl rfl (fun _ _ => rfl)
    obtain ⟨r1, r2⟩ := E.reti rfl (m := 1) (ax := []) (w := .null) rfl
    exact Or.inr (Or.inr (Or.inr (Or.inr (⟨c2, (by rw [← hrs, r1]; rfl), ((congrArg eh_V r2).trans hV), (congrArg eh_N r2)⟩))))
theorem pn_a {cal : eh_K} {lo : List (Nat × Value)} {h h' : ri_H} {rs : List Value} {G : eh_W} {k : Int32} (E : eh_e cal md_227 0 lo [] h rs h') (hV : eh_V h = G) (ty : eh_ty tM G) (l0 : ri_lk lo 0 = some (.ref 0)) (l1 : ri_lk lo 1 = some (.int k)) (l2 : ri_lk lo 2 = some (.int 1)) : (¬ (k.toInt < (-1)) ∧ ∃ hz loz, eh_e cal md_227 12 loz [] hz rs h' ∧ eh_V hz = G ∧ eh_N hz = eh_N h ∧ eh_ty tM G ∧ ri_lk loz 0 = some (.ref 0) ∧ ri_lk loz 1 = some (.int k) ∧ ri_lk loz 2 = some (.int 1) ∧ ri_lk loz 3 = some (.int 0) ∧ ri_lk loz 4 = some (.int 0)) ∨ (k.toInt < (-1) ∧ rs = [.int (-1)] ∧ eh_V h' = G ∧ eh_N h' = eh_N h) := by
  have E := E.ld (p := 1) (t := ri_isI) (i := 1) (n := 1) (v := .int k) rfl (e := (.iload_n 1, 1, [], .null)) rfl rfl (fun _ _ => rfl) l1 rfl
  have E := E.pu (p := 2) (lo' := lo) (st' := [.int (-1), .int k]) rfl (e := (.iconst (-1), 1, [], .null)) rfl rfl (fun _ _ => rfl)
  rcases eh_r3 rfl (show ((-1) : Int32).toInt = (-1) by decide) (E.br (p := 5) (c := 3) (tgt := 7) (a := k) (b := (-1)) (st' := []) rfl (e := (.if_icmp .ge 5, 3, [7], .null)) rfl rfl (fun _ _ => rfl) rfl) with ⟨c1, E⟩ | ⟨c1, E⟩
  · skip
    have E := E.pu (p := 8) (lo' := lo) (st' := [.int 0]) rfl (e := (.iconst 0, 1, [], .null)) rfl rfl (fun _ _ => rfl)
    have E := E.so (p := 9) (t := ri_isI) (i := 3) (n := 1) rfl (e := (.istore_n 3, 1, [], .null)) rfl rfl (fun _ _ => rfl) rfl
    have k2_3 : ri_lk (ri_st1 lo 3 (.int 0)) 3 = some (.int 0) := eh_self
    have k2_0 : ri_lk (ri_st1 lo 3 (.int 0)) 0 = some (.ref 0) := eh_keep (by decide) (Or.inl rfl) l0
    have k2_1 : ri_lk (ri_st1 lo 3 (.int 0)) 1 = some (.int k) := eh_keep (by decide) (Or.inl rfl) l1
    have k2_2 : ri_lk (ri_st1 lo 3 (.int 0)) 2 = some (.int 1) := eh_keep (by decide) (Or.inl rfl) l2
    have E := E.pu (p := 10) (lo' := (ri_st1 lo 3 (.int 0))) (st' := [.int 0]) rfl (e := (.iconst 0, 1, [], .null)) rfl rfl (fun _ _ => rfl)
    have E := E.so (p := 12) (t := ri_isI) (i := 4) (n := 2) rfl (e := (.istore 4, 2, [], .null)) rfl rfl (fun _ _ => rfl) rfl
    have k3_4 : ri_lk (ri_st1 (ri_st1 lo 3 (.int 0)) 4 (.int 0)) 4 = some (.int 0) := eh_self
    have k3_0 : ri_lk (ri_st1 (ri_st1 lo 3 (.int 0)) 4 (.int 0)) 0 = some (.ref 0) := eh_keep (by decide) (Or.inl rfl) k2_0
    have k3_1 : ri_lk (ri_st1 (ri_st1 lo 3 (.int 0)) 4 (.int 0)) 1 = some (.int k) := eh_keep (by decide) (Or.inl rfl) k2_1
    have k3_2 : ri_lk (ri_st1 (ri_st1 lo 3 (.int 0)) 4 (.int 0)) 2 = some (.int 1) := eh_keep (by decide) (Or.inl rfl) k2_2
    have k3_3 : ri_lk (ri_st1 (ri_st1 lo 3 (.int 0)) 4 (.int 0)) 3 = some (.int 0) := eh_keep (by decide) (Or.inl rfl) k2_3
    exact Or.inl ⟨c1, _, _, E, hV, rfl, ty, k3_0, k3_1, k3_2, k3_3, k3_4⟩
  · skip
    have E := E.pu (p := 6) (lo' := lo) (st' := [.int (-1)]) rfl (e := (.iconst (-1), 1, [], .null)) rfl rfl (fun _ _ => rfl)
    obtain ⟨r1, r2⟩ := E.reti rfl (m := 1) (ax := []) (w := .null) rfl
    exact Or.inr (⟨c1, r1, ((congrArg eh_V r2).trans hV), (congrArg eh_N r2)⟩)
theorem pn_o {cal : eh_K} {lo : List (Nat × Value)} {h h' : ri_H} {rs : List Value} {G : eh_W} {k n l : Int32} (E : eh_e cal md_227 12 lo [] h rs h') (hV : eh_V h = G) (ty : eh_ty tM G) (l0 : ri_lk lo 0 = some (.ref 0)) (l1 : ri_lk lo 1 = some (.int k)) (l2 : ri_lk lo 2 = some (.int 1)) (l3 : ri_lk lo 3 = some (.int n)) (l4 : ri_lk lo 4 = some (.int l)) : (¬ (l.toInt < (eh_i G 2 4).toInt) ∧ ∃ hz loz, eh_e cal md_227 84 loz [] hz rs h' ∧ eh_V hz = G ∧ eh_N hz = eh_N h ∧ eh_ty tM G ∧ ri_lk loz 0 = some (.ref 0) ∧ ri_lk loz 1 = some (.int k) ∧ ri_lk loz 2 = some (.int 1) ∧ ri_lk loz 3 = some (.int n) ∧ ri_lk loz 4 = some (.int l)) ∨ (l.toInt < (eh_i G 2 4).toInt ∧ ∃ hz loz, eh_e cal md_227 29 loz [] hz rs h' ∧ eh_V hz = G ∧ eh_N hz = eh_N h ∧ eh_ty tM G ∧ ri_lk loz 0 = some (.ref 0) ∧ ri_lk loz 1 = some (.int k) ∧ ri_lk loz 2 = some (.int 1) ∧ ri_lk loz 3 = some (.int n) ∧ ri_lk loz 4 = some (.int l) ∧ ri_lk loz 5 = some (.int (l + 1))) := by
  have E := E.ld (p := 14) (t := ri_isI) (i := 4) (n := 2) (v := .int l) rfl (e := (.iload 4, 2, [], .null)) rfl rfl (fun _ _ => rfl) l4 rfl
  have E := E.ld (p := 15) (t := ri_isA) (i := 0) (n := 1) (v := .ref 0) rfl (e := (.aload_n 0, 1, [], .null)) rfl rfl (fun _ _ => rfl) l0 rfl
  have E := E.gr (n := 2) (p := 18) rfl (x := 33) (m := 3) (w := .null) (t := 12) (i := 6) (u := 1330) rfl rfl hV ty rfl
  have E := E.pu (p := 19) (lo' := lo) (st' := [.int 4, .ref 2, .int l]) rfl (e := (.iconst 4, 1, [], .null)) rfl rfl (fun _ _ => rfl)
  have E := E.ai (p := 20) (z := eh_i G 2 4) (n := 4) rfl (e := (.iaload, 1, [], .null)) rfl rfl (fun _ _ => rfl) rfl hV ty (by decide) rfl rfl
  rcases eh_r3 rfl rfl (E.br (p := 23) (c := 3) (tgt := 84) (a := l) (b := eh_i G 2 4) (st' := []) rfl (e := (.if_icmp .ge 64, 3, [84], .null)) rfl rfl (fun _ _ => rfl) rfl) with ⟨c1, E⟩ | ⟨c1, E⟩
  · skip
    exact Or.inl ⟨c1, _, _, E, hV, rfl, ty, l0, l1, l2, l3, l4⟩
  · skip
    have E := E.ld (p := 25) (t := ri_isI) (i := 4) (n := 2) (v := .int l) rfl (e := (.iload 4, 2, [], .null)) rfl rfl (fun _ _ => rfl) l4 rfl
    have E := E.pu (p := 26) (lo' := lo) (st' := [.int 1, .int l]) rfl (e := (.iconst 1, 1, [], .null)) rfl rfl (fun _ _ => rfl)
    have E := E.pu (p := 27) (lo' := lo) (st' := [.int (l + 1)]) rfl (e := (.iadd, 1, [], .null)) rfl rfl (fun _ _ => rfl)
    have E := E.so (p := 29) (t := ri_isI) (i := 5) (n := 2) rfl (e := (.istore 5, 2, [], .null)) rfl rfl (fun _ _ => rfl) rfl
    have k2_5 : ri_lk (ri_st1 lo 5 (.int (l + 1))) 5 = some (.int (l + 1)) := eh_self
    have k2_0 : ri_lk (ri_st1 lo 5 (.int (l + 1))) 0 = some (.ref 0) := eh_keep (by decide) (Or.inl rfl) l0
    have k2_1 : ri_lk (ri_st1 lo 5 (.int (l + 1))) 1 = some (.int k) := eh_keep (by decide) (Or.inl rfl) l1
    have k2_2 : ri_lk (ri_st1 lo 5 (.int (l + 1))) 2 = some (.int 1) := eh_keep (by decide) (Or.inl rfl) l2
    have k2_3 : ri_lk (ri_st1 lo 5 (.int (l + 1))) 3 = some (.int n) := eh_keep (by decide) (Or.inl rfl) l3
    have k2_4 : ri_lk (ri_st1 lo 5 (.int (l + 1))) 4 = some (.int l) := eh_keep (by decide) (Or.inl rfl) l4
    exact Or.inr (⟨c1, _, _, E, hV, rfl, ty, k2_0, k2_1, k2_2, k2_3, k2_4, k2_5⟩)
theorem pn_i {d : Nat} {lo : List (Nat × Value)} {h h' : ri_H} {rs : List Value} {G : eh_W} {c sa sb sc P w : Nat} {ku sz : Nat → Nat} {ce hi : Nat → Nat → Nat} {k n l m : Int32} (E : eh_e (ri_calE ri_md (d + 5)) md_227 29 lo [] h rs h') (hV : eh_V h = G) (ty : eh_ty tM G) (l0 : ri_lk lo 0 = some (.ref 0)) (l1 : ri_lk lo 1 = some (.int k)) (l2 : ri_lk lo 2 = some (.int 1)) (l3 : ri_lk lo 3 = some (.int n)) (l4 : ri_lk lo 4 = some (.int l)) (l5 : ri_lk lo 5 = some (.int m)) (F1 : ∀ G1, eh_fr pMv G G1 → xD c sa P ku sz ce hi (eh_i G 2 (10 + l).toNatClampNeg) (1 <<< (l &&& 31)) G1) (F2 : ∀ G1, eh_fr pMv G G1 → xD c sb P ku sz ce hi (eh_i G 2 (10 + l).toNatClampNeg) (1 <<< (m &&& 31)) G1) (F3 : ∀ G1, eh_fr pMv G G1 → xD c sc P ku sz ce hi (eh_i G 2 (10 + l).toNatClampNeg) ((1 <<< (l &&& 31)) ||| (1 <<< (m &&& 31))) G1) (hw : eh_i G 2 0 = nI w) (hw8 : w ≤ 8) : (¬ (m.toInt < (eh_i G 2 4).toInt) ∧ ∃ hz loz, eh_e (ri_calE ri_md (d + 5)) md_227 78 loz [] hz rs h' ∧ eh_V hz = G ∧ eh_N hz = eh_N h ∧ eh_ty tM G ∧ ri_lk loz 0 = some (.ref 0) ∧ ri_lk loz 1 = some (.int k) ∧ ri_lk loz 2 = some (.int 1) ∧ ri_lk loz 3 = some (.int n) ∧ ri_lk loz 4 = some (.int l) ∧ ri_lk loz 5 = some (.int m)) ∨ (∃ (x3 : Int32), ∃ (x4 : eh_W), m.toInt < (eh_i G 2 4).toInt ∧ (eh_i G 2 (10 + m).toNatClampNeg) = (eh_i G 2 (10 + l).toNatClampNeg) ∧ x3 = nI (ht_M c sa P w ku sz ce hi) ∧ eh_fr pMv G x4 ∧ eh_ty tM x4 ∧ x3 = 0 ∧ ∃ hz loz, eh_e (ri_calE ri_md (d + 5)) md_227 29 loz [] hz rs h' ∧ eh_V hz = x4 ∧ eh_N hz = eh_N h ∧ eh_ty tM x4 ∧ ri_lk loz 0 = some (.ref 0) ∧ ri_lk loz 1 = some (.int k) ∧ ri_lk loz 2 = some (.int 1) ∧ ri_lk loz 3 = some (.int n) ∧ ri_lk loz 4 = some (.int l) ∧ ri_lk loz 5 = some (.int (m + 1))) ∨ (∃ (x12 : Int32), ∃ (x13 : eh_W), ∃ (x14 : Int32), ∃ (x15 : eh_W), m.toInt < (eh_i G 2 4).toInt ∧ (eh_i G 2 (10 + m).toNatClampNeg) = (eh_i G 2 (10 + l).toNatClampNeg) ∧ x12 = nI (ht_M c sa P w ku sz ce hi) ∧ eh_fr pMv G x13 ∧ eh_ty tM x13 ∧ ¬ (x12 = 0) ∧ x14 = nI (ht_M c sb P w ku sz ce hi) ∧ eh_fr pMv x13 x15 ∧ eh_ty tM x15 ∧ x14 = 0 ∧ ∃ hz loz, eh_e (ri_calE ri_md (d + 5)) md_227 29 loz [] hz rs h' ∧ eh_V hz = x15 ∧ eh_N hz = eh_N h ∧ eh_ty tM x15 ∧ ri_lk loz 0 = some (.ref 0) ∧ ri_lk loz 1 = some (.int k) ∧ ri_lk loz 2 = some (.int 1) ∧ ri_lk loz 3 = some (.int n) ∧ ri_lk loz 4 = some (.int l) ∧ ri_lk loz 5 = some (.int (m + 1))) ∨ (∃ (x27 : Int32), ∃ (x28 : eh_W), ∃ (x29 : Int32), ∃ (x30 : eh_W), ∃ (x31 : Int32), ∃ (x32 : eh_W), m.toInt < (eh_i G 2 4).toInt ∧ (eh_i G 2 (10 + m).toNatClampNeg) = (eh_i G 2 (10 + l).toNatClampNeg) ∧ x27 = nI (ht_M c sa P w ku sz ce hi) ∧ eh_fr pMv G x28 ∧ eh_ty tM x28 ∧ ¬ (x27 = 0) ∧ x29 = nI (ht_M c sb P w ku sz ce hi) ∧ eh_fr pMv x28 x30 ∧ eh_ty tM x30 ∧ ¬ (x29 = 0) ∧ x31 = nI (ht_M c sc P w ku sz ce hi) ∧ eh_fr pMv x30 x32 ∧ eh_ty tM x32 ∧ ¬ (x31 = 0) ∧ ∃ hz loz, eh_e (ri_calE ri_md (d + 5)) md_227 29 loz [] hz rs h' ∧ eh_V hz = x32 ∧ eh_N hz = eh_N h ∧ eh_ty tM x32 ∧ ri_lk loz 0 = some (.ref 0) ∧ ri_lk loz 1 = some (.int k) ∧ ri_lk loz 2 = some (.int 1) ∧ ri_lk loz 3 = some (.int n) ∧ ri_lk loz 4 = some (.int l) ∧ ri_lk loz 5 = some (.int (m + 1))) ∨ (∃ (x48 : Int32), ∃ (x49 : eh_W), ∃ (x50 : Int32), ∃ (x51 : eh_W), ∃ (x52 : Int32), ∃ (x53 : eh_W), m.toInt < (eh_i G 2 4).toInt ∧ (eh_i G 2 (10 + m).toNatClampNeg) = (eh_i G 2 (10 + l).toNatClampNeg) ∧ x48 = nI (ht_M c sa P w ku sz ce hi) ∧ eh_fr pMv G x49 ∧ eh_ty tM x49 ∧ ¬ (x48 = 0) ∧ x50 = nI (ht_M c sb P w ku sz ce hi) ∧ eh_fr pMv x49 x51 ∧ eh_ty tM x51 ∧ ¬ (x50 = 0) ∧ x52 = nI (ht_M c sc P w ku sz ce hi) ∧ eh_fr pMv x51 x53 ∧ eh_ty tM x53 ∧ x52 = 0 ∧ ¬ (n = k) ∧ ∃ hz loz, eh_e (ri_calE ri_md (d + 5)) md_227 29 loz [] hz rs h' ∧ eh_V hz = x53 ∧ eh_N hz = eh_N h ∧ eh_ty tM x53 ∧ ri_lk loz 0 = some (.ref 0) ∧ ri_lk loz 1 = some (.int k) ∧ ri_lk loz 2 = some (.int 1) ∧ ri_lk loz 3 = some (.int (n + 1)) ∧ ri_lk loz 4 = some (.int l) ∧ ri_lk loz 5 = some (.int (m + 1))) ∨ (∃ (x48 : Int32), ∃ (x49 : eh_W), ∃ (x50 : Int32), ∃ (x51 : eh_W), ∃ (x52 : Int32), ∃ (x53 : eh_W), m.toInt < (eh_i G 2 4).toInt ∧ (eh_i G 2 (10 + m).toNatClampNeg) = (eh_i G 2 (10 + l).toNatClampNeg) ∧ x48 = nI (ht_M c sa P w ku sz ce hi) ∧ eh_fr pMv G x49 ∧ eh_ty tM x49 ∧ ¬ (x48 = 0) ∧ x50 = nI (ht_M c sb P w ku sz ce hi) ∧ eh_fr pMv x49 x51 ∧ eh_ty tM x51 ∧ ¬ (x50 = 0) ∧ x52 = nI (ht_M c sc P w ku sz ce hi) ∧ eh_fr pMv x51 x53 ∧ eh_ty tM x53 ∧ x52 = 0 ∧ n = k ∧ rs = [.int ((10 * l) + m)] ∧ eh_V h' = x53 ∧ eh_N h' = eh_N h) ∨ (m.toInt < (eh_i G 2 4).toInt ∧ ¬ ((eh_i G 2 (10 + m).toNatClampNeg) = (eh_i G 2 (10 + l).toNatClampNeg)) ∧ ∃ hz loz, eh_e (ri_calE ri_md (d + 5)) md_227 29 loz [] hz rs h' ∧ eh_V hz = G ∧ eh_N hz = eh_N h ∧ eh_ty tM G ∧ ri_lk loz 0 = some (.ref 0) ∧ ri_lk loz 1 = some (.int k) ∧ ri_lk loz 2 = some (.int 1) ∧ ri_lk loz 3 = some (.int n) ∧ ri_lk loz 4 = some (.int l) ∧ ri_lk loz 5 = some (.int (m + 1))) := by
  have E := E.ld (p := 31) (t := ri_isI) (i := 5) (n := 2) (v := .int m) rfl (e := (.iload 5, 2, [], .null)) rfl rfl (fun _ _ => rfl) l5 rfl
  have E := E.ld (p := 32) (t := ri_isA) (i := 0) (n := 1) (v := .ref 0) rfl (e := (.aload_n 0, 1, [], .null)) rfl rfl (fun _ _ => rfl) l0 rfl
  have E := E.gr (n := 2) (p := 35) rfl (x := 33) (m := 3) (w := .null) (t := 12) (i := 6) (u := 1330) rfl rfl hV ty rfl
  have E := E.pu (p := 36) (lo' := lo) (st' := [.int 4, .ref 2, .int m]) rfl (e := (.iconst 4, 1, [], .null)) rfl rfl (fun _ _ => rfl)
  have E := E.ai (p := 37) (z := eh_i G 2 4) (n := 4) rfl (e := (.iaload, 1, [], .null)) rfl rfl (fun _ _ => rfl) rfl hV ty (by decide) rfl rfl
  rcases eh_r3 rfl rfl (E.br (p := 40) (c := 3) (tgt := 78) (a := m) (b := eh_i G 2 4) (st' := []) rfl (e := (.if_icmp .ge 41, 3, [78], .null)) rfl rfl (fun _ _ => rfl) rfl) with ⟨c1, E⟩ | ⟨c1, E⟩
  · skip
    exact Or.inl ⟨c1, _, _, E, hV, rfl, ty, l0, l1, l2, l3, l4, l5⟩
  · skip
    have E := E.ld (p := 41) (t := ri_isA) (i := 0) (n := 1) (v := .ref 0) rfl (e := (.aload_n 0, 1, [], .null)) rfl rfl (fun _ _ => rfl) l0 rfl
    have E := E.ld (p := 43) (t := ri_isI) (i := 4) (n := 2) (v := .int l) rfl (e := (.iload 4, 2, [], .null)) rfl rfl (fun _ _ => rfl) l4 rfl
    have E := E.ld (p := 45) (t := ri_isI) (i := 5) (n := 2) (v := .int m) rfl (e := (.iload 5, 2, [], .null)) rfl rfl (fun _ _ => rfl) l5 rfl
    have E := E.ld (p := 46) (t := ri_isI) (i := 2) (n := 1) (v := .int 1) rfl (e := (.iload_n 2, 1, [], .null)) rfl rfl (fun _ _ => rfl) l2 rfl
    obtain ⟨v1, h2, X, E⟩ := E.cv (p := 49) (as := [.int l, .int m, .int 1]) (b := 0) (r := []) rfl (x := 360) (m := 3) (w := .null) (j := 226) (n := 3) (t := 12) (u := [1773, 83, 1775]) rfl rfl rfl
    rcases iq_226 (d := d) X hV ty F1 F2 F3 hw hw8 with ⟨x3, x4, c5, c6, c7, c8, c9, rfl, hV10, hN11⟩ | ⟨x12, x13, x14, x15, c16, c17, c18, c19, c20, c21, c22, c23, c24, rfl, hV25, hN26⟩ | ⟨x27, x28, x29, x30, x31, x32, c33, c34, c35, c36, c37, c38, c39, c40, c41, c42, c43, c44, c45, rfl, hV46, hN47⟩ | ⟨x48, x49, x50, x51, x52, x53, c54, c55, c56, c57, c58, c59, c60, c61, c62, c63, c64, c65, c66, rfl, hV67, hN68⟩ | ⟨c69, rfl, hV70, hN71⟩
    · skip
      have c5 : (eh_i G 2 (10 + m).toNatClampNeg) = (eh_i G 2 (10 + l).toNatClampNeg) := c5
      have c6 : x3 = nI (ht_M c sa P w ku sz ce hi) := c6
      have c7 : eh_fr pMv G x4 := c7
      have c8 : eh_ty tM x4 := c8
      have c9 : x3 = 0 := c9
      have hV10 : _ = x4 := hV10
      have E : eh_e _ _ 49 lo [.int 0] _ rs h' := E
      have E := E.brf (p := 52) (c := 1) (tgt := 55) (a := 0) (b := 0) (st' := []) rfl (e := (.ifCond .ne 6, 3, [55], .null)) rfl rfl (fun _ _ => rfl) (by decide) rfl
      have E := E.pu (p := 72) (lo' := lo) (st' := []) rfl (e := (.goto 20, 3, [72], .null)) rfl rfl (fun _ _ => rfl)
      have E := E.ii (p := 75) (y := m + 1) rfl (i := 5) (n := 1) (m := 3) (ax := []) (w := .null) rfl l5 rfl rfl
      have k72_5 : ri_lk (ri_st1 lo 5 (.int (m + 1))) 5 = some (.int (m + 1)) := eh_self
      have k72_0 : ri_lk (ri_st1 lo 5 (.int (m + 1))) 0 = some (.ref 0) := eh_keep (by decide) (Or.inl rfl) l0
      have k72_1 : ri_lk (ri_st1 lo 5 (.int (m + 1))) 1 = some (.int k) := eh_keep (by decide) (Or.inl rfl) l1
      have k72_2 : ri_lk (ri_st1 lo 5 (.int (m + 1))) 2 = some (.int 1) := eh_keep (by decide) (Or.inl rfl) l2
      have k72_3 : ri_lk (ri_st1 lo 5 (.int (m + 1))) 3 = some (.int n) := eh_keep (by decide) (Or.inl rfl) l3
      have k72_4 : ri_lk (ri_st1 lo 5 (.int (m + 1))) 4 = some (.int l) := eh_keep (by decide) (Or.inl rfl) l4
      have E := E.pu (p := 29) (lo' := (ri_st1 lo 5 (.int (m + 1)))) (st' := []) rfl (e := (.goto (-46), 3, [29], .null)) rfl rfl (fun _ _ => rfl)
      exact Or.inr (Or.inl ⟨x3, x4, c1, c5, c6, c7, c8, c9, _, _, E, hV10, hN11, c8, k72_0, k72_1, k72_2, k72_3, k72_4, k72_5⟩)
    · skip
      have c16 : (eh_i G 2 (10 + m).toNatClampNeg) = (eh_i G 2 (10 + l).toNatClampNeg) := c16
      have c17 : x12 = nI (ht_M c sa P w ku sz ce hi) := c17
      have c18 : eh_fr pMv G x13 := c18
      have c19 : eh_ty tM x13 := c19
      have c20 : ¬ (x12 = 0) := c20
      have c21 : x14 = nI (ht_M c sb P w ku sz ce hi) := c21
      have c22 : eh_fr pMv x13 x15 := c22
      have c23 : eh_ty tM x15 := c23
      have c24 : x14 = 0 := c24
      have hV25 : _ = x15 := hV25
      have E : eh_e _ _ 49 lo [.int 0] _ rs h' := E
      have E := E.brf (p := 52) (c := 1) (tgt := 55) (a := 0) (b := 0) (st' := []) rfl (e := (.ifCond .ne 6, 3, [55], .null)) rfl rfl (fun _ _ => rfl) (by decide) rfl
      have E := E.pu (p := 72) (lo' := lo) (st' := []) rfl (e := (.goto 20, 3, [72], .null)) rfl rfl (fun _ _ => rfl)
      have E := E.ii (p := 75) (y := m + 1) rfl (i := 5) (n := 1) (m := 3) (ax := []) (w := .null) rfl l5 rfl rfl
      have k73_5 : ri_lk (ri_st1 lo 5 (.int (m + 1))) 5 = some (.int (m + 1)) := eh_self
      have k73_0 : ri_lk (ri_st1 lo 5 (.int (m + 1))) 0 = some (.ref 0) := eh_keep (by decide) (Or.inl rfl) l0
      have k73_1 : ri_lk (ri_st1 lo 5 (.int (m + 1))) 1 = some (.int k) := eh_keep (by decide) (Or.inl rfl) l1
      have k73_2 : ri_lk (ri_st1 lo 5 (.int (m + 1))) 2 = some (.int 1) := eh_keep (by decide) (Or.inl rfl) l2
      have k73_3 : ri_lk (ri_st1 lo 5 (.int (m + 1))) 3 = some (.int n) := eh_keep (by decide) (Or.inl rfl) l3
      have k73_4 : ri_lk (ri_st1 lo 5 (.int (m + 1))) 4 = some (.int l) := eh_keep (by decide) (Or.inl rfl) l4
      have E := E.pu (p := 29) (lo' := (ri_st1 lo 5 (.int (m + 1)))) (st' := []) rfl (e := (.goto (-46), 3, [29], .null)) rfl rfl (fun _ _ => rfl)
      exact Or.inr (Or.inr (Or.inl ⟨x12, x13, x14, x15, c1, c16, c17, c18, c19, c20, c21, c22, c23, c24, _, _, E, hV25, hN26, c23, k73_0, k73_1, k73_2, k73_3, k73_4, k73_5⟩))
    · skip
      have c33 : (eh_i G 2 (10 + m).toNatClampNeg) = (eh_i G 2 (10 + l).toNatClampNeg) := c33
      have c34 : x27 = nI (ht_M c sa P w ku sz ce hi) := c34
      have c35 : eh_fr pMv G x28 := c35
      have c36 : eh_ty tM x28 := c36
      have c37 : ¬ (x27 = 0) := c37
      have c38 : x29 = nI (ht_M c sb P w ku sz ce hi) := c38
      have c39 : eh_fr pMv x28 x30 := c39
      have c40 : eh_ty tM x30 := c40
      have c41 : ¬ (x29 = 0) := c41
      have c42 : x31 = nI (ht_M c sc P w ku sz ce hi) := c42
      have c43 : eh_fr pMv x30 x32 := c43
      have c44 : eh_ty tM x32 := c44
      have c45 : ¬ (x31 = 0) := c45
      have hV46 : _ = x32 := hV46
      have E : eh_e _ _ 49 lo [.int 0] _ rs h' := E
      have E := E.brf (p := 52) (c := 1) (tgt := 55) (a := 0) (b := 0) (st' := []) rfl (e := (.ifCond .ne 6, 3, [55], .null)) rfl rfl (fun _ _ => rfl) (by decide) rfl
      have E := E.pu (p := 72) (lo' := lo) (st' := []) rfl (e := (.goto 20, 3, [72], .null)) rfl rfl (fun _ _ => rfl)
      have E := E.ii (p := 75) (y := m + 1) rfl (i := 5) (n := 1) (m := 3) (ax := []) (w := .null) rfl l5 rfl rfl
      have k74_5 : ri_lk (ri_st1 lo 5 (.int (m + 1))) 5 = some (.int (m + 1)) := eh_self
      have k74_0 : ri_lk (ri_st1 lo 5 (.int (m + 1))) 0 = some (.ref 0) := eh_keep (by decide) (Or.inl rfl) l0
      have k74_1 : ri_lk (ri_st1 lo 5 (.int (m + 1))) 1 = some (.int k) := eh_keep (by decide) (Or.inl rfl) l1
      have k74_2 : ri_lk (ri_st1 lo 5 (.int (m + 1))) 2 = some (.int 1) := eh_keep (by decide) (Or.inl rfl) l2
      have k74_3 : ri_lk (ri_st1 lo 5 (.int (m + 1))) 3 = some (.int n) := eh_keep (by decide) (Or.inl rfl) l3
      have k74_4 : ri_lk (ri_st1 lo 5 (.int (m + 1))) 4 = some (.int l) := eh_keep (by decide) (Or.inl rfl) l4
      have E := E.pu (p := 29) (lo' := (ri_st1 lo 5 (.int (m + 1)))) (st' := []) rfl (e := (.goto (-46), 3, [29], .null)) rfl rfl (fun _ _ => rfl)
      exact Or.inr (Or.inr (Or.inr (Or.inl ⟨x27, x28, x29, x30, x31, x32, c1, c33, c34, c35, c36, c37, c38, c39, c40, c41, c42, c43, c44, c45, _, _, E, hV46, hN47, c44, k74_0, k74_1, k74_2, k74_3, k74_4, k74_5⟩)))
    · skip
      have c54 : (eh_i G 2 (10 + m).toNatClampNeg) = (eh_i G 2 (10 + l).toNatClampNeg) := c54
      have c55 : x48 = nI (ht_M c sa P w ku sz ce hi) := c55
      have c56 : eh_fr pMv G x49 := c56
      have c57 : eh_ty tM x49 := c57
      have c58 : ¬ (x48 = 0) := c58
      have c59 : x50 = nI (ht_M c sb P w ku sz ce hi) := c59
      have c60 : eh_fr pMv x49 x51 := c60
      have c61 : eh_ty tM x51 := c61
      have c62 : ¬ (x50 = 0) := c62
      have c63 : x52 = nI (ht_M c sc P w ku sz ce hi) := c63
      have c64 : eh_fr pMv x51 x53 := c64
      have c65 : eh_ty tM x53 := c65
      have c66 : x52 = 0 := c66
      have hV67 : _ = x53 := hV67
      have E : eh_e _ _ 49 lo [.int 1] _ rs h' := E
      have E := E.brt (c := 1) (tgt := 55) (a := 1) (b := 0) (st' := []) rfl (e := (.ifCond .ne 6, 3, [55], .null)) rfl rfl (fun _ _ => rfl) (by decide)
      have E := E.ld (p := 56) (t := ri_isI) (i := 3) (n := 1) (v := .int n) rfl (e := (.iload_n 3, 1, [], .null)) rfl rfl (fun _ _ => rfl) l3 rfl
      have E := E.ld (p := 57) (t := ri_isI) (i := 1) (n := 1) (v := .int k) rfl (e := (.iload_n 1, 1, [], .null)) rfl rfl (fun _ _ => rfl) l1 rfl
      rcases eh_q1 (E.br (p := 60) (c := 1) (tgt := 69) (a := n) (b := k) (st' := []) rfl (e := (.if_icmp .ne 12, 3, [69], .null)) rfl rfl (fun _ _ => rfl) rfl) with ⟨c75, E⟩ | ⟨c75, E⟩
      · skip
        have E := E.ii (p := 72) (y := n + 1) rfl (i := 3) (n := 1) (m := 3) (ax := []) (w := .null) rfl l3 rfl rfl
        have k76_3 : ri_lk (ri_st1 lo 3 (.int (n + 1))) 3 = some (.int (n + 1)) := eh_self
        have k76_0 : ri_lk (ri_st1 lo 3 (.int (n + 1))) 0 = some (.ref 0) := eh_keep (by decide) (Or.inl rfl) l0
        have k76_1 : ri_lk (ri_st1 lo 3 (.int (n + 1))) 1 = some (.int k) := eh_keep (by decide) (Or.inl rfl) l1
        have k76_2 : ri_lk (ri_st1 lo 3 (.int (n + 1))) 2 = some (.int 1) := eh_keep (by decide) (Or.inl rfl) l2
        have k76_4 : ri_lk (ri_st1 lo 3 (.int (n + 1))) 4 = some (.int l) := eh_keep (by decide) (Or.inl rfl) l4
        have k76_5 : ri_lk (ri_st1 lo 3 (.int (n + 1))) 5 = some (.int m) := eh_keep (by decide) (Or.inl rfl) l5
        have E := E.ii (p := 75) (y := m + 1) rfl (i := 5) (n := 1) (m := 3) (ax := []) (w := .null) rfl k76_5 rfl rfl
        have k77_5 : ri_lk (ri_st1 (ri_st1 lo 3 (.int (n + 1))) 5 (.int (m + 1))) 5 = some (.int (m + 1)) := eh_self
        have k77_0 : ri_lk (ri_st1 (ri_st1 lo 3 (.int (n + 1))) 5 (.int (m + 1))) 0 = some (.ref 0) := eh_keep (by decide) (Or.inl rfl) k76_0
        have k77_1 : ri_lk (ri_st1 (ri_st1 lo 3 (.int (n + 1))) 5 (.int (m + 1))) 1 = some (.int k) := eh_keep (by decide) (Or.inl rfl) k76_1
        have k77_2 : ri_lk (ri_st1 (ri_st1 lo 3 (.int (n + 1))) 5 (.int (m + 1))) 2 = some (.int 1) := eh_keep (by decide) (Or.inl rfl) k76_2
        have k77_3 : ri_lk (ri_st1 (ri_st1 lo 3 (.int (n + 1))) 5 (.int (m + 1))) 3 = some (.int (n + 1)) := eh_keep (by decide) (Or.inl rfl) k76_3
        have k77_4 : ri_lk (ri_st1 (ri_st1 lo 3 (.int (n + 1))) 5 (.int (m + 1))) 4 = some (.int l) := eh_keep (by decide) (Or.inl rfl) k76_4
        have E := E.pu (p := 29) (lo' := (ri_st1 (ri_st1 lo 3 (.int (n + 1))) 5 (.int (m + 1)))) (st' := []) rfl (e := (.goto (-46), 3, [29], .null)) rfl rfl (fun _ _ => rfl)
        exact Or.inr (Or.inr (Or.inr (Or.inr (Or.inl ⟨x48, x49, x50, x51, x52, x53, c1, c54, c55, c56, c57, c58, c59, c60, c61, c62, c63, c64, c65, c66, c75, _, _, E, hV67, hN68, c65, k77_0, k77_1, k77_2, k77_3, k77_4, k77_5⟩))))
      · skip
        have E := E.pu (p := 62) (lo' := lo) (st' := [.int 10]) rfl (e := (.bipush 10, 2, [], .null)) rfl rfl (fun _ _ => rfl)
        have E := E.ld (p := 64) (t := ri_isI) (i := 4) (n := 2) (v := .int l) rfl (e := (.iload 4, 2, [], .null)) rfl rfl (fun _ _ => rfl) l4 rfl
        have E := E.pu (p := 65) (lo' := lo) (st' := [.int (10 * l)]) rfl (e := (.imul, 1, [], .null)) rfl rfl (fun _ _ => rfl)
        have E := E.ld (p := 67) (t := ri_isI) (i := 5) (n := 2) (v := .int m) rfl (e := (.iload 5, 2, [], .null)) rfl rfl (fun _ _ => rfl) l5 rfl
        have E := E.pu (p := 68) (lo' := lo) (st' := [.int ((10 * l) + m)]) rfl (e := (.iadd, 1, [], .null)) rfl rfl (fun _ _ => rfl)
        obtain ⟨r1, r2⟩ := E.reti rfl (m := 1) (ax := []) (w := .null) rfl
        exact Or.inr (Or.inr (Or.inr (Or.inr (Or.inr (Or.inl ⟨x48, x49, x50, x51, x52, x53, c1, c54, c55, c56, c57, c58, c59, c60, c61, c62, c63, c64, c65, c66, c75, r1, ((congrArg eh_V r2).trans hV67), ((congrArg eh_N r2).trans hN68)⟩)))))
    · skip
      have c69 : ¬ ((eh_i G 2 (10 + m).toNatClampNeg) = (eh_i G 2 (10 + l).toNatClampNeg)) := c69
      have E : eh_e _ _ 49 lo [.int 0] _ rs h' := E
      have E := E.brf (p := 52) (c := 1) (tgt := 55) (a := 0) (b := 0) (st' := []) rfl (e := (.ifCond .ne 6, 3, [55], .null)) rfl rfl (fun _ _ => rfl) (by decide) rfl
      have E := E.pu (p := 72) (lo' := lo) (st' := []) rfl (e := (.goto 20, 3, [72], .null)) rfl rfl (fun _ _ => rfl)
      have E := E.ii (p := 75) (y := m + 1) rfl (i := 5) (n := 1) (m := 3) (ax := []) (w := .null) rfl l5 rfl rfl
      have k78_5 : ri_lk (ri_st1 lo 5 (.int (m + 1))) 5 = some (.int (m + 1)) := eh_self
      have k78_0 : ri_lk (ri_st1 lo 5 (.int (m + 1))) 0 = some (.ref 0) := eh_keep (by decide) (Or.inl rfl) l0
      have k78_1 : ri_lk (ri_st1 lo 5 (.int (m + 1))) 1 = some (.int k) := eh_keep (by decide) (Or.inl rfl) l1
      have k78_2 : ri_lk (ri_st1 lo 5 (.int (m + 1))) 2 = some (.int 1) := eh_keep (by decide) (Or.inl rfl) l2
      have k78_3 : ri_lk (ri_st1 lo 5 (.int (m + 1))) 3 = some (.int n) := eh_keep (by decide) (Or.inl rfl) l3
      have k78_4 : ri_lk (ri_st1 lo 5 (.int (m + 1))) 4 = some (.int l) := eh_keep (by decide) (Or.inl rfl) l4
      have E := E.pu (p := 29) (lo' := (ri_st1 lo 5 (.int (m + 1)))) (st' := []) rfl (e := (.goto (-46), 3, [29], .null)) rfl rfl (fun _ _ => rfl)
      exact Or.inr (Or.inr (Or.inr (Or.inr (Or.inr (Or.inr (⟨c1, c69, _, _, E, hV70, hN71, ty, k78_0, k78_1, k78_2, k78_3, k78_4, k78_5⟩))))))
theorem pn_e {cal : eh_K} {lo : List (Nat × Value)} {h h' : ri_H} {rs : List Value} {G : eh_W} {k n l m : Int32} (E : eh_e cal md_227 29 lo [] h rs h') (hV : eh_V h = G) (ty : eh_ty tM G) (l0 : ri_lk lo 0 = some (.ref 0)) (l1 : ri_lk lo 1 = some (.int k)) (l2 : ri_lk lo 2 = some (.int 1)) (l3 : ri_lk lo 3 = some (.int n)) (l4 : ri_lk lo 4 = some (.int l)) (l5 : ri_lk lo 5 = some (.int m)) (hno : ¬ (m.toInt < (eh_i G 2 4).toInt)) : ∃ hz loz, eh_e cal md_227 78 loz [] hz rs h' ∧ eh_V hz = G ∧ eh_N hz = eh_N h ∧ eh_ty tM G ∧ ri_lk loz 0 = some (.ref 0) ∧ ri_lk loz 1 = some (.int k) ∧ ri_lk loz 2 = some (.int 1) ∧ ri_lk loz 3 = some (.int n) ∧ ri_lk loz 4 = some (.int l) ∧ ri_lk loz 5 = some (.int m) := by
  have E := E.ld (p := 31) (t := ri_isI) (i := 5) (n := 2) (v := .int m) rfl (e := (.iload 5, 2, [], .null)) rfl rfl (fun _ _ => rfl) l5 rfl
  have E := E.ld (p := 32) (t := ri_isA) (i := 0) (n := 1) (v := .ref 0) rfl (e := (.aload_n 0, 1, [], .null)) rfl rfl (fun _ _ => rfl) l0 rfl
  have E := E.gr (n := 2) (p := 35) rfl (x := 33) (m := 3) (w := .null) (t := 12) (i := 6) (u := 1330) rfl rfl hV ty rfl
  have E := E.pu (p := 36) (lo' := lo) (st' := [.int 4, .ref 2, .int m]) rfl (e := (.iconst 4, 1, [], .null)) rfl rfl (fun _ _ => rfl)
  have E := E.ai (p := 37) (z := eh_i G 2 4) (n := 4) rfl (e := (.iaload, 1, [], .null)) rfl rfl (fun _ _ => rfl) rfl hV ty (by decide) rfl rfl
  have E := (eh_r3 rfl rfl (E.br (p := 40) (c := 3) (tgt := 78) (a := m) (b := eh_i G 2 4) (st' := []) rfl (e := (.if_icmp .ge 41, 3, [78], .null)) rfl rfl (fun _ _ => rfl) rfl)).elim (fun y => y.2) (fun y => absurd y.1 hno)
  exact ⟨_, _, E, hV, rfl, ty, l0, l1, l2, l3, l4, l5⟩
theorem pn_x {cal : eh_K} {lo : List (Nat × Value)} {h h' : ri_H} {rs : List Value} {G : eh_W} {k n l m : Int32} (E : eh_e cal md_227 78 lo [] h rs h') (hV : eh_V h = G) (ty : eh_ty tM G) (l0 : ri_lk lo 0 = some (.ref 0)) (l1 : ri_lk lo 1 = some (.int k)) (l2 : ri_lk lo 2 = some (.int 1)) (l3 : ri_lk lo 3 = some (.int n)) (l4 : ri_lk lo 4 = some (.int l)) (l5 : ri_lk lo 5 = some (.int m)) : ∃ hz loz, eh_e cal md_227 12 loz [] hz rs h' ∧ eh_V hz = G ∧ eh_N hz = eh_N h ∧ eh_ty tM G ∧ ri_lk loz 0 = some (.ref 0) ∧ ri_lk loz 1 = some (.int k) ∧ ri_lk loz 2 = some (.int 1) ∧ ri_lk loz 3 = some (.int n) ∧ ri_lk loz 4 = some (.int (l + 1)) ∧ ri_lk loz 5 = some (.int m) := by
  have E := E.ii (p := 81) (y := l + 1) rfl (i := 4) (n := 1) (m := 3) (ax := []) (w := .null) rfl l4 rfl rfl
  have k1_4 : ri_lk (ri_st1 lo 4 (.int (l + 1))) 4 = some (.int (l + 1)) := eh_self
  have k1_0 : ri_lk (ri_st1 lo 4 (.int (l + 1))) 0 = some (.ref 0) := eh_keep (by decide) (Or.inl rfl) l0
  have k1_1 : ri_lk (ri_st1 lo 4 (.int (l + 1))) 1 = some (.int k) := eh_keep (by decide) (Or.inl rfl) l1
  have k1_2 : ri_lk (ri_st1 lo 4 (.int (l + 1))) 2 = some (.int 1) := eh_keep (by decide) (Or.inl rfl) l2
  have k1_3 : ri_lk (ri_st1 lo 4 (.int (l + 1))) 3 = some (.int n) := eh_keep (by decide) (Or.inl rfl) l3
  have k1_5 : ri_lk (ri_st1 lo 4 (.int (l + 1))) 5 = some (.int m) := eh_keep (by decide) (Or.inl rfl) l5
  have E := E.pu (p := 12) (lo' := (ri_st1 lo 4 (.int (l + 1)))) (st' := []) rfl (e := (.goto (-69), 3, [12], .null)) rfl rfl (fun _ _ => rfl)
  exact ⟨_, _, E, hV, rfl, ty, k1_0, k1_1, k1_2, k1_3, k1_4, k1_5⟩
theorem pn_z {cal : eh_K} {lo : List (Nat × Value)} {h h' : ri_H} {rs : List Value} {G : eh_W} {k n l : Int32} (E : eh_e cal md_227 84 lo [] h rs h') (hV : eh_V h = G) (ty : eh_ty tM G) (l0 : ri_lk lo 0 = some (.ref 0)) (l1 : ri_lk lo 1 = some (.int k)) (l2 : ri_lk lo 2 = some (.int 1)) (l3 : ri_lk lo 3 = some (.int n)) (l4 : ri_lk lo 4 = some (.int l)) : (¬ (k = (-1)) ∧ rs = [.int (-1)] ∧ eh_V h' = G ∧ eh_N h' = eh_N h) ∨ (k = (-1) ∧ rs = [.int n] ∧ eh_V h' = G ∧ eh_N h' = eh_N h) := by
  have E := E.ld (p := 85) (t := ri_isI) (i := 1) (n := 1) (v := .int k) rfl (e := (.iload_n 1, 1, [], .null)) rfl rfl (fun _ _ => rfl) l1 rfl
  have E := E.pu (p := 86) (lo' := lo) (st' := [.int (-1), .int k]) rfl (e := (.iconst (-1), 1, [], .null)) rfl rfl (fun _ _ => rfl)
  rcases eh_q1 (E.br (p := 89) (c := 1) (tgt := 93) (a := k) (b := (-1)) (st' := []) rfl (e := (.if_icmp .ne 7, 3, [93], .null)) rfl rfl (fun _ _ => rfl) rfl) with ⟨c1, E⟩ | ⟨c1, E⟩
  · skip
    have E := E.pu (p := 94) (lo' := lo) (st' := [.int (-1)]) rfl (e := (.iconst (-1), 1, [], .null)) rfl rfl (fun _ _ => rfl)
    obtain ⟨r1, r2⟩ := E.reti rfl (m := 1) (ax := []) (w := .null) rfl
    exact Or.inl ⟨c1, r1, ((congrArg eh_V r2).trans hV), (congrArg eh_N r2)⟩
  · skip
    have E := E.ld (p := 90) (t := ri_isI) (i := 3) (n := 1) (v := .int n) rfl (e := (.iload_n 3, 1, [], .null)) rfl rfl (fun _ _ => rfl) l3 rfl
    have E := E.pu (p := 94) (lo' := lo) (st' := [.int n]) rfl (e := (.goto 4, 3, [94], .null)) rfl rfl (fun _ _ => rfl)
    obtain ⟨r1, r2⟩ := E.reti rfl (m := 1) (ax := []) (w := .null) rfl
    exact Or.inr (⟨c1, r1, ((congrArg eh_V r2).trans hV), (congrArg eh_N r2)⟩)
theorem si_c {d : Nat} {h h' : ri_H} {v : Option Value} {G : eh_W} {k : Int32} (E : ri_calE ri_md (d + 1) 129 [.ref 0, .int k] h = some (v, h')) (hV : eh_V h = G) (ty : eh_ty tC G) : ∃ h1, eh_V h1 = G ∧ eh_N h1 = eh_N h ∧ eh_ty tC G ∧ ri_calE ri_md (d) 130 [.ref 0, .int k, .int 1] h1 = some (v, h') := by
  obtain ⟨rs, hrs, E⟩ := eh_in E (q := md_129) rfl
  have E := E.ld (p := 1) (t := ri_isA) (i := 0) (n := 1) (v := .ref 0) rfl (e := (.aload_n 0, 1, [], .null)) rfl rfl (fun _ _ => rfl) rfl rfl
  have E := E.ld (p := 2) (t := ri_isI) (i := 1) (n := 1) (v := .int k) rfl (e := (.iload_n 1, 1, [], .null)) rfl rfl (fun _ _ => rfl) rfl rfl
  have E := E.pu (p := 3) (lo' := (ri_as 0 [.ref 0, .int k])) (st' := [.int 1, .int k, .ref 0]) rfl (e := (.iconst 1, 1, [], .null)) rfl rfl (fun _ _ => rfl)
  obtain ⟨v1, h1, X, E⟩ := E.cv (p := 6) (as := [.int k, .int 1]) (b := 0) (r := []) rfl (x := 309) (m := 3) (w := .null) (j := 130) (n := 2) (t := 11) (u := [998, 20, 1000]) rfl rfl rfl
  obtain ⟨r1, r2⟩ := E.rett rfl (m := 1) (ax := []) (w := .null) rfl
  have r3 : v1 = v := r1.symm.trans hrs
  subst r3
  subst r2
  exact ⟨_, hV, rfl, ty, X⟩
theorem si_m {d : Nat} {h h' : ri_H} {v : Option Value} {G : eh_W} {k : Int32} (E : ri_calE ri_md (d + 1) 229 [.ref 0, .int k] h = some (v, h')) (hV : eh_V h = G) (ty : eh_ty tM G) : ∃ h1, eh_V h1 = eh_u G 0 0 (.int 0) ∧ eh_N h1 = eh_N h ∧ eh_ty tM (eh_u G 0 0 (.int 0)) ∧ ri_calE ri_md (d) 227 [.ref 0, .int k, .int 1] h1 = some (v, h') := by
  obtain ⟨rs, hrs, E⟩ := eh_in E (q := md_229) rfl
  have E := E.ld (p := 1) (t := ri_isA) (i := 0) (n := 1) (v := .ref 0) rfl (e := (.aload_n 0, 1, [], .null)) rfl rfl (fun _ _ => rfl) rfl rfl
  have E := E.pu (p := 2) (lo' := (ri_as 0 [.ref 0, .int k])) (st' := [.int 0, .ref 0]) rfl (e := (.iconst 0, 1, [], .null)) rfl rfl (fun _ _ => rfl)
  obtain ⟨h1, hV2, hN3, E⟩ := E.gp (p := 5) rfl (x := 1) (m := 3) (w := .null) (t := 12) (i := 0) (u := 1324) (y := 0) rfl rfl hV
  have E := E.ld (p := 6) (t := ri_isA) (i := 0) (n := 1) (v := .ref 0) rfl (e := (.aload_n 0, 1, [], .null)) rfl rfl (fun _ _ => rfl) rfl rfl
  have E := E.ld (p := 7) (t := ri_isI) (i := 1) (n := 1) (v := .int k) rfl (e := (.iload_n 1, 1, [], .null)) rfl rfl (fun _ _ => rfl) rfl rfl
  have E := E.pu (p := 8) (lo' := (ri_as 0 [.ref 0, .int k])) (st' := [.int 1, .int k, .ref 0]) rfl (e := (.iconst 1, 1, [], .null)) rfl rfl (fun _ _ => rfl)
  obtain ⟨v1, h4, X, E⟩ := E.cv (p := 11) (as := [.int k, .int 1]) (b := 0) (r := []) rfl (x := 364) (m := 3) (w := .null) (j := 227) (n := 2) (t := 12) (u := [1769, 82, 1771]) rfl rfl rfl
  obtain ⟨r1, r2⟩ := E.rett rfl (m := 1) (ax := []) (w := .null) rfl
  have r3 : v1 = v := r1.symm.trans hrs
  subst r3
  subst r2
  exact ⟨_, hV2, hN3, (ty.ui rfl), X⟩
