theorem zs_99 {d : Nat} {h h' : ri_H} {v : Option Value} {G : eh_W} {b : Nat → Int32} {n m : Nat} {ke : Int32} (E : ri_calE ri_md (d + 4) 99 [.ref 17, .int ke] h = some (v, h')) (hV : eh_V h = G) (iv : iS b n m G) : (¬ ((eh_i G 2 5) = 5) ∧ v = some (.int 0) ∧ eh_V h' = eh_u (eh_u G 2 9 (.int 1)) 2 10 (.int (eh_i G 2 6)) ∧ eh_N h' = eh_N h ∧ iS b n m (eh_u (eh_u G 2 9 (.int 1)) 2 10 (.int (eh_i G 2 6)))) ∨ ((eh_i G 2 5) = 5 ∧ (eh_i G 2 7).toInt < 60 ∧ v = some (.int 0) ∧ eh_V h' = eh_u (eh_u G 2 9 (.int 1)) 2 10 (.int (eh_i G 2 6)) ∧ eh_N h' = eh_N h ∧ iS b n m (eh_u (eh_u G 2 9 (.int 1)) 2 10 (.int (eh_i G 2 6)))) ∨ (∃ (h11 : ri_H), ∃ (x15 : Int32), ∃ (h13 : ri_H), ∃ (h18 : ri_H), (eh_i G 2 5) = 5 ∧ ¬ ((eh_i G 2 7).toInt < 60) ∧ ¬ (62 < (eh_i G 2 7).toInt) ∧ ri_calE ri_md (d + 3) 74 [.ref 2] h = some (none, h11) ∧ iS b n m (eh_V h11) ∧ ri_calE ri_md (d + 3) 83 [.ref 2, .int 0, .int 999] h11 = some (some (.int x15), h13) ∧ iS b n m (eh_V h13) ∧ ¬ (x15 = (-1)) ∧ ri_calE ri_md (d + 3) 88 [.ref 18, .int ke, .int (eh_i G 2 7), .int x15] h13 = some (none, h18) ∧ iS b n m (eh_V h18) ∧ v = some (.int 1) ∧ eh_V h' = (eh_V h18) ∧ eh_N h' = eh_N h ∧ iS b n m (eh_V h18)) ∨ (∃ (h11 : ri_H), ∃ (x15 : Int32), ∃ (h13 : ri_H), (eh_i G 2 5) = 5 ∧ ¬ ((eh_i G 2 7).toInt < 60) ∧ ¬ (62 < (eh_i G 2 7).toInt) ∧ ri_calE ri_md (d + 3) 74 [.ref 2] h = some (none, h11) ∧ iS b n m (eh_V h11) ∧ ri_calE ri_md (d + 3) 83 [.ref 2, .int 0, .int 999] h11 = some (some (.int x15), h13) ∧ iS b n m (eh_V h13) ∧ x15 = (-1) ∧ v = some (.int 0) ∧ eh_V h' = (eh_V h13) ∧ eh_N h' = eh_N h ∧ iS b n m (eh_V h13)) ∨ ((eh_i G 2 5) = 5 ∧ ¬ ((eh_i G 2 7).toInt < 60) ∧ 62 < (eh_i G 2 7).toInt ∧ v = some (.int 0) ∧ eh_V h' = eh_u (eh_u G 2 9 (.int 1)) 2 10 (.int (eh_i G 2 6)) ∧ eh_N h' = eh_N h ∧ iS b n m (eh_u (eh_u G 2 9 (.int 1)) 2 10 (.int (eh_i G 2 6)))) := by
  obtain ⟨rs, hrs, E⟩ := eh_in E (q := md_99) rfl
  have E := E.ld (p := 1) (t := ri_isA) (i := 0) (n := 1) (v := .ref 17) rfl (e := (.aload_n 0, 1, [], .null)) rfl rfl (fun _ _ => rfl) rfl rfl
  have E := E.gr (n := 2) (p := 4) rfl (x := 18) (m := 3) (w := .null) (t := 10) (i := 0) (u := 366) rfl rfl hV (iv.1) rfl
  have E := E.gi (y := eh_i G 2 7) (p := 7) rfl (x := 55) (m := 3) (w := .null) (t := 8) (i := 7) (u := 200) rfl rfl hV (iv.1) rfl rfl
  have E := E.so (p := 8) (t := ri_isI) (i := 2) (n := 1) rfl (e := (.istore_n 2, 1, [], .null)) rfl rfl (fun _ _ => rfl) rfl
  have k1_2 : ri_lk (ri_st1 (ri_as 0 [.ref 17, .int ke]) 2 (.int (eh_i G 2 7))) 2 = some (.int (eh_i G 2 7)) := eh_self
  have k1_0 : ri_lk (ri_st1 (ri_as 0 [.ref 17, .int ke]) 2 (.int (eh_i G 2 7))) 0 = some (.ref 17) := eh_keep (by decide) (Or.inl rfl) rfl
  have k1_1 : ri_lk (ri_st1 (ri_as 0 [.ref 17, .int ke]) 2 (.int (eh_i G 2 7))) 1 = some (.int ke) := eh_keep (by decide) (Or.inl rfl) rfl
  have E := E.ld (p := 9) (t := ri_isA) (i := 0) (n := 1) (v := .ref 17) rfl (e := (.aload_n 0, 1, [], .null)) rfl rfl (fun _ _ => rfl) k1_0 rfl
  have E := E.gr (n := 2) (p := 12) rfl (x := 18) (m := 3) (w := .null) (t := 10) (i := 0) (u := 366) rfl rfl hV (iv.1) rfl
  have E := E.gi (y := eh_i G 2 5) (p := 15) rfl (x := 29) (m := 3) (w := .null) (t := 8) (i := 5) (u := 194) rfl rfl hV (iv.1) rfl rfl
  have E := E.pu (p := 16) (lo' := (ri_st1 (ri_as 0 [.ref 17, .int ke]) 2 (.int (eh_i G 2 7)))) (st' := [.int 5, .int (eh_i G 2 5)]) rfl (e := (.iconst 5, 1, [], .null)) rfl rfl (fun _ _ => rfl)
  rcases eh_q1 (E.br (p := 19) (c := 1) (tgt := 31) (a := eh_i G 2 5) (b := 5) (st' := []) rfl (e := (.if_icmp .ne 15, 3, [31], .null)) rfl rfl (fun _ _ => rfl) rfl) with ⟨c2, E⟩ | ⟨c2, E⟩
  · skip
    have E := E.ld (p := 32) (t := ri_isA) (i := 0) (n := 1) (v := .ref 17) rfl (e := (.aload_n 0, 1, [], .null)) rfl rfl (fun _ _ => rfl) k1_0 rfl
    have E := E.gr (n := 2) (p := 35) rfl (x := 18) (m := 3) (w := .null) (t := 10) (i := 0) (u := 366) rfl rfl hV (iv.1) rfl
    have E := E.pu (p := 36) (lo' := (ri_st1 (ri_as 0 [.ref 17, .int ke]) 2 (.int (eh_i G 2 7)))) (st' := [.int 1, .ref 2]) rfl (e := (.iconst 1, 1, [], .null)) rfl rfl (fun _ _ => rfl)
    obtain ⟨v1, h3, X, E⟩ := E.cv (p := 39) (as := [.int 1]) (b := 2) (r := []) rfl (x := 35) (m := 3) (w := .null) (j := 78) (n := 1) (t := 8) (u := [1143, 678, 677]) rfl rfl rfl
    rcases sp_78 (d := d + 2) X hV (iv.1) with ⟨rfl, hV4, hN5⟩
    have hV4 : _ = eh_u (eh_u G 2 9 (.int 1)) 2 10 (.int (eh_i G 2 6)) := hV4
    have E : eh_e _ _ 39 (ri_st1 (ri_as 0 [.ref 17, .int ke]) 2 (.int (eh_i G 2 7))) [.int 0] _ rs h' := E
    obtain ⟨r1, r2⟩ := E.reti rfl (m := 1) (ax := []) (w := .null) rfl
    exact Or.inl ⟨c2, (by rw [← hrs, r1]; rfl), ((congrArg eh_V r2).trans hV4), ((congrArg eh_N r2).trans hN5), (iS_u (iS_u iv ((iv.1).ui rfl) rfl) (((iv.1).ui rfl).ui rfl) rfl)⟩
  · skip
    have E := E.ld (p := 20) (t := ri_isI) (i := 2) (n := 1) (v := .int (eh_i G 2 7)) rfl (e := (.iload_n 2, 1, [], .null)) rfl rfl (fun _ _ => rfl) k1_2 rfl
    have E := E.pu (p := 22) (lo' := (ri_st1 (ri_as 0 [.ref 17, .int ke]) 2 (.int (eh_i G 2 7)))) (st' := [.int 60, .int (eh_i G 2 7)]) rfl (e := (.bipush 60, 2, [], .null)) rfl rfl (fun _ _ => rfl)
    rcases eh_r2 rfl (show (60 : Int32).toInt = 60 by decide) (E.br (p := 25) (c := 2) (tgt := 31) (a := eh_i G 2 7) (b := 60) (st' := []) rfl (e := (.if_icmp .lt 9, 3, [31], .null)) rfl rfl (fun _ _ => rfl) rfl) with ⟨c6, E⟩ | ⟨c6, E⟩
    · skip
      have E := E.ld (p := 32) (t := ri_isA) (i := 0) (n := 1) (v := .ref 17) rfl (e := (.aload_n 0, 1, [], .null)) rfl rfl (fun _ _ => rfl) k1_0 rfl
      have E := E.gr (n := 2) (p := 35) rfl (x := 18) (m := 3) (w := .null) (t := 10) (i := 0) (u := 366) rfl rfl hV (iv.1) rfl
      have E := E.pu (p := 36) (lo' := (ri_st1 (ri_as 0 [.ref 17, .int ke]) 2 (.int (eh_i G 2 7)))) (st' := [.int 1, .ref 2]) rfl (e := (.iconst 1, 1, [], .null)) rfl rfl (fun _ _ => rfl)
      obtain ⟨v1, h7, X, E⟩ := E.cv (p := 39) (as := [.int 1]) (b := 2) (r := []) rfl (x := 35) (m := 3) (w := .null) (j := 78) (n := 1) (t := 8) (u := [1143, 678, 677]) rfl rfl rfl
      rcases sp_78 (d := d + 2) X hV (iv.1) with ⟨rfl, hV8, hN9⟩
      have hV8 : _ = eh_u (eh_u G 2 9 (.int 1)) 2 10 (.int (eh_i G 2 6)) := hV8
      have E : eh_e _ _ 39 (ri_st1 (ri_as 0 [.ref 17, .int ke]) 2 (.int (eh_i G 2 7))) [.int 0] _ rs h' := E
      obtain ⟨r1, r2⟩ := E.reti rfl (m := 1) (ax := []) (w := .null) rfl
      exact Or.inr (Or.inl ⟨c2, c6, (by rw [← hrs, r1]; rfl), ((congrArg eh_V r2).trans hV8), ((congrArg eh_N r2).trans hN9), (iS_u (iS_u iv ((iv.1).ui rfl) rfl) (((iv.1).ui rfl).ui rfl) rfl)⟩)
    · skip
      have E := E.ld (p := 26) (t := ri_isI) (i := 2) (n := 1) (v := .int (eh_i G 2 7)) rfl (e := (.iload_n 2, 1, [], .null)) rfl rfl (fun _ _ => rfl) k1_2 rfl
      have E := E.pu (p := 28) (lo' := (ri_st1 (ri_as 0 [.ref 17, .int ke]) 2 (.int (eh_i G 2 7)))) (st' := [.int 62, .int (eh_i G 2 7)]) rfl (e := (.bipush 62, 2, [], .null)) rfl rfl (fun _ _ => rfl)
      rcases eh_r5 rfl (show (62 : Int32).toInt = 62 by decide) (E.br (p := 31) (c := 5) (tgt := 40) (a := eh_i G 2 7) (b := 62) (st' := []) rfl (e := (.if_icmp .le 12, 3, [40], .null)) rfl rfl (fun _ _ => rfl) rfl) with ⟨c10, E⟩ | ⟨c10, E⟩
      · skip
        have E := E.ld (p := 41) (t := ri_isA) (i := 0) (n := 1) (v := .ref 17) rfl (e := (.aload_n 0, 1, [], .null)) rfl rfl (fun _ _ => rfl) k1_0 rfl
        have E := E.gr (n := 2) (p := 44) rfl (x := 18) (m := 3) (w := .null) (t := 10) (i := 0) (u := 366) rfl rfl hV (iv.1) rfl
        obtain ⟨v1, h11, X, E⟩ := E.cv (p := 47) (as := []) (b := 2) (r := []) rfl (x := 49) (m := 3) (w := .null) (j := 74) (n := 0) (t := 8) (u := [1144, 648, 647]) rfl rfl rfl
        obtain ⟨rfl, ivk12, hNk12⟩ := ts_74 (d := d + 1) X (by rw [hV]; exact iv)
        have Xk12 := X
        have E : eh_e _ _ 47 (ri_st1 (ri_as 0 [.ref 17, .int ke]) 2 (.int (eh_i G 2 7))) [] h11 rs h' := E
        have E := E.ld (p := 48) (t := ri_isA) (i := 0) (n := 1) (v := .ref 17) rfl (e := (.aload_n 0, 1, [], .null)) rfl rfl (fun _ _ => rfl) k1_0 rfl
        have E := E.gr (n := 2) (p := 51) rfl (x := 18) (m := 3) (w := .null) (t := 10) (i := 0) (u := 366) rfl rfl (rfl : eh_V h11 = eh_V h11) ivk12.1 rfl
        have E := E.pu (p := 52) (lo' := (ri_st1 (ri_as 0 [.ref 17, .int ke]) 2 (.int (eh_i G 2 7)))) (st' := [.int 0, .ref 2]) rfl (e := (.iconst 0, 1, [], .null)) rfl rfl (fun _ _ => rfl)
        have E := E.pu (p := 55) (lo' := (ri_st1 (ri_as 0 [.ref 17, .int ke]) 2 (.int (eh_i G 2 7)))) (st' := [.int 999, .int 0, .ref 2]) rfl (e := (.sipush 999, 3, [], .null)) rfl rfl (fun _ _ => rfl)
        obtain ⟨v1, h13, X, E⟩ := E.cv (p := 58) (as := [.int 0, .int 999]) (b := 2) (r := []) rfl (x := 74) (m := 3) (w := .null) (j := 83) (n := 2) (t := 8) (u := [1154, 708, 707]) rfl rfl rfl
        obtain ⟨x15, rfl, ivk14, hNk14⟩ := ts_83 (d := d) X (by rw [(rfl : eh_V h11 = eh_V h11)]; exact ivk12)
        have Xk14 := X
        have E : eh_e _ _ 58 (ri_st1 (ri_as 0 [.ref 17, .int ke]) 2 (.int (eh_i G 2 7))) [.int x15] h13 rs h' := E
        have E := E.so (p := 59) (t := ri_isI) (i := 3) (n := 1) rfl (e := (.istore_n 3, 1, [], .null)) rfl rfl (fun _ _ => rfl) rfl
        have k16_3 : ri_lk (ri_st1 (ri_st1 (ri_as 0 [.ref 17, .int ke]) 2 (.int (eh_i G 2 7))) 3 (.int x15)) 3 = some (.int x15) := eh_self
        have k16_0 : ri_lk (ri_st1 (ri_st1 (ri_as 0 [.ref 17, .int ke]) 2 (.int (eh_i G 2 7))) 3 (.int x15)) 0 = some (.ref 17) := eh_keep (by decide) (Or.inl rfl) k1_0
        have k16_1 : ri_lk (ri_st1 (ri_st1 (ri_as 0 [.ref 17, .int ke]) 2 (.int (eh_i G 2 7))) 3 (.int x15)) 1 = some (.int ke) := eh_keep (by decide) (Or.inl rfl) k1_1
        have k16_2 : ri_lk (ri_st1 (ri_st1 (ri_as 0 [.ref 17, .int ke]) 2 (.int (eh_i G 2 7))) 3 (.int x15)) 2 = some (.int (eh_i G 2 7)) := eh_keep (by decide) (Or.inl rfl) k1_2
        have E := E.ld (p := 60) (t := ri_isI) (i := 3) (n := 1) (v := .int x15) rfl (e := (.iload_n 3, 1, [], .null)) rfl rfl (fun _ _ => rfl) k16_3 rfl
        have E := E.pu (p := 61) (lo' := (ri_st1 (ri_st1 (ri_as 0 [.ref 17, .int ke]) 2 (.int (eh_i G 2 7))) 3 (.int x15))) (st' := [.int (-1), .int x15]) rfl (e := (.iconst (-1), 1, [], .null)) rfl rfl (fun _ _ => rfl)
        rcases eh_q1 (E.br (p := 64) (c := 1) (tgt := 66) (a := x15) (b := (-1)) (st' := []) rfl (e := (.if_icmp .ne 5, 3, [66], .null)) rfl rfl (fun _ _ => rfl) rfl) with ⟨c17, E⟩ | ⟨c17, E⟩
        · skip
          have E := E.ld (p := 67) (t := ri_isA) (i := 0) (n := 1) (v := .ref 17) rfl (e := (.aload_n 0, 1, [], .null)) rfl rfl (fun _ _ => rfl) k16_0 rfl
          have E := E.gr (n := 18) (p := 70) rfl (x := 12) (m := 3) (w := .null) (t := 10) (i := 1) (u := 367) rfl rfl (rfl : eh_V h13 = eh_V h13) ivk14.1 rfl
          have E := E.ld (p := 71) (t := ri_isI) (i := 1) (n := 1) (v := .int ke) rfl (e := (.iload_n 1, 1, [], .null)) rfl rfl (fun _ _ => rfl) k16_1 rfl
          have E := E.ld (p := 72) (t := ri_isI) (i := 2) (n := 1) (v := .int (eh_i G 2 7)) rfl (e := (.iload_n 2, 1, [], .null)) rfl rfl (fun _ _ => rfl) k16_2 rfl
          have E := E.ld (p := 73) (t := ri_isI) (i := 3) (n := 1) (v := .int x15) rfl (e := (.iload_n 3, 1, [], .null)) rfl rfl (fun _ _ => rfl) k16_3 rfl
          obtain ⟨v1, h18, X, E⟩ := E.cv (p := 76) (as := [.int ke, .int (eh_i G 2 7), .int x15]) (b := 18) (r := []) rfl (x := 45) (m := 3) (w := .null) (j := 88) (n := 3) (t := 9) (u := [1146, 1148, 1147]) rfl rfl rfl
          obtain ⟨rfl, ivk19, hNk19⟩ := ts_88 (d := d + 2) X (by rw [(rfl : eh_V h13 = eh_V h13)]; exact ivk14)
          have Xk19 := X
          have E : eh_e _ _ 76 (ri_st1 (ri_st1 (ri_as 0 [.ref 17, .int ke]) 2 (.int (eh_i G 2 7))) 3 (.int x15)) [] h18 rs h' := E
          have E := E.pu (p := 77) (lo' := (ri_st1 (ri_st1 (ri_as 0 [.ref 17, .int ke]) 2 (.int (eh_i G 2 7))) 3 (.int x15))) (st' := [.int 1]) rfl (e := (.iconst 1, 1, [], .null)) rfl rfl (fun _ _ => rfl)
          obtain ⟨r1, r2⟩ := E.reti rfl (m := 1) (ax := []) (w := .null) rfl
          exact Or.inr (Or.inr (Or.inl ⟨h11, x15, h13, h18, c2, c6, c10, Xk12, ivk12, Xk14, ivk14, c17, Xk19, ivk19, (by rw [← hrs, r1]; rfl), ((congrArg eh_V r2).trans (rfl : eh_V h18 = eh_V h18)), ((congrArg eh_N r2).trans (hNk19.trans (hNk14.trans hNk12))), ivk19⟩))
        · skip
          have E := E.pu (p := 65) (lo' := (ri_st1 (ri_st1 (ri_as 0 [.ref 17, .int ke]) 2 (.int (eh_i G 2 7))) 3 (.int x15))) (st' := [.int 0]) rfl (e := (.iconst 0, 1, [], .null)) rfl rfl (fun _ _ => rfl)
          obtain ⟨r1, r2⟩ := E.reti rfl (m := 1) (ax := []) (w := .null) rfl
          exact Or.inr (Or.inr (Or.inr (Or.inl ⟨h11, x15, h13, c2, c6, c10, Xk12, ivk12, Xk14, ivk14, c17, (by rw [← hrs, r1]; rfl), ((congrArg eh_V r2).trans (rfl : eh_V h13 = eh_V h13)), ((congrArg eh_N r2).trans (hNk14.trans hNk12)), ivk14⟩)))
      · skip
        have E := E.ld (p := 32) (t := ri_isA) (i := 0) (n := 1) (v := .ref 17) rfl (e := (.aload_n 0, 1, [], .null)) rfl rfl (fun _ _ => rfl) k1_0 rfl
        have E := E.gr (n := 2) (p := 35) rfl (x := 18) (m := 3) (w := .null) (t := 10) (i := 0) (u := 366) rfl rfl hV (iv.1) rfl
        have E := E.pu (p := 36) (lo' := (ri_st1 (ri_as 0 [.ref 17, .int ke]) 2 (.int (eh_i G 2 7)))) (st' := [.int 1, .ref 2]) rfl (e := (.iconst 1, 1, [], .null)) rfl rfl (fun _ _ => rfl)
        obtain ⟨v1, h20, X, E⟩ := E.cv (p := 39) (as := [.int 1]) (b := 2) (r := []) rfl (x := 35) (m := 3) (w := .null) (j := 78) (n := 1) (t := 8) (u := [1143, 678, 677]) rfl rfl rfl
        rcases sp_78 (d := d + 2) X hV (iv.1) with ⟨rfl, hV21, hN22⟩
        have hV21 : _ = eh_u (eh_u G 2 9 (.int 1)) 2 10 (.int (eh_i G 2 6)) := hV21
        have E : eh_e _ _ 39 (ri_st1 (ri_as 0 [.ref 17, .int ke]) 2 (.int (eh_i G 2 7))) [.int 0] _ rs h' := E
        obtain ⟨r1, r2⟩ := E.reti rfl (m := 1) (ax := []) (w := .null) rfl
        exact Or.inr (Or.inr (Or.inr (Or.inr (⟨c2, c6, c10, (by rw [← hrs, r1]; rfl), ((congrArg eh_V r2).trans hV21), ((congrArg eh_N r2).trans hN22), (iS_u (iS_u iv ((iv.1).ui rfl) rfl) (((iv.1).ui rfl).ui rfl) rfl)⟩))))
theorem ts_99 {d : Nat} {h h' : ri_H} {v : Option Value} {b : Nat → Int32} {n m : Nat} {ke : Int32} (E : ri_calE ri_md (d + 4) 99 [.ref 17, .int ke] h = some (v, h')) (iv : iS b n m (eh_V h)) : ∃ x : Int32, v = some (.int x) ∧ iS b n m (eh_V h') ∧ eh_N h' = eh_N h := by
  rcases zs_99 E rfl iv with ⟨_, r1, r2, r3, r4⟩ | ⟨_, _, r1, r2, r3, r4⟩ | ⟨_, _, _, _, _, _, _, _, _, _, _, _, _, _, r1, r2, r3, r4⟩ | ⟨_, _, _, _, _, _, _, _, _, _, _, r1, r2, r3, r4⟩ | ⟨_, _, _, r1, r2, r3, r4⟩
  · exact ⟨_, r1, by rw [r2]; exact r4, r3⟩
  · exact ⟨_, r1, by rw [r2]; exact r4, r3⟩
  · exact ⟨_, r1, by rw [r2]; exact r4, r3⟩
  · exact ⟨_, r1, by rw [r2]; exact r4, r3⟩
  · exact ⟨_, r1, by rw [r2]; exact r4, r3⟩
theorem zs_98 {d : Nat} {h h' : ri_H} {v : Option Value} {G : eh_W} {b : Nat → Int32} {n m : Nat} {ke : Int32} (E : ri_calE ri_md (d + 4) 98 [.ref 17, .ref 23, .int ke] h = some (v, h')) (hV : eh_V h = G) (iv : iS b n m G) : (∃ (x5 : Int32), ∃ (h3 : ri_H), ∃ (h8 : ri_H), ke = 18 ∧ ri_calE ri_md (d + 3) 84 [.ref 2, .ref 23, .int 0] h = some (some (.int x5), h3) ∧ iS b n m (eh_V h3) ∧ ¬ (x5 = (-1)) ∧ ri_calE ri_md (d + 3) 88 [.ref 18, .int ke, .int (-1), .int x5] h3 = some (none, h8) ∧ iS b n m (eh_V h8) ∧ v = some (.int 1) ∧ eh_V h' = (eh_V h8) ∧ eh_N h' = eh_N h ∧ iS b n m (eh_V h8)) ∨ (∃ (x5 : Int32), ∃ (h3 : ri_H), ke = 18 ∧ ri_calE ri_md (d + 3) 84 [.ref 2, .ref 23, .int 0] h = some (some (.int x5), h3) ∧ iS b n m (eh_V h3) ∧ x5 = (-1) ∧ v = some (.int 0) ∧ eh_V h' = (eh_V h3) ∧ eh_N h' = eh_N h ∧ iS b n m (eh_V h3)) ∨ (∃ (h11 : ri_H), ¬ (ke = 18) ∧ ¬ (ke = 19) ∧ ri_calE ri_md (d + 3) 88 [.ref 18, .int ke, .int (-1), .int (-1)] h = some (none, h11) ∧ iS b n m (eh_V h11) ∧ v = some (.int 1) ∧ eh_V h' = (eh_V h11) ∧ eh_N h' = eh_N h ∧ iS b n m (eh_V h11)) ∨ (∃ (x15 : Int32), ∃ (h13 : ri_H), ∃ (h18 : ri_H), ¬ (ke = 18) ∧ ke = 19 ∧ ri_calE ri_md (d + 3) 84 [.ref 2, .ref 23, .int 2] h = some (some (.int x15), h13) ∧ iS b n m (eh_V h13) ∧ ¬ (x15 = (-1)) ∧ ri_calE ri_md (d + 3) 88 [.ref 18, .int ke, .int (-1), .int x15] h13 = some (none, h18) ∧ iS b n m (eh_V h18) ∧ v = some (.int 1) ∧ eh_V h' = (eh_V h18) ∧ eh_N h' = eh_N h ∧ iS b n m (eh_V h18)) ∨ (∃ (x15 : Int32), ∃ (h13 : ri_H), ¬ (ke = 18) ∧ ke = 19 ∧ ri_calE ri_md (d + 3) 84 [.ref 2, .ref 23, .int 2] h = some (some (.int x15), h13) ∧ iS b n m (eh_V h13) ∧ x15 = (-1) ∧ v = some (.int 0) ∧ eh_V h' = (eh_V h13) ∧ eh_N h' = eh_N h ∧ iS b n m (eh_V h13)) := by
  obtain ⟨rs, hrs, E⟩ := eh_in E (q := md_98) rfl
  have E := E.pu (p := 1) (lo' := (ri_as 0 [.ref 17, .ref 23, .int ke])) (st' := [.int (-1)]) rfl (e := (.iconst (-1), 1, [], .null)) rfl rfl (fun _ _ => rfl)
  have E := E.so (p := 2) (t := ri_isI) (i := 3) (n := 1) rfl (e := (.istore_n 3, 1, [], .null)) rfl rfl (fun _ _ => rfl) rfl
  have k1_3 : ri_lk (ri_st1 (ri_as 0 [.ref 17, .ref 23, .int ke]) 3 (.int (-1))) 3 = some (.int (-1)) := eh_self
  have k1_0 : ri_lk (ri_st1 (ri_as 0 [.ref 17, .ref 23, .int ke]) 3 (.int (-1))) 0 = some (.ref 17) := eh_keep (by decide) (Or.inl rfl) rfl
  have k1_1 : ri_lk (ri_st1 (ri_as 0 [.ref 17, .ref 23, .int ke]) 3 (.int (-1))) 1 = some (.ref 23) := eh_keep (by decide) (Or.inl rfl) rfl
  have k1_2 : ri_lk (ri_st1 (ri_as 0 [.ref 17, .ref 23, .int ke]) 3 (.int (-1))) 2 = some (.int ke) := eh_keep (by decide) (Or.inl rfl) rfl
  have E := E.ld (p := 3) (t := ri_isI) (i := 2) (n := 1) (v := .int ke) rfl (e := (.iload_n 2, 1, [], .null)) rfl rfl (fun _ _ => rfl) k1_2 rfl
  have E := E.pu (p := 5) (lo' := (ri_st1 (ri_as 0 [.ref 17, .ref 23, .int ke]) 3 (.int (-1)))) (st' := [.int 18, .int ke]) rfl (e := (.bipush 18, 2, [], .null)) rfl rfl (fun _ _ => rfl)
  rcases eh_q0 (E.br (p := 8) (c := 0) (tgt := 14) (a := ke) (b := 18) (st' := []) rfl (e := (.if_icmp .eq 9, 3, [14], .null)) rfl rfl (fun _ _ => rfl) rfl) with ⟨c2, E⟩ | ⟨c2, E⟩
  · skip
    have E := E.ld (p := 15) (t := ri_isA) (i := 0) (n := 1) (v := .ref 17) rfl (e := (.aload_n 0, 1, [], .null)) rfl rfl (fun _ _ => rfl) k1_0 rfl
    have E := E.gr (n := 2) (p := 18) rfl (x := 18) (m := 3) (w := .null) (t := 10) (i := 0) (u := 366) rfl rfl hV (iv.1) rfl
    have E := E.ld (p := 19) (t := ri_isA) (i := 1) (n := 1) (v := .ref 23) rfl (e := (.aload_n 1, 1, [], .null)) rfl rfl (fun _ _ => rfl) k1_1 rfl
    have E := E.ld (p := 20) (t := ri_isI) (i := 2) (n := 1) (v := .int ke) rfl (e := (.iload_n 2, 1, [], .null)) rfl rfl (fun _ _ => rfl) k1_2 rfl
    have E := E.pu (p := 22) (lo' := (ri_st1 (ri_as 0 [.ref 17, .ref 23, .int ke]) 3 (.int (-1)))) (st' := [.int 18, .int ke, .ref 23, .ref 2]) rfl (e := (.bipush 18, 2, [], .null)) rfl rfl (fun _ _ => rfl)
    have E := (eh_q1 (E.br (p := 25) (c := 1) (tgt := 29) (a := ke) (b := 18) (st' := [.ref 23, .ref 2]) rfl (e := (.if_icmp .ne 7, 3, [29], .null)) rfl rfl (fun _ _ => rfl) rfl)).elim (fun y => absurd c2 y.1) (fun y => y.2)
    have E := E.pu (p := 26) (lo' := (ri_st1 (ri_as 0 [.ref 17, .ref 23, .int ke]) 3 (.int (-1)))) (st' := [.int 0, .ref 23, .ref 2]) rfl (e := (.iconst 0, 1, [], .null)) rfl rfl (fun _ _ => rfl)
    have E := E.pu (p := 30) (lo' := (ri_st1 (ri_as 0 [.ref 17, .ref 23, .int ke]) 3 (.int (-1)))) (st' := [.int 0, .ref 23, .ref 2]) rfl (e := (.goto 4, 3, [30], .null)) rfl rfl (fun _ _ => rfl)
    obtain ⟨v1, h3, X, E⟩ := E.cv (p := 33) (as := [.ref 23, .int 0]) (b := 2) (r := []) rfl (x := 70) (m := 3) (w := .null) (j := 84) (n := 2) (t := 8) (u := [1159, 698, 697]) rfl rfl rfl
    obtain ⟨x5, rfl, ivk4, hNk4⟩ := ts_84 (d := d) X (by rw [hV]; exact iv)
    have Xk4 := X
    have E : eh_e _ _ 33 (ri_st1 (ri_as 0 [.ref 17, .ref 23, .int ke]) 3 (.int (-1))) [.int x5] h3 rs h' := E
    have E := E.so (p := 34) (t := ri_isI) (i := 3) (n := 1) rfl (e := (.istore_n 3, 1, [], .null)) rfl rfl (fun _ _ => rfl) rfl
    have k6_3 : ri_lk (ri_st1 (ri_st1 (ri_as 0 [.ref 17, .ref 23, .int ke]) 3 (.int (-1))) 3 (.int x5)) 3 = some (.int x5) := eh_self
    have k6_0 : ri_lk (ri_st1 (ri_st1 (ri_as 0 [.ref 17, .ref 23, .int ke]) 3 (.int (-1))) 3 (.int x5)) 0 = some (.ref 17) := eh_keep (by decide) (Or.inl rfl) k1_0
    have k6_1 : ri_lk (ri_st1 (ri_st1 (ri_as 0 [.ref 17, .ref 23, .int ke]) 3 (.int (-1))) 3 (.int x5)) 1 = some (.ref 23) := eh_keep (by decide) (Or.inl rfl) k1_1
    have k6_2 : ri_lk (ri_st1 (ri_st1 (ri_as 0 [.ref 17, .ref 23, .int ke]) 3 (.int (-1))) 3 (.int x5)) 2 = some (.int ke) := eh_keep (by decide) (Or.inl rfl) k1_2
    have E := E.ld (p := 35) (t := ri_isI) (i := 3) (n := 1) (v := .int x5) rfl (e := (.iload_n 3, 1, [], .null)) rfl rfl (fun _ _ => rfl) k6_3 rfl
    have E := E.pu (p := 36) (lo' := (ri_st1 (ri_st1 (ri_as 0 [.ref 17, .ref 23, .int ke]) 3 (.int (-1))) 3 (.int x5))) (st' := [.int (-1), .int x5]) rfl (e := (.iconst (-1), 1, [], .null)) rfl rfl (fun _ _ => rfl)
    rcases eh_q1 (E.br (p := 39) (c := 1) (tgt := 41) (a := x5) (b := (-1)) (st' := []) rfl (e := (.if_icmp .ne 5, 3, [41], .null)) rfl rfl (fun _ _ => rfl) rfl) with ⟨c7, E⟩ | ⟨c7, E⟩
    · skip
      have E := E.ld (p := 42) (t := ri_isA) (i := 0) (n := 1) (v := .ref 17) rfl (e := (.aload_n 0, 1, [], .null)) rfl rfl (fun _ _ => rfl) k6_0 rfl
      have E := E.gr (n := 18) (p := 45) rfl (x := 12) (m := 3) (w := .null) (t := 10) (i := 1) (u := 367) rfl rfl (rfl : eh_V h3 = eh_V h3) ivk4.1 rfl
      have E := E.ld (p := 46) (t := ri_isI) (i := 2) (n := 1) (v := .int ke) rfl (e := (.iload_n 2, 1, [], .null)) rfl rfl (fun _ _ => rfl) k6_2 rfl
      have E := E.pu (p := 47) (lo' := (ri_st1 (ri_st1 (ri_as 0 [.ref 17, .ref 23, .int ke]) 3 (.int (-1))) 3 (.int x5))) (st' := [.int (-1), .int ke, .ref 18]) rfl (e := (.iconst (-1), 1, [], .null)) rfl rfl (fun _ _ => rfl)
      have E := E.ld (p := 48) (t := ri_isI) (i := 3) (n := 1) (v := .int x5) rfl (e := (.iload_n 3, 1, [], .null)) rfl rfl (fun _ _ => rfl) k6_3 rfl
      obtain ⟨v1, h8, X, E⟩ := E.cv (p := 51) (as := [.int ke, .int (-1), .int x5]) (b := 18) (r := []) rfl (x := 45) (m := 3) (w := .null) (j := 88) (n := 3) (t := 9) (u := [1146, 1148, 1147]) rfl rfl rfl
      obtain ⟨rfl, ivk9, hNk9⟩ := ts_88 (d := d + 2) X (by rw [(rfl : eh_V h3 = eh_V h3)]; exact ivk4)
      have Xk9 := X
      have E : eh_e _ _ 51 (ri_st1 (ri_st1 (ri_as 0 [.ref 17, .ref 23, .int ke]) 3 (.int (-1))) 3 (.int x5)) [] h8 rs h' := E
      have E := E.pu (p := 52) (lo' := (ri_st1 (ri_st1 (ri_as 0 [.ref 17, .ref 23, .int ke]) 3 (.int (-1))) 3 (.int x5))) (st' := [.int 1]) rfl (e := (.iconst 1, 1, [], .null)) rfl rfl (fun _ _ => rfl)
      obtain ⟨r1, r2⟩ := E.reti rfl (m := 1) (ax := []) (w := .null) rfl
      exact Or.inl ⟨x5, h3, h8, c2, Xk4, ivk4, c7, Xk9, ivk9, (by rw [← hrs, r1]; rfl), ((congrArg eh_V r2).trans (rfl : eh_V h8 = eh_V h8)), ((congrArg eh_N r2).trans (hNk9.trans hNk4)), ivk9⟩
    · skip
      have E := E.pu (p := 40) (lo' := (ri_st1 (ri_st1 (ri_as 0 [.ref 17, .ref 23, .int ke]) 3 (.int (-1))) 3 (.int x5))) (st' := [.int 0]) rfl (e := (.iconst 0, 1, [], .null)) rfl rfl (fun _ _ => rfl)
      obtain ⟨r1, r2⟩ := E.reti rfl (m := 1) (ax := []) (w := .null) rfl
      exact Or.inr (Or.inl ⟨x5, h3, c2, Xk4, ivk4, c7, (by rw [← hrs, r1]; rfl), ((congrArg eh_V r2).trans (rfl : eh_V h3 = eh_V h3)), ((congrArg eh_N r2).trans hNk4), ivk4⟩)
  · skip
    have E := E.ld (p := 9) (t := ri_isI) (i := 2) (n := 1) (v := .int ke) rfl (e := (.iload_n 2, 1, [], .null)) rfl rfl (fun _ _ => rfl) k1_2 rfl
    have E := E.pu (p := 11) (lo' := (ri_st1 (ri_as 0 [.ref 17, .ref 23, .int ke]) 3 (.int (-1)))) (st' := [.int 19, .int ke]) rfl (e := (.bipush 19, 2, [], .null)) rfl rfl (fun _ _ => rfl)
    rcases eh_q1 (E.br (p := 14) (c := 1) (tgt := 41) (a := ke) (b := 19) (st' := []) rfl (e := (.if_icmp .ne 30, 3, [41], .null)) rfl rfl (fun _ _ => rfl) rfl) with ⟨c10, E⟩ | ⟨c10, E⟩
    · skip
      have E := E.ld (p := 42) (t := ri_isA) (i := 0) (n := 1) (v := .ref 17) rfl (e := (.aload_n 0, 1, [], .null)) rfl rfl (fun _ _ => rfl) k1_0 rfl
      have E := E.gr (n := 18) (p := 45) rfl (x := 12) (m := 3) (w := .null) (t := 10) (i := 1) (u := 367) rfl rfl hV (iv.1) rfl
      have E := E.ld (p := 46) (t := ri_isI) (i := 2) (n := 1) (v := .int ke) rfl (e := (.iload_n 2, 1, [], .null)) rfl rfl (fun _ _ => rfl) k1_2 rfl
      have E := E.pu (p := 47) (lo' := (ri_st1 (ri_as 0 [.ref 17, .ref 23, .int ke]) 3 (.int (-1)))) (st' := [.int (-1), .int ke, .ref 18]) rfl (e := (.iconst (-1), 1, [], .null)) rfl rfl (fun _ _ => rfl)
      have E := E.ld (p := 48) (t := ri_isI) (i := 3) (n := 1) (v := .int (-1)) rfl (e := (.iload_n 3, 1, [], .null)) rfl rfl (fun _ _ => rfl) k1_3 rfl
      obtain ⟨v1, h11, X, E⟩ := E.cv (p := 51) (as := [.int ke, .int (-1), .int (-1)]) (b := 18) (r := []) rfl (x := 45) (m := 3) (w := .null) (j := 88) (n := 3) (t := 9) (u := [1146, 1148, 1147]) rfl rfl rfl
      obtain ⟨rfl, ivk12, hNk12⟩ := ts_88 (d := d + 2) X (by rw [hV]; exact iv)
      have Xk12 := X
      have E : eh_e _ _ 51 (ri_st1 (ri_as 0 [.ref 17, .ref 23, .int ke]) 3 (.int (-1))) [] h11 rs h' := E
      have E := E.pu (p := 52) (lo' := (ri_st1 (ri_as 0 [.ref 17, .ref 23, .int ke]) 3 (.int (-1)))) (st' := [.int 1]) rfl (e := (.iconst 1, 1, [], .null)) rfl rfl (fun _ _ => rfl)
      obtain ⟨r1, r2⟩ := E.reti rfl (m := 1) (ax := []) (w := .null) rfl
      exact Or.inr (Or.inr (Or.inl ⟨h11, c2, c10, Xk12, ivk12, (by rw [← hrs, r1]; rfl), ((congrArg eh_V r2).trans (rfl : eh_V h11 = eh_V h11)), ((congrArg eh_N r2).trans hNk12), ivk12⟩))
    · skip
      have E := E.ld (p := 15) (t := ri_isA) (i := 0) (n := 1) (v := .ref 17) rfl (e := (.aload_n 0, 1, [], .null)) rfl rfl (fun _ _ => rfl) k1_0 rfl
      have E := E.gr (n := 2) (p := 18) rfl (x := 18) (m := 3) (w := .null) (t := 10) (i := 0) (u := 366) rfl rfl hV (iv.1) rfl
      have E := E.ld (p := 19) (t := ri_isA) (i := 1) (n := 1) (v := .ref 23) rfl (e := (.aload_n 1, 1, [], .null)) rfl rfl (fun _ _ => rfl) k1_1 rfl
      have E := E.ld (p := 20) (t := ri_isI) (i := 2) (n := 1) (v := .int ke) rfl (e := (.iload_n 2, 1, [], .null)) rfl rfl (fun _ _ => rfl) k1_2 rfl
      have E := E.pu (p := 22) (lo' := (ri_st1 (ri_as 0 [.ref 17, .ref 23, .int ke]) 3 (.int (-1)))) (st' := [.int 18, .int ke, .ref 23, .ref 2]) rfl (e := (.bipush 18, 2, [], .null)) rfl rfl (fun _ _ => rfl)
      have E := (eh_q1 (E.br (p := 25) (c := 1) (tgt := 29) (a := ke) (b := 18) (st' := [.ref 23, .ref 2]) rfl (e := (.if_icmp .ne 7, 3, [29], .null)) rfl rfl (fun _ _ => rfl) rfl)).elim (fun y => y.2) (fun y => absurd y.1 c2)
      have E := E.pu (p := 30) (lo' := (ri_st1 (ri_as 0 [.ref 17, .ref 23, .int ke]) 3 (.int (-1)))) (st' := [.int 2, .ref 23, .ref 2]) rfl (e := (.iconst 2, 1, [], .null)) rfl rfl (fun _ _ => rfl)
      obtain ⟨v1, h13, X, E⟩ := E.cv (p := 33) (as := [.ref 23, .int 2]) (b := 2) (r := []) rfl (x := 70) (m := 3) (w := .null) (j := 84) (n := 2) (t := 8) (u := [1159, 698, 697]) rfl rfl rfl
      obtain ⟨x15, rfl, ivk14, hNk14⟩ := ts_84 (d := d) X (by rw [hV]; exact iv)
      have Xk14 := X
      have E : eh_e _ _ 33 (ri_st1 (ri_as 0 [.ref 17, .ref 23, .int ke]) 3 (.int (-1))) [.int x15] h13 rs h' := E
      have E := E.so (p := 34) (t := ri_isI) (i := 3) (n := 1) rfl (e := (.istore_n 3, 1, [], .null)) rfl rfl (fun _ _ => rfl) rfl
      have k16_3 : ri_lk (ri_st1 (ri_st1 (ri_as 0 [.ref 17, .ref 23, .int ke]) 3 (.int (-1))) 3 (.int x15)) 3 = some (.int x15) := eh_self
      have k16_0 : ri_lk (ri_st1 (ri_st1 (ri_as 0 [.ref 17, .ref 23, .int ke]) 3 (.int (-1))) 3 (.int x15)) 0 = some (.ref 17) := eh_keep (by decide) (Or.inl rfl) k1_0
      have k16_1 : ri_lk (ri_st1 (ri_st1 (ri_as 0 [.ref 17, .ref 23, .int ke]) 3 (.int (-1))) 3 (.int x15)) 1 = some (.ref 23) := eh_keep (by decide) (Or.inl rfl) k1_1
      have k16_2 : ri_lk (ri_st1 (ri_st1 (ri_as 0 [.ref 17, .ref 23, .int ke]) 3 (.int (-1))) 3 (.int x15)) 2 = some (.int ke) := eh_keep (by decide) (Or.inl rfl) k1_2
      have E := E.ld (p := 35) (t := ri_isI) (i := 3) (n := 1) (v := .int x15) rfl (e := (.iload_n 3, 1, [], .null)) rfl rfl (fun _ _ => rfl) k16_3 rfl
      have E := E.pu (p := 36) (lo' := (ri_st1 (ri_st1 (ri_as 0 [.ref 17, .ref 23, .int ke]) 3 (.int (-1))) 3 (.int x15))) (st' := [.int (-1), .int x15]) rfl (e := (.iconst (-1), 1, [], .null)) rfl rfl (fun _ _ => rfl)
      rcases eh_q1 (E.br (p := 39) (c := 1) (tgt := 41) (a := x15) (b := (-1)) (st' := []) rfl (e := (.if_icmp .ne 5, 3, [41], .null)) rfl rfl (fun _ _ => rfl) rfl) with ⟨c17, E⟩ | ⟨c17, E⟩
      · skip
        have E := E.ld (p := 42) (t := ri_isA) (i := 0) (n := 1) (v := .ref 17) rfl (e := (.aload_n 0, 1, [], .null)) rfl rfl (fun _ _ => rfl) k16_0 rfl
        have E := E.gr (n := 18) (p := 45) rfl (x := 12) (m := 3) (w := .null) (t := 10) (i := 1) (u := 367) rfl rfl (rfl : eh_V h13 = eh_V h13) ivk14.1 rfl
        have E := E.ld (p := 46) (t := ri_isI) (i := 2) (n := 1) (v := .int ke) rfl (e := (.iload_n 2, 1, [], .null)) rfl rfl (fun _ _ => rfl) k16_2 rfl
        have E := E.pu (p := 47) (lo' := (ri_st1 (ri_st1 (ri_as 0 [.ref 17, .ref 23, .int ke]) 3 (.int (-1))) 3 (.int x15))) (st' := [.int (-1), .int ke, .ref 18]) rfl (e := (.iconst (-1), 1, [], .null)) rfl rfl (fun _ _ => rfl)
        have E := E.ld (p := 48) (t := ri_isI) (i := 3) (n := 1) (v := .int x15) rfl (e := (.iload_n 3, 1, [], .null)) rfl rfl (fun _ _ => rfl) k16_3 rfl
        obtain ⟨v1, h18, X, E⟩ := E.cv (p := 51) (as := [.int ke, .int (-1), .int x15]) (b := 18) (r := []) rfl (x := 45) (m := 3) (w := .null) (j := 88) (n := 3) (t := 9) (u := [1146, 1148, 1147]) rfl rfl rfl
        obtain ⟨rfl, ivk19, hNk19⟩ := ts_88 (d := d + 2) X (by rw [(rfl : eh_V h13 = eh_V h13)]; exact ivk14)
        have Xk19 := X
        have E : eh_e _ _ 51 (ri_st1 (ri_st1 (ri_as 0 [.ref 17, .ref 23, .int ke]) 3 (.int (-1))) 3 (.int x15)) [] h18 rs h' := E
        have E := E.pu (p := 52) (lo' := (ri_st1 (ri_st1 (ri_as 0 [.ref 17, .ref 23, .int ke]) 3 (.int (-1))) 3 (.int x15))) (st' := [.int 1]) rfl (e := (.iconst 1, 1, [], .null)) rfl rfl (fun _ _ => rfl)
        obtain ⟨r1, r2⟩ := E.reti rfl (m := 1) (ax := []) (w := .null) rfl
        exact Or.inr (Or.inr (Or.inr (Or.inl ⟨x15, h13, h18, c2, c10, Xk14, ivk14, c17, Xk19, ivk19, (by rw [← hrs, r1]; rfl), ((congrArg eh_V r2).trans (rfl : eh_V h18 = eh_V h18)), ((congrArg eh_N r2).trans (hNk19.trans hNk14)), ivk19⟩)))
      · skip
        have E := E.pu (p := 40) (lo' := (ri_st1 (ri_st1 (ri_as 0 [.ref 17, .ref 23, .int ke]) 3 (.int (-1))) 3 (.int x15))) (st' := [.int 0]) rfl (e := (.iconst 0, 1, [], .null)) rfl rfl (fun _ _ => rfl)
        obtain ⟨r1, r2⟩ := E.reti rfl (m := 1) (ax := []) (w := .null) rfl
        exact Or.inr (Or.inr (Or.inr (Or.inr (⟨x15, h13, c2, c10, Xk14, ivk14, c17, (by rw [← hrs, r1]; rfl), ((congrArg eh_V r2).trans (rfl : eh_V h13 = eh_V h13)), ((congrArg eh_N r2).trans hNk14), ivk14⟩))))
theorem ts_98 {d : Nat} {h h' : ri_H} {v : Option Value} {b : Nat → Int32} {n m : Nat} {ke : Int32} (E : ri_calE ri_md (d + 4) 98 [.ref 17, .ref 23, .int ke] h = some (v, h')) (iv : iS b n m (eh_V h)) : ∃ x : Int32, v = some (.int x) ∧ iS b n m (eh_V h') ∧ eh_N h' = eh_N h := by
  rcases zs_98 E rfl iv with ⟨_, _, _, _, _, _, _, _, _, r1, r2, r3, r4⟩ | ⟨_, _, _, _, _, _, r1, r2, r3, r4⟩ | ⟨_, _, _, _, _, r1, r2, r3, r4⟩ | ⟨_, _, _, _, _, _, _, _, _, _, r1, r2, r3, r4⟩ | ⟨_, _, _, _, _, _, _, r1, r2, r3, r4⟩
  · exact ⟨_, r1, by rw [r2]; exact r4, r3⟩
  · exact ⟨_, r1, by rw [r2]; exact r4, r3⟩
  · exact ⟨_, r1, by rw [r2]; exact r4, r3⟩
  · exact ⟨_, r1, by rw [r2]; exact r4, r3⟩
  · exact ⟨_, r1, by rw [r2]; exact r4, r3⟩
theorem zo_a {d : Nat} {lo : List (Nat × Value)} {h h' : ri_H} {rs : List Value} {G : eh_W} {b : Nat → Int32} {n m : Nat} {dp : Int32} (E : eh_e (ri_calE ri_md (d + 4)) md_97 0 lo [] h rs h') (hV : eh_V h = G) (iv : iS b n m G) (l0 : ri_lk lo 0 = some (.ref 17)) (l1 : ri_lk lo 1 = some (.ref 23)) (l2 : ri_lk lo 2 = some (.int dp)) : (¬ ((eh_i G 2 5) = 5) ∧ ¬ ((eh_i G 2 5) = 2) ∧ rs = [.int 0] ∧ eh_V h' = eh_u (eh_u G 2 9 (.int 1)) 2 10 (.int (eh_i G 2 6)) ∧ eh_N h' = eh_N h ∧ iS b n m (eh_u (eh_u G 2 9 (.int 1)) 2 10 (.int (eh_i G 2 6)))) ∨ (¬ ((eh_i G 2 5) = 5) ∧ (eh_i G 2 5) = 2 ∧ (eh_i G 2 7).toInt < 15 ∧ rs = [.int 0] ∧ eh_V h' = eh_u (eh_u G 2 9 (.int 1)) 2 10 (.int (eh_i G 2 6)) ∧ eh_N h' = eh_N h ∧ iS b n m (eh_u (eh_u G 2 9 (.int 1)) 2 10 (.int (eh_i G 2 6)))) ∨ (¬ ((eh_i G 2 5) = 5) ∧ (eh_i G 2 5) = 2 ∧ ¬ ((eh_i G 2 7).toInt < 15) ∧ 23 < (eh_i G 2 7).toInt ∧ rs = [.int 0] ∧ eh_V h' = eh_u (eh_u G 2 9 (.int 1)) 2 10 (.int (eh_i G 2 6)) ∧ eh_N h' = eh_N h ∧ iS b n m (eh_u (eh_u G 2 9 (.int 1)) 2 10 (.int (eh_i G 2 6)))) ∨ (¬ ((eh_i G 2 5) = 5) ∧ (eh_i G 2 5) = 2 ∧ ¬ ((eh_i G 2 7).toInt < 15) ∧ ¬ (23 < (eh_i G 2 7).toInt) ∧ ¬ ((eh_i G 18 0).toInt < 20) ∧ rs = [.int 0] ∧ eh_V h' = eh_u (eh_u G 2 9 (.int 4)) 2 10 (.int (eh_i G 2 6)) ∧ eh_N h' = eh_N h ∧ iS b n m (eh_u (eh_u G 2 9 (.int 4)) 2 10 (.int (eh_i G 2 6)))) ∨ (∃ (h35 : ri_H), ∃ (h39 : ri_H), ∃ (x45 : Int32), ∃ (h43 : ri_H), ¬ ((eh_i G 2 5) = 5) ∧ (eh_i G 2 5) = 2 ∧ ¬ ((eh_i G 2 7).toInt < 15) ∧ ¬ (23 < (eh_i G 2 7).toInt) ∧ (eh_i G 18 0).toInt < 20 ∧ ¬ (8 < dp.toInt) ∧ eh_V h35 = eh_u G 18 0 (.int ((eh_i G 18 0) + 1)) ∧ ri_calE ri_md (d + 4) 74 [.ref 2] h35 = some (none, h39) ∧ iS b n m (eh_V h39) ∧ ¬ ((eh_i G 2 7) = 15) ∧ (eh_i G 2 7).toInt < 20 ∧ ri_calE ri_md (d + 4) 98 [.ref 17, .ref 23, .int (eh_i G 2 7)] h39 = some (some (.int x45), h43) ∧ iS b n m (eh_V h43) ∧ rs = [.int x45] ∧ eh_V h' = (eh_V h43) ∧ eh_N h' = eh_N h ∧ iS b n m (eh_V h43)) ∨ (∃ (h35 : ri_H), ∃ (h39 : ri_H), ∃ (x48 : Int32), ∃ (h46 : ri_H), ¬ ((eh_i G 2 5) = 5) ∧ (eh_i G 2 5) = 2 ∧ ¬ ((eh_i G 2 7).toInt < 15) ∧ ¬ (23 < (eh_i G 2 7).toInt) ∧ (eh_i G 18 0).toInt < 20 ∧ ¬ (8 < dp.toInt) ∧ eh_V h35 = eh_u G 18 0 (.int ((eh_i G 18 0) + 1)) ∧ ri_calE ri_md (d + 4) 74 [.ref 2] h35 = some (none, h39) ∧ iS b n m (eh_V h39) ∧ ¬ ((eh_i G 2 7) = 15) ∧ ¬ ((eh_i G 2 7).toInt < 20) ∧ ri_calE ri_md (d + 4) 99 [.ref 17, .int (eh_i G 2 7)] h39 = some (some (.int x48), h46) ∧ iS b n m (eh_V h46) ∧ rs = [.int x48] ∧ eh_V h' = (eh_V h46) ∧ eh_N h' = eh_N h ∧ iS b n m (eh_V h46)) ∨ (∃ (h35 : ri_H), ∃ (h39 : ri_H), ¬ ((eh_i G 2 5) = 5) ∧ (eh_i G 2 5) = 2 ∧ ¬ ((eh_i G 2 7).toInt < 15) ∧ ¬ (23 < (eh_i G 2 7).toInt) ∧ (eh_i G 18 0).toInt < 20 ∧ ¬ (8 < dp.toInt) ∧ eh_V h35 = eh_u G 18 0 (.int ((eh_i G 18 0) + 1)) ∧ ri_calE ri_md (d + 4) 74 [.ref 2] h35 = some (none, h39) ∧ iS b n m (eh_V h39) ∧ (eh_i G 2 7) = 15 ∧ ∃ h1 loz v1 hz, eh_V h1 = (eh_V h39) ∧ eh_N h1 = eh_N h ∧ iS b n m (eh_V h39) ∧ (ri_calE ri_md (d + 4)) 97 [.ref 17, .ref 23, .int (dp + 1)] h1 = some (v1, hz) ∧ eh_e (ri_calE ri_md (d + 4)) md_97 174 loz (v1.toList ++ []) hz rs h' ∧ ri_lk loz 0 = some (.ref 17) ∧ ri_lk loz 1 = some (.ref 23) ∧ ri_lk loz 2 = some (.int dp) ∧ ri_lk loz 3 = some (.int 0) ∧ ri_lk loz 4 = some (.int 1) ∧ ri_lk loz 5 = some (.int (eh_i G 2 7))) ∨ (¬ ((eh_i G 2 5) = 5) ∧ (eh_i G 2 5) = 2 ∧ ¬ ((eh_i G 2 7).toInt < 15) ∧ ¬ (23 < (eh_i G 2 7).toInt) ∧ (eh_i G 18 0).toInt < 20 ∧ 8 < dp.toInt ∧ rs = [.int 0] ∧ eh_V h' = eh_u (eh_u G 2 9 (.int 4)) 2 10 (.int (eh_i G 2 6)) ∧ eh_N h' = eh_N h ∧ iS b n m (eh_u (eh_u G 2 9 (.int 4)) 2 10 (.int (eh_i G 2 6)))) ∨ ((eh_i G 2 5) = 5 ∧ ¬ ((eh_i G 2 7) = 40) ∧ rs = [.int 0] ∧ eh_V h' = eh_u (eh_u G 2 9 (.int 1)) 2 10 (.int (eh_i G 2 6)) ∧ eh_N h' = eh_N h ∧ iS b n m (eh_u (eh_u G 2 9 (.int 1)) 2 10 (.int (eh_i G 2 6)))) ∨ ((eh_i G 2 5) = 5 ∧ (eh_i G 2 7) = 40 ∧ ¬ ((eh_i G 18 0).toInt < 20) ∧ rs = [.int 0] ∧ eh_V h' = eh_u (eh_u G 2 9 (.int 4)) 2 10 (.int (eh_i G 2 6)) ∧ eh_N h' = eh_N h ∧ iS b n m (eh_u (eh_u G 2 9 (.int 4)) 2 10 (.int (eh_i G 2 6)))) ∨ (∃ (h65 : ri_H), ∃ (h69 : ri_H), (eh_i G 2 5) = 5 ∧ (eh_i G 2 7) = 40 ∧ (eh_i G 18 0).toInt < 20 ∧ ¬ (8 < dp.toInt) ∧ eh_V h65 = eh_u G 18 0 (.int ((eh_i G 18 0) + 1)) ∧ ri_calE ri_md (d + 4) 74 [.ref 2] h65 = some (none, h69) ∧ iS b n m (eh_V h69) ∧ ∃ h1 loz v1 hz, eh_V h1 = (eh_V h69) ∧ eh_N h1 = eh_N h ∧ iS b n m (eh_V h69) ∧ (ri_calE ri_md (d + 4)) 96 [.ref 17, .ref 23, .int (dp + 1)] h1 = some (v1, hz) ∧ eh_e (ri_calE ri_md (d + 4)) md_97 138 loz (v1.toList ++ []) hz rs h' ∧ ri_lk loz 0 = some (.ref 17) ∧ ri_lk loz 1 = some (.ref 23) ∧ ri_lk loz 2 = some (.int dp) ∧ ri_lk loz 3 = some (.int 1) ∧ ri_lk loz 4 = some (.int 0) ∧ ri_lk loz 5 = some (.int (eh_i G 2 7))) ∨ ((eh_i G 2 5) = 5 ∧ (eh_i G 2 7) = 40 ∧ (eh_i G 18 0).toInt < 20 ∧ 8 < dp.toInt ∧ rs = [.int 0] ∧ eh_V h' = eh_u (eh_u G 2 9 (.int 4)) 2 10 (.int (eh_i G 2 6)) ∧ eh_N h' = eh_N h ∧ iS b n m (eh_u (eh_u G 2 9 (.int 4)) 2 10 (.int (eh_i G 2 6)))) := by
  have E := E.ld (p := 1) (t := ri_isA) (i := 0) (n := 1) (v := .ref 17) rfl (e := (.aload_n 0, 1, [], .null)) rfl rfl (fun _ _ => rfl) l0 rfl
  have E := E.gr (n := 2) (p := 4) rfl (x := 18) (m := 3) (w := .null) (t := 10) (i := 0) (u := 366) rfl rfl hV (iv.1) rfl
  have E := E.pu (p := 6) (lo' := lo) (st' := [.int 40, .ref 2]) rfl (e := (.bipush 40, 2, [], .null)) rfl rfl (fun _ _ => rfl)
  obtain ⟨v1, h1, X, E⟩ := E.cv (p := 9) (as := [.int 40]) (b := 2) (r := []) rfl (x := 52) (m := 3) (w := .null) (j := 80) (n := 1) (t := 8) (u := [1142, 741, 740]) rfl rfl rfl
  rcases zs_80 (d := d + 3) X hV (iv.1) with ⟨c2, rfl, hV3, hN4⟩ | ⟨c5, c6, rfl, hV7, hN8⟩ | ⟨c9, c10, rfl, hV11, hN12⟩
  · skip
    have c2 : ¬ ((eh_i G 2 5) = 5) := c2
    have E : eh_e _ _ 9 lo [.int 0] _ rs h' := E
    have E := E.so (p := 10) (t := ri_isI) (i := 3) (n := 1) rfl (e := (.istore_n 3, 1, [], .null)) rfl rfl (fun _ _ => rfl) rfl
    have k13_3 : ri_lk (ri_st1 lo 3 (.int 0)) 3 = some (.int 0) := eh_self
    have k13_0 : ri_lk (ri_st1 lo 3 (.int 0)) 0 = some (.ref 17) := eh_keep (by decide) (Or.inl rfl) l0
    have k13_1 : ri_lk (ri_st1 lo 3 (.int 0)) 1 = some (.ref 23) := eh_keep (by decide) (Or.inl rfl) l1
    have k13_2 : ri_lk (ri_st1 lo 3 (.int 0)) 2 = some (.int dp) := eh_keep (by decide) (Or.inl rfl) l2
    have E := E.ld (p := 11) (t := ri_isA) (i := 0) (n := 1) (v := .ref 17) rfl (e := (.aload_n 0, 1, [], .null)) rfl rfl (fun _ _ => rfl) k13_0 rfl
    have E := E.gr (n := 2) (p := 14) rfl (x := 18) (m := 3) (w := .null) (t := 10) (i := 0) (u := 366) rfl rfl hV3 (iv.1) rfl
    have E := E.gi (y := eh_i G 2 5) (p := 17) rfl (x := 29) (m := 3) (w := .null) (t := 8) (i := 5) (u := 194) rfl rfl hV3 (iv.1) rfl rfl
    have E := E.pu (p := 18) (lo' := (ri_st1 lo 3 (.int 0))) (st' := [.int 2, .int (eh_i G 2 5)]) rfl (e := (.iconst 2, 1, [], .null)) rfl rfl (fun _ _ => rfl)
    rcases eh_q1 (E.br (p := 21) (c := 1) (tgt := 49) (a := eh_i G 2 5) (b := 2) (st' := []) rfl (e := (.if_icmp .ne 31, 3, [49], .null)) rfl rfl (fun _ _ => rfl) rfl) with ⟨c14, E⟩ | ⟨c14, E⟩
    · skip
      have E := E.pu (p := 50) (lo' := (ri_st1 lo 3 (.int 0))) (st' := [.int 0]) rfl (e := (.iconst 0, 1, [], .null)) rfl rfl (fun _ _ => rfl)
      have E := E.so (p := 52) (t := ri_isI) (i := 4) (n := 2) rfl (e := (.istore 4, 2, [], .null)) rfl rfl (fun _ _ => rfl) rfl
      have k15_4 : ri_lk (ri_st1 (ri_st1 lo 3 (.int 0)) 4 (.int 0)) 4 = some (.int 0) := eh_self
      have k15_0 : ri_lk (ri_st1 (ri_st1 lo 3 (.int 0)) 4 (.int 0)) 0 = some (.ref 17) := eh_keep (by decide) (Or.inl rfl) k13_0
      have k15_1 : ri_lk (ri_st1 (ri_st1 lo 3 (.int 0)) 4 (.int 0)) 1 = some (.ref 23) := eh_keep (by decide) (Or.inl rfl) k13_1
      have k15_2 : ri_lk (ri_st1 (ri_st1 lo 3 (.int 0)) 4 (.int 0)) 2 = some (.int dp) := eh_keep (by decide) (Or.inl rfl) k13_2
      have k15_3 : ri_lk (ri_st1 (ri_st1 lo 3 (.int 0)) 4 (.int 0)) 3 = some (.int 0) := eh_keep (by decide) (Or.inl rfl) k13_3
      have E := E.ld (p := 53) (t := ri_isI) (i := 3) (n := 1) (v := .int 0) rfl (e := (.iload_n 3, 1, [], .null)) rfl rfl (fun _ _ => rfl) k15_3 rfl
      have E := E.brf (p := 56) (c := 1) (tgt := 70) (a := 0) (b := 0) (st' := []) rfl (e := (.ifCond .ne 17, 3, [70], .null)) rfl rfl (fun _ _ => rfl) (by decide) rfl
      have E := E.ld (p := 58) (t := ri_isI) (i := 4) (n := 2) (v := .int 0) rfl (e := (.iload 4, 2, [], .null)) rfl rfl (fun _ _ => rfl) k15_4 rfl
      have E := E.brf (p := 61) (c := 1) (tgt := 70) (a := 0) (b := 0) (st' := []) rfl (e := (.ifCond .ne 12, 3, [70], .null)) rfl rfl (fun _ _ => rfl) (by decide) rfl
      have E := E.ld (p := 62) (t := ri_isA) (i := 0) (n := 1) (v := .ref 17) rfl (e := (.aload_n 0, 1, [], .null)) rfl rfl (fun _ _ => rfl) k15_0 rfl
      have E := E.gr (n := 2) (p := 65) rfl (x := 18) (m := 3) (w := .null) (t := 10) (i := 0) (u := 366) rfl rfl hV3 (iv.1) rfl
      have E := E.pu (p := 66) (lo' := (ri_st1 (ri_st1 lo 3 (.int 0)) 4 (.int 0))) (st' := [.int 1, .ref 2]) rfl (e := (.iconst 1, 1, [], .null)) rfl rfl (fun _ _ => rfl)
      obtain ⟨v1, h16, X, E⟩ := E.cv (p := 69) (as := [.int 1]) (b := 2) (r := []) rfl (x := 35) (m := 3) (w := .null) (j := 78) (n := 1) (t := 8) (u := [1143, 678, 677]) rfl rfl rfl
      rcases sp_78 (d := d + 3) X hV3 (iv.1) with ⟨rfl, hV17, hN18⟩
      have hV17 : _ = eh_u (eh_u G 2 9 (.int 1)) 2 10 (.int (eh_i G 2 6)) := hV17
      have E : eh_e _ _ 69 (ri_st1 (ri_st1 lo 3 (.int 0)) 4 (.int 0)) [.int 0] _ rs h' := E
      obtain ⟨r1, r2⟩ := E.reti rfl (m := 1) (ax := []) (w := .null) rfl
      exact Or.inl ⟨c2, c14, r1, ((congrArg eh_V r2).trans hV17), ((congrArg eh_N r2).trans (hN18.trans hN4)), (iS_u (iS_u iv ((iv.1).ui rfl) rfl) (((iv.1).ui rfl).ui rfl) rfl)⟩
    · skip
      have E := E.ld (p := 22) (t := ri_isA) (i := 0) (n := 1) (v := .ref 17) rfl (e := (.aload_n 0, 1, [], .null)) rfl rfl (fun _ _ => rfl) k13_0 rfl
      have E := E.gr (n := 2) (p := 25) rfl (x := 18) (m := 3) (w := .null) (t := 10) (i := 0) (u := 366) rfl rfl hV3 (iv.1) rfl
      have E := E.gi (y := eh_i G 2 7) (p := 28) rfl (x := 55) (m := 3) (w := .null) (t := 8) (i := 7) (u := 200) rfl rfl hV3 (iv.1) rfl rfl
      have E := E.pu (p := 30) (lo' := (ri_st1 lo 3 (.int 0))) (st' := [.int 15, .int (eh_i G 2 7)]) rfl (e := (.bipush 15, 2, [], .null)) rfl rfl (fun _ _ => rfl)
      rcases eh_r2 rfl (show (15 : Int32).toInt = 15 by decide) (E.br (p := 33) (c := 2) (tgt := 49) (a := eh_i G 2 7) (b := 15) (st' := []) rfl (e := (.if_icmp .lt 19, 3, [49], .null)) rfl rfl (fun _ _ => rfl) rfl) with ⟨c19, E⟩ | ⟨c19, E⟩
      · skip
        have E := E.pu (p := 50) (lo' := (ri_st1 lo 3 (.int 0))) (st' := [.int 0]) rfl (e := (.iconst 0, 1, [], .null)) rfl rfl (fun _ _ => rfl)
        have E := E.so (p := 52) (t := ri_isI) (i := 4) (n := 2) rfl (e := (.istore 4, 2, [], .null)) rfl rfl (fun _ _ => rfl) rfl
        have k20_4 : ri_lk (ri_st1 (ri_st1 lo 3 (.int 0)) 4 (.int 0)) 4 = some (.int 0) := eh_self
        have k20_0 : ri_lk (ri_st1 (ri_st1 lo 3 (.int 0)) 4 (.int 0)) 0 = some (.ref 17) := eh_keep (by decide) (Or.inl rfl) k13_0
        have k20_1 : ri_lk (ri_st1 (ri_st1 lo 3 (.int 0)) 4 (.int 0)) 1 = some (.ref 23) := eh_keep (by decide) (Or.inl rfl) k13_1
        have k20_2 : ri_lk (ri_st1 (ri_st1 lo 3 (.int 0)) 4 (.int 0)) 2 = some (.int dp) := eh_keep (by decide) (Or.inl rfl) k13_2
        have k20_3 : ri_lk (ri_st1 (ri_st1 lo 3 (.int 0)) 4 (.int 0)) 3 = some (.int 0) := eh_keep (by decide) (Or.inl rfl) k13_3
        have E := E.ld (p := 53) (t := ri_isI) (i := 3) (n := 1) (v := .int 0) rfl (e := (.iload_n 3, 1, [], .null)) rfl rfl (fun _ _ => rfl) k20_3 rfl
        have E := E.brf (p := 56) (c := 1) (tgt := 70) (a := 0) (b := 0) (st' := []) rfl (e := (.ifCond .ne 17, 3, [70], .null)) rfl rfl (fun _ _ => rfl) (by decide) rfl
        have E := E.ld (p := 58) (t := ri_isI) (i := 4) (n := 2) (v := .int 0) rfl (e := (.iload 4, 2, [], .null)) rfl rfl (fun _ _ => rfl) k20_4 rfl
        have E := E.brf (p := 61) (c := 1) (tgt := 70) (a := 0) (b := 0) (st' := []) rfl (e := (.ifCond .ne 12, 3, [70], .null)) rfl rfl (fun _ _ => rfl) (by decide) rfl
        have E := E.ld (p := 62) (t := ri_isA) (i := 0) (n := 1) (v := .ref 17) rfl (e := (.aload_n 0, 1, [], .null)) rfl rfl (fun _ _ => rfl) k20_0 rfl
        have E := E.gr (n := 2) (p := 65) rfl (x := 18) (m := 3) (w := .null) (t := 10) (i := 0) (u := 366) rfl rfl hV3 (iv.1) rfl
        have E := E.pu (p := 66) (lo' := (ri_st1 (ri_st1 lo 3 (.int 0)) 4 (.int 0))) (st' := [.int 1, .ref 2]) rfl (e := (.iconst 1, 1, [], .null)) rfl rfl (fun _ _ => rfl)
        obtain ⟨v1, h21, X, E⟩ := E.cv (p := 69) (as := [.int 1]) (b := 2) (r := []) rfl (x := 35) (m := 3) (w := .null) (j := 78) (n := 1) (t := 8) (u := [1143, 678, 677]) rfl rfl rfl
        rcases sp_78 (d := d + 3) X hV3 (iv.1) with ⟨rfl, hV22, hN23⟩
        have hV22 : _ = eh_u (eh_u G 2 9 (.int 1)) 2 10 (.int (eh_i G 2 6)) := hV22
        have E : eh_e _ _ 69 (ri_st1 (ri_st1 lo 3 (.int 0)) 4 (.int 0)) [.int 0] _ rs h' := E
        obtain ⟨r1, r2⟩ := E.reti rfl (m := 1) (ax := []) (w := .null) rfl
        exact Or.inr (Or.inl ⟨c2, c14, c19, r1, ((congrArg eh_V r2).trans hV22), ((congrArg eh_N r2).trans (hN23.trans hN4)), (iS_u (iS_u iv ((iv.1).ui rfl) rfl) (((iv.1).ui rfl).ui rfl) rfl)⟩)
      · skip
        have E := E.ld (p := 34) (t := ri_isA) (i := 0) (n := 1) (v := .ref 17) rfl (e := (.aload_n 0, 1, [], .null)) rfl rfl (fun _ _ => rfl) k13_0 rfl
        have E := E.gr (n := 2) (p := 37) rfl (x := 18) (m := 3) (w := .null) (t := 10) (i := 0) (u := 366) rfl rfl hV3 (iv.1) rfl
        have E := E.gi (y := eh_i G 2 7) (p := 40) rfl (x := 55) (m := 3) (w := .null) (t := 8) (i := 7) (u := 200) rfl rfl hV3 (iv.1) rfl rfl
        have E := E.pu (p := 42) (lo' := (ri_st1 lo 3 (.int 0))) (st' := [.int 23, .int (eh_i G 2 7)]) rfl (e := (.bipush 23, 2, [], .null)) rfl rfl (fun _ _ => rfl)
        rcases eh_r4 rfl (show (23 : Int32).toInt = 23 by decide) (E.br (p := 45) (c := 4) (tgt := 49) (a := eh_i G 2 7) (b := 23) (st' := []) rfl (e := (.if_icmp .gt 7, 3, [49], .null)) rfl rfl (fun _ _ => rfl) rfl) with ⟨c24, E⟩ | ⟨c24, E⟩
        · skip
          have E := E.pu (p := 50) (lo' := (ri_st1 lo 3 (.int 0))) (st' := [.int 0]) rfl (e := (.iconst 0, 1, [], .null)) rfl rfl (fun _ _ => rfl)
          have E := E.so (p := 52) (t := ri_isI) (i := 4) (n := 2) rfl (e := (.istore 4, 2, [], .null)) rfl rfl (fun _ _ => rfl) rfl
          have k25_4 : ri_lk (ri_st1 (ri_st1 lo 3 (.int 0)) 4 (.int 0)) 4 = some (.int 0) := eh_self
          have k25_0 : ri_lk (ri_st1 (ri_st1 lo 3 (.int 0)) 4 (.int 0)) 0 = some (.ref 17) := eh_keep (by decide) (Or.inl rfl) k13_0
          have k25_1 : ri_lk (ri_st1 (ri_st1 lo 3 (.int 0)) 4 (.int 0)) 1 = some (.ref 23) := eh_keep (by decide) (Or.inl rfl) k13_1
          have k25_2 : ri_lk (ri_st1 (ri_st1 lo 3 (.int 0)) 4 (.int 0)) 2 = some (.int dp) := eh_keep (by decide) (Or.inl rfl) k13_2
          have k25_3 : ri_lk (ri_st1 (ri_st1 lo 3 (.int 0)) 4 (.int 0)) 3 = some (.int 0) := eh_keep (by decide) (Or.inl rfl) k13_3
          have E := E.ld (p := 53) (t := ri_isI) (i := 3) (n := 1) (v := .int 0) rfl (e := (.iload_n 3, 1, [], .null)) rfl rfl (fun _ _ => rfl) k25_3 rfl
          have E := E.brf (p := 56) (c := 1) (tgt := 70) (a := 0) (b := 0) (st' := []) rfl (e := (.ifCond .ne 17, 3, [70], .null)) rfl rfl (fun _ _ => rfl) (by decide) rfl
          have E := E.ld (p := 58) (t := ri_isI) (i := 4) (n := 2) (v := .int 0) rfl (e := (.iload 4, 2, [], .null)) rfl rfl (fun _ _ => rfl) k25_4 rfl
          have E := E.brf (p := 61) (c := 1) (tgt := 70) (a := 0) (b := 0) (st' := []) rfl (e := (.ifCond .ne 12, 3, [70], .null)) rfl rfl (fun _ _ => rfl) (by decide) rfl
          have E := E.ld (p := 62) (t := ri_isA) (i := 0) (n := 1) (v := .ref 17) rfl (e := (.aload_n 0, 1, [], .null)) rfl rfl (fun _ _ => rfl) k25_0 rfl
          have E := E.gr (n := 2) (p := 65) rfl (x := 18) (m := 3) (w := .null) (t := 10) (i := 0) (u := 366) rfl rfl hV3 (iv.1) rfl
          have E := E.pu (p := 66) (lo' := (ri_st1 (ri_st1 lo 3 (.int 0)) 4 (.int 0))) (st' := [.int 1, .ref 2]) rfl (e := (.iconst 1, 1, [], .null)) rfl rfl (fun _ _ => rfl)
          obtain ⟨v1, h26, X, E⟩ := E.cv (p := 69) (as := [.int 1]) (b := 2) (r := []) rfl (x := 35) (m := 3) (w := .null) (j := 78) (n := 1) (t := 8) (u := [1143, 678, 677]) rfl rfl rfl
          rcases sp_78 (d := d + 3) X hV3 (iv.1) with ⟨rfl, hV27, hN28⟩
          have hV27 : _ = eh_u (eh_u G 2 9 (.int 1)) 2 10 (.int (eh_i G 2 6)) := hV27
          have E : eh_e _ _ 69 (ri_st1 (ri_st1 lo 3 (.int 0)) 4 (.int 0)) [.int 0] _ rs h' := E
          obtain ⟨r1, r2⟩ := E.reti rfl (m := 1) (ax := []) (w := .null) rfl
          exact Or.inr (Or.inr (Or.inl ⟨c2, c14, c19, c24, r1, ((congrArg eh_V r2).trans hV27), ((congrArg eh_N r2).trans (hN28.trans hN4)), (iS_u (iS_u iv ((iv.1).ui rfl) rfl) (((iv.1).ui rfl).ui rfl) rfl)⟩))
        · skip
          have E := E.pu (p := 46) (lo' := (ri_st1 lo 3 (.int 0))) (st' := [.int 1]) rfl (e := (.iconst 1, 1, [], .null)) rfl rfl (fun _ _ => rfl)
          have E := E.pu (p := 50) (lo' := (ri_st1 lo 3 (.int 0))) (st' := [.int 1]) rfl (e := (.goto 4, 3, [50], .null)) rfl rfl (fun _ _ => rfl)
          have E := E.so (p := 52) (t := ri_isI) (i := 4) (n := 2) rfl (e := (.istore 4, 2, [], .null)) rfl rfl (fun _ _ => rfl) rfl
          have k29_4 : ri_lk (ri_st1 (ri_st1 lo 3 (.int 0)) 4 (.int 1)) 4 = some (.int 1) := eh_self
          have k29_0 : ri_lk (ri_st1 (ri_st1 lo 3 (.int 0)) 4 (.int 1)) 0 = some (.ref 17) := eh_keep (by decide) (Or.inl rfl) k13_0
          have k29_1 : ri_lk (ri_st1 (ri_st1 lo 3 (.int 0)) 4 (.int 1)) 1 = some (.ref 23) := eh_keep (by decide) (Or.inl rfl) k13_1
          have k29_2 : ri_lk (ri_st1 (ri_st1 lo 3 (.int 0)) 4 (.int 1)) 2 = some (.int dp) := eh_keep (by decide) (Or.inl rfl) k13_2
          have k29_3 : ri_lk (ri_st1 (ri_st1 lo 3 (.int 0)) 4 (.int 1)) 3 = some (.int 0) := eh_keep (by decide) (Or.inl rfl) k13_3
          have E := E.ld (p := 53) (t := ri_isI) (i := 3) (n := 1) (v := .int 0) rfl (e := (.iload_n 3, 1, [], .null)) rfl rfl (fun _ _ => rfl) k29_3 rfl
          have E := E.brf (p := 56) (c := 1) (tgt := 70) (a := 0) (b := 0) (st' := []) rfl (e := (.ifCond .ne 17, 3, [70], .null)) rfl rfl (fun _ _ => rfl) (by decide) rfl
          have E := E.ld (p := 58) (t := ri_isI) (i := 4) (n := 2) (v := .int 1) rfl (e := (.iload 4, 2, [], .null)) rfl rfl (fun _ _ => rfl) k29_4 rfl
          have E := E.brt (c := 1) (tgt := 70) (a := 1) (b := 0) (st' := []) rfl (e := (.ifCond .ne 12, 3, [70], .null)) rfl rfl (fun _ _ => rfl) (by decide)
          have E := E.ld (p := 71) (t := ri_isA) (i := 0) (n := 1) (v := .ref 17) rfl (e := (.aload_n 0, 1, [], .null)) rfl rfl (fun _ _ => rfl) k29_0 rfl
          have E := E.gr (n := 18) (p := 74) rfl (x := 12) (m := 3) (w := .null) (t := 10) (i := 1) (u := 367) rfl rfl hV3 (iv.1) rfl
          have E := E.gi (y := eh_i G 18 0) (p := 77) rfl (x := 58) (m := 3) (w := .null) (t := 9) (i := 0) (u := 346) rfl rfl hV3 (iv.1) rfl rfl
          have E := E.pu (p := 79) (lo' := (ri_st1 (ri_st1 lo 3 (.int 0)) 4 (.int 1))) (st' := [.int 20, .int (eh_i G 18 0)]) rfl (e := (.bipush 20, 2, [], .null)) rfl rfl (fun _ _ => rfl)
          rcases eh_r3 rfl (show (20 : Int32).toInt = 20 by decide) (E.br (p := 82) (c := 3) (tgt := 88) (a := eh_i G 18 0) (b := 20) (st' := []) rfl (e := (.if_icmp .ge 9, 3, [88], .null)) rfl rfl (fun _ _ => rfl) rfl) with ⟨c30, E⟩ | ⟨c30, E⟩
          · skip
            have E := E.ld (p := 89) (t := ri_isA) (i := 0) (n := 1) (v := .ref 17) rfl (e := (.aload_n 0, 1, [], .null)) rfl rfl (fun _ _ => rfl) k29_0 rfl
            have E := E.gr (n := 2) (p := 92) rfl (x := 18) (m := 3) (w := .null) (t := 10) (i := 0) (u := 366) rfl rfl hV3 (iv.1) rfl
            have E := E.pu (p := 93) (lo' := (ri_st1 (ri_st1 lo 3 (.int 0)) 4 (.int 1))) (st' := [.int 4, .ref 2]) rfl (e := (.iconst 4, 1, [], .null)) rfl rfl (fun _ _ => rfl)
            obtain ⟨v1, h31, X, E⟩ := E.cv (p := 96) (as := [.int 4]) (b := 2) (r := []) rfl (x := 35) (m := 3) (w := .null) (j := 78) (n := 1) (t := 8) (u := [1143, 678, 677]) rfl rfl rfl
            rcases sp_78 (d := d + 3) X hV3 (iv.1) with ⟨rfl, hV32, hN33⟩
            have hV32 : _ = eh_u (eh_u G 2 9 (.int 4)) 2 10 (.int (eh_i G 2 6)) := hV32
            have E : eh_e _ _ 96 (ri_st1 (ri_st1 lo 3 (.int 0)) 4 (.int 1)) [.int 0] _ rs h' := E
            obtain ⟨r1, r2⟩ := E.reti rfl (m := 1) (ax := []) (w := .null) rfl
            exact Or.inr (Or.inr (Or.inr (Or.inl ⟨c2, c14, c19, c24, c30, r1, ((congrArg eh_V r2).trans hV32), ((congrArg eh_N r2).trans (hN33.trans hN4)), (iS_u (iS_u iv ((iv.1).ui rfl) rfl) (((iv.1).ui rfl).ui rfl) rfl)⟩)))
          · skip
            have E := E.ld (p := 83) (t := ri_isI) (i := 2) (n := 1) (v := .int dp) rfl (e := (.iload_n 2, 1, [], .null)) rfl rfl (fun _ _ => rfl) k29_2 rfl
            have E := E.pu (p := 85) (lo' := (ri_st1 (ri_st1 lo 3 (.int 0)) 4 (.int 1))) (st' := [.int 8, .int dp]) rfl (e := (.bipush 8, 2, [], .null)) rfl rfl (fun _ _ => rfl)
            rcases eh_r5 rfl (show (8 : Int32).toInt = 8 by decide) (E.br (p := 88) (c := 5) (tgt := 97) (a := dp) (b := 8) (st' := []) rfl (e := (.if_icmp .le 12, 3, [97], .null)) rfl rfl (fun _ _ => rfl) rfl) with ⟨c34, E⟩ | ⟨c34, E⟩
            · skip
              have E := E.ld (p := 98) (t := ri_isA) (i := 0) (n := 1) (v := .ref 17) rfl (e := (.aload_n 0, 1, [], .null)) rfl rfl (fun _ _ => rfl) k29_0 rfl
              have E := E.gr (n := 18) (p := 101) rfl (x := 12) (m := 3) (w := .null) (t := 10) (i := 1) (u := 367) rfl rfl hV3 (iv.1) rfl
              have E := E.pu (p := 102) (lo' := (ri_st1 (ri_st1 lo 3 (.int 0)) 4 (.int 1))) (st' := [.ref 18, .ref 18]) rfl (e := (.dup, 1, [], .null)) rfl rfl (fun _ _ => rfl)
              have E := E.gi (y := eh_i G 18 0) (p := 105) rfl (x := 58) (m := 3) (w := .null) (t := 9) (i := 0) (u := 346) rfl rfl hV3 (iv.1) rfl rfl
              have E := E.pu (p := 106) (lo' := (ri_st1 (ri_st1 lo 3 (.int 0)) 4 (.int 1))) (st' := [.int 1, .int (eh_i G 18 0), .ref 18]) rfl (e := (.iconst 1, 1, [], .null)) rfl rfl (fun _ _ => rfl)
              have E := E.pu (p := 107) (lo' := (ri_st1 (ri_st1 lo 3 (.int 0)) 4 (.int 1))) (st' := [.int ((eh_i G 18 0) + 1), .ref 18]) rfl (e := (.iadd, 1, [], .null)) rfl rfl (fun _ _ => rfl)
              obtain ⟨h35, hV36, hN37, E⟩ := E.gp (p := 110) rfl (x := 58) (m := 3) (w := .null) (t := 9) (i := 0) (u := 346) (y := 0) rfl rfl hV3
              have E := E.ld (p := 111) (t := ri_isA) (i := 0) (n := 1) (v := .ref 17) rfl (e := (.aload_n 0, 1, [], .null)) rfl rfl (fun _ _ => rfl) k29_0 rfl
              have E := E.gr (n := 2) (p := 114) rfl (x := 18) (m := 3) (w := .null) (t := 10) (i := 0) (u := 366) rfl rfl hV36 ((iv.1).ui rfl) rfl
              have E := E.gi (y := eh_i G 2 7) (p := 117) rfl (x := 55) (m := 3) (w := .null) (t := 8) (i := 7) (u := 200) rfl rfl hV36 ((iv.1).ui rfl) rfl rfl
              have E := E.so (p := 119) (t := ri_isI) (i := 5) (n := 2) rfl (e := (.istore 5, 2, [], .null)) rfl rfl (fun _ _ => rfl) rfl
              have k38_5 : ri_lk (ri_st1 (ri_st1 (ri_st1 lo 3 (.int 0)) 4 (.int 1)) 5 (.int (eh_i G 2 7))) 5 = some (.int (eh_i G 2 7)) := eh_self
              have k38_0 : ri_lk (ri_st1 (ri_st1 (ri_st1 lo 3 (.int 0)) 4 (.int 1)) 5 (.int (eh_i G 2 7))) 0 = some (.ref 17) := eh_keep (by decide) (Or.inl rfl) k29_0
              have k38_1 : ri_lk (ri_st1 (ri_st1 (ri_st1 lo 3 (.int 0)) 4 (.int 1)) 5 (.int (eh_i G 2 7))) 1 = some (.ref 23) := eh_keep (by decide) (Or.inl rfl) k29_1
              have k38_2 : ri_lk (ri_st1 (ri_st1 (ri_st1 lo 3 (.int 0)) 4 (.int 1)) 5 (.int (eh_i G 2 7))) 2 = some (.int dp) := eh_keep (by decide) (Or.inl rfl) k29_2
              have k38_3 : ri_lk (ri_st1 (ri_st1 (ri_st1 lo 3 (.int 0)) 4 (.int 1)) 5 (.int (eh_i G 2 7))) 3 = some (.int 0) := eh_keep (by decide) (Or.inl rfl) k29_3
              have k38_4 : ri_lk (ri_st1 (ri_st1 (ri_st1 lo 3 (.int 0)) 4 (.int 1)) 5 (.int (eh_i G 2 7))) 4 = some (.int 1) := eh_keep (by decide) (Or.inl rfl) k29_4
              have E := E.ld (p := 120) (t := ri_isA) (i := 0) (n := 1) (v := .ref 17) rfl (e := (.aload_n 0, 1, [], .null)) rfl rfl (fun _ _ => rfl) k38_0 rfl
              have E := E.gr (n := 2) (p := 123) rfl (x := 18) (m := 3) (w := .null) (t := 10) (i := 0) (u := 366) rfl rfl hV36 ((iv.1).ui rfl) rfl
              obtain ⟨v1, h39, X, E⟩ := E.cv (p := 126) (as := []) (b := 2) (r := []) rfl (x := 49) (m := 3) (w := .null) (j := 74) (n := 0) (t := 8) (u := [1144, 648, 647]) rfl rfl rfl
              obtain ⟨rfl, ivk40, hNk40⟩ := ts_74 (d := d + 2) X (by rw [hV36]; exact (iS_u iv ((iv.1).ui rfl) rfl))
              have Xk40 := X
              have E : eh_e _ _ 126 (ri_st1 (ri_st1 (ri_st1 lo 3 (.int 0)) 4 (.int 1)) 5 (.int (eh_i G 2 7))) [] h39 rs h' := E
              have E := E.ld (p := 127) (t := ri_isI) (i := 3) (n := 1) (v := .int 0) rfl (e := (.iload_n 3, 1, [], .null)) rfl rfl (fun _ _ => rfl) k38_3 rfl
              have E := E.brt (c := 0) (tgt := 159) (a := 0) (b := 0) (st' := []) rfl (e := (.ifCond .eq 32, 3, [159], .null)) rfl rfl (fun _ _ => rfl) (by decide)
              have E := E.ld (p := 161) (t := ri_isI) (i := 5) (n := 2) (v := .int (eh_i G 2 7)) rfl (e := (.iload 5, 2, [], .null)) rfl rfl (fun _ _ => rfl) k38_5 rfl
              have E := E.pu (p := 163) (lo' := (ri_st1 (ri_st1 (ri_st1 lo 3 (.int 0)) 4 (.int 1)) 5 (.int (eh_i G 2 7)))) (st' := [.int 15, .int (eh_i G 2 7)]) rfl (e := (.bipush 15, 2, [], .null)) rfl rfl (fun _ _ => rfl)
              rcases eh_q1 (E.br (p := 166) (c := 1) (tgt := 190) (a := eh_i G 2 7) (b := 15) (st' := []) rfl (e := (.if_icmp .ne 27, 3, [190], .null)) rfl rfl (fun _ _ => rfl) rfl) with ⟨c41, E⟩ | ⟨c41, E⟩
              · skip
                have E := E.ld (p := 192) (t := ri_isI) (i := 5) (n := 2) (v := .int (eh_i G 2 7)) rfl (e := (.iload 5, 2, [], .null)) rfl rfl (fun _ _ => rfl) k38_5 rfl
                have E := E.pu (p := 194) (lo' := (ri_st1 (ri_st1 (ri_st1 lo 3 (.int 0)) 4 (.int 1)) 5 (.int (eh_i G 2 7)))) (st' := [.int 20, .int (eh_i G 2 7)]) rfl (e := (.bipush 20, 2, [], .null)) rfl rfl (fun _ _ => rfl)
                rcases eh_r2 rfl (show (20 : Int32).toInt = 20 by decide) (E.br (p := 197) (c := 2) (tgt := 206) (a := eh_i G 2 7) (b := 20) (st' := []) rfl (e := (.if_icmp .lt 12, 3, [206], .null)) rfl rfl (fun _ _ => rfl) rfl) with ⟨c42, E⟩ | ⟨c42, E⟩
                · skip
                  have E := E.ld (p := 207) (t := ri_isA) (i := 0) (n := 1) (v := .ref 17) rfl (e := (.aload_n 0, 1, [], .null)) rfl rfl (fun _ _ => rfl) k38_0 rfl
                  have E := E.ld (p := 208) (t := ri_isA) (i := 1) (n := 1) (v := .ref 23) rfl (e := (.aload_n 1, 1, [], .null)) rfl rfl (fun _ _ => rfl) k38_1 rfl
                  have E := E.ld (p := 210) (t := ri_isI) (i := 5) (n := 2) (v := .int (eh_i G 2 7)) rfl (e := (.iload 5, 2, [], .null)) rfl rfl (fun _ _ => rfl) k38_5 rfl
                  obtain ⟨v1, h43, X, E⟩ := E.cv (p := 213) (as := [.ref 23, .int (eh_i G 2 7)]) (b := 17) (r := []) rfl (x := 67) (m := 3) (w := .null) (j := 98) (n := 2) (t := 10) (u := [1155, 28, 1157]) rfl rfl rfl
                  obtain ⟨x45, rfl, ivk44, hNk44⟩ := ts_98 (d := d) X (by rw [(rfl : eh_V h39 = eh_V h39)]; exact ivk40)
                  have Xk44 := X
                  have E : eh_e _ _ 213 (ri_st1 (ri_st1 (ri_st1 lo 3 (.int 0)) 4 (.int 1)) 5 (.int (eh_i G 2 7))) [.int x45] h43 rs h' := E
                  obtain ⟨r1, r2⟩ := E.reti rfl (m := 1) (ax := []) (w := .null) rfl
                  exact Or.inr (Or.inr (Or.inr (Or.inr (Or.inl ⟨h35, h39, x45, h43, c2, c14, c19, c24, c30, c34, hV36, Xk40, ivk40, c41, c42, Xk44, ivk44, r1, ((congrArg eh_V r2).trans (rfl : eh_V h43 = eh_V h43)), ((congrArg eh_N r2).trans (hNk44.trans (hNk40.trans (hN37.trans hN4)))), ivk44⟩))))
                · skip
                  have E := E.ld (p := 198) (t := ri_isA) (i := 0) (n := 1) (v := .ref 17) rfl (e := (.aload_n 0, 1, [], .null)) rfl rfl (fun _ _ => rfl) k38_0 rfl
                  have E := E.ld (p := 200) (t := ri_isI) (i := 5) (n := 2) (v := .int (eh_i G 2 7)) rfl (e := (.iload 5, 2, [], .null)) rfl rfl (fun _ _ => rfl) k38_5 rfl
                  obtain ⟨v1, h46, X, E⟩ := E.cv (p := 203) (as := [.int (eh_i G 2 7)]) (b := 17) (r := []) rfl (x := 64) (m := 3) (w := .null) (j := 99) (n := 1) (t := 10) (u := [1150, 27, 1152]) rfl rfl rfl
                  obtain ⟨x48, rfl, ivk47, hNk47⟩ := ts_99 (d := d) X (by rw [(rfl : eh_V h39 = eh_V h39)]; exact ivk40)
                  have Xk47 := X
                  have E : eh_e _ _ 203 (ri_st1 (ri_st1 (ri_st1 lo 3 (.int 0)) 4 (.int 1)) 5 (.int (eh_i G 2 7))) [.int x48] h46 rs h' := E
                  have E := E.pu (p := 213) (lo' := (ri_st1 (ri_st1 (ri_st1 lo 3 (.int 0)) 4 (.int 1)) 5 (.int (eh_i G 2 7)))) (st' := [.int x48]) rfl (e := (.goto 10, 3, [213], .null)) rfl rfl (fun _ _ => rfl)
                  obtain ⟨r1, r2⟩ := E.reti rfl (m := 1) (ax := []) (w := .null) rfl
                  exact Or.inr (Or.inr (Or.inr (Or.inr (Or.inr (Or.inl ⟨h35, h39, x48, h46, c2, c14, c19, c24, c30, c34, hV36, Xk40, ivk40, c41, c42, Xk47, ivk47, r1, ((congrArg eh_V r2).trans (rfl : eh_V h46 = eh_V h46)), ((congrArg eh_N r2).trans (hNk47.trans (hNk40.trans (hN37.trans hN4)))), ivk47⟩)))))
              · skip
                have E := E.ld (p := 167) (t := ri_isA) (i := 0) (n := 1) (v := .ref 17) rfl (e := (.aload_n 0, 1, [], .null)) rfl rfl (fun _ _ => rfl) k38_0 rfl
                have E := E.ld (p := 168) (t := ri_isA) (i := 1) (n := 1) (v := .ref 23) rfl (e := (.aload_n 1, 1, [], .null)) rfl rfl (fun _ _ => rfl) k38_1 rfl
                have E := E.ld (p := 169) (t := ri_isI) (i := 2) (n := 1) (v := .int dp) rfl (e := (.iload_n 2, 1, [], .null)) rfl rfl (fun _ _ => rfl) k38_2 rfl
                have E := E.pu (p := 170) (lo' := (ri_st1 (ri_st1 (ri_st1 lo 3 (.int 0)) 4 (.int 1)) 5 (.int (eh_i G 2 7)))) (st' := [.int 1, .int dp, .ref 23, .ref 17]) rfl (e := (.iconst 1, 1, [], .null)) rfl rfl (fun _ _ => rfl)
                have E := E.pu (p := 171) (lo' := (ri_st1 (ri_st1 (ri_st1 lo 3 (.int 0)) 4 (.int 1)) 5 (.int (eh_i G 2 7)))) (st' := [.int (dp + 1), .ref 23, .ref 17]) rfl (e := (.iadd, 1, [], .null)) rfl rfl (fun _ _ => rfl)
                obtain ⟨v1, h49, X, E⟩ := E.cv (p := 174) (as := [.ref 23, .int (dp + 1)]) (b := 17) (r := []) rfl (x := 39) (m := 3) (w := .null) (j := 97) (n := 2) (t := 10) (u := [1138, 26, 1140]) rfl rfl rfl
                exact Or.inr (Or.inr (Or.inr (Or.inr (Or.inr (Or.inr (Or.inl ⟨h35, h39, c2, c14, c19, c24, c30, c34, hV36, Xk40, ivk40, c41, _, _, _, _, (rfl : eh_V h39 = eh_V h39), (hNk40.trans (hN37.trans hN4)), ivk40, X, E, k38_0, k38_1, k38_2, k38_3, k38_4, k38_5⟩))))))
            · skip
              have E := E.ld (p := 89) (t := ri_isA) (i := 0) (n := 1) (v := .ref 17) rfl (e := (.aload_n 0, 1, [], .null)) rfl rfl (fun _ _ => rfl) k29_0 rfl
              have E := E.gr (n := 2) (p := 92) rfl (x := 18) (m := 3) (w := .null) (t := 10) (i := 0) (u := 366) rfl rfl hV3 (iv.1) rfl
              have E := E.pu (p := 93) (lo' := (ri_st1 (ri_st1 lo 3 (.int 0)) 4 (.int 1))) (st' := [.int 4, .ref 2]) rfl (e := (.iconst 4, 1, [], .null)) rfl rfl (fun _ _ => rfl)
              obtain ⟨v1, h50, X, E⟩ := E.cv (p := 96) (as := [.int 4]) (b := 2) (r := []) rfl (x := 35) (m := 3) (w := .null) (j := 78) (n := 1) (t := 8) (u := [1143, 678, 677]) rfl rfl rfl
              rcases sp_78 (d := d + 3) X hV3 (iv.1) with ⟨rfl, hV51, hN52⟩
              have hV51 : _ = eh_u (eh_u G 2 9 (.int 4)) 2 10 (.int (eh_i G 2 6)) := hV51
              have E : eh_e _ _ 96 (ri_st1 (ri_st1 lo 3 (.int 0)) 4 (.int 1)) [.int 0] _ rs h' := E
              obtain ⟨r1, r2⟩ := E.reti rfl (m := 1) (ax := []) (w := .null) rfl
              exact Or.inr (Or.inr (Or.inr (Or.inr (Or.inr (Or.inr (Or.inr (Or.inl ⟨c2, c14, c19, c24, c30, c34, r1, ((congrArg eh_V r2).trans hV51), ((congrArg eh_N r2).trans (hN52.trans hN4)), (iS_u (iS_u iv ((iv.1).ui rfl) rfl) (((iv.1).ui rfl).ui rfl) rfl)⟩)))))))
  · skip
    have c5 : (eh_i G 2 5) = 5 := c5
    have c6 : ¬ ((eh_i G 2 7) = 40) := c6
    have E : eh_e _ _ 9 lo [.int 0] _ rs h' := E
    have E := E.so (p := 10) (t := ri_isI) (i := 3) (n := 1) rfl (e := (.istore_n 3, 1, [], .null)) rfl rfl (fun _ _ => rfl) rfl
    have k53_3 : ri_lk (ri_st1 lo 3 (.int 0)) 3 = some (.int 0) := eh_self
    have k53_0 : ri_lk (ri_st1 lo 3 (.int 0)) 0 = some (.ref 17) := eh_keep (by decide) (Or.inl rfl) l0
    have k53_1 : ri_lk (ri_st1 lo 3 (.int 0)) 1 = some (.ref 23) := eh_keep (by decide) (Or.inl rfl) l1
    have k53_2 : ri_lk (ri_st1 lo 3 (.int 0)) 2 = some (.int dp) := eh_keep (by decide) (Or.inl rfl) l2
    have E := E.ld (p := 11) (t := ri_isA) (i := 0) (n := 1) (v := .ref 17) rfl (e := (.aload_n 0, 1, [], .null)) rfl rfl (fun _ _ => rfl) k53_0 rfl
    have E := E.gr (n := 2) (p := 14) rfl (x := 18) (m := 3) (w := .null) (t := 10) (i := 0) (u := 366) rfl rfl hV7 (iv.1) rfl
    have E := E.gi (y := eh_i G 2 5) (p := 17) rfl (x := 29) (m := 3) (w := .null) (t := 8) (i := 5) (u := 194) rfl rfl hV7 (iv.1) rfl rfl
    have E := E.pu (p := 18) (lo' := (ri_st1 lo 3 (.int 0))) (st' := [.int 2, .int (eh_i G 2 5)]) rfl (e := (.iconst 2, 1, [], .null)) rfl rfl (fun _ _ => rfl)
    have E := (eh_q1 (E.br (p := 21) (c := 1) (tgt := 49) (a := eh_i G 2 5) (b := 2) (st' := []) rfl (e := (.if_icmp .ne 31, 3, [49], .null)) rfl rfl (fun _ _ => rfl) rfl)).elim (fun y => y.2) (fun y => absurd y.1 (by rw [c5]; decide))
    have E := E.pu (p := 50) (lo' := (ri_st1 lo 3 (.int 0))) (st' := [.int 0]) rfl (e := (.iconst 0, 1, [], .null)) rfl rfl (fun _ _ => rfl)
    have E := E.so (p := 52) (t := ri_isI) (i := 4) (n := 2) rfl (e := (.istore 4, 2, [], .null)) rfl rfl (fun _ _ => rfl) rfl
    have k54_4 : ri_lk (ri_st1 (ri_st1 lo 3 (.int 0)) 4 (.int 0)) 4 = some (.int 0) := eh_self
    have k54_0 : ri_lk (ri_st1 (ri_st1 lo 3 (.int 0)) 4 (.int 0)) 0 = some (.ref 17) := eh_keep (by decide) (Or.inl rfl) k53_0
    have k54_1 : ri_lk (ri_st1 (ri_st1 lo 3 (.int 0)) 4 (.int 0)) 1 = some (.ref 23) := eh_keep (by decide) (Or.inl rfl) k53_1
    have k54_2 : ri_lk (ri_st1 (ri_st1 lo 3 (.int 0)) 4 (.int 0)) 2 = some (.int dp) := eh_keep (by decide) (Or.inl rfl) k53_2
    have k54_3 : ri_lk (ri_st1 (ri_st1 lo 3 (.int 0)) 4 (.int 0)) 3 = some (.int 0) := eh_keep (by decide) (Or.inl rfl) k53_3
    have E := E.ld (p := 53) (t := ri_isI) (i := 3) (n := 1) (v := .int 0) rfl (e := (.iload_n 3, 1, [], .null)) rfl rfl (fun _ _ => rfl) k54_3 rfl
    have E := E.brf (p := 56) (c := 1) (tgt := 70) (a := 0) (b := 0) (st' := []) rfl (e := (.ifCond .ne 17, 3, [70], .null)) rfl rfl (fun _ _ => rfl) (by decide) rfl
    have E := E.ld (p := 58) (t := ri_isI) (i := 4) (n := 2) (v := .int 0) rfl (e := (.iload 4, 2, [], .null)) rfl rfl (fun _ _ => rfl) k54_4 rfl
    have E := E.brf (p := 61) (c := 1) (tgt := 70) (a := 0) (b := 0) (st' := []) rfl (e := (.ifCond .ne 12, 3, [70], .null)) rfl rfl (fun _ _ => rfl) (by decide) rfl
    have E := E.ld (p := 62) (t := ri_isA) (i := 0) (n := 1) (v := .ref 17) rfl (e := (.aload_n 0, 1, [], .null)) rfl rfl (fun _ _ => rfl) k54_0 rfl
    have E := E.gr (n := 2) (p := 65) rfl (x := 18) (m := 3) (w := .null) (t := 10) (i := 0) (u := 366) rfl rfl hV7 (iv.1) rfl
    have E := E.pu (p := 66) (lo' := (ri_st1 (ri_st1 lo 3 (.int 0)) 4 (.int 0))) (st' := [.int 1, .ref 2]) rfl (e := (.iconst 1, 1, [], .null)) rfl rfl (fun _ _ => rfl)
    obtain ⟨v1, h55, X, E⟩ := E.cv (p := 69) (as := [.int 1]) (b := 2) (r := []) rfl (x := 35) (m := 3) (w := .null) (j := 78) (n := 1) (t := 8) (u := [1143, 678, 677]) rfl rfl rfl
    rcases sp_78 (d := d + 3) X hV7 (iv.1) with ⟨rfl, hV56, hN57⟩
    have hV56 : _ = eh_u (eh_u G 2 9 (.int 1)) 2 10 (.int (eh_i G 2 6)) := hV56
    have E : eh_e _ _ 69 (ri_st1 (ri_st1 lo 3 (.int 0)) 4 (.int 0)) [.int 0] _ rs h' := E
    obtain ⟨r1, r2⟩ := E.reti rfl (m := 1) (ax := []) (w := .null) rfl
    exact Or.inr (Or.inr (Or.inr (Or.inr (Or.inr (Or.inr (Or.inr (Or.inr (Or.inl ⟨c5, c6, r1, ((congrArg eh_V r2).trans hV56), ((congrArg eh_N r2).trans (hN57.trans hN8)), (iS_u (iS_u iv ((iv.1).ui rfl) rfl) (((iv.1).ui rfl).ui rfl) rfl)⟩))))))))
  · skip
    have c9 : (eh_i G 2 5) = 5 := c9
    have c10 : (eh_i G 2 7) = 40 := c10
    have E : eh_e _ _ 9 lo [.int 1] _ rs h' := E
    have E := E.so (p := 10) (t := ri_isI) (i := 3) (n := 1) rfl (e := (.istore_n 3, 1, [], .null)) rfl rfl (fun _ _ => rfl) rfl
    have k58_3 : ri_lk (ri_st1 lo 3 (.int 1)) 3 = some (.int 1) := eh_self
    have k58_0 : ri_lk (ri_st1 lo 3 (.int 1)) 0 = some (.ref 17) := eh_keep (by decide) (Or.inl rfl) l0
    have k58_1 : ri_lk (ri_st1 lo 3 (.int 1)) 1 = some (.ref 23) := eh_keep (by decide) (Or.inl rfl) l1
    have k58_2 : ri_lk (ri_st1 lo 3 (.int 1)) 2 = some (.int dp) := eh_keep (by decide) (Or.inl rfl) l2
    have E := E.ld (p := 11) (t := ri_isA) (i := 0) (n := 1) (v := .ref 17) rfl (e := (.aload_n 0, 1, [], .null)) rfl rfl (fun _ _ => rfl) k58_0 rfl
    have E := E.gr (n := 2) (p := 14) rfl (x := 18) (m := 3) (w := .null) (t := 10) (i := 0) (u := 366) rfl rfl hV11 (iv.1) rfl
    have E := E.gi (y := eh_i G 2 5) (p := 17) rfl (x := 29) (m := 3) (w := .null) (t := 8) (i := 5) (u := 194) rfl rfl hV11 (iv.1) rfl rfl
    have E := E.pu (p := 18) (lo' := (ri_st1 lo 3 (.int 1))) (st' := [.int 2, .int (eh_i G 2 5)]) rfl (e := (.iconst 2, 1, [], .null)) rfl rfl (fun _ _ => rfl)
    have E := (eh_q1 (E.br (p := 21) (c := 1) (tgt := 49) (a := eh_i G 2 5) (b := 2) (st' := []) rfl (e := (.if_icmp .ne 31, 3, [49], .null)) rfl rfl (fun _ _ => rfl) rfl)).elim (fun y => y.2) (fun y => absurd y.1 (by rw [c9]; decide))
    have E := E.pu (p := 50) (lo' := (ri_st1 lo 3 (.int 1))) (st' := [.int 0]) rfl (e := (.iconst 0, 1, [], .null)) rfl rfl (fun _ _ => rfl)
    have E := E.so (p := 52) (t := ri_isI) (i := 4) (n := 2) rfl (e := (.istore 4, 2, [], .null)) rfl rfl (fun _ _ => rfl) rfl
    have k59_4 : ri_lk (ri_st1 (ri_st1 lo 3 (.int 1)) 4 (.int 0)) 4 = some (.int 0) := eh_self
    have k59_0 : ri_lk (ri_st1 (ri_st1 lo 3 (.int 1)) 4 (.int 0)) 0 = some (.ref 17) := eh_keep (by decide) (Or.inl rfl) k58_0
    have k59_1 : ri_lk (ri_st1 (ri_st1 lo 3 (.int 1)) 4 (.int 0)) 1 = some (.ref 23) := eh_keep (by decide) (Or.inl rfl) k58_1
    have k59_2 : ri_lk (ri_st1 (ri_st1 lo 3 (.int 1)) 4 (.int 0)) 2 = some (.int dp) := eh_keep (by decide) (Or.inl rfl) k58_2
    have k59_3 : ri_lk (ri_st1 (ri_st1 lo 3 (.int 1)) 4 (.int 0)) 3 = some (.int 1) := eh_keep (by decide) (Or.inl rfl) k58_3
    have E := E.ld (p := 53) (t := ri_isI) (i := 3) (n := 1) (v := .int 1) rfl (e := (.iload_n 3, 1, [], .null)) rfl rfl (fun _ _ => rfl) k59_3 rfl
    have E := E.brt (c := 1) (tgt := 70) (a := 1) (b := 0) (st' := []) rfl (e := (.ifCond .ne 17, 3, [70], .null)) rfl rfl (fun _ _ => rfl) (by decide)
    have E := E.ld (p := 71) (t := ri_isA) (i := 0) (n := 1) (v := .ref 17) rfl (e := (.aload_n 0, 1, [], .null)) rfl rfl (fun _ _ => rfl) k59_0 rfl
    have E := E.gr (n := 18) (p := 74) rfl (x := 12) (m := 3) (w := .null) (t := 10) (i := 1) (u := 367) rfl rfl hV11 (iv.1) rfl
    have E := E.gi (y := eh_i G 18 0) (p := 77) rfl (x := 58) (m := 3) (w := .null) (t := 9) (i := 0) (u := 346) rfl rfl hV11 (iv.1) rfl rfl
    have E := E.pu (p := 79) (lo' := (ri_st1 (ri_st1 lo 3 (.int 1)) 4 (.int 0))) (st' := [.int 20, .int (eh_i G 18 0)]) rfl (e := (.bipush 20, 2, [], .null)) rfl rfl (fun _ _ => rfl)
    rcases eh_r3 rfl (show (20 : Int32).toInt = 20 by decide) (E.br (p := 82) (c := 3) (tgt := 88) (a := eh_i G 18 0) (b := 20) (st' := []) rfl (e := (.if_icmp .ge 9, 3, [88], .null)) rfl rfl (fun _ _ => rfl) rfl) with ⟨c60, E⟩ | ⟨c60, E⟩
    · skip
      have E := E.ld (p := 89) (t := ri_isA) (i := 0) (n := 1) (v := .ref 17) rfl (e := (.aload_n 0, 1, [], .null)) rfl rfl (fun _ _ => rfl) k59_0 rfl
      have E := E.gr (n := 2) (p := 92) rfl (x := 18) (m := 3) (w := .null) (t := 10) (i := 0) (u := 366) rfl rfl hV11 (iv.1) rfl
      have E := E.pu (p := 93) (lo' := (ri_st1 (ri_st1 lo 3 (.int 1)) 4 (.int 0))) (st' := [.int 4, .ref 2]) rfl (e := (.iconst 4, 1, [], .null)) rfl rfl (fun _ _ => rfl)
      obtain ⟨v1, h61, X, E⟩ := E.cv (p := 96) (as := [.int 4]) (b := 2) (r := []) rfl (x := 35) (m := 3) (w := .null) (j := 78) (n := 1) (t := 8) (u := [1143, 678, 677]) rfl rfl rfl
      rcases sp_78 (d := d + 3) X hV11 (iv.1) with ⟨rfl, hV62, hN63⟩
      have hV62 : _ = eh_u (eh_u G 2 9 (.int 4)) 2 10 (.int (eh_i G 2 6)) := hV62
      have E : eh_e _ _ 96 (ri_st1 (ri_st1 lo 3 (.int 1)) 4 (.int 0)) [.int 0] _ rs h' := E
      obtain ⟨r1, r2⟩ := E.reti rfl (m := 1) (ax := []) (w := .null) rfl
      exact Or.inr (Or.inr (Or.inr (Or.inr (Or.inr (Or.inr (Or.inr (Or.inr (Or.inr (Or.inl ⟨c9, c10, c60, r1, ((congrArg eh_V r2).trans hV62), ((congrArg eh_N r2).trans (hN63.trans hN12)), (iS_u (iS_u iv ((iv.1).ui rfl) rfl) (((iv.1).ui rfl).ui rfl) rfl)⟩)))))))))
    · skip
      have E := E.ld (p := 83) (t := ri_isI) (i := 2) (n := 1) (v := .int dp) rfl (e := (.iload_n 2, 1, [], .null)) rfl rfl (fun _ _ => rfl) k59_2 rfl
      have E := E.pu (p := 85) (lo' := (ri_st1 (ri_st1 lo 3 (.int 1)) 4 (.int 0))) (st' := [.int 8, .int dp]) rfl (e := (.bipush 8, 2, [], .null)) rfl rfl (fun _ _ => rfl)
      rcases eh_r5 rfl (show (8 : Int32).toInt = 8 by decide) (E.br (p := 88) (c := 5) (tgt := 97) (a := dp) (b := 8) (st' := []) rfl (e := (.if_icmp .le 12, 3, [97], .null)) rfl rfl (fun _ _ => rfl) rfl) with ⟨c64, E⟩ | ⟨c64, E⟩
      · skip
        have E := E.ld (p := 98) (t := ri_isA) (i := 0) (n := 1) (v := .ref 17) rfl (e := (.aload_n 0, 1, [], .null)) rfl rfl (fun _ _ => rfl) k59_0 rfl
        have E := E.gr (n := 18) (p := 101) rfl (x := 12) (m := 3) (w := .null) (t := 10) (i := 1) (u := 367) rfl rfl hV11 (iv.1) rfl
        have E := E.pu (p := 102) (lo' := (ri_st1 (ri_st1 lo 3 (.int 1)) 4 (.int 0))) (st' := [.ref 18, .ref 18]) rfl (e := (.dup, 1, [], .null)) rfl rfl (fun _ _ => rfl)
        have E := E.gi (y := eh_i G 18 0) (p := 105) rfl (x := 58) (m := 3) (w := .null) (t := 9) (i := 0) (u := 346) rfl rfl hV11 (iv.1) rfl rfl
        have E := E.pu (p := 106) (lo' := (ri_st1 (ri_st1 lo 3 (.int 1)) 4 (.int 0))) (st' := [.int 1, .int (eh_i G 18 0), .ref 18]) rfl (e := (.iconst 1, 1, [], .null)) rfl rfl (fun _ _ => rfl)
        have E := E.pu (p := 107) (lo' := (ri_st1 (ri_st1 lo 3 (.int 1)) 4 (.int 0))) (st' := [.int ((eh_i G 18 0) + 1), .ref 18]) rfl (e := (.iadd, 1, [], .null)) rfl rfl (fun _ _ => rfl)
        obtain ⟨h65, hV66, hN67, E⟩ := E.gp (p := 110) rfl (x := 58) (m := 3) (w := .null) (t := 9) (i := 0) (u := 346) (y := 0) rfl rfl hV11
        have E := E.ld (p := 111) (t := ri_isA) (i := 0) (n := 1) (v := .ref 17) rfl (e := (.aload_n 0, 1, [], .null)) rfl rfl (fun _ _ => rfl) k59_0 rfl
        have E := E.gr (n := 2) (p := 114) rfl (x := 18) (m := 3) (w := .null) (t := 10) (i := 0) (u := 366) rfl rfl hV66 ((iv.1).ui rfl) rfl
        have E := E.gi (y := eh_i G 2 7) (p := 117) rfl (x := 55) (m := 3) (w := .null) (t := 8) (i := 7) (u := 200) rfl rfl hV66 ((iv.1).ui rfl) rfl rfl
        have E := E.so (p := 119) (t := ri_isI) (i := 5) (n := 2) rfl (e := (.istore 5, 2, [], .null)) rfl rfl (fun _ _ => rfl) rfl
        have k68_5 : ri_lk (ri_st1 (ri_st1 (ri_st1 lo 3 (.int 1)) 4 (.int 0)) 5 (.int (eh_i G 2 7))) 5 = some (.int (eh_i G 2 7)) := eh_self
        have k68_0 : ri_lk (ri_st1 (ri_st1 (ri_st1 lo 3 (.int 1)) 4 (.int 0)) 5 (.int (eh_i G 2 7))) 0 = some (.ref 17) := eh_keep (by decide) (Or.inl rfl) k59_0
        have k68_1 : ri_lk (ri_st1 (ri_st1 (ri_st1 lo 3 (.int 1)) 4 (.int 0)) 5 (.int (eh_i G 2 7))) 1 = some (.ref 23) := eh_keep (by decide) (Or.inl rfl) k59_1
        have k68_2 : ri_lk (ri_st1 (ri_st1 (ri_st1 lo 3 (.int 1)) 4 (.int 0)) 5 (.int (eh_i G 2 7))) 2 = some (.int dp) := eh_keep (by decide) (Or.inl rfl) k59_2
        have k68_3 : ri_lk (ri_st1 (ri_st1 (ri_st1 lo 3 (.int 1)) 4 (.int 0)) 5 (.int (eh_i G 2 7))) 3 = some (.int 1) := eh_keep (by decide) (Or.inl rfl) k59_3
        have k68_4 : ri_lk (ri_st1 (ri_st1 (ri_st1 lo 3 (.int 1)) 4 (.int 0)) 5 (.int (eh_i G 2 7))) 4 = some (.int 0) := eh_keep (by decide) (Or.inl rfl) k59_4
        have E := E.ld (p := 120) (t := ri_isA) (i := 0) (n := 1) (v := .ref 17) rfl (e := (.aload_n 0, 1, [], .null)) rfl rfl (fun _ _ => rfl) k68_0 rfl
        have E := E.gr (n := 2) (p := 123) rfl (x := 18) (m := 3) (w := .null) (t := 10) (i := 0) (u := 366) rfl rfl hV66 ((iv.1).ui rfl) rfl
        obtain ⟨v1, h69, X, E⟩ := E.cv (p := 126) (as := []) (b := 2) (r := []) rfl (x := 49) (m := 3) (w := .null) (j := 74) (n := 0) (t := 8) (u := [1144, 648, 647]) rfl rfl rfl
        obtain ⟨rfl, ivk70, hNk70⟩ := ts_74 (d := d + 2) X (by rw [hV66]; exact (iS_u iv ((iv.1).ui rfl) rfl))
        have Xk70 := X
        have E : eh_e _ _ 126 (ri_st1 (ri_st1 (ri_st1 lo 3 (.int 1)) 4 (.int 0)) 5 (.int (eh_i G 2 7))) [] h69 rs h' := E
        have E := E.ld (p := 127) (t := ri_isI) (i := 3) (n := 1) (v := .int 1) rfl (e := (.iload_n 3, 1, [], .null)) rfl rfl (fun _ _ => rfl) k68_3 rfl
        have E := E.brf (p := 130) (c := 0) (tgt := 159) (a := 1) (b := 0) (st' := []) rfl (e := (.ifCond .eq 32, 3, [159], .null)) rfl rfl (fun _ _ => rfl) (by decide) rfl
        have E := E.ld (p := 131) (t := ri_isA) (i := 0) (n := 1) (v := .ref 17) rfl (e := (.aload_n 0, 1, [], .null)) rfl rfl (fun _ _ => rfl) k68_0 rfl
        have E := E.ld (p := 132) (t := ri_isA) (i := 1) (n := 1) (v := .ref 23) rfl (e := (.aload_n 1, 1, [], .null)) rfl rfl (fun _ _ => rfl) k68_1 rfl
        have E := E.ld (p := 133) (t := ri_isI) (i := 2) (n := 1) (v := .int dp) rfl (e := (.iload_n 2, 1, [], .null)) rfl rfl (fun _ _ => rfl) k68_2 rfl
        have E := E.pu (p := 134) (lo' := (ri_st1 (ri_st1 (ri_st1 lo 3 (.int 1)) 4 (.int 0)) 5 (.int (eh_i G 2 7)))) (st' := [.int 1, .int dp, .ref 23, .ref 17]) rfl (e := (.iconst 1, 1, [], .null)) rfl rfl (fun _ _ => rfl)
        have E := E.pu (p := 135) (lo' := (ri_st1 (ri_st1 (ri_st1 lo 3 (.int 1)) 4 (.int 0)) 5 (.int (eh_i G 2 7)))) (st' := [.int (dp + 1), .ref 23, .ref 17]) rfl (e := (.iadd, 1, [], .null)) rfl rfl (fun _ _ => rfl)
        obtain ⟨v1, h71, X, E⟩ := E.cv (p := 138) (as := [.ref 23, .int (dp + 1)]) (b := 17) (r := []) rfl (x := 25) (m := 3) (w := .null) (j := 96) (n := 2) (t := 10) (u := [1134, 25, 1136]) rfl rfl rfl
        exact Or.inr (Or.inr (Or.inr (Or.inr (Or.inr (Or.inr (Or.inr (Or.inr (Or.inr (Or.inr (Or.inl ⟨h65, h69, c9, c10, c60, c64, hV66, Xk70, ivk70, _, _, _, _, (rfl : eh_V h69 = eh_V h69), (hNk70.trans (hN67.trans hN12)), ivk70, X, E, k68_0, k68_1, k68_2, k68_3, k68_4, k68_5⟩))))))))))
      · skip
        have E := E.ld (p := 89) (t := ri_isA) (i := 0) (n := 1) (v := .ref 17) rfl (e := (.aload_n 0, 1, [], .null)) rfl rfl (fun _ _ => rfl) k59_0 rfl
        have E := E.gr (n := 2) (p := 92) rfl (x := 18) (m := 3) (w := .null) (t := 10) (i := 0) (u := 366) rfl rfl hV11 (iv.1) rfl
        have E := E.pu (p := 93) (lo' := (ri_st1 (ri_st1 lo 3 (.int 1)) 4 (.int 0))) (st' := [.int 4, .ref 2]) rfl (e := (.iconst 4, 1, [], .null)) rfl rfl (fun _ _ => rfl)
        obtain ⟨v1, h72, X, E⟩ := E.cv (p := 96) (as := [.int 4]) (b := 2) (r := []) rfl (x := 35) (m := 3) (w := .null) (j := 78) (n := 1) (t := 8) (u := [1143, 678, 677]) rfl rfl rfl
        rcases sp_78 (d := d + 3) X hV11 (iv.1) with ⟨rfl, hV73, hN74⟩
        have hV73 : _ = eh_u (eh_u G 2 9 (.int 4)) 2 10 (.int (eh_i G 2 6)) := hV73
        have E : eh_e _ _ 96 (ri_st1 (ri_st1 lo 3 (.int 1)) 4 (.int 0)) [.int 0] _ rs h' := E
        obtain ⟨r1, r2⟩ := E.reti rfl (m := 1) (ax := []) (w := .null) rfl
        exact Or.inr (Or.inr (Or.inr (Or.inr (Or.inr (Or.inr (Or.inr (Or.inr (Or.inr (Or.inr (Or.inr (⟨c9, c10, c60, c64, r1, ((congrArg eh_V r2).trans hV73), ((congrArg eh_N r2).trans (hN74.trans hN12)), (iS_u (iS_u iv ((iv.1).ui rfl) rfl) (((iv.1).ui rfl).ui rfl) rfl)⟩)))))))))))
theorem zo_b {d : Nat} {lo : List (Nat × Value)} {h h' : ri_H} {rs : List Value} {G : eh_W} {x dp : Int32} {b : Nat → Int32} {n m : Nat} (E : eh_e (ri_calE ri_md (d + 3)) md_97 138 lo [.int x] h rs h') (hV : eh_V h = G) (iv : iS b n m G) (l0 : ri_lk lo 0 = some (.ref 17)) (l1 : ri_lk lo 1 = some (.ref 23)) (l2 : ri_lk lo 2 = some (.int dp)) : (x = 0 ∧ rs = [.int 0] ∧ eh_V h' = G ∧ eh_N h' = eh_N h ∧ iS b n m G) ∨ (∃ (x4 : Int32), ∃ (h2 : ri_H), ¬ (x = 0) ∧ ri_calE ri_md (d + 3) 82 [.ref 2, .int 41] h = some (some (.int x4), h2) ∧ iS b n m (eh_V h2) ∧ x4 = 0 ∧ rs = [.int 0] ∧ eh_V h' = (eh_V h2) ∧ eh_N h' = eh_N h ∧ iS b n m (eh_V h2)) ∨ (∃ (x4 : Int32), ∃ (h2 : ri_H), ¬ (x = 0) ∧ ri_calE ri_md (d + 3) 82 [.ref 2, .int 41] h = some (some (.int x4), h2) ∧ iS b n m (eh_V h2) ∧ ¬ (x4 = 0) ∧ rs = [.int 1] ∧ eh_V h' = (eh_V h2) ∧ eh_N h' = eh_N h ∧ iS b n m (eh_V h2)) := by
  rcases eh_q0 (E.br (p := 141) (c := 0) (tgt := 157) (a := x) (b := 0) (st' := []) rfl (e := (.ifCond .eq 19, 3, [157], .null)) rfl rfl (fun _ _ => rfl) rfl) with ⟨c1, E⟩ | ⟨c1, E⟩
  · skip
    have E := E.pu (p := 158) (lo' := lo) (st' := [.int 0]) rfl (e := (.iconst 0, 1, [], .null)) rfl rfl (fun _ _ => rfl)
    obtain ⟨r1, r2⟩ := E.reti rfl (m := 1) (ax := []) (w := .null) rfl
    exact Or.inl ⟨c1, r1, ((congrArg eh_V r2).trans hV), (congrArg eh_N r2), iv⟩
  · skip
    have E := E.ld (p := 142) (t := ri_isA) (i := 0) (n := 1) (v := .ref 17) rfl (e := (.aload_n 0, 1, [], .null)) rfl rfl (fun _ _ => rfl) l0 rfl
    have E := E.gr (n := 2) (p := 145) rfl (x := 18) (m := 3) (w := .null) (t := 10) (i := 0) (u := 366) rfl rfl hV (iv.1) rfl
    have E := E.pu (p := 147) (lo' := lo) (st' := [.int 41, .ref 2]) rfl (e := (.bipush 41, 2, [], .null)) rfl rfl (fun _ _ => rfl)
    obtain ⟨v1, h2, X, E⟩ := E.cv (p := 150) (as := [.int 41]) (b := 2) (r := []) rfl (x := 61) (m := 3) (w := .null) (j := 82) (n := 1) (t := 8) (u := [1145, 737, 736]) rfl rfl rfl
    obtain ⟨x4, rfl, ivk3, hNk3⟩ := ts_82 (d := d) X (by rw [hV]; exact iv)
    have Xk3 := X
    have E : eh_e _ _ 150 lo [.int x4] h2 rs h' := E
    rcases eh_q0 (E.br (p := 153) (c := 0) (tgt := 157) (a := x4) (b := 0) (st' := []) rfl (e := (.ifCond .eq 7, 3, [157], .null)) rfl rfl (fun _ _ => rfl) rfl) with ⟨c5, E⟩ | ⟨c5, E⟩
    · skip
      have E := E.pu (p := 158) (lo' := lo) (st' := [.int 0]) rfl (e := (.iconst 0, 1, [], .null)) rfl rfl (fun _ _ => rfl)
      obtain ⟨r1, r2⟩ := E.reti rfl (m := 1) (ax := []) (w := .null) rfl
      exact Or.inr (Or.inl ⟨x4, h2, c1, Xk3, ivk3, c5, r1, ((congrArg eh_V r2).trans (rfl : eh_V h2 = eh_V h2)), ((congrArg eh_N r2).trans hNk3), ivk3⟩)
    · skip
      have E := E.pu (p := 154) (lo' := lo) (st' := [.int 1]) rfl (e := (.iconst 1, 1, [], .null)) rfl rfl (fun _ _ => rfl)
      have E := E.pu (p := 158) (lo' := lo) (st' := [.int 1]) rfl (e := (.goto 4, 3, [158], .null)) rfl rfl (fun _ _ => rfl)
      obtain ⟨r1, r2⟩ := E.reti rfl (m := 1) (ax := []) (w := .null) rfl
      exact Or.inr (Or.inr (⟨x4, h2, c1, Xk3, ivk3, c5, r1, ((congrArg eh_V r2).trans (rfl : eh_V h2 = eh_V h2)), ((congrArg eh_N r2).trans hNk3), ivk3⟩))
theorem zo_n {d : Nat} {lo : List (Nat × Value)} {h h' : ri_H} {rs : List Value} {G : eh_W} {x dp : Int32} {b : Nat → Int32} {n m : Nat} (E : eh_e (ri_calE ri_md (d + 1)) md_97 174 lo [.int x] h rs h') (hV : eh_V h = G) (iv : iS b n m G) (l0 : ri_lk lo 0 = some (.ref 17)) (l1 : ri_lk lo 1 = some (.ref 23)) (l2 : ri_lk lo 2 = some (.int dp)) : ∃ (h2 : ri_H), ri_calE ri_md (d + 1) 88 [.ref 18, .int 15, .int (-1), .int (-1)] h = some (none, h2) ∧ iS b n m (eh_V h2) ∧ rs = [.int x] ∧ eh_V h' = (eh_V h2) ∧ eh_N h' = eh_N h ∧ iS b n m (eh_V h2) := by
  have E := E.so (p := 176) (t := ri_isI) (i := 6) (n := 2) rfl (e := (.istore 6, 2, [], .null)) rfl rfl (fun _ _ => rfl) rfl
  have k1_6 : ri_lk (ri_st1 lo 6 (.int x)) 6 = some (.int x) := eh_self
  have k1_0 : ri_lk (ri_st1 lo 6 (.int x)) 0 = some (.ref 17) := eh_keep (by decide) (Or.inl rfl) l0
  have k1_1 : ri_lk (ri_st1 lo 6 (.int x)) 1 = some (.ref 23) := eh_keep (by decide) (Or.inl rfl) l1
  have k1_2 : ri_lk (ri_st1 lo 6 (.int x)) 2 = some (.int dp) := eh_keep (by decide) (Or.inl rfl) l2
  have E := E.ld (p := 177) (t := ri_isA) (i := 0) (n := 1) (v := .ref 17) rfl (e := (.aload_n 0, 1, [], .null)) rfl rfl (fun _ _ => rfl) k1_0 rfl
  have E := E.gr (n := 18) (p := 180) rfl (x := 12) (m := 3) (w := .null) (t := 10) (i := 1) (u := 367) rfl rfl hV (iv.1) rfl
  have E := E.pu (p := 182) (lo' := (ri_st1 lo 6 (.int x))) (st' := [.int 15, .ref 18]) rfl (e := (.bipush 15, 2, [], .null)) rfl rfl (fun _ _ => rfl)
  have E := E.pu (p := 183) (lo' := (ri_st1 lo 6 (.int x))) (st' := [.int (-1), .int 15, .ref 18]) rfl (e := (.iconst (-1), 1, [], .null)) rfl rfl (fun _ _ => rfl)
  have E := E.pu (p := 184) (lo' := (ri_st1 lo 6 (.int x))) (st' := [.int (-1), .int (-1), .int 15, .ref 18]) rfl (e := (.iconst (-1), 1, [], .null)) rfl rfl (fun _ _ => rfl)
  obtain ⟨v1, h2, X, E⟩ := E.cv (p := 187) (as := [.int 15, .int (-1), .int (-1)]) (b := 18) (r := []) rfl (x := 45) (m := 3) (w := .null) (j := 88) (n := 3) (t := 9) (u := [1146, 1148, 1147]) rfl rfl rfl
  obtain ⟨rfl, ivk3, hNk3⟩ := ts_88 (d := d) X (by rw [hV]; exact iv)
  have Xk3 := X
  have E : eh_e _ _ 187 (ri_st1 lo 6 (.int x)) [] h2 rs h' := E
  have E := E.ld (p := 189) (t := ri_isI) (i := 6) (n := 2) (v := .int x) rfl (e := (.iload 6, 2, [], .null)) rfl rfl (fun _ _ => rfl) k1_6 rfl
  obtain ⟨r1, r2⟩ := E.reti rfl (m := 1) (ax := []) (w := .null) rfl
  exact ⟨h2, Xk3, ivk3, r1, ((congrArg eh_V r2).trans (rfl : eh_V h2 = eh_V h2)), ((congrArg eh_N r2).trans hNk3), ivk3⟩
