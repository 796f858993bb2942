theorem zr_242 {d : Nat} {h h' : ri_H} {v : Option Value} {G : eh_W} {b : Nat → Int32} {n m : Nat} {wh si nu : Int32} (E : ri_calE ri_md (d + 1) 242 [.ref 0, .int wh, .int si, .int nu] h = some (v, h')) (hV : eh_V h = G) (iv : iT b n m G) : v = none ∧ eh_V h' = eh_u (eh_u (eh_u (eh_u G 4 (3 * (eh_i G 0 39)).toNatClampNeg (.int wh)) 4 ((3 * (eh_i G 0 39)) + 1).toNatClampNeg (.int si)) 4 ((3 * (eh_i G 0 39)) + 2).toNatClampNeg (.int nu)) 0 39 (.int ((eh_i G 0 39) + 1)) ∧ eh_N h' = eh_N h ∧ iT b n m (eh_u (eh_u (eh_u (eh_u G 4 (3 * (eh_i G 0 39)).toNatClampNeg (.int wh)) 4 ((3 * (eh_i G 0 39)) + 1).toNatClampNeg (.int si)) 4 ((3 * (eh_i G 0 39)) + 2).toNatClampNeg (.int nu)) 0 39 (.int ((eh_i G 0 39) + 1))) := by
  obtain ⟨rs, hrs, E⟩ := eh_in E (q := md_242) rfl
  have E := E.ld (p := 1) (t := ri_isA) (i := 0) (n := 1) (v := .ref 0) rfl (e := (.aload_n 0, 1, [], .null)) rfl rfl (fun _ _ => rfl) rfl rfl
  have E := E.gr (n := 4) (p := 4) rfl (x := 40) (m := 3) (w := .null) (t := 12) (i := 8) (u := 1332) rfl rfl hV (iv.1) rfl
  have E := E.pu (p := 5) (lo' := (ri_as 0 [.ref 0, .int wh, .int si, .int nu])) (st' := [.int 3, .ref 4]) rfl (e := (.iconst 3, 1, [], .null)) rfl rfl (fun _ _ => rfl)
  have E := E.ld (p := 6) (t := ri_isA) (i := 0) (n := 1) (v := .ref 0) rfl (e := (.aload_n 0, 1, [], .null)) rfl rfl (fun _ _ => rfl) rfl rfl
  have E := E.gi (y := eh_i G 0 39) (p := 9) rfl (x := 397) (m := 3) (w := .null) (t := 12) (i := 39) (u := 1363) rfl rfl hV (iv.1) rfl rfl
  have E := E.pu (p := 10) (lo' := (ri_as 0 [.ref 0, .int wh, .int si, .int nu])) (st' := [.int (3 * (eh_i G 0 39)), .ref 4]) rfl (e := (.imul, 1, [], .null)) rfl rfl (fun _ _ => rfl)
  have E := E.ld (p := 11) (t := ri_isI) (i := 1) (n := 1) (v := .int wh) rfl (e := (.iload_n 1, 1, [], .null)) rfl rfl (fun _ _ => rfl) rfl rfl
  obtain ⟨h1, hV2, hN3, E⟩ := E.aw (gg := ri_g1) (b := true) (p := 12) (n := (3 * (eh_i G 0 39)).toNatClampNeg) rfl (e := (.iastore, 1, [], .null)) rfl rfl (fun _ _ => rfl) rfl hV rfl
  have E := E.ld (p := 13) (t := ri_isA) (i := 0) (n := 1) (v := .ref 0) rfl (e := (.aload_n 0, 1, [], .null)) rfl rfl (fun _ _ => rfl) rfl rfl
  have E := E.gr (n := 4) (p := 16) rfl (x := 40) (m := 3) (w := .null) (t := 12) (i := 8) (u := 1332) rfl rfl hV2 ((iv.1).ui rfl) rfl
  have E := E.pu (p := 17) (lo' := (ri_as 0 [.ref 0, .int wh, .int si, .int nu])) (st' := [.int 3, .ref 4]) rfl (e := (.iconst 3, 1, [], .null)) rfl rfl (fun _ _ => rfl)
  have E := E.ld (p := 18) (t := ri_isA) (i := 0) (n := 1) (v := .ref 0) rfl (e := (.aload_n 0, 1, [], .null)) rfl rfl (fun _ _ => rfl) rfl rfl
  have E := E.gi (y := eh_i G 0 39) (p := 21) rfl (x := 397) (m := 3) (w := .null) (t := 12) (i := 39) (u := 1363) rfl rfl hV2 ((iv.1).ui rfl) rfl rfl
  have E := E.pu (p := 22) (lo' := (ri_as 0 [.ref 0, .int wh, .int si, .int nu])) (st' := [.int (3 * (eh_i G 0 39)), .ref 4]) rfl (e := (.imul, 1, [], .null)) rfl rfl (fun _ _ => rfl)
  have E := E.pu (p := 23) (lo' := (ri_as 0 [.ref 0, .int wh, .int si, .int nu])) (st' := [.int 1, .int (3 * (eh_i G 0 39)), .ref 4]) rfl (e := (.iconst 1, 1, [], .null)) rfl rfl (fun _ _ => rfl)
  have E := E.pu (p := 24) (lo' := (ri_as 0 [.ref 0, .int wh, .int si, .int nu])) (st' := [.int ((3 * (eh_i G 0 39)) + 1), .ref 4]) rfl (e := (.iadd, 1, [], .null)) rfl rfl (fun _ _ => rfl)
  have E := E.ld (p := 25) (t := ri_isI) (i := 2) (n := 1) (v := .int si) rfl (e := (.iload_n 2, 1, [], .null)) rfl rfl (fun _ _ => rfl) rfl rfl
  obtain ⟨h4, hV5, hN6, E⟩ := E.aw (gg := ri_g1) (b := true) (p := 26) (n := ((3 * (eh_i G 0 39)) + 1).toNatClampNeg) rfl (e := (.iastore, 1, [], .null)) rfl rfl (fun _ _ => rfl) rfl hV2 rfl
  have E := E.ld (p := 27) (t := ri_isA) (i := 0) (n := 1) (v := .ref 0) rfl (e := (.aload_n 0, 1, [], .null)) rfl rfl (fun _ _ => rfl) rfl rfl
  have E := E.gr (n := 4) (p := 30) rfl (x := 40) (m := 3) (w := .null) (t := 12) (i := 8) (u := 1332) rfl rfl hV5 (((iv.1).ui rfl).ui rfl) rfl
  have E := E.pu (p := 31) (lo' := (ri_as 0 [.ref 0, .int wh, .int si, .int nu])) (st' := [.int 3, .ref 4]) rfl (e := (.iconst 3, 1, [], .null)) rfl rfl (fun _ _ => rfl)
  have E := E.ld (p := 32) (t := ri_isA) (i := 0) (n := 1) (v := .ref 0) rfl (e := (.aload_n 0, 1, [], .null)) rfl rfl (fun _ _ => rfl) rfl rfl
  have E := E.gi (y := eh_i G 0 39) (p := 35) rfl (x := 397) (m := 3) (w := .null) (t := 12) (i := 39) (u := 1363) rfl rfl hV5 (((iv.1).ui rfl).ui rfl) rfl rfl
  have E := E.pu (p := 36) (lo' := (ri_as 0 [.ref 0, .int wh, .int si, .int nu])) (st' := [.int (3 * (eh_i G 0 39)), .ref 4]) rfl (e := (.imul, 1, [], .null)) rfl rfl (fun _ _ => rfl)
  have E := E.pu (p := 37) (lo' := (ri_as 0 [.ref 0, .int wh, .int si, .int nu])) (st' := [.int 2, .int (3 * (eh_i G 0 39)), .ref 4]) rfl (e := (.iconst 2, 1, [], .null)) rfl rfl (fun _ _ => rfl)
  have E := E.pu (p := 38) (lo' := (ri_as 0 [.ref 0, .int wh, .int si, .int nu])) (st' := [.int ((3 * (eh_i G 0 39)) + 2), .ref 4]) rfl (e := (.iadd, 1, [], .null)) rfl rfl (fun _ _ => rfl)
  have E := E.ld (p := 39) (t := ri_isI) (i := 3) (n := 1) (v := .int nu) rfl (e := (.iload_n 3, 1, [], .null)) rfl rfl (fun _ _ => rfl) rfl rfl
  obtain ⟨h7, hV8, hN9, E⟩ := E.aw (gg := ri_g1) (b := true) (p := 40) (n := ((3 * (eh_i G 0 39)) + 2).toNatClampNeg) rfl (e := (.iastore, 1, [], .null)) rfl rfl (fun _ _ => rfl) rfl hV5 rfl
  have E := E.ld (p := 41) (t := ri_isA) (i := 0) (n := 1) (v := .ref 0) rfl (e := (.aload_n 0, 1, [], .null)) rfl rfl (fun _ _ => rfl) rfl rfl
  have E := E.pu (p := 42) (lo' := (ri_as 0 [.ref 0, .int wh, .int si, .int nu])) (st' := [.ref 0, .ref 0]) rfl (e := (.dup, 1, [], .null)) rfl rfl (fun _ _ => rfl)
  have E := E.gi (y := eh_i G 0 39) (p := 45) rfl (x := 397) (m := 3) (w := .null) (t := 12) (i := 39) (u := 1363) rfl rfl hV8 ((((iv.1).ui rfl).ui rfl).ui rfl) rfl rfl
  have E := E.pu (p := 46) (lo' := (ri_as 0 [.ref 0, .int wh, .int si, .int nu])) (st' := [.int 1, .int (eh_i G 0 39), .ref 0]) rfl (e := (.iconst 1, 1, [], .null)) rfl rfl (fun _ _ => rfl)
  have E := E.pu (p := 47) (lo' := (ri_as 0 [.ref 0, .int wh, .int si, .int nu])) (st' := [.int ((eh_i G 0 39) + 1), .ref 0]) rfl (e := (.iadd, 1, [], .null)) rfl rfl (fun _ _ => rfl)
  obtain ⟨h10, hV11, hN12, E⟩ := E.gp (p := 50) rfl (x := 397) (m := 3) (w := .null) (t := 12) (i := 39) (u := 1363) (y := 0) rfl rfl hV8
  obtain ⟨r1, r2⟩ := E.retv rfl (m := 1) (ax := []) (w := .null) rfl
  exact ⟨(by rw [← hrs, r1]; rfl), ((congrArg eh_V r2).trans hV11), ((congrArg eh_N r2).trans (hN12.trans (hN9.trans (hN6.trans hN3)))), (iT_u (iT_u (iT_u (iT_u iv ((iv.1).ui rfl) rfl) (((iv.1).ui rfl).ui rfl) rfl) ((((iv.1).ui rfl).ui rfl).ui rfl) rfl) (((((iv.1).ui rfl).ui rfl).ui rfl).ui rfl) rfl)⟩
theorem ts_242 {d : Nat} {h h' : ri_H} {v : Option Value} {b : Nat → Int32} {n m : Nat} {wh : Int32} {si : Int32} {nu : Int32} (E : ri_calE ri_md (d + 1) 242 [.ref 0, .int wh, .int si, .int nu] h = some (v, h')) (iv : iT b n m (eh_V h)) : v = none ∧ iT b n m (eh_V h') ∧ eh_N h' = eh_N h := by
  obtain ⟨r1, r2, r3, r4⟩ := zr_242 E rfl iv
  exact ⟨r1, by rw [r2]; exact r4, r3⟩
theorem zn_l {d : Nat} {lo : List (Nat × Value)} {h h' : ri_H} {rs : List Value} {G : eh_W} {b : Nat → Int32} {n m : Nat} (E : eh_e (ri_calE ri_md (d + 1)) md_244 0 lo [] h rs h') (hV : eh_V h = G) (iv : iT b n m G) (l0 : ri_lk lo 0 = some (.ref 0)) : (¬ (0 < (eh_i G 0 41).toInt) ∧ rs = [] ∧ eh_V h' = G ∧ eh_N h' = eh_N h ∧ iT b n m G) ∨ (0 < (eh_i G 0 41).toInt ∧ ¬ ((eh_i G 13 ((eh_i G 0 41) - 1).toNatClampNeg) = 20) ∧ rs = [] ∧ eh_V h' = G ∧ eh_N h' = eh_N h ∧ iT b n m G) ∨ (∃ (h6 : ri_H), ∃ (h9 : ri_H), 0 < (eh_i G 0 41).toInt ∧ (eh_i G 13 ((eh_i G 0 41) - 1).toNatClampNeg) = 20 ∧ eh_V h6 = eh_u (eh_u G 0 41 (.int ((eh_i G 0 41) - 1))) 0 42 (.int ((eh_i G 0 42) - 1)) ∧ ri_calE ri_md (d + 1) 242 [.ref 0, .int 20, .int 0, .int 0] h6 = some (none, h9) ∧ iT b n m (eh_V h9) ∧ ∃ hz loz, eh_e (ri_calE ri_md (d + 1)) md_244 0 loz [] hz rs h' ∧ eh_V hz = (eh_V h9) ∧ eh_N hz = eh_N h ∧ iT b n m (eh_V h9) ∧ ri_lk loz 0 = some (.ref 0)) := by
  have E := E.ld (p := 1) (t := ri_isA) (i := 0) (n := 1) (v := .ref 0) rfl (e := (.aload_n 0, 1, [], .null)) rfl rfl (fun _ _ => rfl) l0 rfl
  have E := E.gi (y := eh_i G 0 41) (p := 4) rfl (x := 400) (m := 3) (w := .null) (t := 12) (i := 41) (u := 1365) rfl rfl hV (iv.1) rfl rfl
  rcases eh_r5 rfl (show (0 : Int32).toInt = 0 by decide) (E.br (p := 7) (c := 5) (tgt := 54) (a := eh_i G 0 41) (b := 0) (st' := []) rfl (e := (.ifCond .le 50, 3, [54], .null)) rfl rfl (fun _ _ => rfl) rfl) with ⟨c1, E⟩ | ⟨c1, E⟩
  · skip
    obtain ⟨r1, r2⟩ := E.retv rfl (m := 1) (ax := []) (w := .null) rfl
    exact Or.inl ⟨c1, r1, ((congrArg eh_V r2).trans hV), (congrArg eh_N r2), iv⟩
  · skip
    have E := E.ld (p := 8) (t := ri_isA) (i := 0) (n := 1) (v := .ref 0) rfl (e := (.aload_n 0, 1, [], .null)) rfl rfl (fun _ _ => rfl) l0 rfl
    have E := E.gr (n := 13) (p := 11) rfl (x := 69) (m := 3) (w := .null) (t := 12) (i := 38) (u := 1362) rfl rfl hV (iv.1) rfl
    have E := E.ld (p := 12) (t := ri_isA) (i := 0) (n := 1) (v := .ref 0) rfl (e := (.aload_n 0, 1, [], .null)) rfl rfl (fun _ _ => rfl) l0 rfl
    have E := E.gi (y := eh_i G 0 41) (p := 15) rfl (x := 400) (m := 3) (w := .null) (t := 12) (i := 41) (u := 1365) rfl rfl hV (iv.1) rfl rfl
    have E := E.pu (p := 16) (lo' := lo) (st' := [.int 1, .int (eh_i G 0 41), .ref 13]) rfl (e := (.iconst 1, 1, [], .null)) rfl rfl (fun _ _ => rfl)
    have E := E.pu (p := 17) (lo' := lo) (st' := [.int ((eh_i G 0 41) - 1), .ref 13]) rfl (e := (.isub, 1, [], .null)) rfl rfl (fun _ _ => rfl)
    have E := E.ai (p := 18) (z := eh_i G 13 ((eh_i G 0 41) - 1).toNatClampNeg) (n := ((eh_i G 0 41) - 1).toNatClampNeg) rfl (e := (.iaload, 1, [], .null)) rfl rfl (fun _ _ => rfl) rfl hV (iv.1) rfl rfl rfl
    have E := E.pu (p := 20) (lo' := lo) (st' := [.int 20, .int (eh_i G 13 ((eh_i G 0 41) - 1).toNatClampNeg)]) rfl (e := (.bipush 20, 2, [], .null)) rfl rfl (fun _ _ => rfl)
    rcases eh_q1 (E.br (p := 23) (c := 1) (tgt := 54) (a := eh_i G 13 ((eh_i G 0 41) - 1).toNatClampNeg) (b := 20) (st' := []) rfl (e := (.if_icmp .ne 34, 3, [54], .null)) rfl rfl (fun _ _ => rfl) rfl) with ⟨c2, E⟩ | ⟨c2, E⟩
    · skip
      obtain ⟨r1, r2⟩ := E.retv rfl (m := 1) (ax := []) (w := .null) rfl
      exact Or.inr (Or.inl ⟨c1, c2, r1, ((congrArg eh_V r2).trans hV), (congrArg eh_N r2), iv⟩)
    · skip
      have E := E.ld (p := 24) (t := ri_isA) (i := 0) (n := 1) (v := .ref 0) rfl (e := (.aload_n 0, 1, [], .null)) rfl rfl (fun _ _ => rfl) l0 rfl
      have E := E.pu (p := 25) (lo' := lo) (st' := [.ref 0, .ref 0]) rfl (e := (.dup, 1, [], .null)) rfl rfl (fun _ _ => rfl)
      have E := E.gi (y := eh_i G 0 41) (p := 28) rfl (x := 400) (m := 3) (w := .null) (t := 12) (i := 41) (u := 1365) rfl rfl hV (iv.1) rfl rfl
      have E := E.pu (p := 29) (lo' := lo) (st' := [.int 1, .int (eh_i G 0 41), .ref 0]) rfl (e := (.iconst 1, 1, [], .null)) rfl rfl (fun _ _ => rfl)
      have E := E.pu (p := 30) (lo' := lo) (st' := [.int ((eh_i G 0 41) - 1), .ref 0]) rfl (e := (.isub, 1, [], .null)) rfl rfl (fun _ _ => rfl)
      obtain ⟨h3, hV4, hN5, E⟩ := E.gp (p := 33) rfl (x := 400) (m := 3) (w := .null) (t := 12) (i := 41) (u := 1365) (y := 0) rfl rfl hV
      have E := E.ld (p := 34) (t := ri_isA) (i := 0) (n := 1) (v := .ref 0) rfl (e := (.aload_n 0, 1, [], .null)) rfl rfl (fun _ _ => rfl) l0 rfl
      have E := E.pu (p := 35) (lo' := lo) (st' := [.ref 0, .ref 0]) rfl (e := (.dup, 1, [], .null)) rfl rfl (fun _ _ => rfl)
      have E := E.gi (y := eh_i G 0 42) (p := 38) rfl (x := 407) (m := 3) (w := .null) (t := 12) (i := 42) (u := 1366) rfl rfl hV4 ((iv.1).ui rfl) rfl rfl
      have E := E.pu (p := 39) (lo' := lo) (st' := [.int 1, .int (eh_i G 0 42), .ref 0]) rfl (e := (.iconst 1, 1, [], .null)) rfl rfl (fun _ _ => rfl)
      have E := E.pu (p := 40) (lo' := lo) (st' := [.int ((eh_i G 0 42) - 1), .ref 0]) rfl (e := (.isub, 1, [], .null)) rfl rfl (fun _ _ => rfl)
      obtain ⟨h6, hV7, hN8, E⟩ := E.gp (p := 43) rfl (x := 407) (m := 3) (w := .null) (t := 12) (i := 42) (u := 1366) (y := 0) rfl rfl hV4
      have E := E.ld (p := 44) (t := ri_isA) (i := 0) (n := 1) (v := .ref 0) rfl (e := (.aload_n 0, 1, [], .null)) rfl rfl (fun _ _ => rfl) l0 rfl
      have E := E.pu (p := 46) (lo' := lo) (st' := [.int 20, .ref 0]) rfl (e := (.bipush 20, 2, [], .null)) rfl rfl (fun _ _ => rfl)
      have E := E.pu (p := 47) (lo' := lo) (st' := [.int 0, .int 20, .ref 0]) rfl (e := (.iconst 0, 1, [], .null)) rfl rfl (fun _ _ => rfl)
      have E := E.pu (p := 48) (lo' := lo) (st' := [.int 0, .int 0, .int 20, .ref 0]) rfl (e := (.iconst 0, 1, [], .null)) rfl rfl (fun _ _ => rfl)
      obtain ⟨v1, h9, X, E⟩ := E.cv (p := 51) (as := [.int 20, .int 0, .int 0]) (b := 0) (r := []) rfl (x := 403) (m := 3) (w := .null) (j := 242) (n := 3) (t := 12) (u := [1846, 91, 1848]) rfl rfl rfl
      obtain ⟨rfl, ivk10, hNk10⟩ := ts_242 (d := d) X (by rw [hV7]; exact (iT_u (iT_u iv ((iv.1).ui rfl) rfl) (((iv.1).ui rfl).ui rfl) rfl))
      have Xk10 := X
      have E : eh_e _ _ 51 lo [] h9 rs h' := E
      have E := E.pu (p := 0) (lo' := lo) (st' := []) rfl (e := (.goto (-51), 3, [0], .null)) rfl rfl (fun _ _ => rfl)
      exact Or.inr (Or.inr (⟨h6, h9, c1, c2, hV7, Xk10, ivk10, _, _, E, (rfl : eh_V h9 = eh_V h9), (hNk10.trans (hN8.trans hN5)), ivk10, l0⟩))
theorem zj_l {d : Nat} {lo : List (Nat × Value)} {h h' : ri_H} {rs : List Value} {G : eh_W} {b : Nat → Int32} {n m : Nat} {ti : Int32} (E : eh_e (ri_calE ri_md (d + 1)) md_243 0 lo [] h rs h') (hV : eh_V h = G) (iv : iT b n m G) (l0 : ri_lk lo 0 = some (.ref 0)) (l1 : ri_lk lo 1 = some (.int ti)) : (¬ (0 < (eh_i G 0 41).toInt) ∧ rs = [] ∧ eh_V h' = G ∧ eh_N h' = eh_N h ∧ iT b n m G) ∨ (∃ (h3 : ri_H), ∃ (h6 : ri_H), 0 < (eh_i G 0 41).toInt ∧ (eh_i G 13 ((eh_i G 0 41) - 1).toNatClampNeg) = 21 ∧ eh_V h3 = eh_u G 0 41 (.int ((eh_i G 0 41) - 1)) ∧ ri_calE ri_md (d + 1) 242 [.ref 0, .int (eh_i G 13 ((eh_i G 0 41) - 1).toNatClampNeg), .int 0, .int 0] h3 = some (none, h6) ∧ iT b n m (eh_V h6) ∧ ∃ hz loz, eh_e (ri_calE ri_md (d + 1)) md_243 0 loz [] hz rs h' ∧ eh_V hz = (eh_V h6) ∧ eh_N hz = eh_N h ∧ iT b n m (eh_V h6) ∧ ri_lk loz 0 = some (.ref 0) ∧ ri_lk loz 1 = some (.int ti)) ∨ (0 < (eh_i G 0 41).toInt ∧ ¬ ((eh_i G 13 ((eh_i G 0 41) - 1).toNatClampNeg) = 21) ∧ ¬ ((eh_i G 13 ((eh_i G 0 41) - 1).toNatClampNeg) = 22) ∧ rs = [] ∧ eh_V h' = G ∧ eh_N h' = eh_N h ∧ iT b n m G) ∨ (0 < (eh_i G 0 41).toInt ∧ ¬ ((eh_i G 13 ((eh_i G 0 41) - 1).toNatClampNeg) = 21) ∧ (eh_i G 13 ((eh_i G 0 41) - 1).toNatClampNeg) = 22 ∧ ¬ (ti = 22) ∧ rs = [] ∧ eh_V h' = G ∧ eh_N h' = eh_N h ∧ iT b n m G) ∨ (∃ (h10 : ri_H), ∃ (h13 : ri_H), 0 < (eh_i G 0 41).toInt ∧ ¬ ((eh_i G 13 ((eh_i G 0 41) - 1).toNatClampNeg) = 21) ∧ (eh_i G 13 ((eh_i G 0 41) - 1).toNatClampNeg) = 22 ∧ ti = 22 ∧ eh_V h10 = eh_u G 0 41 (.int ((eh_i G 0 41) - 1)) ∧ ri_calE ri_md (d + 1) 242 [.ref 0, .int (eh_i G 13 ((eh_i G 0 41) - 1).toNatClampNeg), .int 0, .int 0] h10 = some (none, h13) ∧ iT b n m (eh_V h13) ∧ ∃ hz loz, eh_e (ri_calE ri_md (d + 1)) md_243 0 loz [] hz rs h' ∧ eh_V hz = (eh_V h13) ∧ eh_N hz = eh_N h ∧ iT b n m (eh_V h13) ∧ ri_lk loz 0 = some (.ref 0) ∧ ri_lk loz 1 = some (.int ti)) := by
  have E := E.ld (p := 1) (t := ri_isA) (i := 0) (n := 1) (v := .ref 0) rfl (e := (.aload_n 0, 1, [], .null)) rfl rfl (fun _ _ => rfl) l0 rfl
  have E := E.gi (y := eh_i G 0 41) (p := 4) rfl (x := 400) (m := 3) (w := .null) (t := 12) (i := 41) (u := 1365) rfl rfl hV (iv.1) rfl rfl
  rcases eh_r5 rfl (show (0 : Int32).toInt = 0 by decide) (E.br (p := 7) (c := 5) (tgt := 73) (a := eh_i G 0 41) (b := 0) (st' := []) rfl (e := (.ifCond .le 69, 3, [73], .null)) rfl rfl (fun _ _ => rfl) rfl) with ⟨c1, E⟩ | ⟨c1, E⟩
  · skip
    obtain ⟨r1, r2⟩ := E.retv rfl (m := 1) (ax := []) (w := .null) rfl
    exact Or.inl ⟨c1, r1, ((congrArg eh_V r2).trans hV), (congrArg eh_N r2), iv⟩
  · skip
    have E := E.ld (p := 8) (t := ri_isA) (i := 0) (n := 1) (v := .ref 0) rfl (e := (.aload_n 0, 1, [], .null)) rfl rfl (fun _ _ => rfl) l0 rfl
    have E := E.gr (n := 13) (p := 11) rfl (x := 69) (m := 3) (w := .null) (t := 12) (i := 38) (u := 1362) rfl rfl hV (iv.1) rfl
    have E := E.ld (p := 12) (t := ri_isA) (i := 0) (n := 1) (v := .ref 0) rfl (e := (.aload_n 0, 1, [], .null)) rfl rfl (fun _ _ => rfl) l0 rfl
    have E := E.gi (y := eh_i G 0 41) (p := 15) rfl (x := 400) (m := 3) (w := .null) (t := 12) (i := 41) (u := 1365) rfl rfl hV (iv.1) rfl rfl
    have E := E.pu (p := 16) (lo' := lo) (st' := [.int 1, .int (eh_i G 0 41), .ref 13]) rfl (e := (.iconst 1, 1, [], .null)) rfl rfl (fun _ _ => rfl)
    have E := E.pu (p := 17) (lo' := lo) (st' := [.int ((eh_i G 0 41) - 1), .ref 13]) rfl (e := (.isub, 1, [], .null)) rfl rfl (fun _ _ => rfl)
    have E := E.ai (p := 18) (z := eh_i G 13 ((eh_i G 0 41) - 1).toNatClampNeg) (n := ((eh_i G 0 41) - 1).toNatClampNeg) rfl (e := (.iaload, 1, [], .null)) rfl rfl (fun _ _ => rfl) rfl hV (iv.1) rfl rfl rfl
    have E := E.pu (p := 20) (lo' := lo) (st' := [.int 21, .int (eh_i G 13 ((eh_i G 0 41) - 1).toNatClampNeg)]) rfl (e := (.bipush 21, 2, [], .null)) rfl rfl (fun _ _ => rfl)
    rcases eh_q0 (E.br (p := 23) (c := 0) (tgt := 45) (a := eh_i G 13 ((eh_i G 0 41) - 1).toNatClampNeg) (b := 21) (st' := []) rfl (e := (.if_icmp .eq 25, 3, [45], .null)) rfl rfl (fun _ _ => rfl) rfl) with ⟨c2, E⟩ | ⟨c2, E⟩
    · skip
      have E := E.ld (p := 46) (t := ri_isA) (i := 0) (n := 1) (v := .ref 0) rfl (e := (.aload_n 0, 1, [], .null)) rfl rfl (fun _ _ => rfl) l0 rfl
      have E := E.pu (p := 47) (lo' := lo) (st' := [.ref 0, .ref 0]) rfl (e := (.dup, 1, [], .null)) rfl rfl (fun _ _ => rfl)
      have E := E.gi (y := eh_i G 0 41) (p := 50) rfl (x := 400) (m := 3) (w := .null) (t := 12) (i := 41) (u := 1365) rfl rfl hV (iv.1) rfl rfl
      have E := E.pu (p := 51) (lo' := lo) (st' := [.int 1, .int (eh_i G 0 41), .ref 0]) rfl (e := (.iconst 1, 1, [], .null)) rfl rfl (fun _ _ => rfl)
      have E := E.pu (p := 52) (lo' := lo) (st' := [.int ((eh_i G 0 41) - 1), .ref 0]) rfl (e := (.isub, 1, [], .null)) rfl rfl (fun _ _ => rfl)
      obtain ⟨h3, hV4, hN5, E⟩ := E.gp (p := 55) rfl (x := 400) (m := 3) (w := .null) (t := 12) (i := 41) (u := 1365) (y := 0) rfl rfl hV
      have E := E.ld (p := 56) (t := ri_isA) (i := 0) (n := 1) (v := .ref 0) rfl (e := (.aload_n 0, 1, [], .null)) rfl rfl (fun _ _ => rfl) l0 rfl
      have E := E.ld (p := 57) (t := ri_isA) (i := 0) (n := 1) (v := .ref 0) rfl (e := (.aload_n 0, 1, [], .null)) rfl rfl (fun _ _ => rfl) l0 rfl
      have E := E.gr (n := 13) (p := 60) rfl (x := 69) (m := 3) (w := .null) (t := 12) (i := 38) (u := 1362) rfl rfl hV4 ((iv.1).ui rfl) rfl
      have E := E.ld (p := 61) (t := ri_isA) (i := 0) (n := 1) (v := .ref 0) rfl (e := (.aload_n 0, 1, [], .null)) rfl rfl (fun _ _ => rfl) l0 rfl
      have E := E.gi (y := (eh_i G 0 41) - 1) (p := 64) rfl (x := 400) (m := 3) (w := .null) (t := 12) (i := 41) (u := 1365) rfl rfl hV4 ((iv.1).ui rfl) rfl rfl
      have E := E.ai (p := 65) (z := eh_i G 13 ((eh_i G 0 41) - 1).toNatClampNeg) (n := ((eh_i G 0 41) - 1).toNatClampNeg) rfl (e := (.iaload, 1, [], .null)) rfl rfl (fun _ _ => rfl) rfl hV4 ((iv.1).ui rfl) rfl rfl rfl
      have E := E.pu (p := 66) (lo' := lo) (st' := [.int 0, .int (eh_i G 13 ((eh_i G 0 41) - 1).toNatClampNeg), .ref 0]) rfl (e := (.iconst 0, 1, [], .null)) rfl rfl (fun _ _ => rfl)
      have E := E.pu (p := 67) (lo' := lo) (st' := [.int 0, .int 0, .int (eh_i G 13 ((eh_i G 0 41) - 1).toNatClampNeg), .ref 0]) rfl (e := (.iconst 0, 1, [], .null)) rfl rfl (fun _ _ => rfl)
      obtain ⟨v1, h6, X, E⟩ := E.cv (p := 70) (as := [.int (eh_i G 13 ((eh_i G 0 41) - 1).toNatClampNeg), .int 0, .int 0]) (b := 0) (r := []) rfl (x := 403) (m := 3) (w := .null) (j := 242) (n := 3) (t := 12) (u := [1846, 91, 1848]) rfl rfl rfl
      obtain ⟨rfl, ivk7, hNk7⟩ := ts_242 (d := d) X (by rw [hV4]; exact (iT_u iv ((iv.1).ui rfl) rfl))
      have Xk7 := X
      have E : eh_e _ _ 70 lo [] h6 rs h' := E
      have E := E.pu (p := 0) (lo' := lo) (st' := []) rfl (e := (.goto (-70), 3, [0], .null)) rfl rfl (fun _ _ => rfl)
      exact Or.inr (Or.inl ⟨h3, h6, c1, c2, hV4, Xk7, ivk7, _, _, E, (rfl : eh_V h6 = eh_V h6), (hNk7.trans hN5), ivk7, l0, l1⟩)
    · skip
      have E := E.ld (p := 24) (t := ri_isA) (i := 0) (n := 1) (v := .ref 0) rfl (e := (.aload_n 0, 1, [], .null)) rfl rfl (fun _ _ => rfl) l0 rfl
      have E := E.gr (n := 13) (p := 27) rfl (x := 69) (m := 3) (w := .null) (t := 12) (i := 38) (u := 1362) rfl rfl hV (iv.1) rfl
      have E := E.ld (p := 28) (t := ri_isA) (i := 0) (n := 1) (v := .ref 0) rfl (e := (.aload_n 0, 1, [], .null)) rfl rfl (fun _ _ => rfl) l0 rfl
      have E := E.gi (y := eh_i G 0 41) (p := 31) rfl (x := 400) (m := 3) (w := .null) (t := 12) (i := 41) (u := 1365) rfl rfl hV (iv.1) rfl rfl
      have E := E.pu (p := 32) (lo' := lo) (st' := [.int 1, .int (eh_i G 0 41), .ref 13]) rfl (e := (.iconst 1, 1, [], .null)) rfl rfl (fun _ _ => rfl)
      have E := E.pu (p := 33) (lo' := lo) (st' := [.int ((eh_i G 0 41) - 1), .ref 13]) rfl (e := (.isub, 1, [], .null)) rfl rfl (fun _ _ => rfl)
      have E := E.ai (p := 34) (z := eh_i G 13 ((eh_i G 0 41) - 1).toNatClampNeg) (n := ((eh_i G 0 41) - 1).toNatClampNeg) rfl (e := (.iaload, 1, [], .null)) rfl rfl (fun _ _ => rfl) rfl hV (iv.1) rfl rfl rfl
      have E := E.pu (p := 36) (lo' := lo) (st' := [.int 22, .int (eh_i G 13 ((eh_i G 0 41) - 1).toNatClampNeg)]) rfl (e := (.bipush 22, 2, [], .null)) rfl rfl (fun _ _ => rfl)
      rcases eh_q1 (E.br (p := 39) (c := 1) (tgt := 73) (a := eh_i G 13 ((eh_i G 0 41) - 1).toNatClampNeg) (b := 22) (st' := []) rfl (e := (.if_icmp .ne 37, 3, [73], .null)) rfl rfl (fun _ _ => rfl) rfl) with ⟨c8, E⟩ | ⟨c8, E⟩
      · skip
        obtain ⟨r1, r2⟩ := E.retv rfl (m := 1) (ax := []) (w := .null) rfl
        exact Or.inr (Or.inr (Or.inl ⟨c1, c2, c8, r1, ((congrArg eh_V r2).trans hV), (congrArg eh_N r2), iv⟩))
      · skip
        have E := E.ld (p := 40) (t := ri_isI) (i := 1) (n := 1) (v := .int ti) rfl (e := (.iload_n 1, 1, [], .null)) rfl rfl (fun _ _ => rfl) l1 rfl
        have E := E.pu (p := 42) (lo' := lo) (st' := [.int 22, .int ti]) rfl (e := (.bipush 22, 2, [], .null)) rfl rfl (fun _ _ => rfl)
        rcases eh_q1 (E.br (p := 45) (c := 1) (tgt := 73) (a := ti) (b := 22) (st' := []) rfl (e := (.if_icmp .ne 31, 3, [73], .null)) rfl rfl (fun _ _ => rfl) rfl) with ⟨c9, E⟩ | ⟨c9, E⟩
        · skip
          obtain ⟨r1, r2⟩ := E.retv rfl (m := 1) (ax := []) (w := .null) rfl
          exact Or.inr (Or.inr (Or.inr (Or.inl ⟨c1, c2, c8, c9, r1, ((congrArg eh_V r2).trans hV), (congrArg eh_N r2), iv⟩)))
        · skip
          have E := E.ld (p := 46) (t := ri_isA) (i := 0) (n := 1) (v := .ref 0) rfl (e := (.aload_n 0, 1, [], .null)) rfl rfl (fun _ _ => rfl) l0 rfl
          have E := E.pu (p := 47) (lo' := lo) (st' := [.ref 0, .ref 0]) rfl (e := (.dup, 1, [], .null)) rfl rfl (fun _ _ => rfl)
          have E := E.gi (y := eh_i G 0 41) (p := 50) rfl (x := 400) (m := 3) (w := .null) (t := 12) (i := 41) (u := 1365) rfl rfl hV (iv.1) rfl rfl
          have E := E.pu (p := 51) (lo' := lo) (st' := [.int 1, .int (eh_i G 0 41), .ref 0]) rfl (e := (.iconst 1, 1, [], .null)) rfl rfl (fun _ _ => rfl)
          have E := E.pu (p := 52) (lo' := lo) (st' := [.int ((eh_i G 0 41) - 1), .ref 0]) rfl (e := (.isub, 1, [], .null)) rfl rfl (fun _ _ => rfl)
          obtain ⟨h10, hV11, hN12, E⟩ := E.gp (p := 55) rfl (x := 400) (m := 3) (w := .null) (t := 12) (i := 41) (u := 1365) (y := 0) rfl rfl hV
          have E := E.ld (p := 56) (t := ri_isA) (i := 0) (n := 1) (v := .ref 0) rfl (e := (.aload_n 0, 1, [], .null)) rfl rfl (fun _ _ => rfl) l0 rfl
          have E := E.ld (p := 57) (t := ri_isA) (i := 0) (n := 1) (v := .ref 0) rfl (e := (.aload_n 0, 1, [], .null)) rfl rfl (fun _ _ => rfl) l0 rfl
          have E := E.gr (n := 13) (p := 60) rfl (x := 69) (m := 3) (w := .null) (t := 12) (i := 38) (u := 1362) rfl rfl hV11 ((iv.1).ui rfl) rfl
          have E := E.ld (p := 61) (t := ri_isA) (i := 0) (n := 1) (v := .ref 0) rfl (e := (.aload_n 0, 1, [], .null)) rfl rfl (fun _ _ => rfl) l0 rfl
          have E := E.gi (y := (eh_i G 0 41) - 1) (p := 64) rfl (x := 400) (m := 3) (w := .null) (t := 12) (i := 41) (u := 1365) rfl rfl hV11 ((iv.1).ui rfl) rfl rfl
          have E := E.ai (p := 65) (z := eh_i G 13 ((eh_i G 0 41) - 1).toNatClampNeg) (n := ((eh_i G 0 41) - 1).toNatClampNeg) rfl (e := (.iaload, 1, [], .null)) rfl rfl (fun _ _ => rfl) rfl hV11 ((iv.1).ui rfl) rfl rfl rfl
          have E := E.pu (p := 66) (lo' := lo) (st' := [.int 0, .int (eh_i G 13 ((eh_i G 0 41) - 1).toNatClampNeg), .ref 0]) rfl (e := (.iconst 0, 1, [], .null)) rfl rfl (fun _ _ => rfl)
          have E := E.pu (p := 67) (lo' := lo) (st' := [.int 0, .int 0, .int (eh_i G 13 ((eh_i G 0 41) - 1).toNatClampNeg), .ref 0]) rfl (e := (.iconst 0, 1, [], .null)) rfl rfl (fun _ _ => rfl)
          obtain ⟨v1, h13, X, E⟩ := E.cv (p := 70) (as := [.int (eh_i G 13 ((eh_i G 0 41) - 1).toNatClampNeg), .int 0, .int 0]) (b := 0) (r := []) rfl (x := 403) (m := 3) (w := .null) (j := 242) (n := 3) (t := 12) (u := [1846, 91, 1848]) rfl rfl rfl
          obtain ⟨rfl, ivk14, hNk14⟩ := ts_242 (d := d) X (by rw [hV11]; exact (iT_u iv ((iv.1).ui rfl) rfl))
          have Xk14 := X
          have E : eh_e _ _ 70 lo [] h13 rs h' := E
          have E := E.pu (p := 0) (lo' := lo) (st' := []) rfl (e := (.goto (-70), 3, [0], .null)) rfl rfl (fun _ _ => rfl)
          exact Or.inr (Or.inr (Or.inr (Or.inr (⟨h10, h13, c1, c2, c8, c9, hV11, Xk14, ivk14, _, _, E, (rfl : eh_V h13 = eh_V h13), (hNk14.trans hN12), ivk14, l0, l1⟩))))
theorem zl_245 {d : Nat} {h h' : ri_H} {v : Option Value} {G : eh_W} (E : ri_calE ri_md (d + 2) 245 [.ref 0] h = some (v, h')) (hV : eh_V h = G) (ty : eh_ty tM G) : (¬ ((eh_i G 0 11) = 1) ∧ v = some (.int (-1)) ∧ eh_V h' = G ∧ eh_N h' = eh_N h) ∨ ((eh_i G 0 11) = 1 ∧ ¬ ((eh_l G 0 17) = 461414299502) ∧ ¬ ((eh_l G 0 17) = 500085055865) ∧ ¬ ((eh_l G 0 17) = 24948) ∧ ¬ ((eh_l G 0 17) = 25209) ∧ ¬ ((eh_l G 0 17) = 499984983411) ∧ ¬ ((eh_l G 0 17) = 495874044019) ∧ ¬ ((eh_l G 0 17) = 1685024357) ∧ ¬ ((eh_l G 0 17) = 121450625394034) ∧ v = some (.int (-1)) ∧ eh_V h' = G ∧ eh_N h' = eh_N h) ∨ ((eh_i G 0 11) = 1 ∧ ¬ ((eh_l G 0 17) = 461414299502) ∧ ¬ ((eh_l G 0 17) = 500085055865) ∧ ¬ ((eh_l G 0 17) = 24948) ∧ ¬ ((eh_l G 0 17) = 25209) ∧ ¬ ((eh_l G 0 17) = 499984983411) ∧ ¬ ((eh_l G 0 17) = 495874044019) ∧ ¬ ((eh_l G 0 17) = 1685024357) ∧ (eh_l G 0 17) = 121450625394034 ∧ v = some (.int 7) ∧ eh_V h' = G ∧ eh_N h' = eh_N h) ∨ ((eh_i G 0 11) = 1 ∧ ¬ ((eh_l G 0 17) = 461414299502) ∧ ¬ ((eh_l G 0 17) = 500085055865) ∧ ¬ ((eh_l G 0 17) = 24948) ∧ ¬ ((eh_l G 0 17) = 25209) ∧ ¬ ((eh_l G 0 17) = 499984983411) ∧ ¬ ((eh_l G 0 17) = 495874044019) ∧ (eh_l G 0 17) = 1685024357 ∧ v = some (.int 6) ∧ eh_V h' = G ∧ eh_N h' = eh_N h) ∨ ((eh_i G 0 11) = 1 ∧ ¬ ((eh_l G 0 17) = 461414299502) ∧ ¬ ((eh_l G 0 17) = 500085055865) ∧ ¬ ((eh_l G 0 17) = 24948) ∧ ¬ ((eh_l G 0 17) = 25209) ∧ ¬ ((eh_l G 0 17) = 499984983411) ∧ (eh_l G 0 17) = 495874044019 ∧ v = some (.int 5) ∧ eh_V h' = G ∧ eh_N h' = eh_N h) ∨ ((eh_i G 0 11) = 1 ∧ ¬ ((eh_l G 0 17) = 461414299502) ∧ ¬ ((eh_l G 0 17) = 500085055865) ∧ ¬ ((eh_l G 0 17) = 24948) ∧ ¬ ((eh_l G 0 17) = 25209) ∧ (eh_l G 0 17) = 499984983411 ∧ v = some (.int 4) ∧ eh_V h' = G ∧ eh_N h' = eh_N h) ∨ ((eh_i G 0 11) = 1 ∧ ¬ ((eh_l G 0 17) = 461414299502) ∧ ¬ ((eh_l G 0 17) = 500085055865) ∧ ¬ ((eh_l G 0 17) = 24948) ∧ (eh_l G 0 17) = 25209 ∧ v = some (.int 3) ∧ eh_V h' = G ∧ eh_N h' = eh_N h) ∨ ((eh_i G 0 11) = 1 ∧ ¬ ((eh_l G 0 17) = 461414299502) ∧ ¬ ((eh_l G 0 17) = 500085055865) ∧ (eh_l G 0 17) = 24948 ∧ v = some (.int 2) ∧ eh_V h' = G ∧ eh_N h' = eh_N h) ∨ ((eh_i G 0 11) = 1 ∧ ¬ ((eh_l G 0 17) = 461414299502) ∧ (eh_l G 0 17) = 500085055865 ∧ v = some (.int 1) ∧ eh_V h' = G ∧ eh_N h' = eh_N h) ∨ ((eh_i G 0 11) = 1 ∧ (eh_l G 0 17) = 461414299502 ∧ v = some (.int 0) ∧ eh_V h' = G ∧ eh_N h' = eh_N h) := by
  obtain ⟨rs, hrs, E⟩ := eh_in E (q := md_245) rfl
  have E := E.ld (p := 1) (t := ri_isA) (i := 0) (n := 1) (v := .ref 0) rfl (e := (.aload_n 0, 1, [], .null)) rfl rfl (fun _ _ => rfl) rfl rfl
  have E := E.pu (p := 4) (lo' := (ri_as 0 [.ref 0])) (st' := [.long 461414299502, .ref 0]) rfl (e := (.ldc2_w 116, 3, [1312], .long 461414299502)) rfl rfl (fun _ _ => rfl)
  obtain ⟨v1, h1, X, E⟩ := E.cv (p := 7) (as := [.long 461414299502]) (b := 0) (r := []) rfl (x := 202) (m := 3) (w := .null) (j := 160) (n := 1) (t := 12) (u := [1496, 38, 1498]) rfl rfl rfl
  rcases sp_160 (d := d) X hV ty with ⟨c2, rfl, hV3, hN4⟩ | ⟨c5, c6, rfl, hV7, hN8⟩ | ⟨c9, c10, rfl, hV11, hN12⟩
  · skip
    have c2 : ¬ ((eh_i G 0 11) = 1) := c2
    have E : eh_e _ _ 7 (ri_as 0 [.ref 0]) [.int 0] _ rs h' := E
    have E := E.brt (c := 0) (tgt := 14) (a := 0) (b := 0) (st' := []) rfl (e := (.ifCond .eq 7, 3, [14], .null)) rfl rfl (fun _ _ => rfl) (by decide)
    have E := E.ld (p := 15) (t := ri_isA) (i := 0) (n := 1) (v := .ref 0) rfl (e := (.aload_n 0, 1, [], .null)) rfl rfl (fun _ _ => rfl) rfl rfl
    have E := E.pu (p := 18) (lo' := (ri_as 0 [.ref 0])) (st' := [.long 500085055865, .ref 0]) rfl (e := (.ldc2_w 118, 3, [1313], .long 500085055865)) rfl rfl (fun _ _ => rfl)
    obtain ⟨v1, h13, X, E⟩ := E.cv (p := 21) (as := [.long 500085055865]) (b := 0) (r := []) rfl (x := 202) (m := 3) (w := .null) (j := 160) (n := 1) (t := 12) (u := [1496, 38, 1498]) rfl rfl rfl
    rcases sp_160 (d := d) X hV3 ty with ⟨c14, rfl, hV15, hN16⟩ | ⟨c17, c18, rfl, hV19, hN20⟩ | ⟨c21, c22, rfl, hV23, hN24⟩
    · skip
      have E : eh_e _ _ 21 (ri_as 0 [.ref 0]) [.int 0] _ rs h' := E
      have E := E.brt (c := 0) (tgt := 28) (a := 0) (b := 0) (st' := []) rfl (e := (.ifCond .eq 7, 3, [28], .null)) rfl rfl (fun _ _ => rfl) (by decide)
      have E := E.ld (p := 29) (t := ri_isA) (i := 0) (n := 1) (v := .ref 0) rfl (e := (.aload_n 0, 1, [], .null)) rfl rfl (fun _ _ => rfl) rfl rfl
      have E := E.pu (p := 32) (lo' := (ri_as 0 [.ref 0])) (st' := [.long 24948, .ref 0]) rfl (e := (.ldc2_w 120, 3, [1314], .long 24948)) rfl rfl (fun _ _ => rfl)
      obtain ⟨v1, h25, X, E⟩ := E.cv (p := 35) (as := [.long 24948]) (b := 0) (r := []) rfl (x := 202) (m := 3) (w := .null) (j := 160) (n := 1) (t := 12) (u := [1496, 38, 1498]) rfl rfl rfl
      rcases sp_160 (d := d) X hV15 ty with ⟨c26, rfl, hV27, hN28⟩ | ⟨c29, c30, rfl, hV31, hN32⟩ | ⟨c33, c34, rfl, hV35, hN36⟩
      · skip
        have E : eh_e _ _ 35 (ri_as 0 [.ref 0]) [.int 0] _ rs h' := E
        have E := E.brt (c := 0) (tgt := 42) (a := 0) (b := 0) (st' := []) rfl (e := (.ifCond .eq 7, 3, [42], .null)) rfl rfl (fun _ _ => rfl) (by decide)
        have E := E.ld (p := 43) (t := ri_isA) (i := 0) (n := 1) (v := .ref 0) rfl (e := (.aload_n 0, 1, [], .null)) rfl rfl (fun _ _ => rfl) rfl rfl
        have E := E.pu (p := 46) (lo' := (ri_as 0 [.ref 0])) (st' := [.long 25209, .ref 0]) rfl (e := (.ldc2_w 122, 3, [1315], .long 25209)) rfl rfl (fun _ _ => rfl)
        obtain ⟨v1, h37, X, E⟩ := E.cv (p := 49) (as := [.long 25209]) (b := 0) (r := []) rfl (x := 202) (m := 3) (w := .null) (j := 160) (n := 1) (t := 12) (u := [1496, 38, 1498]) rfl rfl rfl
        rcases sp_160 (d := d) X hV27 ty with ⟨c38, rfl, hV39, hN40⟩ | ⟨c41, c42, rfl, hV43, hN44⟩ | ⟨c45, c46, rfl, hV47, hN48⟩
        · skip
          have E : eh_e _ _ 49 (ri_as 0 [.ref 0]) [.int 0] _ rs h' := E
          have E := E.brt (c := 0) (tgt := 56) (a := 0) (b := 0) (st' := []) rfl (e := (.ifCond .eq 7, 3, [56], .null)) rfl rfl (fun _ _ => rfl) (by decide)
          have E := E.ld (p := 57) (t := ri_isA) (i := 0) (n := 1) (v := .ref 0) rfl (e := (.aload_n 0, 1, [], .null)) rfl rfl (fun _ _ => rfl) rfl rfl
          have E := E.pu (p := 60) (lo' := (ri_as 0 [.ref 0])) (st' := [.long 499984983411, .ref 0]) rfl (e := (.ldc2_w 124, 3, [1316], .long 499984983411)) rfl rfl (fun _ _ => rfl)
          obtain ⟨v1, h49, X, E⟩ := E.cv (p := 63) (as := [.long 499984983411]) (b := 0) (r := []) rfl (x := 202) (m := 3) (w := .null) (j := 160) (n := 1) (t := 12) (u := [1496, 38, 1498]) rfl rfl rfl
          rcases sp_160 (d := d) X hV39 ty with ⟨c50, rfl, hV51, hN52⟩ | ⟨c53, c54, rfl, hV55, hN56⟩ | ⟨c57, c58, rfl, hV59, hN60⟩
          · skip
            have E : eh_e _ _ 63 (ri_as 0 [.ref 0]) [.int 0] _ rs h' := E
            have E := E.brt (c := 0) (tgt := 70) (a := 0) (b := 0) (st' := []) rfl (e := (.ifCond .eq 7, 3, [70], .null)) rfl rfl (fun _ _ => rfl) (by decide)
            have E := E.ld (p := 71) (t := ri_isA) (i := 0) (n := 1) (v := .ref 0) rfl (e := (.aload_n 0, 1, [], .null)) rfl rfl (fun _ _ => rfl) rfl rfl
            have E := E.pu (p := 74) (lo' := (ri_as 0 [.ref 0])) (st' := [.long 495874044019, .ref 0]) rfl (e := (.ldc2_w 126, 3, [1317], .long 495874044019)) rfl rfl (fun _ _ => rfl)
            obtain ⟨v1, h61, X, E⟩ := E.cv (p := 77) (as := [.long 495874044019]) (b := 0) (r := []) rfl (x := 202) (m := 3) (w := .null) (j := 160) (n := 1) (t := 12) (u := [1496, 38, 1498]) rfl rfl rfl
            rcases sp_160 (d := d) X hV51 ty with ⟨c62, rfl, hV63, hN64⟩ | ⟨c65, c66, rfl, hV67, hN68⟩ | ⟨c69, c70, rfl, hV71, hN72⟩
            · skip
              have E : eh_e _ _ 77 (ri_as 0 [.ref 0]) [.int 0] _ rs h' := E
              have E := E.brt (c := 0) (tgt := 84) (a := 0) (b := 0) (st' := []) rfl (e := (.ifCond .eq 7, 3, [84], .null)) rfl rfl (fun _ _ => rfl) (by decide)
              have E := E.ld (p := 85) (t := ri_isA) (i := 0) (n := 1) (v := .ref 0) rfl (e := (.aload_n 0, 1, [], .null)) rfl rfl (fun _ _ => rfl) rfl rfl
              have E := E.pu (p := 88) (lo' := (ri_as 0 [.ref 0])) (st' := [.long 1685024357, .ref 0]) rfl (e := (.ldc2_w 128, 3, [1318], .long 1685024357)) rfl rfl (fun _ _ => rfl)
              obtain ⟨v1, h73, X, E⟩ := E.cv (p := 91) (as := [.long 1685024357]) (b := 0) (r := []) rfl (x := 202) (m := 3) (w := .null) (j := 160) (n := 1) (t := 12) (u := [1496, 38, 1498]) rfl rfl rfl
              rcases sp_160 (d := d) X hV63 ty with ⟨c74, rfl, hV75, hN76⟩ | ⟨c77, c78, rfl, hV79, hN80⟩ | ⟨c81, c82, rfl, hV83, hN84⟩
              · skip
                have E : eh_e _ _ 91 (ri_as 0 [.ref 0]) [.int 0] _ rs h' := E
                have E := E.brt (c := 0) (tgt := 99) (a := 0) (b := 0) (st' := []) rfl (e := (.ifCond .eq 8, 3, [99], .null)) rfl rfl (fun _ _ => rfl) (by decide)
                have E := E.ld (p := 100) (t := ri_isA) (i := 0) (n := 1) (v := .ref 0) rfl (e := (.aload_n 0, 1, [], .null)) rfl rfl (fun _ _ => rfl) rfl rfl
                have E := E.pu (p := 103) (lo' := (ri_as 0 [.ref 0])) (st' := [.long 121450625394034, .ref 0]) rfl (e := (.ldc2_w 130, 3, [1319], .long 121450625394034)) rfl rfl (fun _ _ => rfl)
                obtain ⟨v1, h85, X, E⟩ := E.cv (p := 106) (as := [.long 121450625394034]) (b := 0) (r := []) rfl (x := 202) (m := 3) (w := .null) (j := 160) (n := 1) (t := 12) (u := [1496, 38, 1498]) rfl rfl rfl
                rcases sp_160 (d := d) X hV75 ty with ⟨c86, rfl, hV87, hN88⟩ | ⟨c89, c90, rfl, hV91, hN92⟩ | ⟨c93, c94, rfl, hV95, hN96⟩
                · skip
                  have E : eh_e _ _ 106 (ri_as 0 [.ref 0]) [.int 0] _ rs h' := E
                  have E := E.brt (c := 0) (tgt := 114) (a := 0) (b := 0) (st' := []) rfl (e := (.ifCond .eq 8, 3, [114], .null)) rfl rfl (fun _ _ => rfl) (by decide)
                  have E := E.pu (p := 115) (lo' := (ri_as 0 [.ref 0])) (st' := [.int (-1)]) rfl (e := (.iconst (-1), 1, [], .null)) rfl rfl (fun _ _ => rfl)
                  obtain ⟨r1, r2⟩ := E.reti rfl (m := 1) (ax := []) (w := .null) rfl
                  exact Or.inl ⟨c2, (by rw [← hrs, r1]; rfl), ((congrArg eh_V r2).trans hV87), ((congrArg eh_N r2).trans (hN88.trans (hN76.trans (hN64.trans (hN52.trans (hN40.trans (hN28.trans (hN16.trans hN4))))))))⟩
                · skip
                  exact absurd c89 c2
                · skip
                  exact absurd c93 c2
              · skip
                exact absurd c77 c2
              · skip
                exact absurd c81 c2
            · skip
              exact absurd c65 c2
            · skip
              exact absurd c69 c2
          · skip
            exact absurd c53 c2
          · skip
            exact absurd c57 c2
        · skip
          exact absurd c41 c2
        · skip
          exact absurd c45 c2
      · skip
        exact absurd c29 c2
      · skip
        exact absurd c33 c2
    · skip
      exact absurd c17 c2
    · skip
      exact absurd c21 c2
  · skip
    have c5 : (eh_i G 0 11) = 1 := c5
    have c6 : ¬ ((eh_l G 0 17) = 461414299502) := c6
    have E : eh_e _ _ 7 (ri_as 0 [.ref 0]) [.int 0] _ rs h' := E
    have E := E.brt (c := 0) (tgt := 14) (a := 0) (b := 0) (st' := []) rfl (e := (.ifCond .eq 7, 3, [14], .null)) rfl rfl (fun _ _ => rfl) (by decide)
    have E := E.ld (p := 15) (t := ri_isA) (i := 0) (n := 1) (v := .ref 0) rfl (e := (.aload_n 0, 1, [], .null)) rfl rfl (fun _ _ => rfl) rfl rfl
    have E := E.pu (p := 18) (lo' := (ri_as 0 [.ref 0])) (st' := [.long 500085055865, .ref 0]) rfl (e := (.ldc2_w 118, 3, [1313], .long 500085055865)) rfl rfl (fun _ _ => rfl)
    obtain ⟨v1, h97, X, E⟩ := E.cv (p := 21) (as := [.long 500085055865]) (b := 0) (r := []) rfl (x := 202) (m := 3) (w := .null) (j := 160) (n := 1) (t := 12) (u := [1496, 38, 1498]) rfl rfl rfl
    rcases sp_160 (d := d) X hV7 ty with ⟨c98, rfl, hV99, hN100⟩ | ⟨c101, c102, rfl, hV103, hN104⟩ | ⟨c105, c106, rfl, hV107, hN108⟩
    · skip
      exact absurd c5 c98
    · skip
      have c102 : ¬ ((eh_l G 0 17) = 500085055865) := c102
      have E : eh_e _ _ 21 (ri_as 0 [.ref 0]) [.int 0] _ rs h' := E
      have E := E.brt (c := 0) (tgt := 28) (a := 0) (b := 0) (st' := []) rfl (e := (.ifCond .eq 7, 3, [28], .null)) rfl rfl (fun _ _ => rfl) (by decide)
      have E := E.ld (p := 29) (t := ri_isA) (i := 0) (n := 1) (v := .ref 0) rfl (e := (.aload_n 0, 1, [], .null)) rfl rfl (fun _ _ => rfl) rfl rfl
      have E := E.pu (p := 32) (lo' := (ri_as 0 [.ref 0])) (st' := [.long 24948, .ref 0]) rfl (e := (.ldc2_w 120, 3, [1314], .long 24948)) rfl rfl (fun _ _ => rfl)
      obtain ⟨v1, h109, X, E⟩ := E.cv (p := 35) (as := [.long 24948]) (b := 0) (r := []) rfl (x := 202) (m := 3) (w := .null) (j := 160) (n := 1) (t := 12) (u := [1496, 38, 1498]) rfl rfl rfl
      rcases sp_160 (d := d) X hV103 ty with ⟨c110, rfl, hV111, hN112⟩ | ⟨c113, c114, rfl, hV115, hN116⟩ | ⟨c117, c118, rfl, hV119, hN120⟩
      · skip
        exact absurd c5 c110
      · skip
        have c114 : ¬ ((eh_l G 0 17) = 24948) := c114
        have E : eh_e _ _ 35 (ri_as 0 [.ref 0]) [.int 0] _ rs h' := E
        have E := E.brt (c := 0) (tgt := 42) (a := 0) (b := 0) (st' := []) rfl (e := (.ifCond .eq 7, 3, [42], .null)) rfl rfl (fun _ _ => rfl) (by decide)
        have E := E.ld (p := 43) (t := ri_isA) (i := 0) (n := 1) (v := .ref 0) rfl (e := (.aload_n 0, 1, [], .null)) rfl rfl (fun _ _ => rfl) rfl rfl
        have E := E.pu (p := 46) (lo' := (ri_as 0 [.ref 0])) (st' := [.long 25209, .ref 0]) rfl (e := (.ldc2_w 122, 3, [1315], .long 25209)) rfl rfl (fun _ _ => rfl)
        obtain ⟨v1, h121, X, E⟩ := E.cv (p := 49) (as := [.long 25209]) (b := 0) (r := []) rfl (x := 202) (m := 3) (w := .null) (j := 160) (n := 1) (t := 12) (u := [1496, 38, 1498]) rfl rfl rfl
        rcases sp_160 (d := d) X hV115 ty with ⟨c122, rfl, hV123, hN124⟩ | ⟨c125, c126, rfl, hV127, hN128⟩ | ⟨c129, c130, rfl, hV131, hN132⟩
        · skip
          exact absurd c5 c122
        · skip
          have c126 : ¬ ((eh_l G 0 17) = 25209) := c126
          have E : eh_e _ _ 49 (ri_as 0 [.ref 0]) [.int 0] _ rs h' := E
          have E := E.brt (c := 0) (tgt := 56) (a := 0) (b := 0) (st' := []) rfl (e := (.ifCond .eq 7, 3, [56], .null)) rfl rfl (fun _ _ => rfl) (by decide)
          have E := E.ld (p := 57) (t := ri_isA) (i := 0) (n := 1) (v := .ref 0) rfl (e := (.aload_n 0, 1, [], .null)) rfl rfl (fun _ _ => rfl) rfl rfl
          have E := E.pu (p := 60) (lo' := (ri_as 0 [.ref 0])) (st' := [.long 499984983411, .ref 0]) rfl (e := (.ldc2_w 124, 3, [1316], .long 499984983411)) rfl rfl (fun _ _ => rfl)
          obtain ⟨v1, h133, X, E⟩ := E.cv (p := 63) (as := [.long 499984983411]) (b := 0) (r := []) rfl (x := 202) (m := 3) (w := .null) (j := 160) (n := 1) (t := 12) (u := [1496, 38, 1498]) rfl rfl rfl
          rcases sp_160 (d := d) X hV127 ty with ⟨c134, rfl, hV135, hN136⟩ | ⟨c137, c138, rfl, hV139, hN140⟩ | ⟨c141, c142, rfl, hV143, hN144⟩
          · skip
            exact absurd c5 c134
          · skip
            have c138 : ¬ ((eh_l G 0 17) = 499984983411) := c138
            have E : eh_e _ _ 63 (ri_as 0 [.ref 0]) [.int 0] _ rs h' := E
            have E := E.brt (c := 0) (tgt := 70) (a := 0) (b := 0) (st' := []) rfl (e := (.ifCond .eq 7, 3, [70], .null)) rfl rfl (fun _ _ => rfl) (by decide)
            have E := E.ld (p := 71) (t := ri_isA) (i := 0) (n := 1) (v := .ref 0) rfl (e := (.aload_n 0, 1, [], .null)) rfl rfl (fun _ _ => rfl) rfl rfl
            have E := E.pu (p := 74) (lo' := (ri_as 0 [.ref 0])) (st' := [.long 495874044019, .ref 0]) rfl (e := (.ldc2_w 126, 3, [1317], .long 495874044019)) rfl rfl (fun _ _ => rfl)
            obtain ⟨v1, h145, X, E⟩ := E.cv (p := 77) (as := [.long 495874044019]) (b := 0) (r := []) rfl (x := 202) (m := 3) (w := .null) (j := 160) (n := 1) (t := 12) (u := [1496, 38, 1498]) rfl rfl rfl
            rcases sp_160 (d := d) X hV139 ty with ⟨c146, rfl, hV147, hN148⟩ | ⟨c149, c150, rfl, hV151, hN152⟩ | ⟨c153, c154, rfl, hV155, hN156⟩
            · skip
              exact absurd c5 c146
            · skip
              have c150 : ¬ ((eh_l G 0 17) = 495874044019) := c150
              have E : eh_e _ _ 77 (ri_as 0 [.ref 0]) [.int 0] _ rs h' := E
              have E := E.brt (c := 0) (tgt := 84) (a := 0) (b := 0) (st' := []) rfl (e := (.ifCond .eq 7, 3, [84], .null)) rfl rfl (fun _ _ => rfl) (by decide)
              have E := E.ld (p := 85) (t := ri_isA) (i := 0) (n := 1) (v := .ref 0) rfl (e := (.aload_n 0, 1, [], .null)) rfl rfl (fun _ _ => rfl) rfl rfl
              have E := E.pu (p := 88) (lo' := (ri_as 0 [.ref 0])) (st' := [.long 1685024357, .ref 0]) rfl (e := (.ldc2_w 128, 3, [1318], .long 1685024357)) rfl rfl (fun _ _ => rfl)
              obtain ⟨v1, h157, X, E⟩ := E.cv (p := 91) (as := [.long 1685024357]) (b := 0) (r := []) rfl (x := 202) (m := 3) (w := .null) (j := 160) (n := 1) (t := 12) (u := [1496, 38, 1498]) rfl rfl rfl
              rcases sp_160 (d := d) X hV151 ty with ⟨c158, rfl, hV159, hN160⟩ | ⟨c161, c162, rfl, hV163, hN164⟩ | ⟨c165, c166, rfl, hV167, hN168⟩
              · skip
                exact absurd c5 c158
              · skip
                have c162 : ¬ ((eh_l G 0 17) = 1685024357) := c162
                have E : eh_e _ _ 91 (ri_as 0 [.ref 0]) [.int 0] _ rs h' := E
                have E := E.brt (c := 0) (tgt := 99) (a := 0) (b := 0) (st' := []) rfl (e := (.ifCond .eq 8, 3, [99], .null)) rfl rfl (fun _ _ => rfl) (by decide)
                have E := E.ld (p := 100) (t := ri_isA) (i := 0) (n := 1) (v := .ref 0) rfl (e := (.aload_n 0, 1, [], .null)) rfl rfl (fun _ _ => rfl) rfl rfl
                have E := E.pu (p := 103) (lo' := (ri_as 0 [.ref 0])) (st' := [.long 121450625394034, .ref 0]) rfl (e := (.ldc2_w 130, 3, [1319], .long 121450625394034)) rfl rfl (fun _ _ => rfl)
                obtain ⟨v1, h169, X, E⟩ := E.cv (p := 106) (as := [.long 121450625394034]) (b := 0) (r := []) rfl (x := 202) (m := 3) (w := .null) (j := 160) (n := 1) (t := 12) (u := [1496, 38, 1498]) rfl rfl rfl
                rcases sp_160 (d := d) X hV163 ty with ⟨c170, rfl, hV171, hN172⟩ | ⟨c173, c174, rfl, hV175, hN176⟩ | ⟨c177, c178, rfl, hV179, hN180⟩
                · skip
                  exact absurd c5 c170
                · skip
                  have c174 : ¬ ((eh_l G 0 17) = 121450625394034) := c174
                  have E : eh_e _ _ 106 (ri_as 0 [.ref 0]) [.int 0] _ rs h' := E
                  have E := E.brt (c := 0) (tgt := 114) (a := 0) (b := 0) (st' := []) rfl (e := (.ifCond .eq 8, 3, [114], .null)) rfl rfl (fun _ _ => rfl) (by decide)
                  have E := E.pu (p := 115) (lo' := (ri_as 0 [.ref 0])) (st' := [.int (-1)]) rfl (e := (.iconst (-1), 1, [], .null)) rfl rfl (fun _ _ => rfl)
                  obtain ⟨r1, r2⟩ := E.reti rfl (m := 1) (ax := []) (w := .null) rfl
                  exact Or.inr (Or.inl ⟨c5, c6, c102, c114, c126, c138, c150, c162, c174, (by rw [← hrs, r1]; rfl), ((congrArg eh_V r2).trans hV175), ((congrArg eh_N r2).trans (hN176.trans (hN164.trans (hN152.trans (hN140.trans (hN128.trans (hN116.trans (hN104.trans hN8))))))))⟩)
                · skip
                  have c178 : (eh_l G 0 17) = 121450625394034 := c178
                  have E : eh_e _ _ 106 (ri_as 0 [.ref 0]) [.int 1] _ rs h' := E
                  have E := E.brf (p := 109) (c := 0) (tgt := 114) (a := 1) (b := 0) (st' := []) rfl (e := (.ifCond .eq 8, 3, [114], .null)) rfl rfl (fun _ _ => rfl) (by decide) rfl
                  have E := E.pu (p := 111) (lo' := (ri_as 0 [.ref 0])) (st' := [.int 7]) rfl (e := (.bipush 7, 2, [], .null)) rfl rfl (fun _ _ => rfl)
                  have E := E.pu (p := 115) (lo' := (ri_as 0 [.ref 0])) (st' := [.int 7]) rfl (e := (.goto 4, 3, [115], .null)) rfl rfl (fun _ _ => rfl)
                  obtain ⟨r1, r2⟩ := E.reti rfl (m := 1) (ax := []) (w := .null) rfl
                  exact Or.inr (Or.inr (Or.inl ⟨c5, c6, c102, c114, c126, c138, c150, c162, c178, (by rw [← hrs, r1]; rfl), ((congrArg eh_V r2).trans hV179), ((congrArg eh_N r2).trans (hN180.trans (hN164.trans (hN152.trans (hN140.trans (hN128.trans (hN116.trans (hN104.trans hN8))))))))⟩))
              · skip
                have c166 : (eh_l G 0 17) = 1685024357 := c166
                have E : eh_e _ _ 91 (ri_as 0 [.ref 0]) [.int 1] _ rs h' := E
                have E := E.brf (p := 94) (c := 0) (tgt := 99) (a := 1) (b := 0) (st' := []) rfl (e := (.ifCond .eq 8, 3, [99], .null)) rfl rfl (fun _ _ => rfl) (by decide) rfl
                have E := E.pu (p := 96) (lo' := (ri_as 0 [.ref 0])) (st' := [.int 6]) rfl (e := (.bipush 6, 2, [], .null)) rfl rfl (fun _ _ => rfl)
                have E := E.pu (p := 115) (lo' := (ri_as 0 [.ref 0])) (st' := [.int 6]) rfl (e := (.goto 19, 3, [115], .null)) rfl rfl (fun _ _ => rfl)
                obtain ⟨r1, r2⟩ := E.reti rfl (m := 1) (ax := []) (w := .null) rfl
                exact Or.inr (Or.inr (Or.inr (Or.inl ⟨c5, c6, c102, c114, c126, c138, c150, c166, (by rw [← hrs, r1]; rfl), ((congrArg eh_V r2).trans hV167), ((congrArg eh_N r2).trans (hN168.trans (hN152.trans (hN140.trans (hN128.trans (hN116.trans (hN104.trans hN8)))))))⟩)))
            · skip
              have c154 : (eh_l G 0 17) = 495874044019 := c154
              have E : eh_e _ _ 77 (ri_as 0 [.ref 0]) [.int 1] _ rs h' := E
              have E := E.brf (p := 80) (c := 0) (tgt := 84) (a := 1) (b := 0) (st' := []) rfl (e := (.ifCond .eq 7, 3, [84], .null)) rfl rfl (fun _ _ => rfl) (by decide) rfl
              have E := E.pu (p := 81) (lo' := (ri_as 0 [.ref 0])) (st' := [.int 5]) rfl (e := (.iconst 5, 1, [], .null)) rfl rfl (fun _ _ => rfl)
              have E := E.pu (p := 115) (lo' := (ri_as 0 [.ref 0])) (st' := [.int 5]) rfl (e := (.goto 34, 3, [115], .null)) rfl rfl (fun _ _ => rfl)
              obtain ⟨r1, r2⟩ := E.reti rfl (m := 1) (ax := []) (w := .null) rfl
              exact Or.inr (Or.inr (Or.inr (Or.inr (Or.inl ⟨c5, c6, c102, c114, c126, c138, c154, (by rw [← hrs, r1]; rfl), ((congrArg eh_V r2).trans hV155), ((congrArg eh_N r2).trans (hN156.trans (hN140.trans (hN128.trans (hN116.trans (hN104.trans hN8))))))⟩))))
          · skip
            have c142 : (eh_l G 0 17) = 499984983411 := c142
            have E : eh_e _ _ 63 (ri_as 0 [.ref 0]) [.int 1] _ rs h' := E
            have E := E.brf (p := 66) (c := 0) (tgt := 70) (a := 1) (b := 0) (st' := []) rfl (e := (.ifCond .eq 7, 3, [70], .null)) rfl rfl (fun _ _ => rfl) (by decide) rfl
            have E := E.pu (p := 67) (lo' := (ri_as 0 [.ref 0])) (st' := [.int 4]) rfl (e := (.iconst 4, 1, [], .null)) rfl rfl (fun _ _ => rfl)
            have E := E.pu (p := 115) (lo' := (ri_as 0 [.ref 0])) (st' := [.int 4]) rfl (e := (.goto 48, 3, [115], .null)) rfl rfl (fun _ _ => rfl)
            obtain ⟨r1, r2⟩ := E.reti rfl (m := 1) (ax := []) (w := .null) rfl
            exact Or.inr (Or.inr (Or.inr (Or.inr (Or.inr (Or.inl ⟨c5, c6, c102, c114, c126, c142, (by rw [← hrs, r1]; rfl), ((congrArg eh_V r2).trans hV143), ((congrArg eh_N r2).trans (hN144.trans (hN128.trans (hN116.trans (hN104.trans hN8)))))⟩)))))
        · skip
          have c130 : (eh_l G 0 17) = 25209 := c130
          have E : eh_e _ _ 49 (ri_as 0 [.ref 0]) [.int 1] _ rs h' := E
          have E := E.brf (p := 52) (c := 0) (tgt := 56) (a := 1) (b := 0) (st' := []) rfl (e := (.ifCond .eq 7, 3, [56], .null)) rfl rfl (fun _ _ => rfl) (by decide) rfl
          have E := E.pu (p := 53) (lo' := (ri_as 0 [.ref 0])) (st' := [.int 3]) rfl (e := (.iconst 3, 1, [], .null)) rfl rfl (fun _ _ => rfl)
          have E := E.pu (p := 115) (lo' := (ri_as 0 [.ref 0])) (st' := [.int 3]) rfl (e := (.goto 62, 3, [115], .null)) rfl rfl (fun _ _ => rfl)
          obtain ⟨r1, r2⟩ := E.reti rfl (m := 1) (ax := []) (w := .null) rfl
          exact Or.inr (Or.inr (Or.inr (Or.inr (Or.inr (Or.inr (Or.inl ⟨c5, c6, c102, c114, c130, (by rw [← hrs, r1]; rfl), ((congrArg eh_V r2).trans hV131), ((congrArg eh_N r2).trans (hN132.trans (hN116.trans (hN104.trans hN8))))⟩))))))
      · skip
        have c118 : (eh_l G 0 17) = 24948 := c118
        have E : eh_e _ _ 35 (ri_as 0 [.ref 0]) [.int 1] _ rs h' := E
        have E := E.brf (p := 38) (c := 0) (tgt := 42) (a := 1) (b := 0) (st' := []) rfl (e := (.ifCond .eq 7, 3, [42], .null)) rfl rfl (fun _ _ => rfl) (by decide) rfl
        have E := E.pu (p := 39) (lo' := (ri_as 0 [.ref 0])) (st' := [.int 2]) rfl (e := (.iconst 2, 1, [], .null)) rfl rfl (fun _ _ => rfl)
        have E := E.pu (p := 115) (lo' := (ri_as 0 [.ref 0])) (st' := [.int 2]) rfl (e := (.goto 76, 3, [115], .null)) rfl rfl (fun _ _ => rfl)
        obtain ⟨r1, r2⟩ := E.reti rfl (m := 1) (ax := []) (w := .null) rfl
        exact Or.inr (Or.inr (Or.inr (Or.inr (Or.inr (Or.inr (Or.inr (Or.inl ⟨c5, c6, c102, c118, (by rw [← hrs, r1]; rfl), ((congrArg eh_V r2).trans hV119), ((congrArg eh_N r2).trans (hN120.trans (hN104.trans hN8)))⟩)))))))
    · skip
      have c106 : (eh_l G 0 17) = 500085055865 := c106
      have E : eh_e _ _ 21 (ri_as 0 [.ref 0]) [.int 1] _ rs h' := E
      have E := E.brf (p := 24) (c := 0) (tgt := 28) (a := 1) (b := 0) (st' := []) rfl (e := (.ifCond .eq 7, 3, [28], .null)) rfl rfl (fun _ _ => rfl) (by decide) rfl
      have E := E.pu (p := 25) (lo' := (ri_as 0 [.ref 0])) (st' := [.int 1]) rfl (e := (.iconst 1, 1, [], .null)) rfl rfl (fun _ _ => rfl)
      have E := E.pu (p := 115) (lo' := (ri_as 0 [.ref 0])) (st' := [.int 1]) rfl (e := (.goto 90, 3, [115], .null)) rfl rfl (fun _ _ => rfl)
      obtain ⟨r1, r2⟩ := E.reti rfl (m := 1) (ax := []) (w := .null) rfl
      exact Or.inr (Or.inr (Or.inr (Or.inr (Or.inr (Or.inr (Or.inr (Or.inr (Or.inl ⟨c5, c6, c106, (by rw [← hrs, r1]; rfl), ((congrArg eh_V r2).trans hV107), ((congrArg eh_N r2).trans (hN108.trans hN8))⟩))))))))
  · skip
    have c9 : (eh_i G 0 11) = 1 := c9
    have c10 : (eh_l G 0 17) = 461414299502 := c10
    have E : eh_e _ _ 7 (ri_as 0 [.ref 0]) [.int 1] _ rs h' := E
    have E := E.brf (p := 10) (c := 0) (tgt := 14) (a := 1) (b := 0) (st' := []) rfl (e := (.ifCond .eq 7, 3, [14], .null)) rfl rfl (fun _ _ => rfl) (by decide) rfl
    have E := E.pu (p := 11) (lo' := (ri_as 0 [.ref 0])) (st' := [.int 0]) rfl (e := (.iconst 0, 1, [], .null)) rfl rfl (fun _ _ => rfl)
    have E := E.pu (p := 115) (lo' := (ri_as 0 [.ref 0])) (st' := [.int 0]) rfl (e := (.goto 104, 3, [115], .null)) rfl rfl (fun _ _ => rfl)
    obtain ⟨r1, r2⟩ := E.reti rfl (m := 1) (ax := []) (w := .null) rfl
    exact Or.inr (Or.inr (Or.inr (Or.inr (Or.inr (Or.inr (Or.inr (Or.inr (Or.inr (⟨c9, c10, (by rw [← hrs, r1]; rfl), ((congrArg eh_V r2).trans hV11), ((congrArg eh_N r2).trans hN12)⟩)))))))))
