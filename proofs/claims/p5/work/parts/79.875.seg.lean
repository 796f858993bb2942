theorem zw_a {d : Nat} {lo : List (Nat × Value)} {h h' : ri_H} {rs : List Value} {G : eh_W} {b : Nat → Int32} {n m : Nat} (E : eh_e (ri_calE ri_md (d + 1)) md_95 0 lo [] h rs h') (hV : eh_V h = G) (iv : iS b n m G) (l0 : ri_lk lo 0 = some (.ref 17)) (l1 : ri_lk lo 1 = some (.ref 23)) : ∃ h1 loz v1 hz, eh_V h1 = eh_u (eh_u G 18 0 (.int 0)) 18 1 (.int 0) ∧ eh_N h1 = eh_N h ∧ iS b n m (eh_u (eh_u G 18 0 (.int 0)) 18 1 (.int 0)) ∧ (ri_calE ri_md (d + 1)) 96 [.ref 17, .ref 23, .int 1] h1 = some (v1, hz) ∧ eh_e (ri_calE ri_md (d + 1)) md_95 13 loz (v1.toList ++ []) hz rs h' ∧ ri_lk loz 0 = some (.ref 17) ∧ ri_lk loz 1 = some (.ref 23) := by
  have E := E.ld (p := 1) (t := ri_isA) (i := 0) (n := 1) (v := .ref 17) rfl (e := (.aload_n 0, 1, [], .null)) rfl rfl (fun _ _ => rfl) l0 rfl
  have E := E.gr (n := 18) (p := 4) rfl (x := 12) (m := 3) (w := .null) (t := 10) (i := 1) (u := 367) rfl rfl hV (iv.1) rfl
  obtain ⟨v1, h1, X, E⟩ := E.cv (p := 7) (as := []) (b := 18) (r := []) rfl (x := 22) (m := 3) (w := .null) (j := 86) (n := 0) (t := 9) (u := [1133, 753, 752]) rfl rfl rfl
  rcases zs_86 (d := d) X hV (iv.1) with ⟨rfl, hV2, hN3⟩
  have hV2 : _ = eh_u (eh_u G 18 0 (.int 0)) 18 1 (.int 0) := hV2
  have E : eh_e _ _ 7 lo [] _ rs h' := E
  have E := E.ld (p := 8) (t := ri_isA) (i := 0) (n := 1) (v := .ref 17) rfl (e := (.aload_n 0, 1, [], .null)) rfl rfl (fun _ _ => rfl) l0 rfl
  have E := E.ld (p := 9) (t := ri_isA) (i := 1) (n := 1) (v := .ref 23) rfl (e := (.aload_n 1, 1, [], .null)) rfl rfl (fun _ _ => rfl) l1 rfl
  have E := E.pu (p := 10) (lo' := lo) (st' := [.int 1, .ref 23, .ref 17]) rfl (e := (.iconst 1, 1, [], .null)) rfl rfl (fun _ _ => rfl)
  obtain ⟨v1, h4, X, E⟩ := E.cv (p := 13) (as := [.ref 23, .int 1]) (b := 17) (r := []) rfl (x := 25) (m := 3) (w := .null) (j := 96) (n := 2) (t := 10) (u := [1134, 25, 1136]) rfl rfl rfl
  exact ⟨_, _, _, _, hV2, hN3, (iS_u (iS_u iv ((iv.1).ui rfl) rfl) (((iv.1).ui rfl).ui rfl) rfl), X, E, l0, l1⟩
theorem zw_b {d : Nat} {lo : List (Nat × Value)} {h h' : ri_H} {rs : List Value} {G : eh_W} {x : Int32} {b : Nat → Int32} {n m : Nat} (E : eh_e (ri_calE ri_md (d + 1)) md_95 13 lo [.int x] h rs h') (hV : eh_V h = G) (iv : iS b n m G) (l0 : ri_lk lo 0 = some (.ref 17)) (l1 : ri_lk lo 1 = some (.ref 23)) : (x = 0 ∧ rs = [.int 0] ∧ eh_V h' = G ∧ eh_N h' = eh_N h ∧ iS b n m G) ∨ (¬ (x = 0) ∧ (eh_i G 2 5) = 0 ∧ rs = [.int 1] ∧ eh_V h' = G ∧ eh_N h' = eh_N h ∧ iS b n m G) ∨ (¬ (x = 0) ∧ ¬ ((eh_i G 2 5) = 0) ∧ rs = [.int 0] ∧ eh_V h' = eh_u (eh_u G 2 9 (.int 1)) 2 10 (.int (eh_i G 2 6)) ∧ eh_N h' = eh_N h ∧ iS b n m (eh_u (eh_u G 2 9 (.int 1)) 2 10 (.int (eh_i G 2 6)))) := by
  rcases eh_q0 (E.br (p := 16) (c := 0) (tgt := 41) (a := x) (b := 0) (st' := []) rfl (e := (.ifCond .eq 28, 3, [41], .null)) rfl rfl (fun _ _ => rfl) rfl) with ⟨c1, E⟩ | ⟨c1, E⟩
  · skip
    have E := E.pu (p := 42) (lo' := lo) (st' := [.int 0]) rfl (e := (.iconst 0, 1, [], .null)) rfl rfl (fun _ _ => rfl)
    obtain ⟨r1, r2⟩ := E.reti rfl (m := 1) (ax := []) (w := .null) rfl
    exact Or.inl ⟨c1, r1, ((congrArg eh_V r2).trans hV), (congrArg eh_N r2), iv⟩
  · skip
    have E := E.ld (p := 17) (t := ri_isA) (i := 0) (n := 1) (v := .ref 17) rfl (e := (.aload_n 0, 1, [], .null)) rfl rfl (fun _ _ => rfl) l0 rfl
    have E := E.gr (n := 2) (p := 20) rfl (x := 18) (m := 3) (w := .null) (t := 10) (i := 0) (u := 366) rfl rfl hV (iv.1) rfl
    have E := E.gi (y := eh_i G 2 5) (p := 23) rfl (x := 29) (m := 3) (w := .null) (t := 8) (i := 5) (u := 194) rfl rfl hV (iv.1) rfl rfl
    rcases eh_q0 (E.br (p := 26) (c := 0) (tgt := 37) (a := eh_i G 2 5) (b := 0) (st' := []) rfl (e := (.ifCond .eq 14, 3, [37], .null)) rfl rfl (fun _ _ => rfl) rfl) with ⟨c2, E⟩ | ⟨c2, E⟩
    · skip
      have E := E.pu (p := 38) (lo' := lo) (st' := [.int 1]) rfl (e := (.iconst 1, 1, [], .null)) rfl rfl (fun _ _ => rfl)
      have E := E.pu (p := 42) (lo' := lo) (st' := [.int 1]) rfl (e := (.goto 4, 3, [42], .null)) rfl rfl (fun _ _ => rfl)
      obtain ⟨r1, r2⟩ := E.reti rfl (m := 1) (ax := []) (w := .null) rfl
      exact Or.inr (Or.inl ⟨c1, c2, r1, ((congrArg eh_V r2).trans hV), (congrArg eh_N r2), iv⟩)
    · skip
      have E := E.ld (p := 27) (t := ri_isA) (i := 0) (n := 1) (v := .ref 17) rfl (e := (.aload_n 0, 1, [], .null)) rfl rfl (fun _ _ => rfl) l0 rfl
      have E := E.gr (n := 2) (p := 30) rfl (x := 18) (m := 3) (w := .null) (t := 10) (i := 0) (u := 366) rfl rfl hV (iv.1) rfl
      have E := E.pu (p := 31) (lo' := lo) (st' := [.int 1, .ref 2]) rfl (e := (.iconst 1, 1, [], .null)) rfl rfl (fun _ _ => rfl)
      obtain ⟨v1, h3, X, E⟩ := E.cv (p := 34) (as := [.int 1]) (b := 2) (r := []) rfl (x := 35) (m := 3) (w := .null) (j := 78) (n := 1) (t := 8) (u := [1143, 678, 677]) rfl rfl rfl
      rcases sp_78 (d := d) X hV (iv.1) with ⟨rfl, hV4, hN5⟩
      have hV4 : _ = eh_u (eh_u G 2 9 (.int 1)) 2 10 (.int (eh_i G 2 6)) := hV4
      have E : eh_e _ _ 34 lo [.int 0] _ rs h' := E
      have E := E.brt (c := 0) (tgt := 41) (a := 0) (b := 0) (st' := []) rfl (e := (.ifCond .eq 7, 3, [41], .null)) rfl rfl (fun _ _ => rfl) (by decide)
      have E := E.pu (p := 42) (lo' := lo) (st' := [.int 0]) rfl (e := (.iconst 0, 1, [], .null)) rfl rfl (fun _ _ => rfl)
      obtain ⟨r1, r2⟩ := E.reti rfl (m := 1) (ax := []) (w := .null) rfl
      exact Or.inr (Or.inr (⟨c1, c2, r1, ((congrArg eh_V r2).trans hV4), ((congrArg eh_N r2).trans hN5), (iS_u (iS_u iv ((iv.1).ui rfl) rfl) (((iv.1).ui rfl).ui rfl) rfl)⟩))
