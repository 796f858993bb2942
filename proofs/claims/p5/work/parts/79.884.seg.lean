theorem zb_a {d : Nat} {lo : List (Nat × Value)} {h h' : ri_H} {rs : List Value} {G : eh_W} {b : Nat → Int32} {n m : Nat} (E : eh_e (ri_calE ri_md (d + 2)) md_247 0 lo [] h rs h') (hV : eh_V h = G) (iv : iT b n m G) (l0 : ri_lk lo 0 = some (.ref 0)) : (∃ (h1 : ri_H), ∃ (h15 : ri_H), ∃ (h27 : ri_H), ri_calE ri_md (d + 2) 244 [.ref 0] h = some (none, h1) ∧ iT b n m (eh_V h1) ∧ ¬ ((eh_i (eh_V h1) 0 11) = 1) ∧ eh_V h15 = (eh_V h1) ∧ ri_calE ri_md (d + 2) 243 [.ref 0, .int 22] h15 = some (none, h27) ∧ iT b n m (eh_V h27) ∧ ¬ ((eh_i (eh_V h27) 0 11) = 3) ∧ rs = [.int 0] ∧ eh_V h' = eh_u (eh_u (eh_V h27) 0 15 (.int 1)) 0 16 (.int (eh_i (eh_V h27) 0 12)) ∧ eh_N h' = eh_N h ∧ iT b n m (eh_u (eh_u (eh_V h27) 0 15 (.int 1)) 0 16 (.int (eh_i (eh_V h27) 0 12)))) ∨ (∃ (h1 : ri_H), ∃ (h15 : ri_H), ∃ (h27 : ri_H), ri_calE ri_md (d + 2) 244 [.ref 0] h = some (none, h1) ∧ iT b n m (eh_V h1) ∧ ¬ ((eh_i (eh_V h1) 0 11) = 1) ∧ eh_V h15 = (eh_V h1) ∧ ri_calE ri_md (d + 2) 243 [.ref 0, .int 22] h15 = some (none, h27) ∧ iT b n m (eh_V h27) ∧ (eh_i (eh_V h27) 0 11) = 3 ∧ ¬ ((eh_i (eh_V h27) 0 14) = 41) ∧ rs = [.int 0] ∧ eh_V h' = eh_u (eh_u (eh_V h27) 0 15 (.int 1)) 0 16 (.int (eh_i (eh_V h27) 0 12)) ∧ eh_N h' = eh_N h ∧ iT b n m (eh_u (eh_u (eh_V h27) 0 15 (.int 1)) 0 16 (.int (eh_i (eh_V h27) 0 12)))) ∨ (∃ (h1 : ri_H), ∃ (h15 : ri_H), ∃ (h27 : ri_H), ∃ (h51 : ri_H), ∃ (h54 : ri_H), ri_calE ri_md (d + 2) 244 [.ref 0] h = some (none, h1) ∧ iT b n m (eh_V h1) ∧ ¬ ((eh_i (eh_V h1) 0 11) = 1) ∧ eh_V h15 = (eh_V h1) ∧ ri_calE ri_md (d + 2) 243 [.ref 0, .int 22] h15 = some (none, h27) ∧ iT b n m (eh_V h27) ∧ (eh_i (eh_V h27) 0 11) = 3 ∧ (eh_i (eh_V h27) 0 14) = 41 ∧ ¬ ((eh_i (eh_V h27) 0 41) = 0) ∧ eh_V h51 = eh_u (eh_u (eh_V h27) 0 41 (.int ((eh_i (eh_V h27) 0 41) - 1))) 0 42 (.int ((eh_i (eh_V h27) 0 42) - 1)) ∧ ri_calE ri_md (d + 2) 158 [.ref 0] h51 = some (none, h54) ∧ iT b n m (eh_V h54) ∧ rs = [.int 1] ∧ eh_V h' = (eh_V h54) ∧ eh_N h' = eh_N h ∧ iT b n m (eh_V h54)) ∨ (∃ (h1 : ri_H), ∃ (h15 : ri_H), ∃ (h27 : ri_H), ri_calE ri_md (d + 2) 244 [.ref 0] h = some (none, h1) ∧ iT b n m (eh_V h1) ∧ ¬ ((eh_i (eh_V h1) 0 11) = 1) ∧ eh_V h15 = (eh_V h1) ∧ ri_calE ri_md (d + 2) 243 [.ref 0, .int 22] h15 = some (none, h27) ∧ iT b n m (eh_V h27) ∧ (eh_i (eh_V h27) 0 11) = 3 ∧ (eh_i (eh_V h27) 0 14) = 41 ∧ (eh_i (eh_V h27) 0 41) = 0 ∧ rs = [.int 0] ∧ eh_V h' = eh_u (eh_u (eh_V h27) 0 15 (.int 1)) 0 16 (.int (eh_i (eh_V h27) 0 12)) ∧ eh_N h' = eh_N h ∧ iT b n m (eh_u (eh_u (eh_V h27) 0 15 (.int 1)) 0 16 (.int (eh_i (eh_V h27) 0 12)))) ∨ (∃ (h1 : ri_H), ∃ (h59 : ri_H), ∃ (h71 : ri_H), ri_calE ri_md (d + 2) 244 [.ref 0] h = some (none, h1) ∧ iT b n m (eh_V h1) ∧ (eh_i (eh_V h1) 0 11) = 1 ∧ ¬ ((eh_l (eh_V h1) 0 17) = 6385252) ∧ ¬ ((eh_l (eh_V h1) 0 17) = 28530) ∧ eh_V h59 = (eh_V h1) ∧ ri_calE ri_md (d + 2) 243 [.ref 0, .int 22] h59 = some (none, h71) ∧ iT b n m (eh_V h71) ∧ ¬ ((eh_i (eh_V h71) 0 11) = 3) ∧ rs = [.int 0] ∧ eh_V h' = eh_u (eh_u (eh_V h71) 0 15 (.int 1)) 0 16 (.int (eh_i (eh_V h71) 0 12)) ∧ eh_N h' = eh_N h ∧ iT b n m (eh_u (eh_u (eh_V h71) 0 15 (.int 1)) 0 16 (.int (eh_i (eh_V h71) 0 12)))) ∨ (∃ (h1 : ri_H), ∃ (h59 : ri_H), ∃ (h71 : ri_H), ri_calE ri_md (d + 2) 244 [.ref 0] h = some (none, h1) ∧ iT b n m (eh_V h1) ∧ (eh_i (eh_V h1) 0 11) = 1 ∧ ¬ ((eh_l (eh_V h1) 0 17) = 6385252) ∧ ¬ ((eh_l (eh_V h1) 0 17) = 28530) ∧ eh_V h59 = (eh_V h1) ∧ ri_calE ri_md (d + 2) 243 [.ref 0, .int 22] h59 = some (none, h71) ∧ iT b n m (eh_V h71) ∧ (eh_i (eh_V h71) 0 11) = 3 ∧ ¬ ((eh_i (eh_V h71) 0 14) = 41) ∧ rs = [.int 0] ∧ eh_V h' = eh_u (eh_u (eh_V h71) 0 15 (.int 1)) 0 16 (.int (eh_i (eh_V h71) 0 12)) ∧ eh_N h' = eh_N h ∧ iT b n m (eh_u (eh_u (eh_V h71) 0 15 (.int 1)) 0 16 (.int (eh_i (eh_V h71) 0 12)))) ∨ (∃ (h1 : ri_H), ∃ (h59 : ri_H), ∃ (h71 : ri_H), ∃ (h95 : ri_H), ∃ (h98 : ri_H), ri_calE ri_md (d + 2) 244 [.ref 0] h = some (none, h1) ∧ iT b n m (eh_V h1) ∧ (eh_i (eh_V h1) 0 11) = 1 ∧ ¬ ((eh_l (eh_V h1) 0 17) = 6385252) ∧ ¬ ((eh_l (eh_V h1) 0 17) = 28530) ∧ eh_V h59 = (eh_V h1) ∧ ri_calE ri_md (d + 2) 243 [.ref 0, .int 22] h59 = some (none, h71) ∧ iT b n m (eh_V h71) ∧ (eh_i (eh_V h71) 0 11) = 3 ∧ (eh_i (eh_V h71) 0 14) = 41 ∧ ¬ ((eh_i (eh_V h71) 0 41) = 0) ∧ eh_V h95 = eh_u (eh_u (eh_V h71) 0 41 (.int ((eh_i (eh_V h71) 0 41) - 1))) 0 42 (.int ((eh_i (eh_V h71) 0 42) - 1)) ∧ ri_calE ri_md (d + 2) 158 [.ref 0] h95 = some (none, h98) ∧ iT b n m (eh_V h98) ∧ rs = [.int 1] ∧ eh_V h' = (eh_V h98) ∧ eh_N h' = eh_N h ∧ iT b n m (eh_V h98)) ∨ (∃ (h1 : ri_H), ∃ (h59 : ri_H), ∃ (h71 : ri_H), ri_calE ri_md (d + 2) 244 [.ref 0] h = some (none, h1) ∧ iT b n m (eh_V h1) ∧ (eh_i (eh_V h1) 0 11) = 1 ∧ ¬ ((eh_l (eh_V h1) 0 17) = 6385252) ∧ ¬ ((eh_l (eh_V h1) 0 17) = 28530) ∧ eh_V h59 = (eh_V h1) ∧ ri_calE ri_md (d + 2) 243 [.ref 0, .int 22] h59 = some (none, h71) ∧ iT b n m (eh_V h71) ∧ (eh_i (eh_V h71) 0 11) = 3 ∧ (eh_i (eh_V h71) 0 14) = 41 ∧ (eh_i (eh_V h71) 0 41) = 0 ∧ rs = [.int 0] ∧ eh_V h' = eh_u (eh_u (eh_V h71) 0 15 (.int 1)) 0 16 (.int (eh_i (eh_V h71) 0 12)) ∧ eh_N h' = eh_N h ∧ iT b n m (eh_u (eh_u (eh_V h71) 0 15 (.int 1)) 0 16 (.int (eh_i (eh_V h71) 0 12)))) ∨ (∃ (h1 : ri_H), ∃ (h103 : ri_H), ∃ (h115 : ri_H), ∃ (h135 : ri_H), ∃ (h138 : ri_H), ri_calE ri_md (d + 2) 244 [.ref 0] h = some (none, h1) ∧ iT b n m (eh_V h1) ∧ (eh_i (eh_V h1) 0 11) = 1 ∧ ¬ ((eh_l (eh_V h1) 0 17) = 6385252) ∧ (eh_l (eh_V h1) 0 17) = 28530 ∧ eh_V h103 = (eh_V h1) ∧ ri_calE ri_md (d + 2) 243 [.ref 0, .int 22] h103 = some (none, h115) ∧ iT b n m (eh_V h115) ∧ ¬ ((eh_i (eh_V h115) 0 11) = 1) ∧ eh_V h135 = eh_u (eh_u (eh_u (eh_V h115) 13 (eh_i (eh_V h115) 0 41).toNatClampNeg (.int 22)) 0 41 (.int ((eh_i (eh_V h115) 0 41) + 1))) 0 43 (.int 0) ∧ ri_calE ri_md (d + 2) 158 [.ref 0] h135 = some (none, h138) ∧ iT b n m (eh_V h138) ∧ rs = [.int 1] ∧ eh_V h' = (eh_V h138) ∧ eh_N h' = eh_N h ∧ iT b n m (eh_V h138)) ∨ (∃ (h1 : ri_H), ∃ (h103 : ri_H), ∃ (h115 : ri_H), ∃ (h146 : ri_H), ∃ (h149 : ri_H), ri_calE ri_md (d + 2) 244 [.ref 0] h = some (none, h1) ∧ iT b n m (eh_V h1) ∧ (eh_i (eh_V h1) 0 11) = 1 ∧ ¬ ((eh_l (eh_V h1) 0 17) = 6385252) ∧ (eh_l (eh_V h1) 0 17) = 28530 ∧ eh_V h103 = (eh_V h1) ∧ ri_calE ri_md (d + 2) 243 [.ref 0, .int 22] h103 = some (none, h115) ∧ iT b n m (eh_V h115) ∧ (eh_i (eh_V h115) 0 11) = 1 ∧ ¬ ((eh_l (eh_V h115) 0 17) = 6385252) ∧ eh_V h146 = eh_u (eh_u (eh_u (eh_V h115) 13 (eh_i (eh_V h115) 0 41).toNatClampNeg (.int 22)) 0 41 (.int ((eh_i (eh_V h115) 0 41) + 1))) 0 43 (.int 0) ∧ ri_calE ri_md (d + 2) 158 [.ref 0] h146 = some (none, h149) ∧ iT b n m (eh_V h149) ∧ rs = [.int 1] ∧ eh_V h' = (eh_V h149) ∧ eh_N h' = eh_N h ∧ iT b n m (eh_V h149)) ∨ (∃ (h1 : ri_H), ∃ (h103 : ri_H), ∃ (h115 : ri_H), ∃ (h157 : ri_H), ∃ (h160 : ri_H), ri_calE ri_md (d + 2) 244 [.ref 0] h = some (none, h1) ∧ iT b n m (eh_V h1) ∧ (eh_i (eh_V h1) 0 11) = 1 ∧ ¬ ((eh_l (eh_V h1) 0 17) = 6385252) ∧ (eh_l (eh_V h1) 0 17) = 28530 ∧ eh_V h103 = (eh_V h1) ∧ ri_calE ri_md (d + 2) 243 [.ref 0, .int 22] h103 = some (none, h115) ∧ iT b n m (eh_V h115) ∧ (eh_i (eh_V h115) 0 11) = 1 ∧ (eh_l (eh_V h115) 0 17) = 6385252 ∧ eh_V h157 = eh_u (eh_u (eh_u (eh_V h115) 13 (eh_i (eh_V h115) 0 41).toNatClampNeg (.int 21)) 0 41 (.int ((eh_i (eh_V h115) 0 41) + 1))) 0 43 (.int 0) ∧ ri_calE ri_md (d + 2) 158 [.ref 0] h157 = some (none, h160) ∧ iT b n m (eh_V h160) ∧ rs = [.int 1] ∧ eh_V h' = (eh_V h160) ∧ eh_N h' = eh_N h ∧ iT b n m (eh_V h160)) ∨ (∃ (h1 : ri_H), ∃ (h162 : ri_H), ∃ (h174 : ri_H), ∃ (h194 : ri_H), ∃ (h197 : ri_H), ri_calE ri_md (d + 2) 244 [.ref 0] h = some (none, h1) ∧ iT b n m (eh_V h1) ∧ (eh_i (eh_V h1) 0 11) = 1 ∧ (eh_l (eh_V h1) 0 17) = 6385252 ∧ eh_V h162 = (eh_V h1) ∧ ri_calE ri_md (d + 2) 243 [.ref 0, .int 21] h162 = some (none, h174) ∧ iT b n m (eh_V h174) ∧ ¬ ((eh_i (eh_V h174) 0 11) = 1) ∧ eh_V h194 = eh_u (eh_u (eh_u (eh_V h174) 13 (eh_i (eh_V h174) 0 41).toNatClampNeg (.int 22)) 0 41 (.int ((eh_i (eh_V h174) 0 41) + 1))) 0 43 (.int 0) ∧ ri_calE ri_md (d + 2) 158 [.ref 0] h194 = some (none, h197) ∧ iT b n m (eh_V h197) ∧ rs = [.int 1] ∧ eh_V h' = (eh_V h197) ∧ eh_N h' = eh_N h ∧ iT b n m (eh_V h197)) ∨ (∃ (h1 : ri_H), ∃ (h162 : ri_H), ∃ (h174 : ri_H), ∃ (h205 : ri_H), ∃ (h208 : ri_H), ri_calE ri_md (d + 2) 244 [.ref 0] h = some (none, h1) ∧ iT b n m (eh_V h1) ∧ (eh_i (eh_V h1) 0 11) = 1 ∧ (eh_l (eh_V h1) 0 17) = 6385252 ∧ eh_V h162 = (eh_V h1) ∧ ri_calE ri_md (d + 2) 243 [.ref 0, .int 21] h162 = some (none, h174) ∧ iT b n m (eh_V h174) ∧ (eh_i (eh_V h174) 0 11) = 1 ∧ ¬ ((eh_l (eh_V h174) 0 17) = 6385252) ∧ eh_V h205 = eh_u (eh_u (eh_u (eh_V h174) 13 (eh_i (eh_V h174) 0 41).toNatClampNeg (.int 22)) 0 41 (.int ((eh_i (eh_V h174) 0 41) + 1))) 0 43 (.int 0) ∧ ri_calE ri_md (d + 2) 158 [.ref 0] h205 = some (none, h208) ∧ iT b n m (eh_V h208) ∧ rs = [.int 1] ∧ eh_V h' = (eh_V h208) ∧ eh_N h' = eh_N h ∧ iT b n m (eh_V h208)) ∨ (∃ (h1 : ri_H), ∃ (h162 : ri_H), ∃ (h174 : ri_H), ∃ (h216 : ri_H), ∃ (h219 : ri_H), ri_calE ri_md (d + 2) 244 [.ref 0] h = some (none, h1) ∧ iT b n m (eh_V h1) ∧ (eh_i (eh_V h1) 0 11) = 1 ∧ (eh_l (eh_V h1) 0 17) = 6385252 ∧ eh_V h162 = (eh_V h1) ∧ ri_calE ri_md (d + 2) 243 [.ref 0, .int 21] h162 = some (none, h174) ∧ iT b n m (eh_V h174) ∧ (eh_i (eh_V h174) 0 11) = 1 ∧ (eh_l (eh_V h174) 0 17) = 6385252 ∧ eh_V h216 = eh_u (eh_u (eh_u (eh_V h174) 13 (eh_i (eh_V h174) 0 41).toNatClampNeg (.int 21)) 0 41 (.int ((eh_i (eh_V h174) 0 41) + 1))) 0 43 (.int 0) ∧ ri_calE ri_md (d + 2) 158 [.ref 0] h216 = some (none, h219) ∧ iT b n m (eh_V h219) ∧ rs = [.int 1] ∧ eh_V h' = (eh_V h219) ∧ eh_N h' = eh_N h ∧ iT b n m (eh_V h219)) := by
  have E := E.ld (p := 1) (t := ri_isA) (i := 0) (n := 1) (v := .ref 0) rfl (e := (.aload_n 0, 1, [], .null)) rfl rfl (fun _ _ => rfl) l0 rfl
  obtain ⟨v1, h1, X, E⟩ := E.cv (p := 4) (as := []) (b := 0) (r := []) rfl (x := 419) (m := 3) (w := .null) (j := 244) (n := 0) (t := 12) (u := [1842, 90, 1844]) rfl rfl rfl
  obtain ⟨rfl, ivk2, hNk2⟩ := ts_244 (d := d) X (by rw [hV]; exact iv)
  have Xk2 := X
  have E : eh_e _ _ 4 lo [] h1 rs h' := E
  have E := E.ld (p := 5) (t := ri_isA) (i := 0) (n := 1) (v := .ref 0) rfl (e := (.aload_n 0, 1, [], .null)) rfl rfl (fun _ _ => rfl) l0 rfl
  have E := E.pu (p := 8) (lo' := lo) (st' := [.long 6385252, .ref 0]) rfl (e := (.ldc2_w 112, 3, [1310], .long 6385252)) rfl rfl (fun _ _ => rfl)
  obtain ⟨v1, h3, X, E⟩ := E.cv (p := 11) (as := [.long 6385252]) (b := 0) (r := []) rfl (x := 202) (m := 3) (w := .null) (j := 160) (n := 1) (t := 12) (u := [1496, 38, 1498]) rfl rfl rfl
  rcases sp_160 (d := d + 1) X (rfl : eh_V h1 = eh_V h1) ivk2.1 with ⟨c4, rfl, hV5, hN6⟩ | ⟨c7, c8, rfl, hV9, hN10⟩ | ⟨c11, c12, rfl, hV13, hN14⟩
  · skip
    have c4 : ¬ ((eh_i (eh_V h1) 0 11) = 1) := c4
    have E : eh_e _ _ 11 lo [.int 0] _ rs h' := E
    have E := E.brf (p := 14) (c := 1) (tgt := 24) (a := 0) (b := 0) (st' := []) rfl (e := (.ifCond .ne 13, 3, [24], .null)) rfl rfl (fun _ _ => rfl) (by decide) rfl
    have E := E.ld (p := 15) (t := ri_isA) (i := 0) (n := 1) (v := .ref 0) rfl (e := (.aload_n 0, 1, [], .null)) rfl rfl (fun _ _ => rfl) l0 rfl
    have E := E.pu (p := 18) (lo' := lo) (st' := [.long 28530, .ref 0]) rfl (e := (.ldc2_w 110, 3, [1309], .long 28530)) rfl rfl (fun _ _ => rfl)
    obtain ⟨v1, h15, X, E⟩ := E.cv (p := 21) (as := [.long 28530]) (b := 0) (r := []) rfl (x := 202) (m := 3) (w := .null) (j := 160) (n := 1) (t := 12) (u := [1496, 38, 1498]) rfl rfl rfl
    rcases sp_160 (d := d + 1) X hV5 ivk2.1 with ⟨c16, rfl, hV17, hN18⟩ | ⟨c19, c20, rfl, hV21, hN22⟩ | ⟨c23, c24, rfl, hV25, hN26⟩
    · skip
      have E : eh_e _ _ 21 lo [.int 0] _ rs h' := E
      have E := E.brt (c := 0) (tgt := 92) (a := 0) (b := 0) (st' := []) rfl (e := (.ifCond .eq 71, 3, [92], .null)) rfl rfl (fun _ _ => rfl) (by decide)
      have E := E.ld (p := 93) (t := ri_isA) (i := 0) (n := 1) (v := .ref 0) rfl (e := (.aload_n 0, 1, [], .null)) rfl rfl (fun _ _ => rfl) l0 rfl
      have E := E.pu (p := 95) (lo' := lo) (st' := [.int 22, .ref 0]) rfl (e := (.bipush 22, 2, [], .null)) rfl rfl (fun _ _ => rfl)
      obtain ⟨v1, h27, X, E⟩ := E.cv (p := 98) (as := [.int 22]) (b := 0) (r := []) rfl (x := 422) (m := 3) (w := .null) (j := 243) (n := 1) (t := 12) (u := [1850, 92, 1852]) rfl rfl rfl
      obtain ⟨rfl, ivk28, hNk28⟩ := ts_243 (d := d) X (by rw [hV17]; exact ivk2)
      have Xk28 := X
      have E : eh_e _ _ 98 lo [] h27 rs h' := E
      have E := E.ld (p := 99) (t := ri_isA) (i := 0) (n := 1) (v := .ref 0) rfl (e := (.aload_n 0, 1, [], .null)) rfl rfl (fun _ _ => rfl) l0 rfl
      have E := E.pu (p := 101) (lo' := lo) (st' := [.int 41, .ref 0]) rfl (e := (.bipush 41, 2, [], .null)) rfl rfl (fun _ _ => rfl)
      obtain ⟨v1, h29, X, E⟩ := E.cv (p := 104) (as := [.int 41]) (b := 0) (r := []) rfl (x := 168) (m := 3) (w := .null) (j := 161) (n := 1) (t := 12) (u := [1542, 48, 1544]) rfl rfl rfl
      rcases sp_161 (d := d + 1) X (rfl : eh_V h27 = eh_V h27) ivk28.1 with ⟨c30, rfl, hV31, hN32⟩ | ⟨c33, c34, rfl, hV35, hN36⟩ | ⟨c37, c38, rfl, hV39, hN40⟩
      · skip
        have c30 : ¬ ((eh_i (eh_V h27) 0 11) = 3) := c30
        have E : eh_e _ _ 104 lo [.int 0] _ rs h' := E
        have E := E.brt (c := 0) (tgt := 114) (a := 0) (b := 0) (st' := []) rfl (e := (.ifCond .eq 10, 3, [114], .null)) rfl rfl (fun _ _ => rfl) (by decide)
        have E := E.ld (p := 115) (t := ri_isA) (i := 0) (n := 1) (v := .ref 0) rfl (e := (.aload_n 0, 1, [], .null)) rfl rfl (fun _ _ => rfl) l0 rfl
        have E := E.pu (p := 116) (lo' := lo) (st' := [.int 1, .ref 0]) rfl (e := (.iconst 1, 1, [], .null)) rfl rfl (fun _ _ => rfl)
        obtain ⟨v1, h41, X, E⟩ := E.cv (p := 119) (as := [.int 1]) (b := 0) (r := []) rfl (x := 171) (m := 3) (w := .null) (j := 159) (n := 1) (t := 12) (u := [1507, 40, 1509]) rfl rfl rfl
        rcases sp_159 (d := d + 1) X hV31 ivk28.1 with ⟨rfl, hV42, hN43⟩
        have hV42 : _ = eh_u (eh_u (eh_V h27) 0 15 (.int 1)) 0 16 (.int (eh_i (eh_V h27) 0 12)) := hV42
        have E : eh_e _ _ 119 lo [.int 0] _ rs h' := E
        obtain ⟨r1, r2⟩ := E.reti rfl (m := 1) (ax := []) (w := .null) rfl
        exact Or.inl ⟨h1, h15, h27, Xk2, ivk2, c4, hV17, Xk28, ivk28, c30, r1, ((congrArg eh_V r2).trans hV42), ((congrArg eh_N r2).trans (hN43.trans (hN32.trans (hNk28.trans (hN18.trans (hN6.trans hNk2)))))), (iT_u (iT_u ivk28 (ivk28.1.ui rfl) rfl) ((ivk28.1.ui rfl).ui rfl) rfl)⟩
      · skip
        have c33 : (eh_i (eh_V h27) 0 11) = 3 := c33
        have c34 : ¬ ((eh_i (eh_V h27) 0 14) = 41) := c34
        have E : eh_e _ _ 104 lo [.int 0] _ rs h' := E
        have E := E.brt (c := 0) (tgt := 114) (a := 0) (b := 0) (st' := []) rfl (e := (.ifCond .eq 10, 3, [114], .null)) rfl rfl (fun _ _ => rfl) (by decide)
        have E := E.ld (p := 115) (t := ri_isA) (i := 0) (n := 1) (v := .ref 0) rfl (e := (.aload_n 0, 1, [], .null)) rfl rfl (fun _ _ => rfl) l0 rfl
        have E := E.pu (p := 116) (lo' := lo) (st' := [.int 1, .ref 0]) rfl (e := (.iconst 1, 1, [], .null)) rfl rfl (fun _ _ => rfl)
        obtain ⟨v1, h44, X, E⟩ := E.cv (p := 119) (as := [.int 1]) (b := 0) (r := []) rfl (x := 171) (m := 3) (w := .null) (j := 159) (n := 1) (t := 12) (u := [1507, 40, 1509]) rfl rfl rfl
        rcases sp_159 (d := d + 1) X hV35 ivk28.1 with ⟨rfl, hV45, hN46⟩
        have hV45 : _ = eh_u (eh_u (eh_V h27) 0 15 (.int 1)) 0 16 (.int (eh_i (eh_V h27) 0 12)) := hV45
        have E : eh_e _ _ 119 lo [.int 0] _ rs h' := E
        obtain ⟨r1, r2⟩ := E.reti rfl (m := 1) (ax := []) (w := .null) rfl
        exact Or.inr (Or.inl ⟨h1, h15, h27, Xk2, ivk2, c4, hV17, Xk28, ivk28, c33, c34, r1, ((congrArg eh_V r2).trans hV45), ((congrArg eh_N r2).trans (hN46.trans (hN36.trans (hNk28.trans (hN18.trans (hN6.trans hNk2)))))), (iT_u (iT_u ivk28 (ivk28.1.ui rfl) rfl) ((ivk28.1.ui rfl).ui rfl) rfl)⟩)
      · skip
        have c37 : (eh_i (eh_V h27) 0 11) = 3 := c37
        have c38 : (eh_i (eh_V h27) 0 14) = 41 := c38
        have E : eh_e _ _ 104 lo [.int 1] _ rs h' := E
        have E := E.brf (p := 107) (c := 0) (tgt := 114) (a := 1) (b := 0) (st' := []) rfl (e := (.ifCond .eq 10, 3, [114], .null)) rfl rfl (fun _ _ => rfl) (by decide) rfl
        have E := E.ld (p := 108) (t := ri_isA) (i := 0) (n := 1) (v := .ref 0) rfl (e := (.aload_n 0, 1, [], .null)) rfl rfl (fun _ _ => rfl) l0 rfl
        have E := E.gi (y := eh_i (eh_V h27) 0 41) (p := 111) rfl (x := 400) (m := 3) (w := .null) (t := 12) (i := 41) (u := 1365) rfl rfl hV39 ivk28.1 rfl rfl
        rcases eh_q1 (E.br (p := 114) (c := 1) (tgt := 120) (a := eh_i (eh_V h27) 0 41) (b := 0) (st' := []) rfl (e := (.ifCond .ne 9, 3, [120], .null)) rfl rfl (fun _ _ => rfl) rfl) with ⟨c47, E⟩ | ⟨c47, E⟩
        · skip
          have E := E.ld (p := 121) (t := ri_isA) (i := 0) (n := 1) (v := .ref 0) rfl (e := (.aload_n 0, 1, [], .null)) rfl rfl (fun _ _ => rfl) l0 rfl
          have E := E.pu (p := 122) (lo' := lo) (st' := [.ref 0, .ref 0]) rfl (e := (.dup, 1, [], .null)) rfl rfl (fun _ _ => rfl)
          have E := E.gi (y := eh_i (eh_V h27) 0 41) (p := 125) rfl (x := 400) (m := 3) (w := .null) (t := 12) (i := 41) (u := 1365) rfl rfl hV39 ivk28.1 rfl rfl
          have E := E.pu (p := 126) (lo' := lo) (st' := [.int 1, .int (eh_i (eh_V h27) 0 41), .ref 0]) rfl (e := (.iconst 1, 1, [], .null)) rfl rfl (fun _ _ => rfl)
          have E := E.pu (p := 127) (lo' := lo) (st' := [.int ((eh_i (eh_V h27) 0 41) - 1), .ref 0]) rfl (e := (.isub, 1, [], .null)) rfl rfl (fun _ _ => rfl)
          obtain ⟨h48, hV49, hN50, E⟩ := E.gp (p := 130) rfl (x := 400) (m := 3) (w := .null) (t := 12) (i := 41) (u := 1365) (y := 0) rfl rfl hV39
          have E := E.ld (p := 131) (t := ri_isA) (i := 0) (n := 1) (v := .ref 0) rfl (e := (.aload_n 0, 1, [], .null)) rfl rfl (fun _ _ => rfl) l0 rfl
          have E := E.pu (p := 132) (lo' := lo) (st' := [.ref 0, .ref 0]) rfl (e := (.dup, 1, [], .null)) rfl rfl (fun _ _ => rfl)
          have E := E.gi (y := eh_i (eh_V h27) 0 42) (p := 135) rfl (x := 407) (m := 3) (w := .null) (t := 12) (i := 42) (u := 1366) rfl rfl hV49 (ivk28.1.ui rfl) rfl rfl
          have E := E.pu (p := 136) (lo' := lo) (st' := [.int 1, .int (eh_i (eh_V h27) 0 42), .ref 0]) rfl (e := (.iconst 1, 1, [], .null)) rfl rfl (fun _ _ => rfl)
          have E := E.pu (p := 137) (lo' := lo) (st' := [.int ((eh_i (eh_V h27) 0 42) - 1), .ref 0]) rfl (e := (.isub, 1, [], .null)) rfl rfl (fun _ _ => rfl)
          obtain ⟨h51, hV52, hN53, E⟩ := E.gp (p := 140) rfl (x := 407) (m := 3) (w := .null) (t := 12) (i := 42) (u := 1366) (y := 0) rfl rfl hV49
          have E := E.ld (p := 141) (t := ri_isA) (i := 0) (n := 1) (v := .ref 0) rfl (e := (.aload_n 0, 1, [], .null)) rfl rfl (fun _ _ => rfl) l0 rfl
          obtain ⟨v1, h54, X, E⟩ := E.cv (p := 144) (as := []) (b := 0) (r := []) rfl (x := 174) (m := 3) (w := .null) (j := 158) (n := 0) (t := 12) (u := [1478, 35, 1480]) rfl rfl rfl
          obtain ⟨rfl, ivk55, hNk55⟩ := ts_158 (d := d) X (by rw [hV52]; exact (iT_u (iT_u ivk28 (ivk28.1.ui rfl) rfl) ((ivk28.1.ui rfl).ui rfl) rfl))
          have Xk55 := X
          have E : eh_e _ _ 144 lo [] h54 rs h' := E
          have E := E.pu (p := 145) (lo' := lo) (st' := [.int 1]) rfl (e := (.iconst 1, 1, [], .null)) rfl rfl (fun _ _ => rfl)
          obtain ⟨r1, r2⟩ := E.reti rfl (m := 1) (ax := []) (w := .null) rfl
          exact Or.inr (Or.inr (Or.inl ⟨h1, h15, h27, h51, h54, Xk2, ivk2, c4, hV17, Xk28, ivk28, c37, c38, c47, hV52, Xk55, ivk55, r1, ((congrArg eh_V r2).trans (rfl : eh_V h54 = eh_V h54)), ((congrArg eh_N r2).trans (hNk55.trans (hN53.trans (hN50.trans (hN40.trans (hNk28.trans (hN18.trans (hN6.trans hNk2)))))))), ivk55⟩))
        · skip
          have E := E.ld (p := 115) (t := ri_isA) (i := 0) (n := 1) (v := .ref 0) rfl (e := (.aload_n 0, 1, [], .null)) rfl rfl (fun _ _ => rfl) l0 rfl
          have E := E.pu (p := 116) (lo' := lo) (st' := [.int 1, .ref 0]) rfl (e := (.iconst 1, 1, [], .null)) rfl rfl (fun _ _ => rfl)
          obtain ⟨v1, h56, X, E⟩ := E.cv (p := 119) (as := [.int 1]) (b := 0) (r := []) rfl (x := 171) (m := 3) (w := .null) (j := 159) (n := 1) (t := 12) (u := [1507, 40, 1509]) rfl rfl rfl
          rcases sp_159 (d := d + 1) X hV39 ivk28.1 with ⟨rfl, hV57, hN58⟩
          have hV57 : _ = eh_u (eh_u (eh_V h27) 0 15 (.int 1)) 0 16 (.int (eh_i (eh_V h27) 0 12)) := hV57
          have E : eh_e _ _ 119 lo [.int 0] _ rs h' := E
          obtain ⟨r1, r2⟩ := E.reti rfl (m := 1) (ax := []) (w := .null) rfl
          exact Or.inr (Or.inr (Or.inr (Or.inl ⟨h1, h15, h27, Xk2, ivk2, c4, hV17, Xk28, ivk28, c37, c38, c47, r1, ((congrArg eh_V r2).trans hV57), ((congrArg eh_N r2).trans (hN58.trans (hN40.trans (hNk28.trans (hN18.trans (hN6.trans hNk2)))))), (iT_u (iT_u ivk28 (ivk28.1.ui rfl) rfl) ((ivk28.1.ui rfl).ui rfl) rfl)⟩)))
    · skip
      exact absurd c19 c4
    · skip
      exact absurd c23 c4
  · skip
    have c7 : (eh_i (eh_V h1) 0 11) = 1 := c7
    have c8 : ¬ ((eh_l (eh_V h1) 0 17) = 6385252) := c8
    have E : eh_e _ _ 11 lo [.int 0] _ rs h' := E
    have E := E.brf (p := 14) (c := 1) (tgt := 24) (a := 0) (b := 0) (st' := []) rfl (e := (.ifCond .ne 13, 3, [24], .null)) rfl rfl (fun _ _ => rfl) (by decide) rfl
    have E := E.ld (p := 15) (t := ri_isA) (i := 0) (n := 1) (v := .ref 0) rfl (e := (.aload_n 0, 1, [], .null)) rfl rfl (fun _ _ => rfl) l0 rfl
    have E := E.pu (p := 18) (lo' := lo) (st' := [.long 28530, .ref 0]) rfl (e := (.ldc2_w 110, 3, [1309], .long 28530)) rfl rfl (fun _ _ => rfl)
    obtain ⟨v1, h59, X, E⟩ := E.cv (p := 21) (as := [.long 28530]) (b := 0) (r := []) rfl (x := 202) (m := 3) (w := .null) (j := 160) (n := 1) (t := 12) (u := [1496, 38, 1498]) rfl rfl rfl
    rcases sp_160 (d := d + 1) X hV9 ivk2.1 with ⟨c60, rfl, hV61, hN62⟩ | ⟨c63, c64, rfl, hV65, hN66⟩ | ⟨c67, c68, rfl, hV69, hN70⟩
    · skip
      exact absurd c7 c60
    · skip
      have c64 : ¬ ((eh_l (eh_V h1) 0 17) = 28530) := c64
      have E : eh_e _ _ 21 lo [.int 0] _ rs h' := E
      have E := E.brt (c := 0) (tgt := 92) (a := 0) (b := 0) (st' := []) rfl (e := (.ifCond .eq 71, 3, [92], .null)) rfl rfl (fun _ _ => rfl) (by decide)
      have E := E.ld (p := 93) (t := ri_isA) (i := 0) (n := 1) (v := .ref 0) rfl (e := (.aload_n 0, 1, [], .null)) rfl rfl (fun _ _ => rfl) l0 rfl
      have E := E.pu (p := 95) (lo' := lo) (st' := [.int 22, .ref 0]) rfl (e := (.bipush 22, 2, [], .null)) rfl rfl (fun _ _ => rfl)
      obtain ⟨v1, h71, X, E⟩ := E.cv (p := 98) (as := [.int 22]) (b := 0) (r := []) rfl (x := 422) (m := 3) (w := .null) (j := 243) (n := 1) (t := 12) (u := [1850, 92, 1852]) rfl rfl rfl
      obtain ⟨rfl, ivk72, hNk72⟩ := ts_243 (d := d) X (by rw [hV65]; exact ivk2)
      have Xk72 := X
      have E : eh_e _ _ 98 lo [] h71 rs h' := E
      have E := E.ld (p := 99) (t := ri_isA) (i := 0) (n := 1) (v := .ref 0) rfl (e := (.aload_n 0, 1, [], .null)) rfl rfl (fun _ _ => rfl) l0 rfl
      have E := E.pu (p := 101) (lo' := lo) (st' := [.int 41, .ref 0]) rfl (e := (.bipush 41, 2, [], .null)) rfl rfl (fun _ _ => rfl)
      obtain ⟨v1, h73, X, E⟩ := E.cv (p := 104) (as := [.int 41]) (b := 0) (r := []) rfl (x := 168) (m := 3) (w := .null) (j := 161) (n := 1) (t := 12) (u := [1542, 48, 1544]) rfl rfl rfl
      rcases sp_161 (d := d + 1) X (rfl : eh_V h71 = eh_V h71) ivk72.1 with ⟨c74, rfl, hV75, hN76⟩ | ⟨c77, c78, rfl, hV79, hN80⟩ | ⟨c81, c82, rfl, hV83, hN84⟩
      · skip
        have c74 : ¬ ((eh_i (eh_V h71) 0 11) = 3) := c74
        have E : eh_e _ _ 104 lo [.int 0] _ rs h' := E
        have E := E.brt (c := 0) (tgt := 114) (a := 0) (b := 0) (st' := []) rfl (e := (.ifCond .eq 10, 3, [114], .null)) rfl rfl (fun _ _ => rfl) (by decide)
        have E := E.ld (p := 115) (t := ri_isA) (i := 0) (n := 1) (v := .ref 0) rfl (e := (.aload_n 0, 1, [], .null)) rfl rfl (fun _ _ => rfl) l0 rfl
        have E := E.pu (p := 116) (lo' := lo) (st' := [.int 1, .ref 0]) rfl (e := (.iconst 1, 1, [], .null)) rfl rfl (fun _ _ => rfl)
        obtain ⟨v1, h85, X, E⟩ := E.cv (p := 119) (as := [.int 1]) (b := 0) (r := []) rfl (x := 171) (m := 3) (w := .null) (j := 159) (n := 1) (t := 12) (u := [1507, 40, 1509]) rfl rfl rfl
        rcases sp_159 (d := d + 1) X hV75 ivk72.1 with ⟨rfl, hV86, hN87⟩
        have hV86 : _ = eh_u (eh_u (eh_V h71) 0 15 (.int 1)) 0 16 (.int (eh_i (eh_V h71) 0 12)) := hV86
        have E : eh_e _ _ 119 lo [.int 0] _ rs h' := E
        obtain ⟨r1, r2⟩ := E.reti rfl (m := 1) (ax := []) (w := .null) rfl
        exact Or.inr (Or.inr (Or.inr (Or.inr (Or.inl ⟨h1, h59, h71, Xk2, ivk2, c7, c8, c64, hV65, Xk72, ivk72, c74, r1, ((congrArg eh_V r2).trans hV86), ((congrArg eh_N r2).trans (hN87.trans (hN76.trans (hNk72.trans (hN66.trans (hN10.trans hNk2)))))), (iT_u (iT_u ivk72 (ivk72.1.ui rfl) rfl) ((ivk72.1.ui rfl).ui rfl) rfl)⟩))))
      · skip
        have c77 : (eh_i (eh_V h71) 0 11) = 3 := c77
        have c78 : ¬ ((eh_i (eh_V h71) 0 14) = 41) := c78
        have E : eh_e _ _ 104 lo [.int 0] _ rs h' := E
        have E := E.brt (c := 0) (tgt := 114) (a := 0) (b := 0) (st' := []) rfl (e := (.ifCond .eq 10, 3, [114], .null)) rfl rfl (fun _ _ => rfl) (by decide)
        have E := E.ld (p := 115) (t := ri_isA) (i := 0) (n := 1) (v := .ref 0) rfl (e := (.aload_n 0, 1, [], .null)) rfl rfl (fun _ _ => rfl) l0 rfl
        have E := E.pu (p := 116) (lo' := lo) (st' := [.int 1, .ref 0]) rfl (e := (.iconst 1, 1, [], .null)) rfl rfl (fun _ _ => rfl)
        obtain ⟨v1, h88, X, E⟩ := E.cv (p := 119) (as := [.int 1]) (b := 0) (r := []) rfl (x := 171) (m := 3) (w := .null) (j := 159) (n := 1) (t := 12) (u := [1507, 40, 1509]) rfl rfl rfl
        rcases sp_159 (d := d + 1) X hV79 ivk72.1 with ⟨rfl, hV89, hN90⟩
        have hV89 : _ = eh_u (eh_u (eh_V h71) 0 15 (.int 1)) 0 16 (.int (eh_i (eh_V h71) 0 12)) := hV89
        have E : eh_e _ _ 119 lo [.int 0] _ rs h' := E
        obtain ⟨r1, r2⟩ := E.reti rfl (m := 1) (ax := []) (w := .null) rfl
        exact Or.inr (Or.inr (Or.inr (Or.inr (Or.inr (Or.inl ⟨h1, h59, h71, Xk2, ivk2, c7, c8, c64, hV65, Xk72, ivk72, c77, c78, r1, ((congrArg eh_V r2).trans hV89), ((congrArg eh_N r2).trans (hN90.trans (hN80.trans (hNk72.trans (hN66.trans (hN10.trans hNk2)))))), (iT_u (iT_u ivk72 (ivk72.1.ui rfl) rfl) ((ivk72.1.ui rfl).ui rfl) rfl)⟩)))))
      · skip
        have c81 : (eh_i (eh_V h71) 0 11) = 3 := c81
        have c82 : (eh_i (eh_V h71) 0 14) = 41 := c82
        have E : eh_e _ _ 104 lo [.int 1] _ rs h' := E
        have E := E.brf (p := 107) (c := 0) (tgt := 114) (a := 1) (b := 0) (st' := []) rfl (e := (.ifCond .eq 10, 3, [114], .null)) rfl rfl (fun _ _ => rfl) (by decide) rfl
        have E := E.ld (p := 108) (t := ri_isA) (i := 0) (n := 1) (v := .ref 0) rfl (e := (.aload_n 0, 1, [], .null)) rfl rfl (fun _ _ => rfl) l0 rfl
        have E := E.gi (y := eh_i (eh_V h71) 0 41) (p := 111) rfl (x := 400) (m := 3) (w := .null) (t := 12) (i := 41) (u := 1365) rfl rfl hV83 ivk72.1 rfl rfl
        rcases eh_q1 (E.br (p := 114) (c := 1) (tgt := 120) (a := eh_i (eh_V h71) 0 41) (b := 0) (st' := []) rfl (e := (.ifCond .ne 9, 3, [120], .null)) rfl rfl (fun _ _ => rfl) rfl) with ⟨c91, E⟩ | ⟨c91, E⟩
        · skip
          have E := E.ld (p := 121) (t := ri_isA) (i := 0) (n := 1) (v := .ref 0) rfl (e := (.aload_n 0, 1, [], .null)) rfl rfl (fun _ _ => rfl) l0 rfl
          have E := E.pu (p := 122) (lo' := lo) (st' := [.ref 0, .ref 0]) rfl (e := (.dup, 1, [], .null)) rfl rfl (fun _ _ => rfl)
          have E := E.gi (y := eh_i (eh_V h71) 0 41) (p := 125) rfl (x := 400) (m := 3) (w := .null) (t := 12) (i := 41) (u := 1365) rfl rfl hV83 ivk72.1 rfl rfl
          have E := E.pu (p := 126) (lo' := lo) (st' := [.int 1, .int (eh_i (eh_V h71) 0 41), .ref 0]) rfl (e := (.iconst 1, 1, [], .null)) rfl rfl (fun _ _ => rfl)
          have E := E.pu (p := 127) (lo' := lo) (st' := [.int ((eh_i (eh_V h71) 0 41) - 1), .ref 0]) rfl (e := (.isub, 1, [], .null)) rfl rfl (fun _ _ => rfl)
          obtain ⟨h92, hV93, hN94, E⟩ := E.gp (p := 130) rfl (x := 400) (m := 3) (w := .null) (t := 12) (i := 41) (u := 1365) (y := 0) rfl rfl hV83
          have E := E.ld (p := 131) (t := ri_isA) (i := 0) (n := 1) (v := .ref 0) rfl (e := (.aload_n 0, 1, [], .null)) rfl rfl (fun _ _ => rfl) l0 rfl
          have E := E.pu (p := 132) (lo' := lo) (st' := [.ref 0, .ref 0]) rfl (e := (.dup, 1, [], .null)) rfl rfl (fun _ _ => rfl)
          have E := E.gi (y := eh_i (eh_V h71) 0 42) (p := 135) rfl (x := 407) (m := 3) (w := .null) (t := 12) (i := 42) (u := 1366) rfl rfl hV93 (ivk72.1.ui rfl) rfl rfl
          have E := E.pu (p := 136) (lo' := lo) (st' := [.int 1, .int (eh_i (eh_V h71) 0 42), .ref 0]) rfl (e := (.iconst 1, 1, [], .null)) rfl rfl (fun _ _ => rfl)
          have E := E.pu (p := 137) (lo' := lo) (st' := [.int ((eh_i (eh_V h71) 0 42) - 1), .ref 0]) rfl (e := (.isub, 1, [], .null)) rfl rfl (fun _ _ => rfl)
          obtain ⟨h95, hV96, hN97, E⟩ := E.gp (p := 140) rfl (x := 407) (m := 3) (w := .null) (t := 12) (i := 42) (u := 1366) (y := 0) rfl rfl hV93
          have E := E.ld (p := 141) (t := ri_isA) (i := 0) (n := 1) (v := .ref 0) rfl (e := (.aload_n 0, 1, [], .null)) rfl rfl (fun _ _ => rfl) l0 rfl
          obtain ⟨v1, h98, X, E⟩ := E.cv (p := 144) (as := []) (b := 0) (r := []) rfl (x := 174) (m := 3) (w := .null) (j := 158) (n := 0) (t := 12) (u := [1478, 35, 1480]) rfl rfl rfl
          obtain ⟨rfl, ivk99, hNk99⟩ := ts_158 (d := d) X (by rw [hV96]; exact (iT_u (iT_u ivk72 (ivk72.1.ui rfl) rfl) ((ivk72.1.ui rfl).ui rfl) rfl))
          have Xk99 := X
          have E : eh_e _ _ 144 lo [] h98 rs h' := E
          have E := E.pu (p := 145) (lo' := lo) (st' := [.int 1]) rfl (e := (.iconst 1, 1, [], .null)) rfl rfl (fun _ _ => rfl)
          obtain ⟨r1, r2⟩ := E.reti rfl (m := 1) (ax := []) (w := .null) rfl
          exact Or.inr (Or.inr (Or.inr (Or.inr (Or.inr (Or.inr (Or.inl ⟨h1, h59, h71, h95, h98, Xk2, ivk2, c7, c8, c64, hV65, Xk72, ivk72, c81, c82, c91, hV96, Xk99, ivk99, r1, ((congrArg eh_V r2).trans (rfl : eh_V h98 = eh_V h98)), ((congrArg eh_N r2).trans (hNk99.trans (hN97.trans (hN94.trans (hN84.trans (hNk72.trans (hN66.trans (hN10.trans hNk2)))))))), ivk99⟩))))))
        · skip
          have E := E.ld (p := 115) (t := ri_isA) (i := 0) (n := 1) (v := .ref 0) rfl (e := (.aload_n 0, 1, [], .null)) rfl rfl (fun _ _ => rfl) l0 rfl
          have E := E.pu (p := 116) (lo' := lo) (st' := [.int 1, .ref 0]) rfl (e := (.iconst 1, 1, [], .null)) rfl rfl (fun _ _ => rfl)
          obtain ⟨v1, h100, X, E⟩ := E.cv (p := 119) (as := [.int 1]) (b := 0) (r := []) rfl (x := 171) (m := 3) (w := .null) (j := 159) (n := 1) (t := 12) (u := [1507, 40, 1509]) rfl rfl rfl
          rcases sp_159 (d := d + 1) X hV83 ivk72.1 with ⟨rfl, hV101, hN102⟩
          have hV101 : _ = eh_u (eh_u (eh_V h71) 0 15 (.int 1)) 0 16 (.int (eh_i (eh_V h71) 0 12)) := hV101
          have E : eh_e _ _ 119 lo [.int 0] _ rs h' := E
          obtain ⟨r1, r2⟩ := E.reti rfl (m := 1) (ax := []) (w := .null) rfl
          exact Or.inr (Or.inr (Or.inr (Or.inr (Or.inr (Or.inr (Or.inr (Or.inl ⟨h1, h59, h71, Xk2, ivk2, c7, c8, c64, hV65, Xk72, ivk72, c81, c82, c91, r1, ((congrArg eh_V r2).trans hV101), ((congrArg eh_N r2).trans (hN102.trans (hN84.trans (hNk72.trans (hN66.trans (hN10.trans hNk2)))))), (iT_u (iT_u ivk72 (ivk72.1.ui rfl) rfl) ((ivk72.1.ui rfl).ui rfl) rfl)⟩)))))))
    · skip
      have c68 : (eh_l (eh_V h1) 0 17) = 28530 := c68
      have E : eh_e _ _ 21 lo [.int 1] _ rs h' := E
      have E := E.brf (p := 24) (c := 0) (tgt := 92) (a := 1) (b := 0) (st' := []) rfl (e := (.ifCond .eq 71, 3, [92], .null)) rfl rfl (fun _ _ => rfl) (by decide) rfl
      have E := E.ld (p := 25) (t := ri_isA) (i := 0) (n := 1) (v := .ref 0) rfl (e := (.aload_n 0, 1, [], .null)) rfl rfl (fun _ _ => rfl) l0 rfl
      have E := E.ld (p := 26) (t := ri_isA) (i := 0) (n := 1) (v := .ref 0) rfl (e := (.aload_n 0, 1, [], .null)) rfl rfl (fun _ _ => rfl) l0 rfl
      have E := E.pu (p := 29) (lo' := lo) (st' := [.long 6385252, .ref 0, .ref 0]) rfl (e := (.ldc2_w 112, 3, [1310], .long 6385252)) rfl rfl (fun _ _ => rfl)
      obtain ⟨v1, h103, X, E⟩ := E.cv (p := 32) (as := [.long 6385252]) (b := 0) (r := [.ref 0]) rfl (x := 202) (m := 3) (w := .null) (j := 160) (n := 1) (t := 12) (u := [1496, 38, 1498]) rfl rfl rfl
      rcases sp_160 (d := d + 1) X hV69 ivk2.1 with ⟨c104, rfl, hV105, hN106⟩ | ⟨c107, c108, rfl, hV109, hN110⟩ | ⟨c111, c112, rfl, hV113, hN114⟩
      · skip
        exact absurd c7 c104
      · skip
        have E : eh_e _ _ 32 lo [.int 0, .ref 0] _ rs h' := E
        have E := E.brt (c := 0) (tgt := 40) (a := 0) (b := 0) (st' := [.ref 0]) rfl (e := (.ifCond .eq 8, 3, [40], .null)) rfl rfl (fun _ _ => rfl) (by decide)
        have E := E.pu (p := 42) (lo' := lo) (st' := [.int 22, .ref 0]) rfl (e := (.bipush 22, 2, [], .null)) rfl rfl (fun _ _ => rfl)
        obtain ⟨v1, h115, X, E⟩ := E.cv (p := 45) (as := [.int 22]) (b := 0) (r := []) rfl (x := 422) (m := 3) (w := .null) (j := 243) (n := 1) (t := 12) (u := [1850, 92, 1852]) rfl rfl rfl
        obtain ⟨rfl, ivk116, hNk116⟩ := ts_243 (d := d) X (by rw [hV109]; exact ivk2)
        have Xk116 := X
        have E : eh_e _ _ 45 lo [] h115 rs h' := E
        have E := E.ld (p := 46) (t := ri_isA) (i := 0) (n := 1) (v := .ref 0) rfl (e := (.aload_n 0, 1, [], .null)) rfl rfl (fun _ _ => rfl) l0 rfl
        have E := E.gr (n := 13) (p := 49) rfl (x := 69) (m := 3) (w := .null) (t := 12) (i := 38) (u := 1362) rfl rfl (rfl : eh_V h115 = eh_V h115) ivk116.1 rfl
        have E := E.ld (p := 50) (t := ri_isA) (i := 0) (n := 1) (v := .ref 0) rfl (e := (.aload_n 0, 1, [], .null)) rfl rfl (fun _ _ => rfl) l0 rfl
        have E := E.gi (y := eh_i (eh_V h115) 0 41) (p := 53) rfl (x := 400) (m := 3) (w := .null) (t := 12) (i := 41) (u := 1365) rfl rfl (rfl : eh_V h115 = eh_V h115) ivk116.1 rfl rfl
        have E := E.ld (p := 54) (t := ri_isA) (i := 0) (n := 1) (v := .ref 0) rfl (e := (.aload_n 0, 1, [], .null)) rfl rfl (fun _ _ => rfl) l0 rfl
        have E := E.pu (p := 57) (lo' := lo) (st' := [.long 6385252, .ref 0, .int (eh_i (eh_V h115) 0 41), .ref 13]) rfl (e := (.ldc2_w 112, 3, [1310], .long 6385252)) rfl rfl (fun _ _ => rfl)
        obtain ⟨v1, h117, X, E⟩ := E.cv (p := 60) (as := [.long 6385252]) (b := 0) (r := [.int (eh_i (eh_V h115) 0 41), .ref 13]) rfl (x := 202) (m := 3) (w := .null) (j := 160) (n := 1) (t := 12) (u := [1496, 38, 1498]) rfl rfl rfl
        rcases sp_160 (d := d + 1) X (rfl : eh_V h115 = eh_V h115) ivk116.1 with ⟨c118, rfl, hV119, hN120⟩ | ⟨c121, c122, rfl, hV123, hN124⟩ | ⟨c125, c126, rfl, hV127, hN128⟩
        · skip
          have c118 : ¬ ((eh_i (eh_V h115) 0 11) = 1) := c118
          have E : eh_e _ _ 60 lo [.int 0, .int (eh_i (eh_V h115) 0 41), .ref 13] _ rs h' := E
          have E := E.brt (c := 0) (tgt := 68) (a := 0) (b := 0) (st' := [.int (eh_i (eh_V h115) 0 41), .ref 13]) rfl (e := (.ifCond .eq 8, 3, [68], .null)) rfl rfl (fun _ _ => rfl) (by decide)
          have E := E.pu (p := 70) (lo' := lo) (st' := [.int 22, .int (eh_i (eh_V h115) 0 41), .ref 13]) rfl (e := (.bipush 22, 2, [], .null)) rfl rfl (fun _ _ => rfl)
          obtain ⟨h129, hV130, hN131, E⟩ := E.aw (gg := ri_g1) (b := true) (p := 71) (n := (eh_i (eh_V h115) 0 41).toNatClampNeg) rfl (e := (.iastore, 1, [], .null)) rfl rfl (fun _ _ => rfl) rfl hV119 rfl
          have E := E.ld (p := 72) (t := ri_isA) (i := 0) (n := 1) (v := .ref 0) rfl (e := (.aload_n 0, 1, [], .null)) rfl rfl (fun _ _ => rfl) l0 rfl
          have E := E.pu (p := 73) (lo' := lo) (st' := [.ref 0, .ref 0]) rfl (e := (.dup, 1, [], .null)) rfl rfl (fun _ _ => rfl)
          have E := E.gi (y := eh_i (eh_V h115) 0 41) (p := 76) rfl (x := 400) (m := 3) (w := .null) (t := 12) (i := 41) (u := 1365) rfl rfl hV130 (ivk116.1.ui rfl) rfl rfl
          have E := E.pu (p := 77) (lo' := lo) (st' := [.int 1, .int (eh_i (eh_V h115) 0 41), .ref 0]) rfl (e := (.iconst 1, 1, [], .null)) rfl rfl (fun _ _ => rfl)
          have E := E.pu (p := 78) (lo' := lo) (st' := [.int ((eh_i (eh_V h115) 0 41) + 1), .ref 0]) rfl (e := (.iadd, 1, [], .null)) rfl rfl (fun _ _ => rfl)
          obtain ⟨h132, hV133, hN134, E⟩ := E.gp (p := 81) rfl (x := 400) (m := 3) (w := .null) (t := 12) (i := 41) (u := 1365) (y := 0) rfl rfl hV130
          have E := E.ld (p := 82) (t := ri_isA) (i := 0) (n := 1) (v := .ref 0) rfl (e := (.aload_n 0, 1, [], .null)) rfl rfl (fun _ _ => rfl) l0 rfl
          have E := E.pu (p := 83) (lo' := lo) (st' := [.int 0, .ref 0]) rfl (e := (.iconst 0, 1, [], .null)) rfl rfl (fun _ _ => rfl)
          obtain ⟨h135, hV136, hN137, E⟩ := E.gp (p := 86) rfl (x := 416) (m := 3) (w := .null) (t := 12) (i := 43) (u := 1367) (y := 1) rfl rfl hV133
          have E := E.ld (p := 87) (t := ri_isA) (i := 0) (n := 1) (v := .ref 0) rfl (e := (.aload_n 0, 1, [], .null)) rfl rfl (fun _ _ => rfl) l0 rfl
          obtain ⟨v1, h138, X, E⟩ := E.cv (p := 90) (as := []) (b := 0) (r := []) rfl (x := 174) (m := 3) (w := .null) (j := 158) (n := 0) (t := 12) (u := [1478, 35, 1480]) rfl rfl rfl
          obtain ⟨rfl, ivk139, hNk139⟩ := ts_158 (d := d) X (by rw [hV136]; exact (iT_u (iT_u (iT_u ivk116 (ivk116.1.ui rfl) rfl) ((ivk116.1.ui rfl).ui rfl) rfl) (((ivk116.1.ui rfl).ui rfl).ui rfl) rfl))
          have Xk139 := X
          have E : eh_e _ _ 90 lo [] h138 rs h' := E
          have E := E.pu (p := 91) (lo' := lo) (st' := [.int 1]) rfl (e := (.iconst 1, 1, [], .null)) rfl rfl (fun _ _ => rfl)
          obtain ⟨r1, r2⟩ := E.reti rfl (m := 1) (ax := []) (w := .null) rfl
          exact Or.inr (Or.inr (Or.inr (Or.inr (Or.inr (Or.inr (Or.inr (Or.inr (Or.inl ⟨h1, h103, h115, h135, h138, Xk2, ivk2, c7, c8, c68, hV109, Xk116, ivk116, c118, hV136, Xk139, ivk139, r1, ((congrArg eh_V r2).trans (rfl : eh_V h138 = eh_V h138)), ((congrArg eh_N r2).trans (hNk139.trans (hN137.trans (hN134.trans (hN131.trans (hN120.trans (hNk116.trans (hN110.trans (hN70.trans (hN10.trans hNk2)))))))))), ivk139⟩))))))))
        · skip
          have c121 : (eh_i (eh_V h115) 0 11) = 1 := c121
          have c122 : ¬ ((eh_l (eh_V h115) 0 17) = 6385252) := c122
          have E : eh_e _ _ 60 lo [.int 0, .int (eh_i (eh_V h115) 0 41), .ref 13] _ rs h' := E
          have E := E.brt (c := 0) (tgt := 68) (a := 0) (b := 0) (st' := [.int (eh_i (eh_V h115) 0 41), .ref 13]) rfl (e := (.ifCond .eq 8, 3, [68], .null)) rfl rfl (fun _ _ => rfl) (by decide)
          have E := E.pu (p := 70) (lo' := lo) (st' := [.int 22, .int (eh_i (eh_V h115) 0 41), .ref 13]) rfl (e := (.bipush 22, 2, [], .null)) rfl rfl (fun _ _ => rfl)
          obtain ⟨h140, hV141, hN142, E⟩ := E.aw (gg := ri_g1) (b := true) (p := 71) (n := (eh_i (eh_V h115) 0 41).toNatClampNeg) rfl (e := (.iastore, 1, [], .null)) rfl rfl (fun _ _ => rfl) rfl hV123 rfl
          have E := E.ld (p := 72) (t := ri_isA) (i := 0) (n := 1) (v := .ref 0) rfl (e := (.aload_n 0, 1, [], .null)) rfl rfl (fun _ _ => rfl) l0 rfl
          have E := E.pu (p := 73) (lo' := lo) (st' := [.ref 0, .ref 0]) rfl (e := (.dup, 1, [], .null)) rfl rfl (fun _ _ => rfl)
          have E := E.gi (y := eh_i (eh_V h115) 0 41) (p := 76) rfl (x := 400) (m := 3) (w := .null) (t := 12) (i := 41) (u := 1365) rfl rfl hV141 (ivk116.1.ui rfl) rfl rfl
          have E := E.pu (p := 77) (lo' := lo) (st' := [.int 1, .int (eh_i (eh_V h115) 0 41), .ref 0]) rfl (e := (.iconst 1, 1, [], .null)) rfl rfl (fun _ _ => rfl)
          have E := E.pu (p := 78) (lo' := lo) (st' := [.int ((eh_i (eh_V h115) 0 41) + 1), .ref 0]) rfl (e := (.iadd, 1, [], .null)) rfl rfl (fun _ _ => rfl)
          obtain ⟨h143, hV144, hN145, E⟩ := E.gp (p := 81) rfl (x := 400) (m := 3) (w := .null) (t := 12) (i := 41) (u := 1365) (y := 0) rfl rfl hV141
          have E := E.ld (p := 82) (t := ri_isA) (i := 0) (n := 1) (v := .ref 0) rfl (e := (.aload_n 0, 1, [], .null)) rfl rfl (fun _ _ => rfl) l0 rfl
          have E := E.pu (p := 83) (lo' := lo) (st' := [.int 0, .ref 0]) rfl (e := (.iconst 0, 1, [], .null)) rfl rfl (fun _ _ => rfl)
          obtain ⟨h146, hV147, hN148, E⟩ := E.gp (p := 86) rfl (x := 416) (m := 3) (w := .null) (t := 12) (i := 43) (u := 1367) (y := 1) rfl rfl hV144
          have E := E.ld (p := 87) (t := ri_isA) (i := 0) (n := 1) (v := .ref 0) rfl (e := (.aload_n 0, 1, [], .null)) rfl rfl (fun _ _ => rfl) l0 rfl
          obtain ⟨v1, h149, X, E⟩ := E.cv (p := 90) (as := []) (b := 0) (r := []) rfl (x := 174) (m := 3) (w := .null) (j := 158) (n := 0) (t := 12) (u := [1478, 35, 1480]) rfl rfl rfl
          obtain ⟨rfl, ivk150, hNk150⟩ := ts_158 (d := d) X (by rw [hV147]; exact (iT_u (iT_u (iT_u ivk116 (ivk116.1.ui rfl) rfl) ((ivk116.1.ui rfl).ui rfl) rfl) (((ivk116.1.ui rfl).ui rfl).ui rfl) rfl))
          have Xk150 := X
          have E : eh_e _ _ 90 lo [] h149 rs h' := E
          have E := E.pu (p := 91) (lo' := lo) (st' := [.int 1]) rfl (e := (.iconst 1, 1, [], .null)) rfl rfl (fun _ _ => rfl)
          obtain ⟨r1, r2⟩ := E.reti rfl (m := 1) (ax := []) (w := .null) rfl
          exact Or.inr (Or.inr (Or.inr (Or.inr (Or.inr (Or.inr (Or.inr (Or.inr (Or.inr (Or.inl ⟨h1, h103, h115, h146, h149, Xk2, ivk2, c7, c8, c68, hV109, Xk116, ivk116, c121, c122, hV147, Xk150, ivk150, r1, ((congrArg eh_V r2).trans (rfl : eh_V h149 = eh_V h149)), ((congrArg eh_N r2).trans (hNk150.trans (hN148.trans (hN145.trans (hN142.trans (hN124.trans (hNk116.trans (hN110.trans (hN70.trans (hN10.trans hNk2)))))))))), ivk150⟩)))))))))
        · skip
          have c125 : (eh_i (eh_V h115) 0 11) = 1 := c125
          have c126 : (eh_l (eh_V h115) 0 17) = 6385252 := c126
          have E : eh_e _ _ 60 lo [.int 1, .int (eh_i (eh_V h115) 0 41), .ref 13] _ rs h' := E
          have E := E.brf (p := 63) (c := 0) (tgt := 68) (a := 1) (b := 0) (st' := [.int (eh_i (eh_V h115) 0 41), .ref 13]) rfl (e := (.ifCond .eq 8, 3, [68], .null)) rfl rfl (fun _ _ => rfl) (by decide) rfl
          have E := E.pu (p := 65) (lo' := lo) (st' := [.int 21, .int (eh_i (eh_V h115) 0 41), .ref 13]) rfl (e := (.bipush 21, 2, [], .null)) rfl rfl (fun _ _ => rfl)
          have E := E.pu (p := 70) (lo' := lo) (st' := [.int 21, .int (eh_i (eh_V h115) 0 41), .ref 13]) rfl (e := (.goto 5, 3, [70], .null)) rfl rfl (fun _ _ => rfl)
          obtain ⟨h151, hV152, hN153, E⟩ := E.aw (gg := ri_g1) (b := true) (p := 71) (n := (eh_i (eh_V h115) 0 41).toNatClampNeg) rfl (e := (.iastore, 1, [], .null)) rfl rfl (fun _ _ => rfl) rfl hV127 rfl
          have E := E.ld (p := 72) (t := ri_isA) (i := 0) (n := 1) (v := .ref 0) rfl (e := (.aload_n 0, 1, [], .null)) rfl rfl (fun _ _ => rfl) l0 rfl
          have E := E.pu (p := 73) (lo' := lo) (st' := [.ref 0, .ref 0]) rfl (e := (.dup, 1, [], .null)) rfl rfl (fun _ _ => rfl)
          have E := E.gi (y := eh_i (eh_V h115) 0 41) (p := 76) rfl (x := 400) (m := 3) (w := .null) (t := 12) (i := 41) (u := 1365) rfl rfl hV152 (ivk116.1.ui rfl) rfl rfl
          have E := E.pu (p := 77) (lo' := lo) (st' := [.int 1, .int (eh_i (eh_V h115) 0 41), .ref 0]) rfl (e := (.iconst 1, 1, [], .null)) rfl rfl (fun _ _ => rfl)
          have E := E.pu (p := 78) (lo' := lo) (st' := [.int ((eh_i (eh_V h115) 0 41) + 1), .ref 0]) rfl (e := (.iadd, 1, [], .null)) rfl rfl (fun _ _ => rfl)
          obtain ⟨h154, hV155, hN156, E⟩ := E.gp (p := 81) rfl (x := 400) (m := 3) (w := .null) (t := 12) (i := 41) (u := 1365) (y := 0) rfl rfl hV152
          have E := E.ld (p := 82) (t := ri_isA) (i := 0) (n := 1) (v := .ref 0) rfl (e := (.aload_n 0, 1, [], .null)) rfl rfl (fun _ _ => rfl) l0 rfl
          have E := E.pu (p := 83) (lo' := lo) (st' := [.int 0, .ref 0]) rfl (e := (.iconst 0, 1, [], .null)) rfl rfl (fun _ _ => rfl)
          obtain ⟨h157, hV158, hN159, E⟩ := E.gp (p := 86) rfl (x := 416) (m := 3) (w := .null) (t := 12) (i := 43) (u := 1367) (y := 1) rfl rfl hV155
          have E := E.ld (p := 87) (t := ri_isA) (i := 0) (n := 1) (v := .ref 0) rfl (e := (.aload_n 0, 1, [], .null)) rfl rfl (fun _ _ => rfl) l0 rfl
          obtain ⟨v1, h160, X, E⟩ := E.cv (p := 90) (as := []) (b := 0) (r := []) rfl (x := 174) (m := 3) (w := .null) (j := 158) (n := 0) (t := 12) (u := [1478, 35, 1480]) rfl rfl rfl
          obtain ⟨rfl, ivk161, hNk161⟩ := ts_158 (d := d) X (by rw [hV158]; exact (iT_u (iT_u (iT_u ivk116 (ivk116.1.ui rfl) rfl) ((ivk116.1.ui rfl).ui rfl) rfl) (((ivk116.1.ui rfl).ui rfl).ui rfl) rfl))
          have Xk161 := X
          have E : eh_e _ _ 90 lo [] h160 rs h' := E
          have E := E.pu (p := 91) (lo' := lo) (st' := [.int 1]) rfl (e := (.iconst 1, 1, [], .null)) rfl rfl (fun _ _ => rfl)
          obtain ⟨r1, r2⟩ := E.reti rfl (m := 1) (ax := []) (w := .null) rfl
          exact Or.inr (Or.inr (Or.inr (Or.inr (Or.inr (Or.inr (Or.inr (Or.inr (Or.inr (Or.inr (Or.inl ⟨h1, h103, h115, h157, h160, Xk2, ivk2, c7, c8, c68, hV109, Xk116, ivk116, c125, c126, hV158, Xk161, ivk161, r1, ((congrArg eh_V r2).trans (rfl : eh_V h160 = eh_V h160)), ((congrArg eh_N r2).trans (hNk161.trans (hN159.trans (hN156.trans (hN153.trans (hN128.trans (hNk116.trans (hN110.trans (hN70.trans (hN10.trans hNk2)))))))))), ivk161⟩))))))))))
      · skip
        exact absurd c112 c8
  · skip
    have c11 : (eh_i (eh_V h1) 0 11) = 1 := c11
    have c12 : (eh_l (eh_V h1) 0 17) = 6385252 := c12
    have E : eh_e _ _ 11 lo [.int 1] _ rs h' := E
    have E := E.brt (c := 1) (tgt := 24) (a := 1) (b := 0) (st' := []) rfl (e := (.ifCond .ne 13, 3, [24], .null)) rfl rfl (fun _ _ => rfl) (by decide)
    have E := E.ld (p := 25) (t := ri_isA) (i := 0) (n := 1) (v := .ref 0) rfl (e := (.aload_n 0, 1, [], .null)) rfl rfl (fun _ _ => rfl) l0 rfl
    have E := E.ld (p := 26) (t := ri_isA) (i := 0) (n := 1) (v := .ref 0) rfl (e := (.aload_n 0, 1, [], .null)) rfl rfl (fun _ _ => rfl) l0 rfl
    have E := E.pu (p := 29) (lo' := lo) (st' := [.long 6385252, .ref 0, .ref 0]) rfl (e := (.ldc2_w 112, 3, [1310], .long 6385252)) rfl rfl (fun _ _ => rfl)
    obtain ⟨v1, h162, X, E⟩ := E.cv (p := 32) (as := [.long 6385252]) (b := 0) (r := [.ref 0]) rfl (x := 202) (m := 3) (w := .null) (j := 160) (n := 1) (t := 12) (u := [1496, 38, 1498]) rfl rfl rfl
    rcases sp_160 (d := d + 1) X hV13 ivk2.1 with ⟨c163, rfl, hV164, hN165⟩ | ⟨c166, c167, rfl, hV168, hN169⟩ | ⟨c170, c171, rfl, hV172, hN173⟩
    · skip
      exact absurd c11 c163
    · skip
      exact absurd c12 c167
    · skip
      have E : eh_e _ _ 32 lo [.int 1, .ref 0] _ rs h' := E
      have E := E.brf (p := 35) (c := 0) (tgt := 40) (a := 1) (b := 0) (st' := [.ref 0]) rfl (e := (.ifCond .eq 8, 3, [40], .null)) rfl rfl (fun _ _ => rfl) (by decide) rfl
      have E := E.pu (p := 37) (lo' := lo) (st' := [.int 21, .ref 0]) rfl (e := (.bipush 21, 2, [], .null)) rfl rfl (fun _ _ => rfl)
      have E := E.pu (p := 42) (lo' := lo) (st' := [.int 21, .ref 0]) rfl (e := (.goto 5, 3, [42], .null)) rfl rfl (fun _ _ => rfl)
      obtain ⟨v1, h174, X, E⟩ := E.cv (p := 45) (as := [.int 21]) (b := 0) (r := []) rfl (x := 422) (m := 3) (w := .null) (j := 243) (n := 1) (t := 12) (u := [1850, 92, 1852]) rfl rfl rfl
      obtain ⟨rfl, ivk175, hNk175⟩ := ts_243 (d := d) X (by rw [hV172]; exact ivk2)
      have Xk175 := X
      have E : eh_e _ _ 45 lo [] h174 rs h' := E
      have E := E.ld (p := 46) (t := ri_isA) (i := 0) (n := 1) (v := .ref 0) rfl (e := (.aload_n 0, 1, [], .null)) rfl rfl (fun _ _ => rfl) l0 rfl
      have E := E.gr (n := 13) (p := 49) rfl (x := 69) (m := 3) (w := .null) (t := 12) (i := 38) (u := 1362) rfl rfl (rfl : eh_V h174 = eh_V h174) ivk175.1 rfl
      have E := E.ld (p := 50) (t := ri_isA) (i := 0) (n := 1) (v := .ref 0) rfl (e := (.aload_n 0, 1, [], .null)) rfl rfl (fun _ _ => rfl) l0 rfl
      have E := E.gi (y := eh_i (eh_V h174) 0 41) (p := 53) rfl (x := 400) (m := 3) (w := .null) (t := 12) (i := 41) (u := 1365) rfl rfl (rfl : eh_V h174 = eh_V h174) ivk175.1 rfl rfl
      have E := E.ld (p := 54) (t := ri_isA) (i := 0) (n := 1) (v := .ref 0) rfl (e := (.aload_n 0, 1, [], .null)) rfl rfl (fun _ _ => rfl) l0 rfl
      have E := E.pu (p := 57) (lo' := lo) (st' := [.long 6385252, .ref 0, .int (eh_i (eh_V h174) 0 41), .ref 13]) rfl (e := (.ldc2_w 112, 3, [1310], .long 6385252)) rfl rfl (fun _ _ => rfl)
      obtain ⟨v1, h176, X, E⟩ := E.cv (p := 60) (as := [.long 6385252]) (b := 0) (r := [.int (eh_i (eh_V h174) 0 41), .ref 13]) rfl (x := 202) (m := 3) (w := .null) (j := 160) (n := 1) (t := 12) (u := [1496, 38, 1498]) rfl rfl rfl
      rcases sp_160 (d := d + 1) X (rfl : eh_V h174 = eh_V h174) ivk175.1 with ⟨c177, rfl, hV178, hN179⟩ | ⟨c180, c181, rfl, hV182, hN183⟩ | ⟨c184, c185, rfl, hV186, hN187⟩
      · skip
        have c177 : ¬ ((eh_i (eh_V h174) 0 11) = 1) := c177
        have E : eh_e _ _ 60 lo [.int 0, .int (eh_i (eh_V h174) 0 41), .ref 13] _ rs h' := E
        have E := E.brt (c := 0) (tgt := 68) (a := 0) (b := 0) (st' := [.int (eh_i (eh_V h174) 0 41), .ref 13]) rfl (e := (.ifCond .eq 8, 3, [68], .null)) rfl rfl (fun _ _ => rfl) (by decide)
        have E := E.pu (p := 70) (lo' := lo) (st' := [.int 22, .int (eh_i (eh_V h174) 0 41), .ref 13]) rfl (e := (.bipush 22, 2, [], .null)) rfl rfl (fun _ _ => rfl)
        obtain ⟨h188, hV189, hN190, E⟩ := E.aw (gg := ri_g1) (b := true) (p := 71) (n := (eh_i (eh_V h174) 0 41).toNatClampNeg) rfl (e := (.iastore, 1, [], .null)) rfl rfl (fun _ _ => rfl) rfl hV178 rfl
        have E := E.ld (p := 72) (t := ri_isA) (i := 0) (n := 1) (v := .ref 0) rfl (e := (.aload_n 0, 1, [], .null)) rfl rfl (fun _ _ => rfl) l0 rfl
        have E := E.pu (p := 73) (lo' := lo) (st' := [.ref 0, .ref 0]) rfl (e := (.dup, 1, [], .null)) rfl rfl (fun _ _ => rfl)
        have E := E.gi (y := eh_i (eh_V h174) 0 41) (p := 76) rfl (x := 400) (m := 3) (w := .null) (t := 12) (i := 41) (u := 1365) rfl rfl hV189 (ivk175.1.ui rfl) rfl rfl
        have E := E.pu (p := 77) (lo' := lo) (st' := [.int 1, .int (eh_i (eh_V h174) 0 41), .ref 0]) rfl (e := (.iconst 1, 1, [], .null)) rfl rfl (fun _ _ => rfl)
        have E := E.pu (p := 78) (lo' := lo) (st' := [.int ((eh_i (eh_V h174) 0 41) + 1), .ref 0]) rfl (e := (.iadd, 1, [], .null)) rfl rfl (fun _ _ => rfl)
        obtain ⟨h191, hV192, hN193, E⟩ := E.gp (p := 81) rfl (x := 400) (m := 3) (w := .null) (t := 12) (i := 41) (u := 1365) (y := 0) rfl rfl hV189
        have E := E.ld (p := 82) (t := ri_isA) (i := 0) (n := 1) (v := .ref 0) rfl (e := (.aload_n 0, 1, [], .null)) rfl rfl (fun _ _ => rfl) l0 rfl
        have E := E.pu (p := 83) (lo' := lo) (st' := [.int 0, .ref 0]) rfl (e := (.iconst 0, 1, [], .null)) rfl rfl (fun _ _ => rfl)
        obtain ⟨h194, hV195, hN196, E⟩ := E.gp (p := 86) rfl (x := 416) (m := 3) (w := .null) (t := 12) (i := 43) (u := 1367) (y := 1) rfl rfl hV192
        have E := E.ld (p := 87) (t := ri_isA) (i := 0) (n := 1) (v := .ref 0) rfl (e := (.aload_n 0, 1, [], .null)) rfl rfl (fun _ _ => rfl) l0 rfl
        obtain ⟨v1, h197, X, E⟩ := E.cv (p := 90) (as := []) (b := 0) (r := []) rfl (x := 174) (m := 3) (w := .null) (j := 158) (n := 0) (t := 12) (u := [1478, 35, 1480]) rfl rfl rfl
        obtain ⟨rfl, ivk198, hNk198⟩ := ts_158 (d := d) X (by rw [hV195]; exact (iT_u (iT_u (iT_u ivk175 (ivk175.1.ui rfl) rfl) ((ivk175.1.ui rfl).ui rfl) rfl) (((ivk175.1.ui rfl).ui rfl).ui rfl) rfl))
        have Xk198 := X
        have E : eh_e _ _ 90 lo [] h197 rs h' := E
        have E := E.pu (p := 91) (lo' := lo) (st' := [.int 1]) rfl (e := (.iconst 1, 1, [], .null)) rfl rfl (fun _ _ => rfl)
        obtain ⟨r1, r2⟩ := E.reti rfl (m := 1) (ax := []) (w := .null) rfl
        exact Or.inr (Or.inr (Or.inr (Or.inr (Or.inr (Or.inr (Or.inr (Or.inr (Or.inr (Or.inr (Or.inr (Or.inl ⟨h1, h162, h174, h194, h197, Xk2, ivk2, c11, c12, hV172, Xk175, ivk175, c177, hV195, Xk198, ivk198, r1, ((congrArg eh_V r2).trans (rfl : eh_V h197 = eh_V h197)), ((congrArg eh_N r2).trans (hNk198.trans (hN196.trans (hN193.trans (hN190.trans (hN179.trans (hNk175.trans (hN173.trans (hN14.trans hNk2))))))))), ivk198⟩)))))))))))
      · skip
        have c180 : (eh_i (eh_V h174) 0 11) = 1 := c180
        have c181 : ¬ ((eh_l (eh_V h174) 0 17) = 6385252) := c181
        have E : eh_e _ _ 60 lo [.int 0, .int (eh_i (eh_V h174) 0 41), .ref 13] _ rs h' := E
        have E := E.brt (c := 0) (tgt := 68) (a := 0) (b := 0) (st' := [.int (eh_i (eh_V h174) 0 41), .ref 13]) rfl (e := (.ifCond .eq 8, 3, [68], .null)) rfl rfl (fun _ _ => rfl) (by decide)
        have E := E.pu (p := 70) (lo' := lo) (st' := [.int 22, .int (eh_i (eh_V h174) 0 41), .ref 13]) rfl (e := (.bipush 22, 2, [], .null)) rfl rfl (fun _ _ => rfl)
        obtain ⟨h199, hV200, hN201, E⟩ := E.aw (gg := ri_g1) (b := true) (p := 71) (n := (eh_i (eh_V h174) 0 41).toNatClampNeg) rfl (e := (.iastore, 1, [], .null)) rfl rfl (fun _ _ => rfl) rfl hV182 rfl
        have E := E.ld (p := 72) (t := ri_isA) (i := 0) (n := 1) (v := .ref 0) rfl (e := (.aload_n 0, 1, [], .null)) rfl rfl (fun _ _ => rfl) l0 rfl
        have E := E.pu (p := 73) (lo' := lo) (st' := [.ref 0, .ref 0]) rfl (e := (.dup, 1, [], .null)) rfl rfl (fun _ _ => rfl)
        have E := E.gi (y := eh_i (eh_V h174) 0 41) (p := 76) rfl (x := 400) (m := 3) (w := .null) (t := 12) (i := 41) (u := 1365) rfl rfl hV200 (ivk175.1.ui rfl) rfl rfl
        have E := E.pu (p := 77) (lo' := lo) (st' := [.int 1, .int (eh_i (eh_V h174) 0 41), .ref 0]) rfl (e := (.iconst 1, 1, [], .null)) rfl rfl (fun _ _ => rfl)
        have E := E.pu (p := 78) (lo' := lo) (st' := [.int ((eh_i (eh_V h174) 0 41) + 1), .ref 0]) rfl (e := (.iadd, 1, [], .null)) rfl rfl (fun _ _ => rfl)
        obtain ⟨h202, hV203, hN204, E⟩ := E.gp (p := 81) rfl (x := 400) (m := 3) (w := .null) (t := 12) (i := 41) (u := 1365) (y := 0) rfl rfl hV200
        have E := E.ld (p := 82) (t := ri_isA) (i := 0) (n := 1) (v := .ref 0) rfl (e := (.aload_n 0, 1, [], .null)) rfl rfl (fun _ _ => rfl) l0 rfl
        have E := E.pu (p := 83) (lo' := lo) (st' := [.int 0, .ref 0]) rfl (e := (.iconst 0, 1, [], .null)) rfl rfl (fun _ _ => rfl)
        obtain ⟨h205, hV206, hN207, E⟩ := E.gp (p := 86) rfl (x := 416) (m := 3) (w := .null) (t := 12) (i := 43) (u := 1367) (y := 1) rfl rfl hV203
        have E := E.ld (p := 87) (t := ri_isA) (i := 0) (n := 1) (v := .ref 0) rfl (e := (.aload_n 0, 1, [], .null)) rfl rfl (fun _ _ => rfl) l0 rfl
        obtain ⟨v1, h208, X, E⟩ := E.cv (p := 90) (as := []) (b := 0) (r := []) rfl (x := 174) (m := 3) (w := .null) (j := 158) (n := 0) (t := 12) (u := [1478, 35, 1480]) rfl rfl rfl
        obtain ⟨rfl, ivk209, hNk209⟩ := ts_158 (d := d) X (by rw [hV206]; exact (iT_u (iT_u (iT_u ivk175 (ivk175.1.ui rfl) rfl) ((ivk175.1.ui rfl).ui rfl) rfl) (((ivk175.1.ui rfl).ui rfl).ui rfl) rfl))
        have Xk209 := X
        have E : eh_e _ _ 90 lo [] h208 rs h' := E
        have E := E.pu (p := 91) (lo' := lo) (st' := [.int 1]) rfl (e := (.iconst 1, 1, [], .null)) rfl rfl (fun _ _ => rfl)
        obtain ⟨r1, r2⟩ := E.reti rfl (m := 1) (ax := []) (w := .null) rfl
        exact Or.inr (Or.inr (Or.inr (Or.inr (Or.inr (Or.inr (Or.inr (Or.inr (Or.inr (Or.inr (Or.inr (Or.inr (Or.inl ⟨h1, h162, h174, h205, h208, Xk2, ivk2, c11, c12, hV172, Xk175, ivk175, c180, c181, hV206, Xk209, ivk209, r1, ((congrArg eh_V r2).trans (rfl : eh_V h208 = eh_V h208)), ((congrArg eh_N r2).trans (hNk209.trans (hN207.trans (hN204.trans (hN201.trans (hN183.trans (hNk175.trans (hN173.trans (hN14.trans hNk2))))))))), ivk209⟩))))))))))))
      · skip
        have c184 : (eh_i (eh_V h174) 0 11) = 1 := c184
        have c185 : (eh_l (eh_V h174) 0 17) = 6385252 := c185
        have E : eh_e _ _ 60 lo [.int 1, .int (eh_i (eh_V h174) 0 41), .ref 13] _ rs h' := E
        have E := E.brf (p := 63) (c := 0) (tgt := 68) (a := 1) (b := 0) (st' := [.int (eh_i (eh_V h174) 0 41), .ref 13]) rfl (e := (.ifCond .eq 8, 3, [68], .null)) rfl rfl (fun _ _ => rfl) (by decide) rfl
        have E := E.pu (p := 65) (lo' := lo) (st' := [.int 21, .int (eh_i (eh_V h174) 0 41), .ref 13]) rfl (e := (.bipush 21, 2, [], .null)) rfl rfl (fun _ _ => rfl)
        have E := E.pu (p := 70) (lo' := lo) (st' := [.int 21, .int (eh_i (eh_V h174) 0 41), .ref 13]) rfl (e := (.goto 5, 3, [70], .null)) rfl rfl (fun _ _ => rfl)
        obtain ⟨h210, hV211, hN212, E⟩ := E.aw (gg := ri_g1) (b := true) (p := 71) (n := (eh_i (eh_V h174) 0 41).toNatClampNeg) rfl (e := (.iastore, 1, [], .null)) rfl rfl (fun _ _ => rfl) rfl hV186 rfl
        have E := E.ld (p := 72) (t := ri_isA) (i := 0) (n := 1) (v := .ref 0) rfl (e := (.aload_n 0, 1, [], .null)) rfl rfl (fun _ _ => rfl) l0 rfl
        have E := E.pu (p := 73) (lo' := lo) (st' := [.ref 0, .ref 0]) rfl (e := (.dup, 1, [], .null)) rfl rfl (fun _ _ => rfl)
        have E := E.gi (y := eh_i (eh_V h174) 0 41) (p := 76) rfl (x := 400) (m := 3) (w := .null) (t := 12) (i := 41) (u := 1365) rfl rfl hV211 (ivk175.1.ui rfl) rfl rfl
        have E := E.pu (p := 77) (lo' := lo) (st' := [.int 1, .int (eh_i (eh_V h174) 0 41), .ref 0]) rfl (e := (.iconst 1, 1, [], .null)) rfl rfl (fun _ _ => rfl)
        have E := E.pu (p := 78) (lo' := lo) (st' := [.int ((eh_i (eh_V h174) 0 41) + 1), .ref 0]) rfl (e := (.iadd, 1, [], .null)) rfl rfl (fun _ _ => rfl)
        obtain ⟨h213, hV214, hN215, E⟩ := E.gp (p := 81) rfl (x := 400) (m := 3) (w := .null) (t := 12) (i := 41) (u := 1365) (y := 0) rfl rfl hV211
        have E := E.ld (p := 82) (t := ri_isA) (i := 0) (n := 1) (v := .ref 0) rfl (e := (.aload_n 0, 1, [], .null)) rfl rfl (fun _ _ => rfl) l0 rfl
        have E := E.pu (p := 83) (lo' := lo) (st' := [.int 0, .ref 0]) rfl (e := (.iconst 0, 1, [], .null)) rfl rfl (fun _ _ => rfl)
        obtain ⟨h216, hV217, hN218, E⟩ := E.gp (p := 86) rfl (x := 416) (m := 3) (w := .null) (t := 12) (i := 43) (u := 1367) (y := 1) rfl rfl hV214
        have E := E.ld (p := 87) (t := ri_isA) (i := 0) (n := 1) (v := .ref 0) rfl (e := (.aload_n 0, 1, [], .null)) rfl rfl (fun _ _ => rfl) l0 rfl
        obtain ⟨v1, h219, X, E⟩ := E.cv (p := 90) (as := []) (b := 0) (r := []) rfl (x := 174) (m := 3) (w := .null) (j := 158) (n := 0) (t := 12) (u := [1478, 35, 1480]) rfl rfl rfl
        obtain ⟨rfl, ivk220, hNk220⟩ := ts_158 (d := d) X (by rw [hV217]; exact (iT_u (iT_u (iT_u ivk175 (ivk175.1.ui rfl) rfl) ((ivk175.1.ui rfl).ui rfl) rfl) (((ivk175.1.ui rfl).ui rfl).ui rfl) rfl))
        have Xk220 := X
        have E : eh_e _ _ 90 lo [] h219 rs h' := E
        have E := E.pu (p := 91) (lo' := lo) (st' := [.int 1]) rfl (e := (.iconst 1, 1, [], .null)) rfl rfl (fun _ _ => rfl)
        obtain ⟨r1, r2⟩ := E.reti rfl (m := 1) (ax := []) (w := .null) rfl
        exact Or.inr (Or.inr (Or.inr (Or.inr (Or.inr (Or.inr (Or.inr (Or.inr (Or.inr (Or.inr (Or.inr (Or.inr (Or.inr (⟨h1, h162, h174, h216, h219, Xk2, ivk2, c11, c12, hV172, Xk175, ivk175, c184, c185, hV217, Xk220, ivk220, r1, ((congrArg eh_V r2).trans (rfl : eh_V h219 = eh_V h219)), ((congrArg eh_N r2).trans (hNk220.trans (hN218.trans (hN215.trans (hN212.trans (hN187.trans (hNk175.trans (hN173.trans (hN14.trans hNk2))))))))), ivk220⟩)))))))))))))
theorem tq_zb_a {d : Nat} {lo : List (Nat × Value)} {h h' : ri_H} {rs : List Value} {G : eh_W} {b : Nat → Int32} {n m : Nat} (E : eh_e (ri_calE ri_md (d + 2)) md_247 0 lo [] h rs h') (hV : eh_V h = G) (iv : iT b n m G) (l0 : ri_lk lo 0 = some (.ref 0)) : ∃ x : Int32, rs = [.int x] ∧ iT b n m (eh_V h') ∧ eh_N h' = eh_N h := by
  rcases zb_a E hV iv l0 with ⟨_, _, _, _, _, _, _, _, _, _, r1, r2, r3, r4⟩ | ⟨_, _, _, _, _, _, _, _, _, _, _, r1, r2, r3, r4⟩ | ⟨_, _, _, _, _, _, _, _, _, _, _, _, _, _, _, _, _, r1, r2, r3, r4⟩ | ⟨_, _, _, _, _, _, _, _, _, _, _, _, r1, r2, r3, r4⟩ | ⟨_, _, _, _, _, _, _, _, _, _, _, _, r1, r2, r3, r4⟩ | ⟨_, _, _, _, _, _, _, _, _, _, _, _, _, r1, r2, r3, r4⟩ | ⟨_, _, _, _, _, _, _, _, _, _, _, _, _, _, _, _, _, _, _, r1, r2, r3, r4⟩ | ⟨_, _, _, _, _, _, _, _, _, _, _, _, _, _, r1, r2, r3, r4⟩ | ⟨_, _, _, _, _, _, _, _, _, _, _, _, _, _, _, _, _, r1, r2, r3, r4⟩ | ⟨_, _, _, _, _, _, _, _, _, _, _, _, _, _, _, _, _, _, r1, r2, r3, r4⟩ | ⟨_, _, _, _, _, _, _, _, _, _, _, _, _, _, _, _, _, _, r1, r2, r3, r4⟩ | ⟨_, _, _, _, _, _, _, _, _, _, _, _, _, _, _, _, r1, r2, r3, r4⟩ | ⟨_, _, _, _, _, _, _, _, _, _, _, _, _, _, _, _, _, r1, r2, r3, r4⟩ | ⟨_, _, _, _, _, _, _, _, _, _, _, _, _, _, _, _, _, r1, r2, r3, r4⟩
  · exact ⟨_, r1, by rw [r2]; exact r4, r3⟩
  · exact ⟨_, r1, by rw [r2]; exact r4, r3⟩
  · exact ⟨_, r1, by rw [r2]; exact r4, r3⟩
  · exact ⟨_, r1, by rw [r2]; exact r4, r3⟩
  · exact ⟨_, r1, by rw [r2]; exact r4, r3⟩
  · exact ⟨_, r1, by rw [r2]; exact r4, r3⟩
  · exact ⟨_, r1, by rw [r2]; exact r4, r3⟩
  · exact ⟨_, r1, by rw [r2]; exact r4, r3⟩
  · exact ⟨_, r1, by rw [r2]; exact r4, r3⟩
  · exact ⟨_, r1, by rw [r2]; exact r4, r3⟩
  · exact ⟨_, r1, by rw [r2]; exact r4, r3⟩
  · exact ⟨_, r1, by rw [r2]; exact r4, r3⟩
  · exact ⟨_, r1, by rw [r2]; exact r4, r3⟩
  · exact ⟨_, r1, by rw [r2]; exact r4, r3⟩
