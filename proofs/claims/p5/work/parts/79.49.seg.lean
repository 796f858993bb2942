theorem xc_a {cal : eh_K} {lo : List (Nat × Value)} {h h' : ri_H} {rs : List Value} {G : eh_W} {hg : Int32} (E : eh_e cal md_35 0 lo [] h rs h') (hV : eh_V h = G) (ty : eh_ty tC G) (l0 : ri_lk lo 0 = some (.int hg)) : ∃ hz loz, eh_e cal md_35 4 loz [] hz rs h' ∧ eh_V hz = G ∧ eh_N hz = eh_N h ∧ eh_ty tC G ∧ ri_lk loz 0 = some (.int hg) ∧ ri_lk loz 1 = some (.int 0) ∧ ri_lk loz 2 = some (.int 0) := by
  have E := E.pu (p := 1) (lo' := lo) (st' := [.int 0]) rfl (e := (.iconst 0, 1, [], .null)) rfl rfl (fun _ _ => rfl)
  have E := E.so (p := 2) (t := ri_isI) (i := 1) (n := 1) rfl (e := (.istore_n 1, 1, [], .null)) rfl rfl (fun _ _ => rfl) rfl
  have k1_1 : ri_lk (ri_st1 lo 1 (.int 0)) 1 = some (.int 0) := eh_self
  have k1_0 : ri_lk (ri_st1 lo 1 (.int 0)) 0 = some (.int hg) := eh_keep (by decide) (Or.inl rfl) l0
  have E := E.pu (p := 3) (lo' := (ri_st1 lo 1 (.int 0))) (st' := [.int 0]) rfl (e := (.iconst 0, 1, [], .null)) rfl rfl (fun _ _ => rfl)
  have E := E.so (p := 4) (t := ri_isI) (i := 2) (n := 1) rfl (e := (.istore_n 2, 1, [], .null)) rfl rfl (fun _ _ => rfl) rfl
  have k2_2 : ri_lk (ri_st1 (ri_st1 lo 1 (.int 0)) 2 (.int 0)) 2 = some (.int 0) := eh_self
  have k2_0 : ri_lk (ri_st1 (ri_st1 lo 1 (.int 0)) 2 (.int 0)) 0 = some (.int hg) := eh_keep (by decide) (Or.inl rfl) k1_0
  have k2_1 : ri_lk (ri_st1 (ri_st1 lo 1 (.int 0)) 2 (.int 0)) 1 = some (.int 0) := eh_keep (by decide) (Or.inl rfl) k1_1
  exact ⟨_, _, E, hV, rfl, ty, k2_0, k2_1, k2_2⟩
theorem xc_l {cal : eh_K} {lo : List (Nat × Value)} {h h' : ri_H} {rs : List Value} {G : eh_W} {hg ce k : Int32} (E : eh_e cal md_35 4 lo [] h rs h') (hV : eh_V h = G) (ty : eh_ty tC G) (l0 : ri_lk lo 0 = some (.int hg)) (l1 : ri_lk lo 1 = some (.int ce)) (l2 : ri_lk lo 2 = some (.int k)) : (¬ (k.toInt < 8) ∧ rs = [.int ce] ∧ eh_V h' = G ∧ eh_N h' = eh_N h) ∨ (k.toInt < 8 ∧ ∃ hz loz, eh_e cal md_35 4 loz [] hz rs h' ∧ eh_V hz = G ∧ eh_N hz = eh_N h ∧ eh_ty tC G ∧ ri_lk loz 0 = some (.int hg) ∧ ri_lk loz 1 = some (.int (ce ||| (((hg >>> (((2 * k) + 1) &&& 31)) &&& 1) <<< (k &&& 31)))) ∧ ri_lk loz 2 = some (.int (k + 1))) := by
  have E := E.ld (p := 5) (t := ri_isI) (i := 2) (n := 1) (v := .int k) rfl (e := (.iload_n 2, 1, [], .null)) rfl rfl (fun _ _ => rfl) l2 rfl
  have E := E.pu (p := 7) (lo' := lo) (st' := [.int 8, .int k]) rfl (e := (.bipush 8, 2, [], .null)) rfl rfl (fun _ _ => rfl)
  rcases eh_r3 rfl (show (8 : Int32).toInt = 8 by decide) (E.br (p := 10) (c := 3) (tgt := 30) (a := k) (b := 8) (st' := []) rfl (e := (.if_icmp .ge 23, 3, [30], .null)) rfl rfl (fun _ _ => rfl) rfl) with ⟨c1, E⟩ | ⟨c1, E⟩
  · skip
    have E := E.ld (p := 31) (t := ri_isI) (i := 1) (n := 1) (v := .int ce) rfl (e := (.iload_n 1, 1, [], .null)) rfl rfl (fun _ _ => rfl) l1 rfl
    obtain ⟨r1, r2⟩ := E.reti rfl (m := 1) (ax := []) (w := .null) rfl
    exact Or.inl ⟨c1, r1, ((congrArg eh_V r2).trans hV), (congrArg eh_N r2)⟩
  · skip
    have E := E.ld (p := 11) (t := ri_isI) (i := 1) (n := 1) (v := .int ce) rfl (e := (.iload_n 1, 1, [], .null)) rfl rfl (fun _ _ => rfl) l1 rfl
    have E := E.ld (p := 12) (t := ri_isI) (i := 0) (n := 1) (v := .int hg) rfl (e := (.iload_n 0, 1, [], .null)) rfl rfl (fun _ _ => rfl) l0 rfl
    have E := E.pu (p := 13) (lo' := lo) (st' := [.int 2, .int hg, .int ce]) rfl (e := (.iconst 2, 1, [], .null)) rfl rfl (fun _ _ => rfl)
    have E := E.ld (p := 14) (t := ri_isI) (i := 2) (n := 1) (v := .int k) rfl (e := (.iload_n 2, 1, [], .null)) rfl rfl (fun _ _ => rfl) l2 rfl
    have E := E.pu (p := 15) (lo' := lo) (st' := [.int (2 * k), .int hg, .int ce]) rfl (e := (.imul, 1, [], .null)) rfl rfl (fun _ _ => rfl)
    have E := E.pu (p := 16) (lo' := lo) (st' := [.int 1, .int (2 * k), .int hg, .int ce]) rfl (e := (.iconst 1, 1, [], .null)) rfl rfl (fun _ _ => rfl)
    have E := E.pu (p := 17) (lo' := lo) (st' := [.int ((2 * k) + 1), .int hg, .int ce]) rfl (e := (.iadd, 1, [], .null)) rfl rfl (fun _ _ => rfl)
    have E := E.pu (p := 18) (lo' := lo) (st' := [.int (hg >>> (((2 * k) + 1) &&& 31)), .int ce]) rfl (e := (.ishr, 1, [], .null)) rfl rfl (fun _ _ => rfl)
    have E := E.pu (p := 19) (lo' := lo) (st' := [.int 1, .int (hg >>> (((2 * k) + 1) &&& 31)), .int ce]) rfl (e := (.iconst 1, 1, [], .null)) rfl rfl (fun _ _ => rfl)
    have E := E.pu (p := 20) (lo' := lo) (st' := [.int ((hg >>> (((2 * k) + 1) &&& 31)) &&& 1), .int ce]) rfl (e := (.iand, 1, [], .null)) rfl rfl (fun _ _ => rfl)
    have E := E.ld (p := 21) (t := ri_isI) (i := 2) (n := 1) (v := .int k) rfl (e := (.iload_n 2, 1, [], .null)) rfl rfl (fun _ _ => rfl) l2 rfl
    have E := E.pu (p := 22) (lo' := lo) (st' := [.int (((hg >>> (((2 * k) + 1) &&& 31)) &&& 1) <<< (k &&& 31)), .int ce]) rfl (e := (.ishl, 1, [], .null)) rfl rfl (fun _ _ => rfl)
    have E := E.pu (p := 23) (lo' := lo) (st' := [.int (ce ||| (((hg >>> (((2 * k) + 1) &&& 31)) &&& 1) <<< (k &&& 31)))]) rfl (e := (.ior, 1, [], .null)) rfl rfl (fun _ _ => rfl)
    have E := E.so (p := 24) (t := ri_isI) (i := 1) (n := 1) rfl (e := (.istore_n 1, 1, [], .null)) rfl rfl (fun _ _ => rfl) rfl
    have k2_1 : ri_lk (ri_st1 lo 1 (.int (ce ||| (((hg >>> (((2 * k) + 1) &&& 31)) &&& 1) <<< (k &&& 31))))) 1 = some (.int (ce ||| (((hg >>> (((2 * k) + 1) &&& 31)) &&& 1) <<< (k &&& 31)))) := eh_self
    have k2_0 : ri_lk (ri_st1 lo 1 (.int (ce ||| (((hg >>> (((2 * k) + 1) &&& 31)) &&& 1) <<< (k &&& 31))))) 0 = some (.int hg) := eh_keep (by decide) (Or.inl rfl) l0
    have k2_2 : ri_lk (ri_st1 lo 1 (.int (ce ||| (((hg >>> (((2 * k) + 1) &&& 31)) &&& 1) <<< (k &&& 31))))) 2 = some (.int k) := eh_keep (by decide) (Or.inl rfl) l2
    have E := E.ii (p := 27) (y := k + 1) rfl (i := 2) (n := 1) (m := 3) (ax := []) (w := .null) rfl k2_2 rfl rfl
    have k3_2 : ri_lk (ri_st1 (ri_st1 lo 1 (.int (ce ||| (((hg >>> (((2 * k) + 1) &&& 31)) &&& 1) <<< (k &&& 31))))) 2 (.int (k + 1))) 2 = some (.int (k + 1)) := eh_self
    have k3_0 : ri_lk (ri_st1 (ri_st1 lo 1 (.int (ce ||| (((hg >>> (((2 * k) + 1) &&& 31)) &&& 1) <<< (k &&& 31))))) 2 (.int (k + 1))) 0 = some (.int hg) := eh_keep (by decide) (Or.inl rfl) k2_0
    have k3_1 : ri_lk (ri_st1 (ri_st1 lo 1 (.int (ce ||| (((hg >>> (((2 * k) + 1) &&& 31)) &&& 1) <<< (k &&& 31))))) 2 (.int (k + 1))) 1 = some (.int (ce ||| (((hg >>> (((2 * k) + 1) &&& 31)) &&& 1) <<< (k &&& 31)))) := eh_keep (by decide) (Or.inl rfl) k2_1
    have E := E.pu (p := 4) (lo' := (ri_st1 (ri_st1 lo 1 (.int (ce ||| (((hg >>> (((2 * k) + 1) &&& 31)) &&& 1) <<< (k &&& 31))))) 2 (.int (k + 1)))) (st' := []) rfl (e := (.goto (-23), 3, [4], .null)) rfl rfl (fun _ _ => rfl)
    exact Or.inr (⟨c1, _, _, E, hV, rfl, ty, k3_0, k3_1, k3_2⟩)
