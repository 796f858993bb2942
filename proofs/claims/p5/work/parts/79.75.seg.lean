theorem ylm_f {d : Nat} {lo : List (Nat × Value)} {h h' : ri_H} {rs : List Value} {G : eh_W} {c P w N : Nat} {ku sz : Nat → Nat} {ce hi : Nat → Nat → Nat} {ex : Nat → Bool} {ea mn al su sm mo k : Int32} (E : eh_e (ri_calE ri_md (d + 5)) md_219 245 lo [] h rs h') (hV : eh_V h = G) (ty : eh_ty tM G) (l0 : ri_lk lo 0 = some (.ref 0)) (l1 : ri_lk lo 1 = some (.int ea)) (l2 : ri_lk lo 2 = some (.int mn)) (l3 : ri_lk lo 3 = some (.int al)) (l4 : ri_lk lo 4 = some (.int su)) (l5 : ri_lk lo 5 = some (.int sm)) (l6 : ri_lk lo 6 = some (.int mo)) (l7 : ri_lk lo 7 = some (.int k)) (D : k.toInt < (eh_i G 2 3).toInt → xV c P w N ku sz ce hi ex k G) : (¬ (k.toInt < (eh_i G 2 3).toInt) ∧ rs = [.int mn] ∧ eh_V h' = G ∧ eh_N h' = eh_N h) ∨ (∃ (x3 : Int32), ∃ (x4 : eh_W), k.toInt < (eh_i G 2 3).toInt ∧ x3 = nI (cn (fsT (fun s => ht_M c s P w ku sz ce hi) ex) N) ∧ eh_fr pMa G x4 ∧ eh_ty tM x4 ∧ mo.toInt < x3.toInt ∧ ∃ hz loz, eh_e (ri_calE ri_md (d + 5)) md_219 245 loz [] hz rs h' ∧ eh_V hz = eh_u x4 0 30 (.int k) ∧ eh_N hz = eh_N h ∧ eh_ty tM (eh_u x4 0 30 (.int k)) ∧ ri_lk loz 0 = some (.ref 0) ∧ ri_lk loz 1 = some (.int ea) ∧ ri_lk loz 2 = some (.int mn) ∧ ri_lk loz 3 = some (.int al) ∧ ri_lk loz 4 = some (.int su) ∧ ri_lk loz 5 = some (.int sm) ∧ ri_lk loz 6 = some (.int x3) ∧ ri_lk loz 7 = some (.int (k + 1)) ∧ ri_lk loz 8 = some (.int x3)) ∨ (∃ (x3 : Int32), ∃ (x4 : eh_W), k.toInt < (eh_i G 2 3).toInt ∧ x3 = nI (cn (fsT (fun s => ht_M c s P w ku sz ce hi) ex) N) ∧ eh_fr pMa G x4 ∧ eh_ty tM x4 ∧ ¬ (mo.toInt < x3.toInt) ∧ ∃ hz loz, eh_e (ri_calE ri_md (d + 5)) md_219 245 loz [] hz rs h' ∧ eh_V hz = x4 ∧ eh_N hz = eh_N h ∧ eh_ty tM x4 ∧ ri_lk loz 0 = some (.ref 0) ∧ ri_lk loz 1 = some (.int ea) ∧ ri_lk loz 2 = some (.int mn) ∧ ri_lk loz 3 = some (.int al) ∧ ri_lk loz 4 = some (.int su) ∧ ri_lk loz 5 = some (.int sm) ∧ ri_lk loz 6 = some (.int mo) ∧ ri_lk loz 7 = some (.int (k + 1)) ∧ ri_lk loz 8 = some (.int x3)) := by
  have E := E.ld (p := 247) (t := ri_isI) (i := 7) (n := 2) (v := .int k) rfl (e := (.iload 7, 2, [], .null)) rfl rfl (fun _ _ => rfl) l7 rfl
  have E := E.ld (p := 248) (t := ri_isA) (i := 0) (n := 1) (v := .ref 0) rfl (e := (.aload_n 0, 1, [], .null)) rfl rfl (fun _ _ => rfl) l0 rfl
  have E := E.gr (n := 2) (p := 251) rfl (x := 33) (m := 3) (w := .null) (t := 12) (i := 6) (u := 1330) rfl rfl hV ty rfl
  have E := E.pu (p := 252) (lo' := lo) (st' := [.int 3, .ref 2, .int k]) rfl (e := (.iconst 3, 1, [], .null)) rfl rfl (fun _ _ => rfl)
  have E := E.ai (p := 253) (z := eh_i G 2 3) (n := 3) rfl (e := (.iaload, 1, [], .null)) rfl rfl (fun _ _ => rfl) rfl hV ty (by decide) rfl rfl
  rcases eh_r3 rfl rfl (E.br (p := 256) (c := 3) (tgt := 290) (a := k) (b := eh_i G 2 3) (st' := []) rfl (e := (.if_icmp .ge 37, 3, [290], .null)) rfl rfl (fun _ _ => rfl) rfl) with ⟨c1, E⟩ | ⟨c1, E⟩
  · skip
    have E := E.ld (p := 291) (t := ri_isI) (i := 2) (n := 1) (v := .int mn) rfl (e := (.iload_n 2, 1, [], .null)) rfl rfl (fun _ _ => rfl) l2 rfl
    obtain ⟨r1, r2⟩ := E.reti rfl (m := 1) (ax := []) (w := .null) rfl
    exact Or.inl ⟨c1, r1, ((congrArg eh_V r2).trans hV), (congrArg eh_N r2)⟩
  · skip
    have E := E.ld (p := 257) (t := ri_isA) (i := 0) (n := 1) (v := .ref 0) rfl (e := (.aload_n 0, 1, [], .null)) rfl rfl (fun _ _ => rfl) l0 rfl
    have E := E.ld (p := 259) (t := ri_isI) (i := 7) (n := 2) (v := .int k) rfl (e := (.iload 7, 2, [], .null)) rfl rfl (fun _ _ => rfl) l7 rfl
    obtain ⟨v1, h2, X, E⟩ := E.cv (p := 262) (as := [.int k]) (b := 0) (r := []) rfl (x := 348) (m := 3) (w := .null) (j := 218) (n := 1) (t := 12) (u := [1737, 80, 1739]) rfl rfl rfl
    rcases yaa_218 (d := d) X hV ty (D c1) with ⟨x3, x4, c5, c6, c7, rfl, hV8, hN9⟩
    have c5 : x3 = nI (cn (fsT (fun s => ht_M c s P w ku sz ce hi) ex) N) := c5
    have c6 : eh_fr pMa G x4 := c6
    have c7 : eh_ty tM x4 := c7
    have hV8 : _ = x4 := hV8
    have E : eh_e _ _ 262 lo [.int x3] _ rs h' := E
    have E := E.so (p := 264) (t := ri_isI) (i := 8) (n := 2) rfl (e := (.istore 8, 2, [], .null)) rfl rfl (fun _ _ => rfl) rfl
    have k10_8 : ri_lk (ri_st1 lo 8 (.int x3)) 8 = some (.int x3) := eh_self
    have k10_0 : ri_lk (ri_st1 lo 8 (.int x3)) 0 = some (.ref 0) := eh_keep (by decide) (Or.inl rfl) l0
    have k10_1 : ri_lk (ri_st1 lo 8 (.int x3)) 1 = some (.int ea) := eh_keep (by decide) (Or.inl rfl) l1
    have k10_2 : ri_lk (ri_st1 lo 8 (.int x3)) 2 = some (.int mn) := eh_keep (by decide) (Or.inl rfl) l2
    have k10_3 : ri_lk (ri_st1 lo 8 (.int x3)) 3 = some (.int al) := eh_keep (by decide) (Or.inl rfl) l3
    have k10_4 : ri_lk (ri_st1 lo 8 (.int x3)) 4 = some (.int su) := eh_keep (by decide) (Or.inl rfl) l4
    have k10_5 : ri_lk (ri_st1 lo 8 (.int x3)) 5 = some (.int sm) := eh_keep (by decide) (Or.inl rfl) l5
    have k10_6 : ri_lk (ri_st1 lo 8 (.int x3)) 6 = some (.int mo) := eh_keep (by decide) (Or.inl rfl) l6
    have k10_7 : ri_lk (ri_st1 lo 8 (.int x3)) 7 = some (.int k) := eh_keep (by decide) (Or.inl rfl) l7
    have E := E.ld (p := 266) (t := ri_isI) (i := 8) (n := 2) (v := .int x3) rfl (e := (.iload 8, 2, [], .null)) rfl rfl (fun _ _ => rfl) k10_8 rfl
    have E := E.ld (p := 268) (t := ri_isI) (i := 6) (n := 2) (v := .int mo) rfl (e := (.iload 6, 2, [], .null)) rfl rfl (fun _ _ => rfl) k10_6 rfl
    rcases eh_r4 rfl rfl (E.br (p := 271) (c := 4) (tgt := 274) (a := x3) (b := mo) (st' := []) rfl (e := (.if_icmp .gt 6, 3, [274], .null)) rfl rfl (fun _ _ => rfl) rfl) with ⟨c11, E⟩ | ⟨c11, E⟩
    · skip
      have E := E.ld (p := 276) (t := ri_isI) (i := 8) (n := 2) (v := .int x3) rfl (e := (.iload 8, 2, [], .null)) rfl rfl (fun _ _ => rfl) k10_8 rfl
      have E := E.so (p := 278) (t := ri_isI) (i := 6) (n := 2) rfl (e := (.istore 6, 2, [], .null)) rfl rfl (fun _ _ => rfl) rfl
      have k12_6 : ri_lk (ri_st1 (ri_st1 lo 8 (.int x3)) 6 (.int x3)) 6 = some (.int x3) := eh_self
      have k12_0 : ri_lk (ri_st1 (ri_st1 lo 8 (.int x3)) 6 (.int x3)) 0 = some (.ref 0) := eh_keep (by decide) (Or.inl rfl) k10_0
      have k12_1 : ri_lk (ri_st1 (ri_st1 lo 8 (.int x3)) 6 (.int x3)) 1 = some (.int ea) := eh_keep (by decide) (Or.inl rfl) k10_1
      have k12_2 : ri_lk (ri_st1 (ri_st1 lo 8 (.int x3)) 6 (.int x3)) 2 = some (.int mn) := eh_keep (by decide) (Or.inl rfl) k10_2
      have k12_3 : ri_lk (ri_st1 (ri_st1 lo 8 (.int x3)) 6 (.int x3)) 3 = some (.int al) := eh_keep (by decide) (Or.inl rfl) k10_3
      have k12_4 : ri_lk (ri_st1 (ri_st1 lo 8 (.int x3)) 6 (.int x3)) 4 = some (.int su) := eh_keep (by decide) (Or.inl rfl) k10_4
      have k12_5 : ri_lk (ri_st1 (ri_st1 lo 8 (.int x3)) 6 (.int x3)) 5 = some (.int sm) := eh_keep (by decide) (Or.inl rfl) k10_5
      have k12_7 : ri_lk (ri_st1 (ri_st1 lo 8 (.int x3)) 6 (.int x3)) 7 = some (.int k) := eh_keep (by decide) (Or.inl rfl) k10_7
      have k12_8 : ri_lk (ri_st1 (ri_st1 lo 8 (.int x3)) 6 (.int x3)) 8 = some (.int x3) := eh_keep (by decide) (Or.inl rfl) k10_8
      have E := E.ld (p := 279) (t := ri_isA) (i := 0) (n := 1) (v := .ref 0) rfl (e := (.aload_n 0, 1, [], .null)) rfl rfl (fun _ _ => rfl) k12_0 rfl
      have E := E.ld (p := 281) (t := ri_isI) (i := 7) (n := 2) (v := .int k) rfl (e := (.iload 7, 2, [], .null)) rfl rfl (fun _ _ => rfl) k12_7 rfl
      obtain ⟨h13, hV14, hN15, E⟩ := E.gp (p := 284) rfl (x := 345) (m := 3) (w := .null) (t := 12) (i := 30) (u := 1354) (y := 0) rfl rfl hV8
      have E := E.ii (p := 287) (y := k + 1) rfl (i := 7) (n := 1) (m := 3) (ax := []) (w := .null) rfl k12_7 rfl rfl
      have k16_7 : ri_lk (ri_st1 (ri_st1 (ri_st1 lo 8 (.int x3)) 6 (.int x3)) 7 (.int (k + 1))) 7 = some (.int (k + 1)) := eh_self
      have k16_0 : ri_lk (ri_st1 (ri_st1 (ri_st1 lo 8 (.int x3)) 6 (.int x3)) 7 (.int (k + 1))) 0 = some (.ref 0) := eh_keep (by decide) (Or.inl rfl) k12_0
      have k16_1 : ri_lk (ri_st1 (ri_st1 (ri_st1 lo 8 (.int x3)) 6 (.int x3)) 7 (.int (k + 1))) 1 = some (.int ea) := eh_keep (by decide) (Or.inl rfl) k12_1
      have k16_2 : ri_lk (ri_st1 (ri_st1 (ri_st1 lo 8 (.int x3)) 6 (.int x3)) 7 (.int (k + 1))) 2 = some (.int mn) := eh_keep (by decide) (Or.inl rfl) k12_2
      have k16_3 : ri_lk (ri_st1 (ri_st1 (ri_st1 lo 8 (.int x3)) 6 (.int x3)) 7 (.int (k + 1))) 3 = some (.int al) := eh_keep (by decide) (Or.inl rfl) k12_3
      have k16_4 : ri_lk (ri_st1 (ri_st1 (ri_st1 lo 8 (.int x3)) 6 (.int x3)) 7 (.int (k + 1))) 4 = some (.int su) := eh_keep (by decide) (Or.inl rfl) k12_4
      have k16_5 : ri_lk (ri_st1 (ri_st1 (ri_st1 lo 8 (.int x3)) 6 (.int x3)) 7 (.int (k + 1))) 5 = some (.int sm) := eh_keep (by decide) (Or.inl rfl) k12_5
      have k16_6 : ri_lk (ri_st1 (ri_st1 (ri_st1 lo 8 (.int x3)) 6 (.int x3)) 7 (.int (k + 1))) 6 = some (.int x3) := eh_keep (by decide) (Or.inl rfl) k12_6
      have k16_8 : ri_lk (ri_st1 (ri_st1 (ri_st1 lo 8 (.int x3)) 6 (.int x3)) 7 (.int (k + 1))) 8 = some (.int x3) := eh_keep (by decide) (Or.inl rfl) k12_8
      have E := E.pu (p := 245) (lo' := (ri_st1 (ri_st1 (ri_st1 lo 8 (.int x3)) 6 (.int x3)) 7 (.int (k + 1)))) (st' := []) rfl (e := (.goto (-42), 3, [245], .null)) rfl rfl (fun _ _ => rfl)
      exact Or.inr (Or.inl ⟨x3, x4, c1, c5, c6, c7, c11, _, _, E, hV14, (hN15.trans hN9), (c7.ui rfl), k16_0, k16_1, k16_2, k16_3, k16_4, k16_5, k16_6, k16_7, k16_8⟩)
    · skip
      have E := E.pu (p := 284) (lo' := (ri_st1 lo 8 (.int x3))) (st' := []) rfl (e := (.goto 13, 3, [284], .null)) rfl rfl (fun _ _ => rfl)
      have E := E.ii (p := 287) (y := k + 1) rfl (i := 7) (n := 1) (m := 3) (ax := []) (w := .null) rfl k10_7 rfl rfl
      have k17_7 : ri_lk (ri_st1 (ri_st1 lo 8 (.int x3)) 7 (.int (k + 1))) 7 = some (.int (k + 1)) := eh_self
      have k17_0 : ri_lk (ri_st1 (ri_st1 lo 8 (.int x3)) 7 (.int (k + 1))) 0 = some (.ref 0) := eh_keep (by decide) (Or.inl rfl) k10_0
      have k17_1 : ri_lk (ri_st1 (ri_st1 lo 8 (.int x3)) 7 (.int (k + 1))) 1 = some (.int ea) := eh_keep (by decide) (Or.inl rfl) k10_1
      have k17_2 : ri_lk (ri_st1 (ri_st1 lo 8 (.int x3)) 7 (.int (k + 1))) 2 = some (.int mn) := eh_keep (by decide) (Or.inl rfl) k10_2
      have k17_3 : ri_lk (ri_st1 (ri_st1 lo 8 (.int x3)) 7 (.int (k + 1))) 3 = some (.int al) := eh_keep (by decide) (Or.inl rfl) k10_3
      have k17_4 : ri_lk (ri_st1 (ri_st1 lo 8 (.int x3)) 7 (.int (k + 1))) 4 = some (.int su) := eh_keep (by decide) (Or.inl rfl) k10_4
      have k17_5 : ri_lk (ri_st1 (ri_st1 lo 8 (.int x3)) 7 (.int (k + 1))) 5 = some (.int sm) := eh_keep (by decide) (Or.inl rfl) k10_5
      have k17_6 : ri_lk (ri_st1 (ri_st1 lo 8 (.int x3)) 7 (.int (k + 1))) 6 = some (.int mo) := eh_keep (by decide) (Or.inl rfl) k10_6
      have k17_8 : ri_lk (ri_st1 (ri_st1 lo 8 (.int x3)) 7 (.int (k + 1))) 8 = some (.int x3) := eh_keep (by decide) (Or.inl rfl) k10_8
      have E := E.pu (p := 245) (lo' := (ri_st1 (ri_st1 lo 8 (.int x3)) 7 (.int (k + 1)))) (st' := []) rfl (e := (.goto (-42), 3, [245], .null)) rfl rfl (fun _ _ => rfl)
      exact Or.inr (Or.inr (⟨x3, x4, c1, c5, c6, c7, c11, _, _, E, hV8, hN9, c7, k17_0, k17_1, k17_2, k17_3, k17_4, k17_5, k17_6, k17_7, k17_8⟩))
