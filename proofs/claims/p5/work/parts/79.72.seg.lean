theorem ylm_c {cal : eh_K} {lo : List (Nat × Value)} {h h' : ri_H} {rs : List Value} {G : eh_W} {ea mn al su sm k : Int32} (E : eh_e cal md_219 102 lo [] h rs h') (hV : eh_V h = G) (ty : eh_ty tM G) (l0 : ri_lk lo 0 = some (.ref 0)) (l1 : ri_lk lo 1 = some (.int ea)) (l2 : ri_lk lo 2 = some (.int mn)) (l3 : ri_lk lo 3 = some (.int al)) (l4 : ri_lk lo 4 = some (.int su)) (l5 : ri_lk lo 5 = some (.int sm)) (l6 : ri_lk lo 6 = some (.int k)) : (al.toInt < k.toInt ∧ ∃ hz loz, eh_e cal md_219 207 loz [] hz rs h' ∧ eh_V hz = G ∧ eh_N hz = eh_N h ∧ eh_ty tM G ∧ ri_lk loz 0 = some (.ref 0) ∧ ri_lk loz 1 = some (.int ea) ∧ ri_lk loz 2 = some (.int mn) ∧ ri_lk loz 3 = some (.int al) ∧ ri_lk loz 4 = some (.int su) ∧ ri_lk loz 5 = some (.int sm) ∧ ri_lk loz 6 = some (.int k)) ∨ (¬ (al.toInt < k.toInt) ∧ ∃ hz loz, eh_e cal md_219 114 loz [] hz rs h' ∧ eh_V hz = G ∧ eh_N hz = eh_N h ∧ eh_ty tM G ∧ ri_lk loz 0 = some (.ref 0) ∧ ri_lk loz 1 = some (.int ea) ∧ ri_lk loz 2 = some (.int mn) ∧ ri_lk loz 3 = some (.int al) ∧ ri_lk loz 4 = some (.int su) ∧ ri_lk loz 5 = some (.int sm) ∧ ri_lk loz 6 = some (.int k) ∧ ri_lk loz 7 = some (.int 1) ∧ ri_lk loz 8 = some (.int 0)) := by
  have E := E.ld (p := 104) (t := ri_isI) (i := 6) (n := 2) (v := .int k) rfl (e := (.iload 6, 2, [], .null)) rfl rfl (fun _ _ => rfl) l6 rfl
  have E := E.ld (p := 105) (t := ri_isI) (i := 3) (n := 1) (v := .int al) rfl (e := (.iload_n 3, 1, [], .null)) rfl rfl (fun _ _ => rfl) l3 rfl
  rcases eh_r4 rfl rfl (E.br (p := 108) (c := 4) (tgt := 207) (a := k) (b := al) (st' := []) rfl (e := (.if_icmp .gt 102, 3, [207], .null)) rfl rfl (fun _ _ => rfl) rfl) with ⟨c1, E⟩ | ⟨c1, E⟩
  · skip
    exact Or.inl ⟨c1, _, _, E, hV, rfl, ty, l0, l1, l2, l3, l4, l5, l6⟩
  · skip
    have E := E.pu (p := 109) (lo' := lo) (st' := [.int 1]) rfl (e := (.iconst 1, 1, [], .null)) rfl rfl (fun _ _ => rfl)
    have E := E.so (p := 111) (t := ri_isI) (i := 7) (n := 2) rfl (e := (.istore 7, 2, [], .null)) rfl rfl (fun _ _ => rfl) rfl
    have k2_7 : ri_lk (ri_st1 lo 7 (.int 1)) 7 = some (.int 1) := eh_self
    have k2_0 : ri_lk (ri_st1 lo 7 (.int 1)) 0 = some (.ref 0) := eh_keep (by decide) (Or.inl rfl) l0
    have k2_1 : ri_lk (ri_st1 lo 7 (.int 1)) 1 = some (.int ea) := eh_keep (by decide) (Or.inl rfl) l1
    have k2_2 : ri_lk (ri_st1 lo 7 (.int 1)) 2 = some (.int mn) := eh_keep (by decide) (Or.inl rfl) l2
    have k2_3 : ri_lk (ri_st1 lo 7 (.int 1)) 3 = some (.int al) := eh_keep (by decide) (Or.inl rfl) l3
    have k2_4 : ri_lk (ri_st1 lo 7 (.int 1)) 4 = some (.int su) := eh_keep (by decide) (Or.inl rfl) l4
    have k2_5 : ri_lk (ri_st1 lo 7 (.int 1)) 5 = some (.int sm) := eh_keep (by decide) (Or.inl rfl) l5
    have k2_6 : ri_lk (ri_st1 lo 7 (.int 1)) 6 = some (.int k) := eh_keep (by decide) (Or.inl rfl) l6
    have E := E.pu (p := 112) (lo' := (ri_st1 lo 7 (.int 1))) (st' := [.int 0]) rfl (e := (.iconst 0, 1, [], .null)) rfl rfl (fun _ _ => rfl)
    have E := E.so (p := 114) (t := ri_isI) (i := 8) (n := 2) rfl (e := (.istore 8, 2, [], .null)) rfl rfl (fun _ _ => rfl) rfl
    have k3_8 : ri_lk (ri_st1 (ri_st1 lo 7 (.int 1)) 8 (.int 0)) 8 = some (.int 0) := eh_self
    have k3_0 : ri_lk (ri_st1 (ri_st1 lo 7 (.int 1)) 8 (.int 0)) 0 = some (.ref 0) := eh_keep (by decide) (Or.inl rfl) k2_0
    have k3_1 : ri_lk (ri_st1 (ri_st1 lo 7 (.int 1)) 8 (.int 0)) 1 = some (.int ea) := eh_keep (by decide) (Or.inl rfl) k2_1
    have k3_2 : ri_lk (ri_st1 (ri_st1 lo 7 (.int 1)) 8 (.int 0)) 2 = some (.int mn) := eh_keep (by decide) (Or.inl rfl) k2_2
    have k3_3 : ri_lk (ri_st1 (ri_st1 lo 7 (.int 1)) 8 (.int 0)) 3 = some (.int al) := eh_keep (by decide) (Or.inl rfl) k2_3
    have k3_4 : ri_lk (ri_st1 (ri_st1 lo 7 (.int 1)) 8 (.int 0)) 4 = some (.int su) := eh_keep (by decide) (Or.inl rfl) k2_4
    have k3_5 : ri_lk (ri_st1 (ri_st1 lo 7 (.int 1)) 8 (.int 0)) 5 = some (.int sm) := eh_keep (by decide) (Or.inl rfl) k2_5
    have k3_6 : ri_lk (ri_st1 (ri_st1 lo 7 (.int 1)) 8 (.int 0)) 6 = some (.int k) := eh_keep (by decide) (Or.inl rfl) k2_6
    have k3_7 : ri_lk (ri_st1 (ri_st1 lo 7 (.int 1)) 8 (.int 0)) 7 = some (.int 1) := eh_keep (by decide) (Or.inl rfl) k2_7
    exact Or.inr (⟨c1, _, _, E, hV, rfl, ty, k3_0, k3_1, k3_2, k3_3, k3_4, k3_5, k3_6, k3_7, k3_8⟩)
theorem ylm_d {d : Nat} {lo : List (Nat × Value)} {h h' : ri_H} {rs : List Value} {G : eh_W} {a w c sw P : Nat} {ku sz : Nat → Nat} {ce hi : Nat → Nat → Nat} {ea mn al su sm k is i : Int32} (E : eh_e (ri_calE ri_md (d + 4)) md_219 114 lo [] h rs h') (hV : eh_V h = G) (ty : eh_ty tM G) (l0 : ri_lk lo 0 = some (.ref 0)) (l1 : ri_lk lo 1 = some (.int ea)) (l2 : ri_lk lo 2 = some (.int mn)) (l3 : ri_lk lo 3 = some (.int al)) (l4 : ri_lk lo 4 = some (.int su)) (l5 : ri_lk lo 5 = some (.int sm)) (l6 : ri_lk lo 6 = some (.int k)) (l7 : ri_lk lo 7 = some (.int is)) (l8 : ri_lk lo 8 = some (.int i)) (ia : i = nI a) (hw : eh_i G 2 0 = nI w) (w8 : w ≤ 8) (hf : i.toInt < (eh_i G 0 3).toInt → a + 1 + w ≤ 940) (hb : bRa G) (D : i.toInt < (eh_i G 0 3).toInt → xD c sw P ku sz ce hi ((eh_i G 1 i.toNatClampNeg) &&& 255) k G) : (¬ (i.toInt < (eh_i G 0 3).toInt) ∧ ¬ (is = 0) ∧ ∃ hz loz, eh_e (ri_calE ri_md (d + 4)) md_219 102 loz [] hz rs h' ∧ eh_V hz = eh_u G 10 (k).toNatClampNeg (.int ((is).toInt8.toInt32)) ∧ eh_N hz = eh_N h ∧ eh_ty tM (eh_u G 10 (k).toNatClampNeg (.int ((is).toInt8.toInt32))) ∧ ri_lk loz 0 = some (.ref 0) ∧ ri_lk loz 1 = some (.int ea) ∧ ri_lk loz 2 = some (.int (mn + 1)) ∧ ri_lk loz 3 = some (.int al) ∧ ri_lk loz 4 = some (.int (su &&& k)) ∧ ri_lk loz 5 = some (.int (sm ||| k)) ∧ ri_lk loz 6 = some (.int (k + 1)) ∧ ri_lk loz 7 = some (.int is) ∧ ri_lk loz 8 = some (.int i)) ∨ (¬ (i.toInt < (eh_i G 0 3).toInt) ∧ is = 0 ∧ ∃ hz loz, eh_e (ri_calE ri_md (d + 4)) md_219 102 loz [] hz rs h' ∧ eh_V hz = eh_u G 10 (k).toNatClampNeg (.int ((is).toInt8.toInt32)) ∧ eh_N hz = eh_N h ∧ eh_ty tM (eh_u G 10 (k).toNatClampNeg (.int ((is).toInt8.toInt32))) ∧ ri_lk loz 0 = some (.ref 0) ∧ ri_lk loz 1 = some (.int ea) ∧ ri_lk loz 2 = some (.int mn) ∧ ri_lk loz 3 = some (.int al) ∧ ri_lk loz 4 = some (.int su) ∧ ri_lk loz 5 = some (.int sm) ∧ ri_lk loz 6 = some (.int (k + 1)) ∧ ri_lk loz 7 = some (.int is) ∧ ri_lk loz 8 = some (.int i)) ∨ (i.toInt < (eh_i G 0 3).toInt ∧ is = 0 ∧ ∃ hz loz, eh_e (ri_calE ri_md (d + 4)) md_219 102 loz [] hz rs h' ∧ eh_V hz = eh_u G 10 (k).toNatClampNeg (.int ((is).toInt8.toInt32)) ∧ eh_N hz = eh_N h ∧ eh_ty tM (eh_u G 10 (k).toNatClampNeg (.int ((is).toInt8.toInt32))) ∧ ri_lk loz 0 = some (.ref 0) ∧ ri_lk loz 1 = some (.int ea) ∧ ri_lk loz 2 = some (.int mn) ∧ ri_lk loz 3 = some (.int al) ∧ ri_lk loz 4 = some (.int su) ∧ ri_lk loz 5 = some (.int sm) ∧ ri_lk loz 6 = some (.int (k + 1)) ∧ ri_lk loz 7 = some (.int is) ∧ ri_lk loz 8 = some (.int i)) ∨ (∃ (x20 : Int32), ∃ (x21 : eh_W), ∃ (x28 : Int32), i.toInt < (eh_i G 0 3).toInt ∧ ¬ (is = 0) ∧ x20 = nI (ht_M c sw P w ku sz ce hi) ∧ eh_fr pMv G x21 ∧ eh_ty tM x21 ∧ ((hOK x21 w (a + 1) ∧ x28 = nI (hNM x21 w (a + 1))) ∨ (¬ hOK x21 w (a + 1) ∧ x28 = -1)) ∧ ¬ (x20 = x28) ∧ ∃ hz loz, eh_e (ri_calE ri_md (d + 4)) md_219 114 loz [] hz rs h' ∧ eh_V hz = x21 ∧ eh_N hz = eh_N h ∧ eh_ty tM x21 ∧ ri_lk loz 0 = some (.ref 0) ∧ ri_lk loz 1 = some (.int ea) ∧ ri_lk loz 2 = some (.int mn) ∧ ri_lk loz 3 = some (.int al) ∧ ri_lk loz 4 = some (.int su) ∧ ri_lk loz 5 = some (.int sm) ∧ ri_lk loz 6 = some (.int k) ∧ ri_lk loz 7 = some (.int 0) ∧ ri_lk loz 8 = some (.int (i + ea))) ∨ (∃ (x20 : Int32), ∃ (x21 : eh_W), ∃ (x28 : Int32), i.toInt < (eh_i G 0 3).toInt ∧ ¬ (is = 0) ∧ x20 = nI (ht_M c sw P w ku sz ce hi) ∧ eh_fr pMv G x21 ∧ eh_ty tM x21 ∧ ((hOK x21 w (a + 1) ∧ x28 = nI (hNM x21 w (a + 1))) ∨ (¬ hOK x21 w (a + 1) ∧ x28 = -1)) ∧ x20 = x28 ∧ ∃ hz loz, eh_e (ri_calE ri_md (d + 4)) md_219 114 loz [] hz rs h' ∧ eh_V hz = x21 ∧ eh_N hz = eh_N h ∧ eh_ty tM x21 ∧ ri_lk loz 0 = some (.ref 0) ∧ ri_lk loz 1 = some (.int ea) ∧ ri_lk loz 2 = some (.int mn) ∧ ri_lk loz 3 = some (.int al) ∧ ri_lk loz 4 = some (.int su) ∧ ri_lk loz 5 = some (.int sm) ∧ ri_lk loz 6 = some (.int k) ∧ ri_lk loz 7 = some (.int 1) ∧ ri_lk loz 8 = some (.int (i + ea))) := by
  have E := E.ld (p := 116) (t := ri_isI) (i := 8) (n := 2) (v := .int i) rfl (e := (.iload 8, 2, [], .null)) rfl rfl (fun _ _ => rfl) l8 rfl
  have E := E.ld (p := 117) (t := ri_isA) (i := 0) (n := 1) (v := .ref 0) rfl (e := (.aload_n 0, 1, [], .null)) rfl rfl (fun _ _ => rfl) l0 rfl
  have E := E.gi (y := eh_i G 0 3) (p := 120) rfl (x := 18) (m := 3) (w := .null) (t := 12) (i := 3) (u := 1327) rfl rfl hV ty rfl rfl
  rcases eh_r3 rfl rfl (E.br (p := 123) (c := 3) (tgt := 167) (a := i) (b := eh_i G 0 3) (st' := []) rfl (e := (.if_icmp .ge 47, 3, [167], .null)) rfl rfl (fun _ _ => rfl) rfl) with ⟨c1, E⟩ | ⟨c1, E⟩
  · skip
    have E := E.ld (p := 168) (t := ri_isA) (i := 0) (n := 1) (v := .ref 0) rfl (e := (.aload_n 0, 1, [], .null)) rfl rfl (fun _ _ => rfl) l0 rfl
    have E := E.gr (n := 10) (p := 171) rfl (x := 59) (m := 3) (w := .null) (t := 12) (i := 26) (u := 1350) rfl rfl hV ty rfl
    have E := E.ld (p := 173) (t := ri_isI) (i := 6) (n := 2) (v := .int k) rfl (e := (.iload 6, 2, [], .null)) rfl rfl (fun _ _ => rfl) l6 rfl
    have E := E.ld (p := 175) (t := ri_isI) (i := 7) (n := 2) (v := .int is) rfl (e := (.iload 7, 2, [], .null)) rfl rfl (fun _ _ => rfl) l7 rfl
    obtain ⟨h2, hV3, hN4, E⟩ := E.bw (p := 176) (n := (k).toNatClampNeg) rfl (m := 1) (ax := []) (w := .null) rfl rfl hV rfl
    have E := E.ld (p := 178) (t := ri_isI) (i := 7) (n := 2) (v := .int is) rfl (e := (.iload 7, 2, [], .null)) rfl rfl (fun _ _ => rfl) l7 rfl
    rcases eh_q1 (E.br (p := 181) (c := 1) (tgt := 184) (a := is) (b := 0) (st' := []) rfl (e := (.ifCond .ne 6, 3, [184], .null)) rfl rfl (fun _ _ => rfl) rfl) with ⟨c5, E⟩ | ⟨c5, E⟩
    · skip
      have E := E.ii (p := 187) (y := mn + 1) rfl (i := 2) (n := 1) (m := 3) (ax := []) (w := .null) rfl l2 rfl rfl
      have k6_2 : ri_lk (ri_st1 lo 2 (.int (mn + 1))) 2 = some (.int (mn + 1)) := eh_self
      have k6_0 : ri_lk (ri_st1 lo 2 (.int (mn + 1))) 0 = some (.ref 0) := eh_keep (by decide) (Or.inl rfl) l0
      have k6_1 : ri_lk (ri_st1 lo 2 (.int (mn + 1))) 1 = some (.int ea) := eh_keep (by decide) (Or.inl rfl) l1
      have k6_3 : ri_lk (ri_st1 lo 2 (.int (mn + 1))) 3 = some (.int al) := eh_keep (by decide) (Or.inl rfl) l3
      have k6_4 : ri_lk (ri_st1 lo 2 (.int (mn + 1))) 4 = some (.int su) := eh_keep (by decide) (Or.inl rfl) l4
      have k6_5 : ri_lk (ri_st1 lo 2 (.int (mn + 1))) 5 = some (.int sm) := eh_keep (by decide) (Or.inl rfl) l5
      have k6_6 : ri_lk (ri_st1 lo 2 (.int (mn + 1))) 6 = some (.int k) := eh_keep (by decide) (Or.inl rfl) l6
      have k6_7 : ri_lk (ri_st1 lo 2 (.int (mn + 1))) 7 = some (.int is) := eh_keep (by decide) (Or.inl rfl) l7
      have k6_8 : ri_lk (ri_st1 lo 2 (.int (mn + 1))) 8 = some (.int i) := eh_keep (by decide) (Or.inl rfl) l8
      have E := E.ld (p := 189) (t := ri_isI) (i := 4) (n := 2) (v := .int su) rfl (e := (.iload 4, 2, [], .null)) rfl rfl (fun _ _ => rfl) k6_4 rfl
      have E := E.ld (p := 191) (t := ri_isI) (i := 6) (n := 2) (v := .int k) rfl (e := (.iload 6, 2, [], .null)) rfl rfl (fun _ _ => rfl) k6_6 rfl
      have E := E.pu (p := 192) (lo' := (ri_st1 lo 2 (.int (mn + 1)))) (st' := [.int (su &&& k)]) rfl (e := (.iand, 1, [], .null)) rfl rfl (fun _ _ => rfl)
      have E := E.so (p := 194) (t := ri_isI) (i := 4) (n := 2) rfl (e := (.istore 4, 2, [], .null)) rfl rfl (fun _ _ => rfl) rfl
      have k7_4 : ri_lk (ri_st1 (ri_st1 lo 2 (.int (mn + 1))) 4 (.int (su &&& k))) 4 = some (.int (su &&& k)) := eh_self
      have k7_0 : ri_lk (ri_st1 (ri_st1 lo 2 (.int (mn + 1))) 4 (.int (su &&& k))) 0 = some (.ref 0) := eh_keep (by decide) (Or.inl rfl) k6_0
      have k7_1 : ri_lk (ri_st1 (ri_st1 lo 2 (.int (mn + 1))) 4 (.int (su &&& k))) 1 = some (.int ea) := eh_keep (by decide) (Or.inl rfl) k6_1
      have k7_2 : ri_lk (ri_st1 (ri_st1 lo 2 (.int (mn + 1))) 4 (.int (su &&& k))) 2 = some (.int (mn + 1)) := eh_keep (by decide) (Or.inl rfl) k6_2
      have k7_3 : ri_lk (ri_st1 (ri_st1 lo 2 (.int (mn + 1))) 4 (.int (su &&& k))) 3 = some (.int al) := eh_keep (by decide) (Or.inl rfl) k6_3
      have k7_5 : ri_lk (ri_st1 (ri_st1 lo 2 (.int (mn + 1))) 4 (.int (su &&& k))) 5 = some (.int sm) := eh_keep (by decide) (Or.inl rfl) k6_5
      have k7_6 : ri_lk (ri_st1 (ri_st1 lo 2 (.int (mn + 1))) 4 (.int (su &&& k))) 6 = some (.int k) := eh_keep (by decide) (Or.inl rfl) k6_6
      have k7_7 : ri_lk (ri_st1 (ri_st1 lo 2 (.int (mn + 1))) 4 (.int (su &&& k))) 7 = some (.int is) := eh_keep (by decide) (Or.inl rfl) k6_7
      have k7_8 : ri_lk (ri_st1 (ri_st1 lo 2 (.int (mn + 1))) 4 (.int (su &&& k))) 8 = some (.int i) := eh_keep (by decide) (Or.inl rfl) k6_8
      have E := E.ld (p := 196) (t := ri_isI) (i := 5) (n := 2) (v := .int sm) rfl (e := (.iload 5, 2, [], .null)) rfl rfl (fun _ _ => rfl) k7_5 rfl
      have E := E.ld (p := 198) (t := ri_isI) (i := 6) (n := 2) (v := .int k) rfl (e := (.iload 6, 2, [], .null)) rfl rfl (fun _ _ => rfl) k7_6 rfl
      have E := E.pu (p := 199) (lo' := (ri_st1 (ri_st1 lo 2 (.int (mn + 1))) 4 (.int (su &&& k)))) (st' := [.int (sm ||| k)]) rfl (e := (.ior, 1, [], .null)) rfl rfl (fun _ _ => rfl)
      have E := E.so (p := 201) (t := ri_isI) (i := 5) (n := 2) rfl (e := (.istore 5, 2, [], .null)) rfl rfl (fun _ _ => rfl) rfl
      have k8_5 : ri_lk (ri_st1 (ri_st1 (ri_st1 lo 2 (.int (mn + 1))) 4 (.int (su &&& k))) 5 (.int (sm ||| k))) 5 = some (.int (sm ||| k)) := eh_self
      have k8_0 : ri_lk (ri_st1 (ri_st1 (ri_st1 lo 2 (.int (mn + 1))) 4 (.int (su &&& k))) 5 (.int (sm ||| k))) 0 = some (.ref 0) := eh_keep (by decide) (Or.inl rfl) k7_0
      have k8_1 : ri_lk (ri_st1 (ri_st1 (ri_st1 lo 2 (.int (mn + 1))) 4 (.int (su &&& k))) 5 (.int (sm ||| k))) 1 = some (.int ea) := eh_keep (by decide) (Or.inl rfl) k7_1
      have k8_2 : ri_lk (ri_st1 (ri_st1 (ri_st1 lo 2 (.int (mn + 1))) 4 (.int (su &&& k))) 5 (.int (sm ||| k))) 2 = some (.int (mn + 1)) := eh_keep (by decide) (Or.inl rfl) k7_2
      have k8_3 : ri_lk (ri_st1 (ri_st1 (ri_st1 lo 2 (.int (mn + 1))) 4 (.int (su &&& k))) 5 (.int (sm ||| k))) 3 = some (.int al) := eh_keep (by decide) (Or.inl rfl) k7_3
      have k8_4 : ri_lk (ri_st1 (ri_st1 (ri_st1 lo 2 (.int (mn + 1))) 4 (.int (su &&& k))) 5 (.int (sm ||| k))) 4 = some (.int (su &&& k)) := eh_keep (by decide) (Or.inl rfl) k7_4
      have k8_6 : ri_lk (ri_st1 (ri_st1 (ri_st1 lo 2 (.int (mn + 1))) 4 (.int (su &&& k))) 5 (.int (sm ||| k))) 6 = some (.int k) := eh_keep (by decide) (Or.inl rfl) k7_6
      have k8_7 : ri_lk (ri_st1 (ri_st1 (ri_st1 lo 2 (.int (mn + 1))) 4 (.int (su &&& k))) 5 (.int (sm ||| k))) 7 = some (.int is) := eh_keep (by decide) (Or.inl rfl) k7_7
      have k8_8 : ri_lk (ri_st1 (ri_st1 (ri_st1 lo 2 (.int (mn + 1))) 4 (.int (su &&& k))) 5 (.int (sm ||| k))) 8 = some (.int i) := eh_keep (by decide) (Or.inl rfl) k7_8
      have E := E.ii (p := 204) (y := k + 1) rfl (i := 6) (n := 1) (m := 3) (ax := []) (w := .null) rfl k8_6 rfl rfl
      have k9_6 : ri_lk (ri_st1 (ri_st1 (ri_st1 (ri_st1 lo 2 (.int (mn + 1))) 4 (.int (su &&& k))) 5 (.int (sm ||| k))) 6 (.int (k + 1))) 6 = some (.int (k + 1)) := eh_self
      have k9_0 : ri_lk (ri_st1 (ri_st1 (ri_st1 (ri_st1 lo 2 (.int (mn + 1))) 4 (.int (su &&& k))) 5 (.int (sm ||| k))) 6 (.int (k + 1))) 0 = some (.ref 0) := eh_keep (by decide) (Or.inl rfl) k8_0
      have k9_1 : ri_lk (ri_st1 (ri_st1 (ri_st1 (ri_st1 lo 2 (.int (mn + 1))) 4 (.int (su &&& k))) 5 (.int (sm ||| k))) 6 (.int (k + 1))) 1 = some (.int ea) := eh_keep (by decide) (Or.inl rfl) k8_1
      have k9_2 : ri_lk (ri_st1 (ri_st1 (ri_st1 (ri_st1 lo 2 (.int (mn + 1))) 4 (.int (su &&& k))) 5 (.int (sm ||| k))) 6 (.int (k + 1))) 2 = some (.int (mn + 1)) := eh_keep (by decide) (Or.inl rfl) k8_2
      have k9_3 : ri_lk (ri_st1 (ri_st1 (ri_st1 (ri_st1 lo 2 (.int (mn + 1))) 4 (.int (su &&& k))) 5 (.int (sm ||| k))) 6 (.int (k + 1))) 3 = some (.int al) := eh_keep (by decide) (Or.inl rfl) k8_3
      have k9_4 : ri_lk (ri_st1 (ri_st1 (ri_st1 (ri_st1 lo 2 (.int (mn + 1))) 4 (.int (su &&& k))) 5 (.int (sm ||| k))) 6 (.int (k + 1))) 4 = some (.int (su &&& k)) := eh_keep (by decide) (Or.inl rfl) k8_4
      have k9_5 : ri_lk (ri_st1 (ri_st1 (ri_st1 (ri_st1 lo 2 (.int (mn + 1))) 4 (.int (su &&& k))) 5 (.int (sm ||| k))) 6 (.int (k + 1))) 5 = some (.int (sm ||| k)) := eh_keep (by decide) (Or.inl rfl) k8_5
      have k9_7 : ri_lk (ri_st1 (ri_st1 (ri_st1 (ri_st1 lo 2 (.int (mn + 1))) 4 (.int (su &&& k))) 5 (.int (sm ||| k))) 6 (.int (k + 1))) 7 = some (.int is) := eh_keep (by decide) (Or.inl rfl) k8_7
      have k9_8 : ri_lk (ri_st1 (ri_st1 (ri_st1 (ri_st1 lo 2 (.int (mn + 1))) 4 (.int (su &&& k))) 5 (.int (sm ||| k))) 6 (.int (k + 1))) 8 = some (.int i) := eh_keep (by decide) (Or.inl rfl) k8_8
      have E := E.pu (p := 102) (lo' := (ri_st1 (ri_st1 (ri_st1 (ri_st1 lo 2 (.int (mn + 1))) 4 (.int (su &&& k))) 5 (.int (sm ||| k))) 6 (.int (k + 1)))) (st' := []) rfl (e := (.goto (-102), 3, [102], .null)) rfl rfl (fun _ _ => rfl)
      exact Or.inl ⟨c1, c5, _, _, E, hV3, hN4, (ty.ui rfl), k9_0, k9_1, k9_2, k9_3, k9_4, k9_5, k9_6, k9_7, k9_8⟩
    · skip
      have E := E.pu (p := 201) (lo' := lo) (st' := []) rfl (e := (.goto 20, 3, [201], .null)) rfl rfl (fun _ _ => rfl)
      have E := E.ii (p := 204) (y := k + 1) rfl (i := 6) (n := 1) (m := 3) (ax := []) (w := .null) rfl l6 rfl rfl
      have k10_6 : ri_lk (ri_st1 lo 6 (.int (k + 1))) 6 = some (.int (k + 1)) := eh_self
      have k10_0 : ri_lk (ri_st1 lo 6 (.int (k + 1))) 0 = some (.ref 0) := eh_keep (by decide) (Or.inl rfl) l0
      have k10_1 : ri_lk (ri_st1 lo 6 (.int (k + 1))) 1 = some (.int ea) := eh_keep (by decide) (Or.inl rfl) l1
      have k10_2 : ri_lk (ri_st1 lo 6 (.int (k + 1))) 2 = some (.int mn) := eh_keep (by decide) (Or.inl rfl) l2
      have k10_3 : ri_lk (ri_st1 lo 6 (.int (k + 1))) 3 = some (.int al) := eh_keep (by decide) (Or.inl rfl) l3
      have k10_4 : ri_lk (ri_st1 lo 6 (.int (k + 1))) 4 = some (.int su) := eh_keep (by decide) (Or.inl rfl) l4
      have k10_5 : ri_lk (ri_st1 lo 6 (.int (k + 1))) 5 = some (.int sm) := eh_keep (by decide) (Or.inl rfl) l5
      have k10_7 : ri_lk (ri_st1 lo 6 (.int (k + 1))) 7 = some (.int is) := eh_keep (by decide) (Or.inl rfl) l7
      have k10_8 : ri_lk (ri_st1 lo 6 (.int (k + 1))) 8 = some (.int i) := eh_keep (by decide) (Or.inl rfl) l8
      have E := E.pu (p := 102) (lo' := (ri_st1 lo 6 (.int (k + 1)))) (st' := []) rfl (e := (.goto (-102), 3, [102], .null)) rfl rfl (fun _ _ => rfl)
      exact Or.inr (Or.inl ⟨c1, c5, _, _, E, hV3, hN4, (ty.ui rfl), k10_0, k10_1, k10_2, k10_3, k10_4, k10_5, k10_6, k10_7, k10_8⟩)
  · skip
    have E := E.ld (p := 125) (t := ri_isI) (i := 7) (n := 2) (v := .int is) rfl (e := (.iload 7, 2, [], .null)) rfl rfl (fun _ _ => rfl) l7 rfl
    rcases eh_q0 (E.br (p := 128) (c := 0) (tgt := 167) (a := is) (b := 0) (st' := []) rfl (e := (.ifCond .eq 42, 3, [167], .null)) rfl rfl (fun _ _ => rfl) rfl) with ⟨c11, E⟩ | ⟨c11, E⟩
    · skip
      have E := E.ld (p := 168) (t := ri_isA) (i := 0) (n := 1) (v := .ref 0) rfl (e := (.aload_n 0, 1, [], .null)) rfl rfl (fun _ _ => rfl) l0 rfl
      have E := E.gr (n := 10) (p := 171) rfl (x := 59) (m := 3) (w := .null) (t := 12) (i := 26) (u := 1350) rfl rfl hV ty rfl
      have E := E.ld (p := 173) (t := ri_isI) (i := 6) (n := 2) (v := .int k) rfl (e := (.iload 6, 2, [], .null)) rfl rfl (fun _ _ => rfl) l6 rfl
      have E := E.ld (p := 175) (t := ri_isI) (i := 7) (n := 2) (v := .int is) rfl (e := (.iload 7, 2, [], .null)) rfl rfl (fun _ _ => rfl) l7 rfl
      obtain ⟨h12, hV13, hN14, E⟩ := E.bw (p := 176) (n := (k).toNatClampNeg) rfl (m := 1) (ax := []) (w := .null) rfl rfl hV rfl
      have E := E.ld (p := 178) (t := ri_isI) (i := 7) (n := 2) (v := .int is) rfl (e := (.iload 7, 2, [], .null)) rfl rfl (fun _ _ => rfl) l7 rfl
      have E := (eh_q1 (E.br (p := 181) (c := 1) (tgt := 184) (a := is) (b := 0) (st' := []) rfl (e := (.ifCond .ne 6, 3, [184], .null)) rfl rfl (fun _ _ => rfl) rfl)).elim (fun y => absurd c11 y.1) (fun y => y.2)
      have E := E.pu (p := 201) (lo' := lo) (st' := []) rfl (e := (.goto 20, 3, [201], .null)) rfl rfl (fun _ _ => rfl)
      have E := E.ii (p := 204) (y := k + 1) rfl (i := 6) (n := 1) (m := 3) (ax := []) (w := .null) rfl l6 rfl rfl
      have k15_6 : ri_lk (ri_st1 lo 6 (.int (k + 1))) 6 = some (.int (k + 1)) := eh_self
      have k15_0 : ri_lk (ri_st1 lo 6 (.int (k + 1))) 0 = some (.ref 0) := eh_keep (by decide) (Or.inl rfl) l0
      have k15_1 : ri_lk (ri_st1 lo 6 (.int (k + 1))) 1 = some (.int ea) := eh_keep (by decide) (Or.inl rfl) l1
      have k15_2 : ri_lk (ri_st1 lo 6 (.int (k + 1))) 2 = some (.int mn) := eh_keep (by decide) (Or.inl rfl) l2
      have k15_3 : ri_lk (ri_st1 lo 6 (.int (k + 1))) 3 = some (.int al) := eh_keep (by decide) (Or.inl rfl) l3
      have k15_4 : ri_lk (ri_st1 lo 6 (.int (k + 1))) 4 = some (.int su) := eh_keep (by decide) (Or.inl rfl) l4
      have k15_5 : ri_lk (ri_st1 lo 6 (.int (k + 1))) 5 = some (.int sm) := eh_keep (by decide) (Or.inl rfl) l5
      have k15_7 : ri_lk (ri_st1 lo 6 (.int (k + 1))) 7 = some (.int is) := eh_keep (by decide) (Or.inl rfl) l7
      have k15_8 : ri_lk (ri_st1 lo 6 (.int (k + 1))) 8 = some (.int i) := eh_keep (by decide) (Or.inl rfl) l8
      have E := E.pu (p := 102) (lo' := (ri_st1 lo 6 (.int (k + 1)))) (st' := []) rfl (e := (.goto (-102), 3, [102], .null)) rfl rfl (fun _ _ => rfl)
      exact Or.inr (Or.inr (Or.inl ⟨c1, c11, _, _, E, hV13, hN14, (ty.ui rfl), k15_0, k15_1, k15_2, k15_3, k15_4, k15_5, k15_6, k15_7, k15_8⟩))
    · skip
      have E := E.ld (p := 129) (t := ri_isA) (i := 0) (n := 1) (v := .ref 0) rfl (e := (.aload_n 0, 1, [], .null)) rfl rfl (fun _ _ => rfl) l0 rfl
      have E := E.ld (p := 130) (t := ri_isA) (i := 0) (n := 1) (v := .ref 0) rfl (e := (.aload_n 0, 1, [], .null)) rfl rfl (fun _ _ => rfl) l0 rfl
      have E := E.ld (p := 132) (t := ri_isI) (i := 8) (n := 2) (v := .int i) rfl (e := (.iload 8, 2, [], .null)) rfl rfl (fun _ _ => rfl) l8 rfl
      obtain ⟨v1, h16, X, E⟩ := E.cv (p := 135) (as := [.int i]) (b := 0) (r := [.ref 0]) rfl (x := 329) (m := 3) (w := .null) (j := 152) (n := 1) (t := 12) (u := [1729, 78, 1731]) rfl rfl rfl
      rcases yoc_152 (d := d + 3) X hV ty with ⟨rfl, hV17, hN18⟩
      have E : eh_e _ _ 135 lo [.int ((eh_i G 1 (i).toNatClampNeg) &&& 255), .ref 0] _ rs h' := E
      have E := E.ld (p := 137) (t := ri_isI) (i := 6) (n := 2) (v := .int k) rfl (e := (.iload 6, 2, [], .null)) rfl rfl (fun _ _ => rfl) l6 rfl
      obtain ⟨v1, h19, X, E⟩ := E.cv (p := 140) (as := [.int ((eh_i G 1 (i).toNatClampNeg) &&& 255), .int k]) (b := 0) (r := []) rfl (x := 323) (m := 3) (w := .null) (j := 192) (n := 2) (t := 12) (u := [1705, 76, 1707]) rfl rfl rfl
      rcases xh_192 (d := d) X hV17 ty (D c1) hw w8 with ⟨x20, x21, c22, c23, c24, rfl, hV25, hN26⟩
      have c22 : x20 = nI (ht_M c sw P w ku sz ce hi) := c22
      have c23 : eh_fr pMv G x21 := c23
      have c24 : eh_ty tM x21 := c24
      have hV25 : _ = x21 := hV25
      have E : eh_e _ _ 140 lo [.int x20] _ rs h' := E
      have E := E.ld (p := 141) (t := ri_isA) (i := 0) (n := 1) (v := .ref 0) rfl (e := (.aload_n 0, 1, [], .null)) rfl rfl (fun _ _ => rfl) l0 rfl
      have E := E.ld (p := 143) (t := ri_isI) (i := 8) (n := 2) (v := .int i) rfl (e := (.iload 8, 2, [], .null)) rfl rfl (fun _ _ => rfl) l8 rfl
      have E := E.pu (p := 144) (lo' := lo) (st' := [.int 1, .int i, .ref 0, .int x20]) rfl (e := (.iconst 1, 1, [], .null)) rfl rfl (fun _ _ => rfl)
      have E := E.pu (p := 145) (lo' := lo) (st' := [.int (i + 1), .ref 0, .int x20]) rfl (e := (.iadd, 1, [], .null)) rfl rfl (fun _ _ => rfl)
      obtain ⟨v1, h27, X, E⟩ := E.cv (p := 148) (as := [.int (i + 1)]) (b := 0) (r := [.int x20]) rfl (x := 332) (m := 3) (w := .null) (j := 217) (n := 1) (t := 12) (u := [1733, 79, 1735]) rfl rfl rfl
      rcases yhm_217 (d := d + 2) X hV25 c24 (fr_e ia) ((c23.i rfl).trans hw) w8 (hf c1) (bRa_fr hb c23) with ⟨x28, c29, rfl, hV30, hN31⟩
      have c29 : (hOK x21 w (a + 1) ∧ x28 = nI (hNM x21 w (a + 1))) ∨ (¬ hOK x21 w (a + 1) ∧ x28 = -1) := c29
      have E : eh_e _ _ 148 lo [.int x28, .int x20] _ rs h' := E
      rcases eh_q1 (E.br (p := 151) (c := 1) (tgt := 155) (a := x20) (b := x28) (st' := []) rfl (e := (.if_icmp .ne 7, 3, [155], .null)) rfl rfl (fun _ _ => rfl) rfl) with ⟨c32, E⟩ | ⟨c32, E⟩
      · skip
        have E := E.pu (p := 156) (lo' := lo) (st' := [.int 0]) rfl (e := (.iconst 0, 1, [], .null)) rfl rfl (fun _ _ => rfl)
        have E := E.so (p := 158) (t := ri_isI) (i := 7) (n := 2) rfl (e := (.istore 7, 2, [], .null)) rfl rfl (fun _ _ => rfl) rfl
        have k33_7 : ri_lk (ri_st1 lo 7 (.int 0)) 7 = some (.int 0) := eh_self
        have k33_0 : ri_lk (ri_st1 lo 7 (.int 0)) 0 = some (.ref 0) := eh_keep (by decide) (Or.inl rfl) l0
        have k33_1 : ri_lk (ri_st1 lo 7 (.int 0)) 1 = some (.int ea) := eh_keep (by decide) (Or.inl rfl) l1
        have k33_2 : ri_lk (ri_st1 lo 7 (.int 0)) 2 = some (.int mn) := eh_keep (by decide) (Or.inl rfl) l2
        have k33_3 : ri_lk (ri_st1 lo 7 (.int 0)) 3 = some (.int al) := eh_keep (by decide) (Or.inl rfl) l3
        have k33_4 : ri_lk (ri_st1 lo 7 (.int 0)) 4 = some (.int su) := eh_keep (by decide) (Or.inl rfl) l4
        have k33_5 : ri_lk (ri_st1 lo 7 (.int 0)) 5 = some (.int sm) := eh_keep (by decide) (Or.inl rfl) l5
        have k33_6 : ri_lk (ri_st1 lo 7 (.int 0)) 6 = some (.int k) := eh_keep (by decide) (Or.inl rfl) l6
        have k33_8 : ri_lk (ri_st1 lo 7 (.int 0)) 8 = some (.int i) := eh_keep (by decide) (Or.inl rfl) l8
        have E := E.ld (p := 160) (t := ri_isI) (i := 8) (n := 2) (v := .int i) rfl (e := (.iload 8, 2, [], .null)) rfl rfl (fun _ _ => rfl) k33_8 rfl
        have E := E.ld (p := 161) (t := ri_isI) (i := 1) (n := 1) (v := .int ea) rfl (e := (.iload_n 1, 1, [], .null)) rfl rfl (fun _ _ => rfl) k33_1 rfl
        have E := E.pu (p := 162) (lo' := (ri_st1 lo 7 (.int 0))) (st' := [.int (i + ea)]) rfl (e := (.iadd, 1, [], .null)) rfl rfl (fun _ _ => rfl)
        have E := E.so (p := 164) (t := ri_isI) (i := 8) (n := 2) rfl (e := (.istore 8, 2, [], .null)) rfl rfl (fun _ _ => rfl) rfl
        have k34_8 : ri_lk (ri_st1 (ri_st1 lo 7 (.int 0)) 8 (.int (i + ea))) 8 = some (.int (i + ea)) := eh_self
        have k34_0 : ri_lk (ri_st1 (ri_st1 lo 7 (.int 0)) 8 (.int (i + ea))) 0 = some (.ref 0) := eh_keep (by decide) (Or.inl rfl) k33_0
        have k34_1 : ri_lk (ri_st1 (ri_st1 lo 7 (.int 0)) 8 (.int (i + ea))) 1 = some (.int ea) := eh_keep (by decide) (Or.inl rfl) k33_1
        have k34_2 : ri_lk (ri_st1 (ri_st1 lo 7 (.int 0)) 8 (.int (i + ea))) 2 = some (.int mn) := eh_keep (by decide) (Or.inl rfl) k33_2
        have k34_3 : ri_lk (ri_st1 (ri_st1 lo 7 (.int 0)) 8 (.int (i + ea))) 3 = some (.int al) := eh_keep (by decide) (Or.inl rfl) k33_3
        have k34_4 : ri_lk (ri_st1 (ri_st1 lo 7 (.int 0)) 8 (.int (i + ea))) 4 = some (.int su) := eh_keep (by decide) (Or.inl rfl) k33_4
        have k34_5 : ri_lk (ri_st1 (ri_st1 lo 7 (.int 0)) 8 (.int (i + ea))) 5 = some (.int sm) := eh_keep (by decide) (Or.inl rfl) k33_5
        have k34_6 : ri_lk (ri_st1 (ri_st1 lo 7 (.int 0)) 8 (.int (i + ea))) 6 = some (.int k) := eh_keep (by decide) (Or.inl rfl) k33_6
        have k34_7 : ri_lk (ri_st1 (ri_st1 lo 7 (.int 0)) 8 (.int (i + ea))) 7 = some (.int 0) := eh_keep (by decide) (Or.inl rfl) k33_7
        have E := E.pu (p := 114) (lo' := (ri_st1 (ri_st1 lo 7 (.int 0)) 8 (.int (i + ea)))) (st' := []) rfl (e := (.goto (-50), 3, [114], .null)) rfl rfl (fun _ _ => rfl)
        exact Or.inr (Or.inr (Or.inr (Or.inl ⟨x20, x21, x28, c1, c11, c22, c23, c24, c29, c32, _, _, E, hV30, (hN31.trans (hN26.trans hN18)), c24, k34_0, k34_1, k34_2, k34_3, k34_4, k34_5, k34_6, k34_7, k34_8⟩)))
      · skip
        have E := E.pu (p := 152) (lo' := lo) (st' := [.int 1]) rfl (e := (.iconst 1, 1, [], .null)) rfl rfl (fun _ _ => rfl)
        have E := E.pu (p := 156) (lo' := lo) (st' := [.int 1]) rfl (e := (.goto 4, 3, [156], .null)) rfl rfl (fun _ _ => rfl)
        have E := E.so (p := 158) (t := ri_isI) (i := 7) (n := 2) rfl (e := (.istore 7, 2, [], .null)) rfl rfl (fun _ _ => rfl) rfl
        have k35_7 : ri_lk (ri_st1 lo 7 (.int 1)) 7 = some (.int 1) := eh_self
        have k35_0 : ri_lk (ri_st1 lo 7 (.int 1)) 0 = some (.ref 0) := eh_keep (by decide) (Or.inl rfl) l0
        have k35_1 : ri_lk (ri_st1 lo 7 (.int 1)) 1 = some (.int ea) := eh_keep (by decide) (Or.inl rfl) l1
        have k35_2 : ri_lk (ri_st1 lo 7 (.int 1)) 2 = some (.int mn) := eh_keep (by decide) (Or.inl rfl) l2
        have k35_3 : ri_lk (ri_st1 lo 7 (.int 1)) 3 = some (.int al) := eh_keep (by decide) (Or.inl rfl) l3
        have k35_4 : ri_lk (ri_st1 lo 7 (.int 1)) 4 = some (.int su) := eh_keep (by decide) (Or.inl rfl) l4
        have k35_5 : ri_lk (ri_st1 lo 7 (.int 1)) 5 = some (.int sm) := eh_keep (by decide) (Or.inl rfl) l5
        have k35_6 : ri_lk (ri_st1 lo 7 (.int 1)) 6 = some (.int k) := eh_keep (by decide) (Or.inl rfl) l6
        have k35_8 : ri_lk (ri_st1 lo 7 (.int 1)) 8 = some (.int i) := eh_keep (by decide) (Or.inl rfl) l8
        have E := E.ld (p := 160) (t := ri_isI) (i := 8) (n := 2) (v := .int i) rfl (e := (.iload 8, 2, [], .null)) rfl rfl (fun _ _ => rfl) k35_8 rfl
        have E := E.ld (p := 161) (t := ri_isI) (i := 1) (n := 1) (v := .int ea) rfl (e := (.iload_n 1, 1, [], .null)) rfl rfl (fun _ _ => rfl) k35_1 rfl
        have E := E.pu (p := 162) (lo' := (ri_st1 lo 7 (.int 1))) (st' := [.int (i + ea)]) rfl (e := (.iadd, 1, [], .null)) rfl rfl (fun _ _ => rfl)
        have E := E.so (p := 164) (t := ri_isI) (i := 8) (n := 2) rfl (e := (.istore 8, 2, [], .null)) rfl rfl (fun _ _ => rfl) rfl
        have k36_8 : ri_lk (ri_st1 (ri_st1 lo 7 (.int 1)) 8 (.int (i + ea))) 8 = some (.int (i + ea)) := eh_self
        have k36_0 : ri_lk (ri_st1 (ri_st1 lo 7 (.int 1)) 8 (.int (i + ea))) 0 = some (.ref 0) := eh_keep (by decide) (Or.inl rfl) k35_0
        have k36_1 : ri_lk (ri_st1 (ri_st1 lo 7 (.int 1)) 8 (.int (i + ea))) 1 = some (.int ea) := eh_keep (by decide) (Or.inl rfl) k35_1
        have k36_2 : ri_lk (ri_st1 (ri_st1 lo 7 (.int 1)) 8 (.int (i + ea))) 2 = some (.int mn) := eh_keep (by decide) (Or.inl rfl) k35_2
        have k36_3 : ri_lk (ri_st1 (ri_st1 lo 7 (.int 1)) 8 (.int (i + ea))) 3 = some (.int al) := eh_keep (by decide) (Or.inl rfl) k35_3
        have k36_4 : ri_lk (ri_st1 (ri_st1 lo 7 (.int 1)) 8 (.int (i + ea))) 4 = some (.int su) := eh_keep (by decide) (Or.inl rfl) k35_4
        have k36_5 : ri_lk (ri_st1 (ri_st1 lo 7 (.int 1)) 8 (.int (i + ea))) 5 = some (.int sm) := eh_keep (by decide) (Or.inl rfl) k35_5
        have k36_6 : ri_lk (ri_st1 (ri_st1 lo 7 (.int 1)) 8 (.int (i + ea))) 6 = some (.int k) := eh_keep (by decide) (Or.inl rfl) k35_6
        have k36_7 : ri_lk (ri_st1 (ri_st1 lo 7 (.int 1)) 8 (.int (i + ea))) 7 = some (.int 1) := eh_keep (by decide) (Or.inl rfl) k35_7
        have E := E.pu (p := 114) (lo' := (ri_st1 (ri_st1 lo 7 (.int 1)) 8 (.int (i + ea)))) (st' := []) rfl (e := (.goto (-50), 3, [114], .null)) rfl rfl (fun _ _ => rfl)
        exact Or.inr (Or.inr (Or.inr (Or.inr (⟨x20, x21, x28, c1, c11, c22, c23, c24, c29, c32, _, _, E, hV30, (hN31.trans (hN26.trans hN18)), c24, k36_0, k36_1, k36_2, k36_3, k36_4, k36_5, k36_6, k36_7, k36_8⟩))))
theorem ylm_e {cal : eh_K} {lo : List (Nat × Value)} {h h' : ri_H} {rs : List Value} {G : eh_W} {ea mn al su sm k : Int32} (E : eh_e cal md_219 207 lo [] h rs h') (hV : eh_V h = G) (ty : eh_ty tM G) (l0 : ri_lk lo 0 = some (.ref 0)) (l1 : ri_lk lo 1 = some (.int ea)) (l2 : ri_lk lo 2 = some (.int mn)) (l3 : ri_lk lo 3 = some (.int al)) (l4 : ri_lk lo 4 = some (.int su)) (l5 : ri_lk lo 5 = some (.int sm)) (l6 : ri_lk lo 6 = some (.int k)) : (¬ (mn = 0) ∧ ∃ hz loz, eh_e cal md_219 245 loz [] hz rs h' ∧ eh_V hz = eh_u (eh_u (eh_u (eh_u G 0 31 (.int 1)) 0 28 (.int su)) 0 29 (.int (al &&& (sm ^^^ (-1))))) 0 30 (.int (-1)) ∧ eh_N hz = eh_N h ∧ eh_ty tM (eh_u (eh_u (eh_u (eh_u G 0 31 (.int 1)) 0 28 (.int su)) 0 29 (.int (al &&& (sm ^^^ (-1))))) 0 30 (.int (-1))) ∧ ri_lk loz 0 = some (.ref 0) ∧ ri_lk loz 1 = some (.int ea) ∧ ri_lk loz 2 = some (.int mn) ∧ ri_lk loz 3 = some (.int al) ∧ ri_lk loz 4 = some (.int su) ∧ ri_lk loz 5 = some (.int sm) ∧ ri_lk loz 6 = some (.int 0) ∧ ri_lk loz 7 = some (.int 0)) ∨ (mn = 0 ∧ rs = [.int 0] ∧ eh_V h' = G ∧ eh_N h' = eh_N h) := by
  have E := E.ld (p := 208) (t := ri_isI) (i := 2) (n := 1) (v := .int mn) rfl (e := (.iload_n 2, 1, [], .null)) rfl rfl (fun _ _ => rfl) l2 rfl
  rcases eh_q1 (E.br (p := 211) (c := 1) (tgt := 213) (a := mn) (b := 0) (st' := []) rfl (e := (.ifCond .ne 5, 3, [213], .null)) rfl rfl (fun _ _ => rfl) rfl) with ⟨c1, E⟩ | ⟨c1, E⟩
  · skip
    have E := E.ld (p := 214) (t := ri_isA) (i := 0) (n := 1) (v := .ref 0) rfl (e := (.aload_n 0, 1, [], .null)) rfl rfl (fun _ _ => rfl) l0 rfl
    have E := E.pu (p := 215) (lo' := lo) (st' := [.int 1, .ref 0]) rfl (e := (.iconst 1, 1, [], .null)) rfl rfl (fun _ _ => rfl)
    obtain ⟨h2, hV3, hN4, E⟩ := E.gp (p := 218) rfl (x := 335) (m := 3) (w := .null) (t := 12) (i := 31) (u := 1355) (y := 1) rfl rfl hV
    have E := E.ld (p := 219) (t := ri_isA) (i := 0) (n := 1) (v := .ref 0) rfl (e := (.aload_n 0, 1, [], .null)) rfl rfl (fun _ _ => rfl) l0 rfl
    have E := E.ld (p := 221) (t := ri_isI) (i := 4) (n := 2) (v := .int su) rfl (e := (.iload 4, 2, [], .null)) rfl rfl (fun _ _ => rfl) l4 rfl
    obtain ⟨h5, hV6, hN7, E⟩ := E.gp (p := 224) rfl (x := 339) (m := 3) (w := .null) (t := 12) (i := 28) (u := 1352) (y := 0) rfl rfl hV3
    have E := E.ld (p := 225) (t := ri_isA) (i := 0) (n := 1) (v := .ref 0) rfl (e := (.aload_n 0, 1, [], .null)) rfl rfl (fun _ _ => rfl) l0 rfl
    have E := E.ld (p := 226) (t := ri_isI) (i := 3) (n := 1) (v := .int al) rfl (e := (.iload_n 3, 1, [], .null)) rfl rfl (fun _ _ => rfl) l3 rfl
    have E := E.ld (p := 228) (t := ri_isI) (i := 5) (n := 2) (v := .int sm) rfl (e := (.iload 5, 2, [], .null)) rfl rfl (fun _ _ => rfl) l5 rfl
    have E := E.pu (p := 229) (lo' := lo) (st' := [.int (-1), .int sm, .int al, .ref 0]) rfl (e := (.iconst (-1), 1, [], .null)) rfl rfl (fun _ _ => rfl)
    have E := E.pu (p := 230) (lo' := lo) (st' := [.int (sm ^^^ (-1)), .int al, .ref 0]) rfl (e := (.ixor, 1, [], .null)) rfl rfl (fun _ _ => rfl)
    have E := E.pu (p := 231) (lo' := lo) (st' := [.int (al &&& (sm ^^^ (-1))), .ref 0]) rfl (e := (.iand, 1, [], .null)) rfl rfl (fun _ _ => rfl)
    obtain ⟨h8, hV9, hN10, E⟩ := E.gp (p := 234) rfl (x := 342) (m := 3) (w := .null) (t := 12) (i := 29) (u := 1353) (y := 0) rfl rfl hV6
    have E := E.ld (p := 235) (t := ri_isA) (i := 0) (n := 1) (v := .ref 0) rfl (e := (.aload_n 0, 1, [], .null)) rfl rfl (fun _ _ => rfl) l0 rfl
    have E := E.pu (p := 236) (lo' := lo) (st' := [.int (-1), .ref 0]) rfl (e := (.iconst (-1), 1, [], .null)) rfl rfl (fun _ _ => rfl)
    obtain ⟨h11, hV12, hN13, E⟩ := E.gp (p := 239) rfl (x := 345) (m := 3) (w := .null) (t := 12) (i := 30) (u := 1354) (y := 0) rfl rfl hV9
    have E := E.pu (p := 240) (lo' := lo) (st' := [.int 0]) rfl (e := (.iconst 0, 1, [], .null)) rfl rfl (fun _ _ => rfl)
    have E := E.so (p := 242) (t := ri_isI) (i := 6) (n := 2) rfl (e := (.istore 6, 2, [], .null)) rfl rfl (fun _ _ => rfl) rfl
    have k14_6 : ri_lk (ri_st1 lo 6 (.int 0)) 6 = some (.int 0) := eh_self
    have k14_0 : ri_lk (ri_st1 lo 6 (.int 0)) 0 = some (.ref 0) := eh_keep (by decide) (Or.inl rfl) l0
    have k14_1 : ri_lk (ri_st1 lo 6 (.int 0)) 1 = some (.int ea) := eh_keep (by decide) (Or.inl rfl) l1
    have k14_2 : ri_lk (ri_st1 lo 6 (.int 0)) 2 = some (.int mn) := eh_keep (by decide) (Or.inl rfl) l2
    have k14_3 : ri_lk (ri_st1 lo 6 (.int 0)) 3 = some (.int al) := eh_keep (by decide) (Or.inl rfl) l3
    have k14_4 : ri_lk (ri_st1 lo 6 (.int 0)) 4 = some (.int su) := eh_keep (by decide) (Or.inl rfl) l4
    have k14_5 : ri_lk (ri_st1 lo 6 (.int 0)) 5 = some (.int sm) := eh_keep (by decide) (Or.inl rfl) l5
    have E := E.pu (p := 243) (lo' := (ri_st1 lo 6 (.int 0))) (st' := [.int 0]) rfl (e := (.iconst 0, 1, [], .null)) rfl rfl (fun _ _ => rfl)
    have E := E.so (p := 245) (t := ri_isI) (i := 7) (n := 2) rfl (e := (.istore 7, 2, [], .null)) rfl rfl (fun _ _ => rfl) rfl
    have k15_7 : ri_lk (ri_st1 (ri_st1 lo 6 (.int 0)) 7 (.int 0)) 7 = some (.int 0) := eh_self
    have k15_0 : ri_lk (ri_st1 (ri_st1 lo 6 (.int 0)) 7 (.int 0)) 0 = some (.ref 0) := eh_keep (by decide) (Or.inl rfl) k14_0
    have k15_1 : ri_lk (ri_st1 (ri_st1 lo 6 (.int 0)) 7 (.int 0)) 1 = some (.int ea) := eh_keep (by decide) (Or.inl rfl) k14_1
    have k15_2 : ri_lk (ri_st1 (ri_st1 lo 6 (.int 0)) 7 (.int 0)) 2 = some (.int mn) := eh_keep (by decide) (Or.inl rfl) k14_2
    have k15_3 : ri_lk (ri_st1 (ri_st1 lo 6 (.int 0)) 7 (.int 0)) 3 = some (.int al) := eh_keep (by decide) (Or.inl rfl) k14_3
    have k15_4 : ri_lk (ri_st1 (ri_st1 lo 6 (.int 0)) 7 (.int 0)) 4 = some (.int su) := eh_keep (by decide) (Or.inl rfl) k14_4
    have k15_5 : ri_lk (ri_st1 (ri_st1 lo 6 (.int 0)) 7 (.int 0)) 5 = some (.int sm) := eh_keep (by decide) (Or.inl rfl) k14_5
    have k15_6 : ri_lk (ri_st1 (ri_st1 lo 6 (.int 0)) 7 (.int 0)) 6 = some (.int 0) := eh_keep (by decide) (Or.inl rfl) k14_6
    exact Or.inl ⟨c1, _, _, E, hV12, (hN13.trans (hN10.trans (hN7.trans hN4))), ((((ty.ui rfl).ui rfl).ui rfl).ui rfl), k15_0, k15_1, k15_2, k15_3, k15_4, k15_5, k15_6, k15_7⟩
  · skip
    have E := E.pu (p := 212) (lo' := lo) (st' := [.int 0]) rfl (e := (.iconst 0, 1, [], .null)) rfl rfl (fun _ _ => rfl)
    obtain ⟨r1, r2⟩ := E.reti rfl (m := 1) (ax := []) (w := .null) rfl
    exact Or.inr (⟨c1, r1, ((congrArg eh_V r2).trans hV), (congrArg eh_N r2)⟩)
