theorem ln_d {d : Nat} {lo : List (Nat × Value)} {h h' : ri_H} {rs : List Value} {G : eh_W} {b : Nat → Int32} {n m : Nat} (E : eh_e (ri_calE ri_md (d + 1)) md_170 0 lo [] h rs h') (hV : eh_V h = G) (iv : iM b n m G) (l0 : ri_lk lo 0 = some (.ref 0)) : (¬ ((eh_i G 0 11) = 1) ∧ rs = [.int 0] ∧ eh_V h' = eh_u (eh_u G 0 15 (.int 1)) 0 16 (.int (eh_i G 0 12)) ∧ eh_N h' = eh_N h ∧ iM b n m (eh_u (eh_u G 0 15 (.int 1)) 0 16 (.int (eh_i G 0 12)))) ∨ ((eh_i G 0 11) = 1 ∧ ¬ ((eh_l G 0 17) = 426903366771) ∧ ¬ ((eh_l G 0 17) = 495673374574) ∧ ¬ ((eh_l G 0 17) = 461262647411) ∧ ¬ ((eh_l G 0 17) = 121398985520243) ∧ ¬ ((eh_l G 0 17) = 6906725) ∧ ¬ ((eh_l G 0 17) = 6518117) ∧ ¬ ((eh_l G 0 17) = 119182984441710) ∧ ¬ ((eh_l G 0 17) = 32762566252455282) ∧ ¬ ((eh_l G 0 17) = 1651466612) ∧ rs = [.int 0] ∧ eh_V h' = eh_u (eh_u G 0 15 (.int 1)) 0 16 (.int (eh_i G 0 12)) ∧ eh_N h' = eh_N h ∧ iM b n m (eh_u (eh_u G 0 15 (.int 1)) 0 16 (.int (eh_i G 0 12)))) ∨ ((eh_i G 0 11) = 1 ∧ ¬ ((eh_l G 0 17) = 426903366771) ∧ ¬ ((eh_l G 0 17) = 495673374574) ∧ ¬ ((eh_l G 0 17) = 461262647411) ∧ ¬ ((eh_l G 0 17) = 121398985520243) ∧ ¬ ((eh_l G 0 17) = 6906725) ∧ ¬ ((eh_l G 0 17) = 6518117) ∧ ¬ ((eh_l G 0 17) = 119182984441710) ∧ ¬ ((eh_l G 0 17) = 32762566252455282) ∧ (eh_l G 0 17) = 1651466612 ∧ ∃ hz loz, eh_e (ri_calE ri_md (d + 1)) md_170 366 loz [] hz rs h' ∧ eh_V hz = G ∧ eh_N hz = eh_N h ∧ iM b n m G ∧ ri_lk loz 0 = some (.ref 0)) ∨ ((eh_i G 0 11) = 1 ∧ ¬ ((eh_l G 0 17) = 426903366771) ∧ ¬ ((eh_l G 0 17) = 495673374574) ∧ ¬ ((eh_l G 0 17) = 461262647411) ∧ ¬ ((eh_l G 0 17) = 121398985520243) ∧ ¬ ((eh_l G 0 17) = 6906725) ∧ ¬ ((eh_l G 0 17) = 6518117) ∧ ¬ ((eh_l G 0 17) = 119182984441710) ∧ (eh_l G 0 17) = 32762566252455282 ∧ ∃ hz loz, eh_e (ri_calE ri_md (d + 1)) md_170 300 loz [] hz rs h' ∧ eh_V hz = G ∧ eh_N hz = eh_N h ∧ iM b n m G ∧ ri_lk loz 0 = some (.ref 0)) ∨ ((eh_i G 0 11) = 1 ∧ ¬ ((eh_l G 0 17) = 426903366771) ∧ ¬ ((eh_l G 0 17) = 495673374574) ∧ ¬ ((eh_l G 0 17) = 461262647411) ∧ ¬ ((eh_l G 0 17) = 121398985520243) ∧ ¬ ((eh_l G 0 17) = 6906725) ∧ ¬ ((eh_l G 0 17) = 6518117) ∧ (eh_l G 0 17) = 119182984441710 ∧ ∃ hz loz, eh_e (ri_calE ri_md (d + 1)) md_170 285 loz [] hz rs h' ∧ eh_V hz = G ∧ eh_N hz = eh_N h ∧ iM b n m G ∧ ri_lk loz 0 = some (.ref 0)) ∨ ((eh_i G 0 11) = 1 ∧ ¬ ((eh_l G 0 17) = 426903366771) ∧ ¬ ((eh_l G 0 17) = 495673374574) ∧ ¬ ((eh_l G 0 17) = 461262647411) ∧ ¬ ((eh_l G 0 17) = 121398985520243) ∧ ¬ ((eh_l G 0 17) = 6906725) ∧ (eh_l G 0 17) = 6518117 ∧ ∃ hz loz, eh_e (ri_calE ri_md (d + 1)) md_170 224 loz [] hz rs h' ∧ eh_V hz = G ∧ eh_N hz = eh_N h ∧ iM b n m G ∧ ri_lk loz 0 = some (.ref 0)) ∨ ((eh_i G 0 11) = 1 ∧ ¬ ((eh_l G 0 17) = 426903366771) ∧ ¬ ((eh_l G 0 17) = 495673374574) ∧ ¬ ((eh_l G 0 17) = 461262647411) ∧ ¬ ((eh_l G 0 17) = 121398985520243) ∧ (eh_l G 0 17) = 6906725 ∧ ∃ hz loz, eh_e (ri_calE ri_md (d + 1)) md_170 151 loz [] hz rs h' ∧ eh_V hz = G ∧ eh_N hz = eh_N h ∧ iM b n m G ∧ ri_lk loz 0 = some (.ref 0)) ∨ ((eh_i G 0 11) = 1 ∧ ¬ ((eh_l G 0 17) = 426903366771) ∧ ¬ ((eh_l G 0 17) = 495673374574) ∧ ¬ ((eh_l G 0 17) = 461262647411) ∧ (eh_l G 0 17) = 121398985520243 ∧ ∃ hz loz, eh_e (ri_calE ri_md (d + 1)) md_170 115 loz [] hz rs h' ∧ eh_V hz = G ∧ eh_N hz = eh_N h ∧ iM b n m G ∧ ri_lk loz 0 = some (.ref 0)) ∨ ((eh_i G 0 11) = 1 ∧ ¬ ((eh_l G 0 17) = 426903366771) ∧ ¬ ((eh_l G 0 17) = 495673374574) ∧ (eh_l G 0 17) = 461262647411 ∧ ∃ hz loz, eh_e (ri_calE ri_md (d + 1)) md_170 80 loz [] hz rs h' ∧ eh_V hz = G ∧ eh_N hz = eh_N h ∧ iM b n m G ∧ ri_lk loz 0 = some (.ref 0)) ∨ ((eh_i G 0 11) = 1 ∧ ¬ ((eh_l G 0 17) = 426903366771) ∧ (eh_l G 0 17) = 495673374574 ∧ ∃ hz loz, eh_e (ri_calE ri_md (d + 1)) md_170 45 loz [] hz rs h' ∧ eh_V hz = G ∧ eh_N hz = eh_N h ∧ iM b n m G ∧ ri_lk loz 0 = some (.ref 0)) ∨ ((eh_i G 0 11) = 1 ∧ (eh_l G 0 17) = 426903366771 ∧ ∃ hz loz, eh_e (ri_calE ri_md (d + 1)) md_170 10 loz [] hz rs h' ∧ eh_V hz = G ∧ eh_N hz = eh_N h ∧ iM b n m G ∧ ri_lk loz 0 = some (.ref 0)) := by
  have E := E.ld (p := 1) (t := ri_isA) (i := 0) (n := 1) (v := .ref 0) rfl (e := (.aload_n 0, 1, [], .null)) rfl rfl (fun _ _ => rfl) l0 rfl
  have E := E.pu (p := 4) (lo' := lo) (st' := [.long 426903366771, .ref 0]) rfl (e := (.ldc2_w 84, 3, [1296], .long 426903366771)) rfl rfl (fun _ _ => rfl)
  obtain ⟨v1, h1, X, E⟩ := E.cv (p := 7) (as := [.long 426903366771]) (b := 0) (r := []) rfl (x := 202) (m := 3) (w := .null) (j := 160) (n := 1) (t := 12) (u := [1496, 38, 1498]) rfl rfl rfl
  rcases sp_160 (d := d) X hV (iv.1) with ⟨c2, rfl, hV3, hN4⟩ | ⟨c5, c6, rfl, hV7, hN8⟩ | ⟨c9, c10, rfl, hV11, hN12⟩
  · skip
    have c2 : ¬ ((eh_i G 0 11) = 1) := c2
    have E : eh_e _ _ 7 lo [.int 0] _ rs h' := E
    have E := E.brt (c := 0) (tgt := 35) (a := 0) (b := 0) (st' := []) rfl (e := (.ifCond .eq 28, 3, [35], .null)) rfl rfl (fun _ _ => rfl) (by decide)
    have E := E.ld (p := 36) (t := ri_isA) (i := 0) (n := 1) (v := .ref 0) rfl (e := (.aload_n 0, 1, [], .null)) rfl rfl (fun _ _ => rfl) l0 rfl
    have E := E.pu (p := 39) (lo' := lo) (st' := [.long 495673374574, .ref 0]) rfl (e := (.ldc2_w 86, 3, [1297], .long 495673374574)) rfl rfl (fun _ _ => rfl)
    obtain ⟨v1, h13, X, E⟩ := E.cv (p := 42) (as := [.long 495673374574]) (b := 0) (r := []) rfl (x := 202) (m := 3) (w := .null) (j := 160) (n := 1) (t := 12) (u := [1496, 38, 1498]) rfl rfl rfl
    rcases sp_160 (d := d) X hV3 (iv.1) with ⟨c14, rfl, hV15, hN16⟩ | ⟨c17, c18, rfl, hV19, hN20⟩ | ⟨c21, c22, rfl, hV23, hN24⟩
    · skip
      have E : eh_e _ _ 42 lo [.int 0] _ rs h' := E
      have E := E.brt (c := 0) (tgt := 70) (a := 0) (b := 0) (st' := []) rfl (e := (.ifCond .eq 28, 3, [70], .null)) rfl rfl (fun _ _ => rfl) (by decide)
      have E := E.ld (p := 71) (t := ri_isA) (i := 0) (n := 1) (v := .ref 0) rfl (e := (.aload_n 0, 1, [], .null)) rfl rfl (fun _ _ => rfl) l0 rfl
      have E := E.pu (p := 74) (lo' := lo) (st' := [.long 461262647411, .ref 0]) rfl (e := (.ldc2_w 88, 3, [1298], .long 461262647411)) rfl rfl (fun _ _ => rfl)
      obtain ⟨v1, h25, X, E⟩ := E.cv (p := 77) (as := [.long 461262647411]) (b := 0) (r := []) rfl (x := 202) (m := 3) (w := .null) (j := 160) (n := 1) (t := 12) (u := [1496, 38, 1498]) rfl rfl rfl
      rcases sp_160 (d := d) X hV15 (iv.1) with ⟨c26, rfl, hV27, hN28⟩ | ⟨c29, c30, rfl, hV31, hN32⟩ | ⟨c33, c34, rfl, hV35, hN36⟩
      · skip
        have E : eh_e _ _ 77 lo [.int 0] _ rs h' := E
        have E := E.brt (c := 0) (tgt := 105) (a := 0) (b := 0) (st' := []) rfl (e := (.ifCond .eq 28, 3, [105], .null)) rfl rfl (fun _ _ => rfl) (by decide)
        have E := E.ld (p := 106) (t := ri_isA) (i := 0) (n := 1) (v := .ref 0) rfl (e := (.aload_n 0, 1, [], .null)) rfl rfl (fun _ _ => rfl) l0 rfl
        have E := E.pu (p := 109) (lo' := lo) (st' := [.long 121398985520243, .ref 0]) rfl (e := (.ldc2_w 90, 3, [1299], .long 121398985520243)) rfl rfl (fun _ _ => rfl)
        obtain ⟨v1, h37, X, E⟩ := E.cv (p := 112) (as := [.long 121398985520243]) (b := 0) (r := []) rfl (x := 202) (m := 3) (w := .null) (j := 160) (n := 1) (t := 12) (u := [1496, 38, 1498]) rfl rfl rfl
        rcases sp_160 (d := d) X hV27 (iv.1) with ⟨c38, rfl, hV39, hN40⟩ | ⟨c41, c42, rfl, hV43, hN44⟩ | ⟨c45, c46, rfl, hV47, hN48⟩
        · skip
          have E : eh_e _ _ 112 lo [.int 0] _ rs h' := E
          have E := E.brt (c := 0) (tgt := 141) (a := 0) (b := 0) (st' := []) rfl (e := (.ifCond .eq 29, 3, [141], .null)) rfl rfl (fun _ _ => rfl) (by decide)
          have E := E.ld (p := 142) (t := ri_isA) (i := 0) (n := 1) (v := .ref 0) rfl (e := (.aload_n 0, 1, [], .null)) rfl rfl (fun _ _ => rfl) l0 rfl
          have E := E.pu (p := 145) (lo' := lo) (st' := [.long 6906725, .ref 0]) rfl (e := (.ldc2_w 92, 3, [1300], .long 6906725)) rfl rfl (fun _ _ => rfl)
          obtain ⟨v1, h49, X, E⟩ := E.cv (p := 148) (as := [.long 6906725]) (b := 0) (r := []) rfl (x := 202) (m := 3) (w := .null) (j := 160) (n := 1) (t := 12) (u := [1496, 38, 1498]) rfl rfl rfl
          rcases sp_160 (d := d) X hV39 (iv.1) with ⟨c50, rfl, hV51, hN52⟩ | ⟨c53, c54, rfl, hV55, hN56⟩ | ⟨c57, c58, rfl, hV59, hN60⟩
          · skip
            have E : eh_e _ _ 148 lo [.int 0] _ rs h' := E
            have E := E.brt (c := 0) (tgt := 214) (a := 0) (b := 0) (st' := []) rfl (e := (.ifCond .eq 66, 3, [214], .null)) rfl rfl (fun _ _ => rfl) (by decide)
            have E := E.ld (p := 215) (t := ri_isA) (i := 0) (n := 1) (v := .ref 0) rfl (e := (.aload_n 0, 1, [], .null)) rfl rfl (fun _ _ => rfl) l0 rfl
            have E := E.pu (p := 218) (lo' := lo) (st' := [.long 6518117, .ref 0]) rfl (e := (.ldc2_w 94, 3, [1301], .long 6518117)) rfl rfl (fun _ _ => rfl)
            obtain ⟨v1, h61, X, E⟩ := E.cv (p := 221) (as := [.long 6518117]) (b := 0) (r := []) rfl (x := 202) (m := 3) (w := .null) (j := 160) (n := 1) (t := 12) (u := [1496, 38, 1498]) rfl rfl rfl
            rcases sp_160 (d := d) X hV51 (iv.1) with ⟨c62, rfl, hV63, hN64⟩ | ⟨c65, c66, rfl, hV67, hN68⟩ | ⟨c69, c70, rfl, hV71, hN72⟩
            · skip
              have E : eh_e _ _ 221 lo [.int 0] _ rs h' := E
              have E := E.brt (c := 0) (tgt := 275) (a := 0) (b := 0) (st' := []) rfl (e := (.ifCond .eq 54, 3, [275], .null)) rfl rfl (fun _ _ => rfl) (by decide)
              have E := E.ld (p := 276) (t := ri_isA) (i := 0) (n := 1) (v := .ref 0) rfl (e := (.aload_n 0, 1, [], .null)) rfl rfl (fun _ _ => rfl) l0 rfl
              have E := E.pu (p := 279) (lo' := lo) (st' := [.long 119182984441710, .ref 0]) rfl (e := (.ldc2_w 96, 3, [1302], .long 119182984441710)) rfl rfl (fun _ _ => rfl)
              obtain ⟨v1, h73, X, E⟩ := E.cv (p := 282) (as := [.long 119182984441710]) (b := 0) (r := []) rfl (x := 202) (m := 3) (w := .null) (j := 160) (n := 1) (t := 12) (u := [1496, 38, 1498]) rfl rfl rfl
              rcases sp_160 (d := d) X hV63 (iv.1) with ⟨c74, rfl, hV75, hN76⟩ | ⟨c77, c78, rfl, hV79, hN80⟩ | ⟨c81, c82, rfl, hV83, hN84⟩
              · skip
                have E : eh_e _ _ 282 lo [.int 0] _ rs h' := E
                have E := E.brt (c := 0) (tgt := 290) (a := 0) (b := 0) (st' := []) rfl (e := (.ifCond .eq 8, 3, [290], .null)) rfl rfl (fun _ _ => rfl) (by decide)
                have E := E.ld (p := 291) (t := ri_isA) (i := 0) (n := 1) (v := .ref 0) rfl (e := (.aload_n 0, 1, [], .null)) rfl rfl (fun _ _ => rfl) l0 rfl
                have E := E.pu (p := 294) (lo' := lo) (st' := [.long 32762566252455282, .ref 0]) rfl (e := (.ldc2_w 98, 3, [1303], .long 32762566252455282)) rfl rfl (fun _ _ => rfl)
                obtain ⟨v1, h85, X, E⟩ := E.cv (p := 297) (as := [.long 32762566252455282]) (b := 0) (r := []) rfl (x := 202) (m := 3) (w := .null) (j := 160) (n := 1) (t := 12) (u := [1496, 38, 1498]) rfl rfl rfl
                rcases sp_160 (d := d) X hV75 (iv.1) with ⟨c86, rfl, hV87, hN88⟩ | ⟨c89, c90, rfl, hV91, hN92⟩ | ⟨c93, c94, rfl, hV95, hN96⟩
                · skip
                  have E : eh_e _ _ 297 lo [.int 0] _ rs h' := E
                  have E := E.brt (c := 0) (tgt := 350) (a := 0) (b := 0) (st' := []) rfl (e := (.ifCond .eq 53, 3, [350], .null)) rfl rfl (fun _ _ => rfl) (by decide)
                  have E := E.ld (p := 351) (t := ri_isA) (i := 0) (n := 1) (v := .ref 0) rfl (e := (.aload_n 0, 1, [], .null)) rfl rfl (fun _ _ => rfl) l0 rfl
                  have E := E.pu (p := 354) (lo' := lo) (st' := [.long 1651466612, .ref 0]) rfl (e := (.ldc2_w 100, 3, [1304], .long 1651466612)) rfl rfl (fun _ _ => rfl)
                  obtain ⟨v1, h97, X, E⟩ := E.cv (p := 357) (as := [.long 1651466612]) (b := 0) (r := []) rfl (x := 202) (m := 3) (w := .null) (j := 160) (n := 1) (t := 12) (u := [1496, 38, 1498]) rfl rfl rfl
                  rcases sp_160 (d := d) X hV87 (iv.1) with ⟨c98, rfl, hV99, hN100⟩ | ⟨c101, c102, rfl, hV103, hN104⟩ | ⟨c105, c106, rfl, hV107, hN108⟩
                  · skip
                    have E : eh_e _ _ 357 lo [.int 0] _ rs h' := E
                    have E := E.brf (p := 360) (c := 1) (tgt := 366) (a := 0) (b := 0) (st' := []) rfl (e := (.ifCond .ne 9, 3, [366], .null)) rfl rfl (fun _ _ => rfl) (by decide) rfl
                    have E := E.ld (p := 361) (t := ri_isA) (i := 0) (n := 1) (v := .ref 0) rfl (e := (.aload_n 0, 1, [], .null)) rfl rfl (fun _ _ => rfl) l0 rfl
                    have E := E.pu (p := 362) (lo' := lo) (st' := [.int 1, .ref 0]) rfl (e := (.iconst 1, 1, [], .null)) rfl rfl (fun _ _ => rfl)
                    obtain ⟨v1, h109, X, E⟩ := E.cv (p := 365) (as := [.int 1]) (b := 0) (r := []) rfl (x := 171) (m := 3) (w := .null) (j := 159) (n := 1) (t := 12) (u := [1507, 40, 1509]) rfl rfl rfl
                    rcases sp_159 (d := d) X hV99 (iv.1) with ⟨rfl, hV110, hN111⟩
                    have hV110 : _ = eh_u (eh_u G 0 15 (.int 1)) 0 16 (.int (eh_i G 0 12)) := hV110
                    have E : eh_e _ _ 365 lo [.int 0] _ rs h' := E
                    obtain ⟨r1, r2⟩ := E.reti rfl (m := 1) (ax := []) (w := .null) rfl
                    exact Or.inl ⟨c2, r1, ((congrArg eh_V r2).trans hV110), ((congrArg eh_N r2).trans (hN111.trans (hN100.trans (hN88.trans (hN76.trans (hN64.trans (hN52.trans (hN40.trans (hN28.trans (hN16.trans hN4)))))))))), (iM_u (iM_u iv ((iv.1).ui rfl) rfl) (((iv.1).ui rfl).ui rfl) rfl)⟩
                  · skip
                    exact absurd c101 c2
                  · skip
                    exact absurd c105 c2
                · skip
                  exact absurd c89 c2
                · skip
                  exact absurd c93 c2
              · skip
                exact absurd c77 c2
              · skip
                exact absurd c81 c2
            · skip
              exact absurd c65 c2
            · skip
              exact absurd c69 c2
          · skip
            exact absurd c53 c2
          · skip
            exact absurd c57 c2
        · skip
          exact absurd c41 c2
        · skip
          exact absurd c45 c2
      · skip
        exact absurd c29 c2
      · skip
        exact absurd c33 c2
    · skip
      exact absurd c17 c2
    · skip
      exact absurd c21 c2
  · skip
    have c5 : (eh_i G 0 11) = 1 := c5
    have c6 : ¬ ((eh_l G 0 17) = 426903366771) := c6
    have E : eh_e _ _ 7 lo [.int 0] _ rs h' := E
    have E := E.brt (c := 0) (tgt := 35) (a := 0) (b := 0) (st' := []) rfl (e := (.ifCond .eq 28, 3, [35], .null)) rfl rfl (fun _ _ => rfl) (by decide)
    have E := E.ld (p := 36) (t := ri_isA) (i := 0) (n := 1) (v := .ref 0) rfl (e := (.aload_n 0, 1, [], .null)) rfl rfl (fun _ _ => rfl) l0 rfl
    have E := E.pu (p := 39) (lo' := lo) (st' := [.long 495673374574, .ref 0]) rfl (e := (.ldc2_w 86, 3, [1297], .long 495673374574)) rfl rfl (fun _ _ => rfl)
    obtain ⟨v1, h112, X, E⟩ := E.cv (p := 42) (as := [.long 495673374574]) (b := 0) (r := []) rfl (x := 202) (m := 3) (w := .null) (j := 160) (n := 1) (t := 12) (u := [1496, 38, 1498]) rfl rfl rfl
    rcases sp_160 (d := d) X hV7 (iv.1) with ⟨c113, rfl, hV114, hN115⟩ | ⟨c116, c117, rfl, hV118, hN119⟩ | ⟨c120, c121, rfl, hV122, hN123⟩
    · skip
      exact absurd c5 c113
    · skip
      have c117 : ¬ ((eh_l G 0 17) = 495673374574) := c117
      have E : eh_e _ _ 42 lo [.int 0] _ rs h' := E
      have E := E.brt (c := 0) (tgt := 70) (a := 0) (b := 0) (st' := []) rfl (e := (.ifCond .eq 28, 3, [70], .null)) rfl rfl (fun _ _ => rfl) (by decide)
      have E := E.ld (p := 71) (t := ri_isA) (i := 0) (n := 1) (v := .ref 0) rfl (e := (.aload_n 0, 1, [], .null)) rfl rfl (fun _ _ => rfl) l0 rfl
      have E := E.pu (p := 74) (lo' := lo) (st' := [.long 461262647411, .ref 0]) rfl (e := (.ldc2_w 88, 3, [1298], .long 461262647411)) rfl rfl (fun _ _ => rfl)
      obtain ⟨v1, h124, X, E⟩ := E.cv (p := 77) (as := [.long 461262647411]) (b := 0) (r := []) rfl (x := 202) (m := 3) (w := .null) (j := 160) (n := 1) (t := 12) (u := [1496, 38, 1498]) rfl rfl rfl
      rcases sp_160 (d := d) X hV118 (iv.1) with ⟨c125, rfl, hV126, hN127⟩ | ⟨c128, c129, rfl, hV130, hN131⟩ | ⟨c132, c133, rfl, hV134, hN135⟩
      · skip
        exact absurd c5 c125
      · skip
        have c129 : ¬ ((eh_l G 0 17) = 461262647411) := c129
        have E : eh_e _ _ 77 lo [.int 0] _ rs h' := E
        have E := E.brt (c := 0) (tgt := 105) (a := 0) (b := 0) (st' := []) rfl (e := (.ifCond .eq 28, 3, [105], .null)) rfl rfl (fun _ _ => rfl) (by decide)
        have E := E.ld (p := 106) (t := ri_isA) (i := 0) (n := 1) (v := .ref 0) rfl (e := (.aload_n 0, 1, [], .null)) rfl rfl (fun _ _ => rfl) l0 rfl
        have E := E.pu (p := 109) (lo' := lo) (st' := [.long 121398985520243, .ref 0]) rfl (e := (.ldc2_w 90, 3, [1299], .long 121398985520243)) rfl rfl (fun _ _ => rfl)
        obtain ⟨v1, h136, X, E⟩ := E.cv (p := 112) (as := [.long 121398985520243]) (b := 0) (r := []) rfl (x := 202) (m := 3) (w := .null) (j := 160) (n := 1) (t := 12) (u := [1496, 38, 1498]) rfl rfl rfl
        rcases sp_160 (d := d) X hV130 (iv.1) with ⟨c137, rfl, hV138, hN139⟩ | ⟨c140, c141, rfl, hV142, hN143⟩ | ⟨c144, c145, rfl, hV146, hN147⟩
        · skip
          exact absurd c5 c137
        · skip
          have c141 : ¬ ((eh_l G 0 17) = 121398985520243) := c141
          have E : eh_e _ _ 112 lo [.int 0] _ rs h' := E
          have E := E.brt (c := 0) (tgt := 141) (a := 0) (b := 0) (st' := []) rfl (e := (.ifCond .eq 29, 3, [141], .null)) rfl rfl (fun _ _ => rfl) (by decide)
          have E := E.ld (p := 142) (t := ri_isA) (i := 0) (n := 1) (v := .ref 0) rfl (e := (.aload_n 0, 1, [], .null)) rfl rfl (fun _ _ => rfl) l0 rfl
          have E := E.pu (p := 145) (lo' := lo) (st' := [.long 6906725, .ref 0]) rfl (e := (.ldc2_w 92, 3, [1300], .long 6906725)) rfl rfl (fun _ _ => rfl)
          obtain ⟨v1, h148, X, E⟩ := E.cv (p := 148) (as := [.long 6906725]) (b := 0) (r := []) rfl (x := 202) (m := 3) (w := .null) (j := 160) (n := 1) (t := 12) (u := [1496, 38, 1498]) rfl rfl rfl
          rcases sp_160 (d := d) X hV142 (iv.1) with ⟨c149, rfl, hV150, hN151⟩ | ⟨c152, c153, rfl, hV154, hN155⟩ | ⟨c156, c157, rfl, hV158, hN159⟩
          · skip
            exact absurd c5 c149
          · skip
            have c153 : ¬ ((eh_l G 0 17) = 6906725) := c153
            have E : eh_e _ _ 148 lo [.int 0] _ rs h' := E
            have E := E.brt (c := 0) (tgt := 214) (a := 0) (b := 0) (st' := []) rfl (e := (.ifCond .eq 66, 3, [214], .null)) rfl rfl (fun _ _ => rfl) (by decide)
            have E := E.ld (p := 215) (t := ri_isA) (i := 0) (n := 1) (v := .ref 0) rfl (e := (.aload_n 0, 1, [], .null)) rfl rfl (fun _ _ => rfl) l0 rfl
            have E := E.pu (p := 218) (lo' := lo) (st' := [.long 6518117, .ref 0]) rfl (e := (.ldc2_w 94, 3, [1301], .long 6518117)) rfl rfl (fun _ _ => rfl)
            obtain ⟨v1, h160, X, E⟩ := E.cv (p := 221) (as := [.long 6518117]) (b := 0) (r := []) rfl (x := 202) (m := 3) (w := .null) (j := 160) (n := 1) (t := 12) (u := [1496, 38, 1498]) rfl rfl rfl
            rcases sp_160 (d := d) X hV154 (iv.1) with ⟨c161, rfl, hV162, hN163⟩ | ⟨c164, c165, rfl, hV166, hN167⟩ | ⟨c168, c169, rfl, hV170, hN171⟩
            · skip
              exact absurd c5 c161
            · skip
              have c165 : ¬ ((eh_l G 0 17) = 6518117) := c165
              have E : eh_e _ _ 221 lo [.int 0] _ rs h' := E
              have E := E.brt (c := 0) (tgt := 275) (a := 0) (b := 0) (st' := []) rfl (e := (.ifCond .eq 54, 3, [275], .null)) rfl rfl (fun _ _ => rfl) (by decide)
              have E := E.ld (p := 276) (t := ri_isA) (i := 0) (n := 1) (v := .ref 0) rfl (e := (.aload_n 0, 1, [], .null)) rfl rfl (fun _ _ => rfl) l0 rfl
              have E := E.pu (p := 279) (lo' := lo) (st' := [.long 119182984441710, .ref 0]) rfl (e := (.ldc2_w 96, 3, [1302], .long 119182984441710)) rfl rfl (fun _ _ => rfl)
              obtain ⟨v1, h172, X, E⟩ := E.cv (p := 282) (as := [.long 119182984441710]) (b := 0) (r := []) rfl (x := 202) (m := 3) (w := .null) (j := 160) (n := 1) (t := 12) (u := [1496, 38, 1498]) rfl rfl rfl
              rcases sp_160 (d := d) X hV166 (iv.1) with ⟨c173, rfl, hV174, hN175⟩ | ⟨c176, c177, rfl, hV178, hN179⟩ | ⟨c180, c181, rfl, hV182, hN183⟩
              · skip
                exact absurd c5 c173
              · skip
                have c177 : ¬ ((eh_l G 0 17) = 119182984441710) := c177
                have E : eh_e _ _ 282 lo [.int 0] _ rs h' := E
                have E := E.brt (c := 0) (tgt := 290) (a := 0) (b := 0) (st' := []) rfl (e := (.ifCond .eq 8, 3, [290], .null)) rfl rfl (fun _ _ => rfl) (by decide)
                have E := E.ld (p := 291) (t := ri_isA) (i := 0) (n := 1) (v := .ref 0) rfl (e := (.aload_n 0, 1, [], .null)) rfl rfl (fun _ _ => rfl) l0 rfl
                have E := E.pu (p := 294) (lo' := lo) (st' := [.long 32762566252455282, .ref 0]) rfl (e := (.ldc2_w 98, 3, [1303], .long 32762566252455282)) rfl rfl (fun _ _ => rfl)
                obtain ⟨v1, h184, X, E⟩ := E.cv (p := 297) (as := [.long 32762566252455282]) (b := 0) (r := []) rfl (x := 202) (m := 3) (w := .null) (j := 160) (n := 1) (t := 12) (u := [1496, 38, 1498]) rfl rfl rfl
                rcases sp_160 (d := d) X hV178 (iv.1) with ⟨c185, rfl, hV186, hN187⟩ | ⟨c188, c189, rfl, hV190, hN191⟩ | ⟨c192, c193, rfl, hV194, hN195⟩
                · skip
                  exact absurd c5 c185
                · skip
                  have c189 : ¬ ((eh_l G 0 17) = 32762566252455282) := c189
                  have E : eh_e _ _ 297 lo [.int 0] _ rs h' := E
                  have E := E.brt (c := 0) (tgt := 350) (a := 0) (b := 0) (st' := []) rfl (e := (.ifCond .eq 53, 3, [350], .null)) rfl rfl (fun _ _ => rfl) (by decide)
                  have E := E.ld (p := 351) (t := ri_isA) (i := 0) (n := 1) (v := .ref 0) rfl (e := (.aload_n 0, 1, [], .null)) rfl rfl (fun _ _ => rfl) l0 rfl
                  have E := E.pu (p := 354) (lo' := lo) (st' := [.long 1651466612, .ref 0]) rfl (e := (.ldc2_w 100, 3, [1304], .long 1651466612)) rfl rfl (fun _ _ => rfl)
                  obtain ⟨v1, h196, X, E⟩ := E.cv (p := 357) (as := [.long 1651466612]) (b := 0) (r := []) rfl (x := 202) (m := 3) (w := .null) (j := 160) (n := 1) (t := 12) (u := [1496, 38, 1498]) rfl rfl rfl
                  rcases sp_160 (d := d) X hV190 (iv.1) with ⟨c197, rfl, hV198, hN199⟩ | ⟨c200, c201, rfl, hV202, hN203⟩ | ⟨c204, c205, rfl, hV206, hN207⟩
                  · skip
                    exact absurd c5 c197
                  · skip
                    have c201 : ¬ ((eh_l G 0 17) = 1651466612) := c201
                    have E : eh_e _ _ 357 lo [.int 0] _ rs h' := E
                    have E := E.brf (p := 360) (c := 1) (tgt := 366) (a := 0) (b := 0) (st' := []) rfl (e := (.ifCond .ne 9, 3, [366], .null)) rfl rfl (fun _ _ => rfl) (by decide) rfl
                    have E := E.ld (p := 361) (t := ri_isA) (i := 0) (n := 1) (v := .ref 0) rfl (e := (.aload_n 0, 1, [], .null)) rfl rfl (fun _ _ => rfl) l0 rfl
                    have E := E.pu (p := 362) (lo' := lo) (st' := [.int 1, .ref 0]) rfl (e := (.iconst 1, 1, [], .null)) rfl rfl (fun _ _ => rfl)
                    obtain ⟨v1, h208, X, E⟩ := E.cv (p := 365) (as := [.int 1]) (b := 0) (r := []) rfl (x := 171) (m := 3) (w := .null) (j := 159) (n := 1) (t := 12) (u := [1507, 40, 1509]) rfl rfl rfl
                    rcases sp_159 (d := d) X hV202 (iv.1) with ⟨rfl, hV209, hN210⟩
                    have hV209 : _ = eh_u (eh_u G 0 15 (.int 1)) 0 16 (.int (eh_i G 0 12)) := hV209
                    have E : eh_e _ _ 365 lo [.int 0] _ rs h' := E
                    obtain ⟨r1, r2⟩ := E.reti rfl (m := 1) (ax := []) (w := .null) rfl
                    exact Or.inr (Or.inl ⟨c5, c6, c117, c129, c141, c153, c165, c177, c189, c201, r1, ((congrArg eh_V r2).trans hV209), ((congrArg eh_N r2).trans (hN210.trans (hN203.trans (hN191.trans (hN179.trans (hN167.trans (hN155.trans (hN143.trans (hN131.trans (hN119.trans hN8)))))))))), (iM_u (iM_u iv ((iv.1).ui rfl) rfl) (((iv.1).ui rfl).ui rfl) rfl)⟩)
                  · skip
                    have c205 : (eh_l G 0 17) = 1651466612 := c205
                    have E : eh_e _ _ 357 lo [.int 1] _ rs h' := E
                    have E := E.brt (c := 1) (tgt := 366) (a := 1) (b := 0) (st' := []) rfl (e := (.ifCond .ne 9, 3, [366], .null)) rfl rfl (fun _ _ => rfl) (by decide)
                    exact Or.inr (Or.inr (Or.inl ⟨c5, c6, c117, c129, c141, c153, c165, c177, c189, c205, _, _, E, hV206, (hN207.trans (hN191.trans (hN179.trans (hN167.trans (hN155.trans (hN143.trans (hN131.trans (hN119.trans hN8)))))))), iv, l0⟩))
                · skip
                  have c193 : (eh_l G 0 17) = 32762566252455282 := c193
                  have E : eh_e _ _ 297 lo [.int 1] _ rs h' := E
                  have E := E.brf (p := 300) (c := 0) (tgt := 350) (a := 1) (b := 0) (st' := []) rfl (e := (.ifCond .eq 53, 3, [350], .null)) rfl rfl (fun _ _ => rfl) (by decide) rfl
                  exact Or.inr (Or.inr (Or.inr (Or.inl ⟨c5, c6, c117, c129, c141, c153, c165, c177, c193, _, _, E, hV194, (hN195.trans (hN179.trans (hN167.trans (hN155.trans (hN143.trans (hN131.trans (hN119.trans hN8))))))), iv, l0⟩)))
              · skip
                have c181 : (eh_l G 0 17) = 119182984441710 := c181
                have E : eh_e _ _ 282 lo [.int 1] _ rs h' := E
                have E := E.brf (p := 285) (c := 0) (tgt := 290) (a := 1) (b := 0) (st' := []) rfl (e := (.ifCond .eq 8, 3, [290], .null)) rfl rfl (fun _ _ => rfl) (by decide) rfl
                exact Or.inr (Or.inr (Or.inr (Or.inr (Or.inl ⟨c5, c6, c117, c129, c141, c153, c165, c181, _, _, E, hV182, (hN183.trans (hN167.trans (hN155.trans (hN143.trans (hN131.trans (hN119.trans hN8)))))), iv, l0⟩))))
            · skip
              have c169 : (eh_l G 0 17) = 6518117 := c169
              have E : eh_e _ _ 221 lo [.int 1] _ rs h' := E
              have E := E.brf (p := 224) (c := 0) (tgt := 275) (a := 1) (b := 0) (st' := []) rfl (e := (.ifCond .eq 54, 3, [275], .null)) rfl rfl (fun _ _ => rfl) (by decide) rfl
              exact Or.inr (Or.inr (Or.inr (Or.inr (Or.inr (Or.inl ⟨c5, c6, c117, c129, c141, c153, c169, _, _, E, hV170, (hN171.trans (hN155.trans (hN143.trans (hN131.trans (hN119.trans hN8))))), iv, l0⟩)))))
          · skip
            have c157 : (eh_l G 0 17) = 6906725 := c157
            have E : eh_e _ _ 148 lo [.int 1] _ rs h' := E
            have E := E.brf (p := 151) (c := 0) (tgt := 214) (a := 1) (b := 0) (st' := []) rfl (e := (.ifCond .eq 66, 3, [214], .null)) rfl rfl (fun _ _ => rfl) (by decide) rfl
            exact Or.inr (Or.inr (Or.inr (Or.inr (Or.inr (Or.inr (Or.inl ⟨c5, c6, c117, c129, c141, c157, _, _, E, hV158, (hN159.trans (hN143.trans (hN131.trans (hN119.trans hN8)))), iv, l0⟩))))))
        · skip
          have c145 : (eh_l G 0 17) = 121398985520243 := c145
          have E : eh_e _ _ 112 lo [.int 1] _ rs h' := E
          have E := E.brf (p := 115) (c := 0) (tgt := 141) (a := 1) (b := 0) (st' := []) rfl (e := (.ifCond .eq 29, 3, [141], .null)) rfl rfl (fun _ _ => rfl) (by decide) rfl
          exact Or.inr (Or.inr (Or.inr (Or.inr (Or.inr (Or.inr (Or.inr (Or.inl ⟨c5, c6, c117, c129, c145, _, _, E, hV146, (hN147.trans (hN131.trans (hN119.trans hN8))), iv, l0⟩)))))))
      · skip
        have c133 : (eh_l G 0 17) = 461262647411 := c133
        have E : eh_e _ _ 77 lo [.int 1] _ rs h' := E
        have E := E.brf (p := 80) (c := 0) (tgt := 105) (a := 1) (b := 0) (st' := []) rfl (e := (.ifCond .eq 28, 3, [105], .null)) rfl rfl (fun _ _ => rfl) (by decide) rfl
        exact Or.inr (Or.inr (Or.inr (Or.inr (Or.inr (Or.inr (Or.inr (Or.inr (Or.inl ⟨c5, c6, c117, c133, _, _, E, hV134, (hN135.trans (hN119.trans hN8)), iv, l0⟩))))))))
    · skip
      have c121 : (eh_l G 0 17) = 495673374574 := c121
      have E : eh_e _ _ 42 lo [.int 1] _ rs h' := E
      have E := E.brf (p := 45) (c := 0) (tgt := 70) (a := 1) (b := 0) (st' := []) rfl (e := (.ifCond .eq 28, 3, [70], .null)) rfl rfl (fun _ _ => rfl) (by decide) rfl
      exact Or.inr (Or.inr (Or.inr (Or.inr (Or.inr (Or.inr (Or.inr (Or.inr (Or.inr (Or.inl ⟨c5, c6, c121, _, _, E, hV122, (hN123.trans hN8), iv, l0⟩)))))))))
  · skip
    have c9 : (eh_i G 0 11) = 1 := c9
    have c10 : (eh_l G 0 17) = 426903366771 := c10
    have E : eh_e _ _ 7 lo [.int 1] _ rs h' := E
    have E := E.brf (p := 10) (c := 0) (tgt := 35) (a := 1) (b := 0) (st' := []) rfl (e := (.ifCond .eq 28, 3, [35], .null)) rfl rfl (fun _ _ => rfl) (by decide) rfl
    exact Or.inr (Or.inr (Or.inr (Or.inr (Or.inr (Or.inr (Or.inr (Or.inr (Or.inr (Or.inr (⟨c9, c10, _, _, E, hV11, hN12, iv, l0⟩))))))))))
theorem ln_0 {d : Nat} {lo : List (Nat × Value)} {h h' : ri_H} {rs : List Value} {G : eh_W} {b : Nat → Int32} {n m : Nat} (E : eh_e (ri_calE ri_md (d + 4)) md_170 10 lo [] h rs h') (hV : eh_V h = G) (iv : iM b n m G) (l0 : ri_lk lo 0 = some (.ref 0)) : (∃ (x3 : Int32), ∃ (h1 : ri_H), ri_calE ri_md (d + 4) 169 [.ref 0, .int 0] h = some (some (.int x3), h1) ∧ iM b n m (eh_V h1) ∧ x3 = 0 ∧ rs = [.int 0] ∧ eh_V h' = (eh_V h1) ∧ eh_N h' = eh_N h ∧ iM b n m (eh_V h1)) ∨ (∃ (x3 : Int32), ∃ (h1 : ri_H), ∃ (x7 : Int32), ∃ (h5 : ri_H), ri_calE ri_md (d + 4) 169 [.ref 0, .int 0] h = some (some (.int x3), h1) ∧ iM b n m (eh_V h1) ∧ ¬ (x3 = 0) ∧ ri_calE ri_md (d + 4) 165 [.ref 0, .int 0, .int 1, .int 8] h1 = some (some (.int x7), h5) ∧ iM b n m (eh_V h5) ∧ x7 = 0 ∧ rs = [.int 0] ∧ eh_V h' = (eh_V h5) ∧ eh_N h' = eh_N h ∧ iM b n m (eh_V h5)) ∨ (∃ (x3 : Int32), ∃ (h1 : ri_H), ∃ (x7 : Int32), ∃ (h5 : ri_H), ri_calE ri_md (d + 4) 169 [.ref 0, .int 0] h = some (some (.int x3), h1) ∧ iM b n m (eh_V h1) ∧ ¬ (x3 = 0) ∧ ri_calE ri_md (d + 4) 165 [.ref 0, .int 0, .int 1, .int 8] h1 = some (some (.int x7), h5) ∧ iM b n m (eh_V h5) ∧ ¬ (x7 = 0) ∧ rs = [.int 1] ∧ eh_V h' = (eh_V h5) ∧ eh_N h' = eh_N h ∧ iM b n m (eh_V h5)) := by
  have E := E.ld (p := 11) (t := ri_isA) (i := 0) (n := 1) (v := .ref 0) rfl (e := (.aload_n 0, 1, [], .null)) rfl rfl (fun _ _ => rfl) l0 rfl
  have E := E.pu (p := 12) (lo' := lo) (st' := [.int 0, .ref 0]) rfl (e := (.iconst 0, 1, [], .null)) rfl rfl (fun _ _ => rfl)
  obtain ⟨v1, h1, X, E⟩ := E.cv (p := 15) (as := [.int 0]) (b := 0) (r := []) rfl (x := 206) (m := 3) (w := .null) (j := 169) (n := 1) (t := 12) (u := [1500, 39, 1502]) rfl rfl rfl
  obtain ⟨x3, rfl, ivk2, hNk2⟩ := tp_169 (d := d + 1) X (by rw [hV]; exact iv)
  have Xk2 := X
  have E : eh_e _ _ 15 lo [.int x3] h1 rs h' := E
  rcases eh_q0 (E.br (p := 18) (c := 0) (tgt := 33) (a := x3) (b := 0) (st' := []) rfl (e := (.ifCond .eq 18, 3, [33], .null)) rfl rfl (fun _ _ => rfl) rfl) with ⟨c4, E⟩ | ⟨c4, E⟩
  · skip
    have E := E.pu (p := 34) (lo' := lo) (st' := [.int 0]) rfl (e := (.iconst 0, 1, [], .null)) rfl rfl (fun _ _ => rfl)
    obtain ⟨r1, r2⟩ := E.reti rfl (m := 1) (ax := []) (w := .null) rfl
    exact Or.inl ⟨x3, h1, Xk2, ivk2, c4, r1, ((congrArg eh_V r2).trans (rfl : eh_V h1 = eh_V h1)), ((congrArg eh_N r2).trans hNk2), ivk2⟩
  · skip
    have E := E.ld (p := 19) (t := ri_isA) (i := 0) (n := 1) (v := .ref 0) rfl (e := (.aload_n 0, 1, [], .null)) rfl rfl (fun _ _ => rfl) l0 rfl
    have E := E.pu (p := 20) (lo' := lo) (st' := [.int 0, .ref 0]) rfl (e := (.iconst 0, 1, [], .null)) rfl rfl (fun _ _ => rfl)
    have E := E.pu (p := 21) (lo' := lo) (st' := [.int 1, .int 0, .ref 0]) rfl (e := (.iconst 1, 1, [], .null)) rfl rfl (fun _ _ => rfl)
    have E := E.pu (p := 23) (lo' := lo) (st' := [.int 8, .int 1, .int 0, .ref 0]) rfl (e := (.bipush 8, 2, [], .null)) rfl rfl (fun _ _ => rfl)
    obtain ⟨v1, h5, X, E⟩ := E.cv (p := 26) (as := [.int 0, .int 1, .int 8]) (b := 0) (r := []) rfl (x := 209) (m := 3) (w := .null) (j := 165) (n := 3) (t := 12) (u := [1511, 41, 1513]) rfl rfl rfl
    obtain ⟨x7, rfl, ivk6, hNk6⟩ := tp_165 (d := d) X (by rw [(rfl : eh_V h1 = eh_V h1)]; exact ivk2)
    have Xk6 := X
    have E : eh_e _ _ 26 lo [.int x7] h5 rs h' := E
    rcases eh_q0 (E.br (p := 29) (c := 0) (tgt := 33) (a := x7) (b := 0) (st' := []) rfl (e := (.ifCond .eq 7, 3, [33], .null)) rfl rfl (fun _ _ => rfl) rfl) with ⟨c8, E⟩ | ⟨c8, E⟩
    · skip
      have E := E.pu (p := 34) (lo' := lo) (st' := [.int 0]) rfl (e := (.iconst 0, 1, [], .null)) rfl rfl (fun _ _ => rfl)
      obtain ⟨r1, r2⟩ := E.reti rfl (m := 1) (ax := []) (w := .null) rfl
      exact Or.inr (Or.inl ⟨x3, h1, x7, h5, Xk2, ivk2, c4, Xk6, ivk6, c8, r1, ((congrArg eh_V r2).trans (rfl : eh_V h5 = eh_V h5)), ((congrArg eh_N r2).trans (hNk6.trans hNk2)), ivk6⟩)
    · skip
      have E := E.pu (p := 30) (lo' := lo) (st' := [.int 1]) rfl (e := (.iconst 1, 1, [], .null)) rfl rfl (fun _ _ => rfl)
      have E := E.pu (p := 34) (lo' := lo) (st' := [.int 1]) rfl (e := (.goto 4, 3, [34], .null)) rfl rfl (fun _ _ => rfl)
      obtain ⟨r1, r2⟩ := E.reti rfl (m := 1) (ax := []) (w := .null) rfl
      exact Or.inr (Or.inr (⟨x3, h1, x7, h5, Xk2, ivk2, c4, Xk6, ivk6, c8, r1, ((congrArg eh_V r2).trans (rfl : eh_V h5 = eh_V h5)), ((congrArg eh_N r2).trans (hNk6.trans hNk2)), ivk6⟩))
theorem tq_ln_0 {d : Nat} {lo : List (Nat × Value)} {h h' : ri_H} {rs : List Value} {G : eh_W} {b : Nat → Int32} {n m : Nat} (E : eh_e (ri_calE ri_md (d + 4)) md_170 10 lo [] h rs h') (hV : eh_V h = G) (iv : iM b n m G) (l0 : ri_lk lo 0 = some (.ref 0)) : ∃ x : Int32, rs = [.int x] ∧ iM b n m (eh_V h') ∧ eh_N h' = eh_N h := by
  rcases ln_0 E hV iv l0 with ⟨_, _, _, _, _, r1, r2, r3, r4⟩ | ⟨_, _, _, _, _, _, _, _, _, _, r1, r2, r3, r4⟩ | ⟨_, _, _, _, _, _, _, _, _, _, r1, r2, r3, r4⟩
  · exact ⟨_, r1, by rw [r2]; exact r4, r3⟩
  · exact ⟨_, r1, by rw [r2]; exact r4, r3⟩
  · exact ⟨_, r1, by rw [r2]; exact r4, r3⟩
theorem ln_1 {d : Nat} {lo : List (Nat × Value)} {h h' : ri_H} {rs : List Value} {G : eh_W} {b : Nat → Int32} {n m : Nat} (E : eh_e (ri_calE ri_md (d + 4)) md_170 45 lo [] h rs h') (hV : eh_V h = G) (iv : iM b n m G) (l0 : ri_lk lo 0 = some (.ref 0)) : (∃ (x3 : Int32), ∃ (h1 : ri_H), ri_calE ri_md (d + 4) 169 [.ref 0, .int 1] h = some (some (.int x3), h1) ∧ iM b n m (eh_V h1) ∧ x3 = 0 ∧ rs = [.int 0] ∧ eh_V h' = (eh_V h1) ∧ eh_N h' = eh_N h ∧ iM b n m (eh_V h1)) ∨ (∃ (x3 : Int32), ∃ (h1 : ri_H), ∃ (x7 : Int32), ∃ (h5 : ri_H), ri_calE ri_md (d + 4) 169 [.ref 0, .int 1] h = some (some (.int x3), h1) ∧ iM b n m (eh_V h1) ∧ ¬ (x3 = 0) ∧ ri_calE ri_md (d + 4) 165 [.ref 0, .int 1, .int 1, .int 9] h1 = some (some (.int x7), h5) ∧ iM b n m (eh_V h5) ∧ x7 = 0 ∧ rs = [.int 0] ∧ eh_V h' = (eh_V h5) ∧ eh_N h' = eh_N h ∧ iM b n m (eh_V h5)) ∨ (∃ (x3 : Int32), ∃ (h1 : ri_H), ∃ (x7 : Int32), ∃ (h5 : ri_H), ri_calE ri_md (d + 4) 169 [.ref 0, .int 1] h = some (some (.int x3), h1) ∧ iM b n m (eh_V h1) ∧ ¬ (x3 = 0) ∧ ri_calE ri_md (d + 4) 165 [.ref 0, .int 1, .int 1, .int 9] h1 = some (some (.int x7), h5) ∧ iM b n m (eh_V h5) ∧ ¬ (x7 = 0) ∧ rs = [.int 1] ∧ eh_V h' = (eh_V h5) ∧ eh_N h' = eh_N h ∧ iM b n m (eh_V h5)) := by
  have E := E.ld (p := 46) (t := ri_isA) (i := 0) (n := 1) (v := .ref 0) rfl (e := (.aload_n 0, 1, [], .null)) rfl rfl (fun _ _ => rfl) l0 rfl
  have E := E.pu (p := 47) (lo' := lo) (st' := [.int 1, .ref 0]) rfl (e := (.iconst 1, 1, [], .null)) rfl rfl (fun _ _ => rfl)
  obtain ⟨v1, h1, X, E⟩ := E.cv (p := 50) (as := [.int 1]) (b := 0) (r := []) rfl (x := 206) (m := 3) (w := .null) (j := 169) (n := 1) (t := 12) (u := [1500, 39, 1502]) rfl rfl rfl
  obtain ⟨x3, rfl, ivk2, hNk2⟩ := tp_169 (d := d + 1) X (by rw [hV]; exact iv)
  have Xk2 := X
  have E : eh_e _ _ 50 lo [.int x3] h1 rs h' := E
  rcases eh_q0 (E.br (p := 53) (c := 0) (tgt := 68) (a := x3) (b := 0) (st' := []) rfl (e := (.ifCond .eq 18, 3, [68], .null)) rfl rfl (fun _ _ => rfl) rfl) with ⟨c4, E⟩ | ⟨c4, E⟩
  · skip
    have E := E.pu (p := 69) (lo' := lo) (st' := [.int 0]) rfl (e := (.iconst 0, 1, [], .null)) rfl rfl (fun _ _ => rfl)
    obtain ⟨r1, r2⟩ := E.reti rfl (m := 1) (ax := []) (w := .null) rfl
    exact Or.inl ⟨x3, h1, Xk2, ivk2, c4, r1, ((congrArg eh_V r2).trans (rfl : eh_V h1 = eh_V h1)), ((congrArg eh_N r2).trans hNk2), ivk2⟩
  · skip
    have E := E.ld (p := 54) (t := ri_isA) (i := 0) (n := 1) (v := .ref 0) rfl (e := (.aload_n 0, 1, [], .null)) rfl rfl (fun _ _ => rfl) l0 rfl
    have E := E.pu (p := 55) (lo' := lo) (st' := [.int 1, .ref 0]) rfl (e := (.iconst 1, 1, [], .null)) rfl rfl (fun _ _ => rfl)
    have E := E.pu (p := 56) (lo' := lo) (st' := [.int 1, .int 1, .ref 0]) rfl (e := (.iconst 1, 1, [], .null)) rfl rfl (fun _ _ => rfl)
    have E := E.pu (p := 58) (lo' := lo) (st' := [.int 9, .int 1, .int 1, .ref 0]) rfl (e := (.bipush 9, 2, [], .null)) rfl rfl (fun _ _ => rfl)
    obtain ⟨v1, h5, X, E⟩ := E.cv (p := 61) (as := [.int 1, .int 1, .int 9]) (b := 0) (r := []) rfl (x := 209) (m := 3) (w := .null) (j := 165) (n := 3) (t := 12) (u := [1511, 41, 1513]) rfl rfl rfl
    obtain ⟨x7, rfl, ivk6, hNk6⟩ := tp_165 (d := d) X (by rw [(rfl : eh_V h1 = eh_V h1)]; exact ivk2)
    have Xk6 := X
    have E : eh_e _ _ 61 lo [.int x7] h5 rs h' := E
    rcases eh_q0 (E.br (p := 64) (c := 0) (tgt := 68) (a := x7) (b := 0) (st' := []) rfl (e := (.ifCond .eq 7, 3, [68], .null)) rfl rfl (fun _ _ => rfl) rfl) with ⟨c8, E⟩ | ⟨c8, E⟩
    · skip
      have E := E.pu (p := 69) (lo' := lo) (st' := [.int 0]) rfl (e := (.iconst 0, 1, [], .null)) rfl rfl (fun _ _ => rfl)
      obtain ⟨r1, r2⟩ := E.reti rfl (m := 1) (ax := []) (w := .null) rfl
      exact Or.inr (Or.inl ⟨x3, h1, x7, h5, Xk2, ivk2, c4, Xk6, ivk6, c8, r1, ((congrArg eh_V r2).trans (rfl : eh_V h5 = eh_V h5)), ((congrArg eh_N r2).trans (hNk6.trans hNk2)), ivk6⟩)
    · skip
      have E := E.pu (p := 65) (lo' := lo) (st' := [.int 1]) rfl (e := (.iconst 1, 1, [], .null)) rfl rfl (fun _ _ => rfl)
      have E := E.pu (p := 69) (lo' := lo) (st' := [.int 1]) rfl (e := (.goto 4, 3, [69], .null)) rfl rfl (fun _ _ => rfl)
      obtain ⟨r1, r2⟩ := E.reti rfl (m := 1) (ax := []) (w := .null) rfl
      exact Or.inr (Or.inr (⟨x3, h1, x7, h5, Xk2, ivk2, c4, Xk6, ivk6, c8, r1, ((congrArg eh_V r2).trans (rfl : eh_V h5 = eh_V h5)), ((congrArg eh_N r2).trans (hNk6.trans hNk2)), ivk6⟩))
theorem tq_ln_1 {d : Nat} {lo : List (Nat × Value)} {h h' : ri_H} {rs : List Value} {G : eh_W} {b : Nat → Int32} {n m : Nat} (E : eh_e (ri_calE ri_md (d + 4)) md_170 45 lo [] h rs h') (hV : eh_V h = G) (iv : iM b n m G) (l0 : ri_lk lo 0 = some (.ref 0)) : ∃ x : Int32, rs = [.int x] ∧ iM b n m (eh_V h') ∧ eh_N h' = eh_N h := by
  rcases ln_1 E hV iv l0 with ⟨_, _, _, _, _, r1, r2, r3, r4⟩ | ⟨_, _, _, _, _, _, _, _, _, _, r1, r2, r3, r4⟩ | ⟨_, _, _, _, _, _, _, _, _, _, r1, r2, r3, r4⟩
  · exact ⟨_, r1, by rw [r2]; exact r4, r3⟩
  · exact ⟨_, r1, by rw [r2]; exact r4, r3⟩
  · exact ⟨_, r1, by rw [r2]; exact r4, r3⟩
theorem ln_2 {d : Nat} {lo : List (Nat × Value)} {h h' : ri_H} {rs : List Value} {G : eh_W} {b : Nat → Int32} {n m : Nat} (E : eh_e (ri_calE ri_md (d + 4)) md_170 80 lo [] h rs h') (hV : eh_V h = G) (iv : iM b n m G) (l0 : ri_lk lo 0 = some (.ref 0)) : (∃ (x3 : Int32), ∃ (h1 : ri_H), ri_calE ri_md (d + 4) 169 [.ref 0, .int 2] h = some (some (.int x3), h1) ∧ iM b n m (eh_V h1) ∧ x3 = 0 ∧ rs = [.int 0] ∧ eh_V h' = (eh_V h1) ∧ eh_N h' = eh_N h ∧ iM b n m (eh_V h1)) ∨ (∃ (x3 : Int32), ∃ (h1 : ri_H), ∃ (x7 : Int32), ∃ (h5 : ri_H), ri_calE ri_md (d + 4) 169 [.ref 0, .int 2] h = some (some (.int x3), h1) ∧ iM b n m (eh_V h1) ∧ ¬ (x3 = 0) ∧ ri_calE ri_md (d + 4) 165 [.ref 0, .int 2, .int 1, .int 99] h1 = some (some (.int x7), h5) ∧ iM b n m (eh_V h5) ∧ x7 = 0 ∧ rs = [.int 0] ∧ eh_V h' = (eh_V h5) ∧ eh_N h' = eh_N h ∧ iM b n m (eh_V h5)) ∨ (∃ (x3 : Int32), ∃ (h1 : ri_H), ∃ (x7 : Int32), ∃ (h5 : ri_H), ri_calE ri_md (d + 4) 169 [.ref 0, .int 2] h = some (some (.int x3), h1) ∧ iM b n m (eh_V h1) ∧ ¬ (x3 = 0) ∧ ri_calE ri_md (d + 4) 165 [.ref 0, .int 2, .int 1, .int 99] h1 = some (some (.int x7), h5) ∧ iM b n m (eh_V h5) ∧ ¬ (x7 = 0) ∧ rs = [.int 1] ∧ eh_V h' = (eh_V h5) ∧ eh_N h' = eh_N h ∧ iM b n m (eh_V h5)) := by
  have E := E.ld (p := 81) (t := ri_isA) (i := 0) (n := 1) (v := .ref 0) rfl (e := (.aload_n 0, 1, [], .null)) rfl rfl (fun _ _ => rfl) l0 rfl
  have E := E.pu (p := 82) (lo' := lo) (st' := [.int 2, .ref 0]) rfl (e := (.iconst 2, 1, [], .null)) rfl rfl (fun _ _ => rfl)
  obtain ⟨v1, h1, X, E⟩ := E.cv (p := 85) (as := [.int 2]) (b := 0) (r := []) rfl (x := 206) (m := 3) (w := .null) (j := 169) (n := 1) (t := 12) (u := [1500, 39, 1502]) rfl rfl rfl
  obtain ⟨x3, rfl, ivk2, hNk2⟩ := tp_169 (d := d + 1) X (by rw [hV]; exact iv)
  have Xk2 := X
  have E : eh_e _ _ 85 lo [.int x3] h1 rs h' := E
  rcases eh_q0 (E.br (p := 88) (c := 0) (tgt := 103) (a := x3) (b := 0) (st' := []) rfl (e := (.ifCond .eq 18, 3, [103], .null)) rfl rfl (fun _ _ => rfl) rfl) with ⟨c4, E⟩ | ⟨c4, E⟩
  · skip
    have E := E.pu (p := 104) (lo' := lo) (st' := [.int 0]) rfl (e := (.iconst 0, 1, [], .null)) rfl rfl (fun _ _ => rfl)
    obtain ⟨r1, r2⟩ := E.reti rfl (m := 1) (ax := []) (w := .null) rfl
    exact Or.inl ⟨x3, h1, Xk2, ivk2, c4, r1, ((congrArg eh_V r2).trans (rfl : eh_V h1 = eh_V h1)), ((congrArg eh_N r2).trans hNk2), ivk2⟩
  · skip
    have E := E.ld (p := 89) (t := ri_isA) (i := 0) (n := 1) (v := .ref 0) rfl (e := (.aload_n 0, 1, [], .null)) rfl rfl (fun _ _ => rfl) l0 rfl
    have E := E.pu (p := 90) (lo' := lo) (st' := [.int 2, .ref 0]) rfl (e := (.iconst 2, 1, [], .null)) rfl rfl (fun _ _ => rfl)
    have E := E.pu (p := 91) (lo' := lo) (st' := [.int 1, .int 2, .ref 0]) rfl (e := (.iconst 1, 1, [], .null)) rfl rfl (fun _ _ => rfl)
    have E := E.pu (p := 93) (lo' := lo) (st' := [.int 99, .int 1, .int 2, .ref 0]) rfl (e := (.bipush 99, 2, [], .null)) rfl rfl (fun _ _ => rfl)
    obtain ⟨v1, h5, X, E⟩ := E.cv (p := 96) (as := [.int 2, .int 1, .int 99]) (b := 0) (r := []) rfl (x := 209) (m := 3) (w := .null) (j := 165) (n := 3) (t := 12) (u := [1511, 41, 1513]) rfl rfl rfl
    obtain ⟨x7, rfl, ivk6, hNk6⟩ := tp_165 (d := d) X (by rw [(rfl : eh_V h1 = eh_V h1)]; exact ivk2)
    have Xk6 := X
    have E : eh_e _ _ 96 lo [.int x7] h5 rs h' := E
    rcases eh_q0 (E.br (p := 99) (c := 0) (tgt := 103) (a := x7) (b := 0) (st' := []) rfl (e := (.ifCond .eq 7, 3, [103], .null)) rfl rfl (fun _ _ => rfl) rfl) with ⟨c8, E⟩ | ⟨c8, E⟩
    · skip
      have E := E.pu (p := 104) (lo' := lo) (st' := [.int 0]) rfl (e := (.iconst 0, 1, [], .null)) rfl rfl (fun _ _ => rfl)
      obtain ⟨r1, r2⟩ := E.reti rfl (m := 1) (ax := []) (w := .null) rfl
      exact Or.inr (Or.inl ⟨x3, h1, x7, h5, Xk2, ivk2, c4, Xk6, ivk6, c8, r1, ((congrArg eh_V r2).trans (rfl : eh_V h5 = eh_V h5)), ((congrArg eh_N r2).trans (hNk6.trans hNk2)), ivk6⟩)
    · skip
      have E := E.pu (p := 100) (lo' := lo) (st' := [.int 1]) rfl (e := (.iconst 1, 1, [], .null)) rfl rfl (fun _ _ => rfl)
      have E := E.pu (p := 104) (lo' := lo) (st' := [.int 1]) rfl (e := (.goto 4, 3, [104], .null)) rfl rfl (fun _ _ => rfl)
      obtain ⟨r1, r2⟩ := E.reti rfl (m := 1) (ax := []) (w := .null) rfl
      exact Or.inr (Or.inr (⟨x3, h1, x7, h5, Xk2, ivk2, c4, Xk6, ivk6, c8, r1, ((congrArg eh_V r2).trans (rfl : eh_V h5 = eh_V h5)), ((congrArg eh_N r2).trans (hNk6.trans hNk2)), ivk6⟩))
theorem tq_ln_2 {d : Nat} {lo : List (Nat × Value)} {h h' : ri_H} {rs : List Value} {G : eh_W} {b : Nat → Int32} {n m : Nat} (E : eh_e (ri_calE ri_md (d + 4)) md_170 80 lo [] h rs h') (hV : eh_V h = G) (iv : iM b n m G) (l0 : ri_lk lo 0 = some (.ref 0)) : ∃ x : Int32, rs = [.int x] ∧ iM b n m (eh_V h') ∧ eh_N h' = eh_N h := by
  rcases ln_2 E hV iv l0 with ⟨_, _, _, _, _, r1, r2, r3, r4⟩ | ⟨_, _, _, _, _, _, _, _, _, _, r1, r2, r3, r4⟩ | ⟨_, _, _, _, _, _, _, _, _, _, r1, r2, r3, r4⟩
  · exact ⟨_, r1, by rw [r2]; exact r4, r3⟩
  · exact ⟨_, r1, by rw [r2]; exact r4, r3⟩
  · exact ⟨_, r1, by rw [r2]; exact r4, r3⟩
theorem ln_3 {d : Nat} {lo : List (Nat × Value)} {h h' : ri_H} {rs : List Value} {G : eh_W} {b : Nat → Int32} {n m : Nat} (E : eh_e (ri_calE ri_md (d + 4)) md_170 115 lo [] h rs h') (hV : eh_V h = G) (iv : iM b n m G) (l0 : ri_lk lo 0 = some (.ref 0)) : (∃ (x3 : Int32), ∃ (h1 : ri_H), ri_calE ri_md (d + 4) 169 [.ref 0, .int 3] h = some (some (.int x3), h1) ∧ iM b n m (eh_V h1) ∧ x3 = 0 ∧ rs = [.int 0] ∧ eh_V h' = (eh_V h1) ∧ eh_N h' = eh_N h ∧ iM b n m (eh_V h1)) ∨ (∃ (x3 : Int32), ∃ (h1 : ri_H), ∃ (x7 : Int32), ∃ (h5 : ri_H), ri_calE ri_md (d + 4) 169 [.ref 0, .int 3] h = some (some (.int x3), h1) ∧ iM b n m (eh_V h1) ∧ ¬ (x3 = 0) ∧ ri_calE ri_md (d + 4) 165 [.ref 0, .int 7, .int 1, .int 30] h1 = some (some (.int x7), h5) ∧ iM b n m (eh_V h5) ∧ x7 = 0 ∧ rs = [.int 0] ∧ eh_V h' = (eh_V h5) ∧ eh_N h' = eh_N h ∧ iM b n m (eh_V h5)) ∨ (∃ (x3 : Int32), ∃ (h1 : ri_H), ∃ (x7 : Int32), ∃ (h5 : ri_H), ri_calE ri_md (d + 4) 169 [.ref 0, .int 3] h = some (some (.int x3), h1) ∧ iM b n m (eh_V h1) ∧ ¬ (x3 = 0) ∧ ri_calE ri_md (d + 4) 165 [.ref 0, .int 7, .int 1, .int 30] h1 = some (some (.int x7), h5) ∧ iM b n m (eh_V h5) ∧ ¬ (x7 = 0) ∧ rs = [.int 1] ∧ eh_V h' = (eh_V h5) ∧ eh_N h' = eh_N h ∧ iM b n m (eh_V h5)) := by
  have E := E.ld (p := 116) (t := ri_isA) (i := 0) (n := 1) (v := .ref 0) rfl (e := (.aload_n 0, 1, [], .null)) rfl rfl (fun _ _ => rfl) l0 rfl
  have E := E.pu (p := 117) (lo' := lo) (st' := [.int 3, .ref 0]) rfl (e := (.iconst 3, 1, [], .null)) rfl rfl (fun _ _ => rfl)
  obtain ⟨v1, h1, X, E⟩ := E.cv (p := 120) (as := [.int 3]) (b := 0) (r := []) rfl (x := 206) (m := 3) (w := .null) (j := 169) (n := 1) (t := 12) (u := [1500, 39, 1502]) rfl rfl rfl
  obtain ⟨x3, rfl, ivk2, hNk2⟩ := tp_169 (d := d + 1) X (by rw [hV]; exact iv)
  have Xk2 := X
  have E : eh_e _ _ 120 lo [.int x3] h1 rs h' := E
  rcases eh_q0 (E.br (p := 123) (c := 0) (tgt := 139) (a := x3) (b := 0) (st' := []) rfl (e := (.ifCond .eq 19, 3, [139], .null)) rfl rfl (fun _ _ => rfl) rfl) with ⟨c4, E⟩ | ⟨c4, E⟩
  · skip
    have E := E.pu (p := 140) (lo' := lo) (st' := [.int 0]) rfl (e := (.iconst 0, 1, [], .null)) rfl rfl (fun _ _ => rfl)
    obtain ⟨r1, r2⟩ := E.reti rfl (m := 1) (ax := []) (w := .null) rfl
    exact Or.inl ⟨x3, h1, Xk2, ivk2, c4, r1, ((congrArg eh_V r2).trans (rfl : eh_V h1 = eh_V h1)), ((congrArg eh_N r2).trans hNk2), ivk2⟩
  · skip
    have E := E.ld (p := 124) (t := ri_isA) (i := 0) (n := 1) (v := .ref 0) rfl (e := (.aload_n 0, 1, [], .null)) rfl rfl (fun _ _ => rfl) l0 rfl
    have E := E.pu (p := 126) (lo' := lo) (st' := [.int 7, .ref 0]) rfl (e := (.bipush 7, 2, [], .null)) rfl rfl (fun _ _ => rfl)
    have E := E.pu (p := 127) (lo' := lo) (st' := [.int 1, .int 7, .ref 0]) rfl (e := (.iconst 1, 1, [], .null)) rfl rfl (fun _ _ => rfl)
    have E := E.pu (p := 129) (lo' := lo) (st' := [.int 30, .int 1, .int 7, .ref 0]) rfl (e := (.bipush 30, 2, [], .null)) rfl rfl (fun _ _ => rfl)
    obtain ⟨v1, h5, X, E⟩ := E.cv (p := 132) (as := [.int 7, .int 1, .int 30]) (b := 0) (r := []) rfl (x := 209) (m := 3) (w := .null) (j := 165) (n := 3) (t := 12) (u := [1511, 41, 1513]) rfl rfl rfl
    obtain ⟨x7, rfl, ivk6, hNk6⟩ := tp_165 (d := d) X (by rw [(rfl : eh_V h1 = eh_V h1)]; exact ivk2)
    have Xk6 := X
    have E : eh_e _ _ 132 lo [.int x7] h5 rs h' := E
    rcases eh_q0 (E.br (p := 135) (c := 0) (tgt := 139) (a := x7) (b := 0) (st' := []) rfl (e := (.ifCond .eq 7, 3, [139], .null)) rfl rfl (fun _ _ => rfl) rfl) with ⟨c8, E⟩ | ⟨c8, E⟩
    · skip
      have E := E.pu (p := 140) (lo' := lo) (st' := [.int 0]) rfl (e := (.iconst 0, 1, [], .null)) rfl rfl (fun _ _ => rfl)
      obtain ⟨r1, r2⟩ := E.reti rfl (m := 1) (ax := []) (w := .null) rfl
      exact Or.inr (Or.inl ⟨x3, h1, x7, h5, Xk2, ivk2, c4, Xk6, ivk6, c8, r1, ((congrArg eh_V r2).trans (rfl : eh_V h5 = eh_V h5)), ((congrArg eh_N r2).trans (hNk6.trans hNk2)), ivk6⟩)
    · skip
      have E := E.pu (p := 136) (lo' := lo) (st' := [.int 1]) rfl (e := (.iconst 1, 1, [], .null)) rfl rfl (fun _ _ => rfl)
      have E := E.pu (p := 140) (lo' := lo) (st' := [.int 1]) rfl (e := (.goto 4, 3, [140], .null)) rfl rfl (fun _ _ => rfl)
      obtain ⟨r1, r2⟩ := E.reti rfl (m := 1) (ax := []) (w := .null) rfl
      exact Or.inr (Or.inr (⟨x3, h1, x7, h5, Xk2, ivk2, c4, Xk6, ivk6, c8, r1, ((congrArg eh_V r2).trans (rfl : eh_V h5 = eh_V h5)), ((congrArg eh_N r2).trans (hNk6.trans hNk2)), ivk6⟩))
theorem tq_ln_3 {d : Nat} {lo : List (Nat × Value)} {h h' : ri_H} {rs : List Value} {G : eh_W} {b : Nat → Int32} {n m : Nat} (E : eh_e (ri_calE ri_md (d + 4)) md_170 115 lo [] h rs h') (hV : eh_V h = G) (iv : iM b n m G) (l0 : ri_lk lo 0 = some (.ref 0)) : ∃ x : Int32, rs = [.int x] ∧ iM b n m (eh_V h') ∧ eh_N h' = eh_N h := by
  rcases ln_3 E hV iv l0 with ⟨_, _, _, _, _, r1, r2, r3, r4⟩ | ⟨_, _, _, _, _, _, _, _, _, _, r1, r2, r3, r4⟩ | ⟨_, _, _, _, _, _, _, _, _, _, r1, r2, r3, r4⟩
  · exact ⟨_, r1, by rw [r2]; exact r4, r3⟩
  · exact ⟨_, r1, by rw [r2]; exact r4, r3⟩
  · exact ⟨_, r1, by rw [r2]; exact r4, r3⟩
theorem ln_4 {d : Nat} {lo : List (Nat × Value)} {h h' : ri_H} {rs : List Value} {G : eh_W} {b : Nat → Int32} {n m : Nat} (E : eh_e (ri_calE ri_md (d + 4)) md_170 151 lo [] h rs h') (hV : eh_V h = G) (iv : iM b n m G) (l0 : ri_lk lo 0 = some (.ref 0)) : (∃ (x3 : Int32), ∃ (h1 : ri_H), ri_calE ri_md (d + 4) 169 [.ref 0, .int 4] h = some (some (.int x3), h1) ∧ iM b n m (eh_V h1) ∧ x3 = 0 ∧ rs = [.int 0] ∧ eh_V h' = (eh_V h1) ∧ eh_N h' = eh_N h ∧ iM b n m (eh_V h1)) ∨ (∃ (x3 : Int32), ∃ (h1 : ri_H), ∃ (x7 : Int32), ∃ (h5 : ri_H), ri_calE ri_md (d + 4) 169 [.ref 0, .int 4] h = some (some (.int x3), h1) ∧ iM b n m (eh_V h1) ∧ ¬ (x3 = 0) ∧ ri_calE ri_md (d + 4) 165 [.ref 0, .int 8, .int 0, .int 99] h1 = some (some (.int x7), h5) ∧ iM b n m (eh_V h5) ∧ x7 = 0 ∧ rs = [.int 0] ∧ eh_V h' = (eh_V h5) ∧ eh_N h' = eh_N h ∧ iM b n m (eh_V h5)) ∨ (∃ (x3 : Int32), ∃ (h1 : ri_H), ∃ (x7 : Int32), ∃ (h5 : ri_H), ∃ (x12 : Int32), ∃ (h10 : ri_H), ri_calE ri_md (d + 4) 169 [.ref 0, .int 4] h = some (some (.int x3), h1) ∧ iM b n m (eh_V h1) ∧ ¬ (x3 = 0) ∧ ri_calE ri_md (d + 4) 165 [.ref 0, .int 8, .int 0, .int 99] h1 = some (some (.int x7), h5) ∧ iM b n m (eh_V h5) ∧ ¬ (x7 = 0) ∧ ¬ (50 < (eh_i (eh_V h5) 3 8).toInt) ∧ ri_calE ri_md (d + 4) 165 [.ref 0, .int 9, .int 1, .int 50] h5 = some (some (.int x12), h10) ∧ iM b n m (eh_V h10) ∧ x12 = 0 ∧ rs = [.int 0] ∧ eh_V h' = (eh_V h10) ∧ eh_N h' = eh_N h ∧ iM b n m (eh_V h10)) ∨ (∃ (x3 : Int32), ∃ (h1 : ri_H), ∃ (x7 : Int32), ∃ (h5 : ri_H), ∃ (x12 : Int32), ∃ (h10 : ri_H), ri_calE ri_md (d + 4) 169 [.ref 0, .int 4] h = some (some (.int x3), h1) ∧ iM b n m (eh_V h1) ∧ ¬ (x3 = 0) ∧ ri_calE ri_md (d + 4) 165 [.ref 0, .int 8, .int 0, .int 99] h1 = some (some (.int x7), h5) ∧ iM b n m (eh_V h5) ∧ ¬ (x7 = 0) ∧ ¬ (50 < (eh_i (eh_V h5) 3 8).toInt) ∧ ri_calE ri_md (d + 4) 165 [.ref 0, .int 9, .int 1, .int 50] h5 = some (some (.int x12), h10) ∧ iM b n m (eh_V h10) ∧ ¬ (x12 = 0) ∧ rs = [.int 1] ∧ eh_V h' = (eh_V h10) ∧ eh_N h' = eh_N h ∧ iM b n m (eh_V h10)) ∨ (∃ (x3 : Int32), ∃ (h1 : ri_H), ∃ (x7 : Int32), ∃ (h5 : ri_H), ∃ (x16 : Int32), ∃ (h14 : ri_H), ri_calE ri_md (d + 4) 169 [.ref 0, .int 4] h = some (some (.int x3), h1) ∧ iM b n m (eh_V h1) ∧ ¬ (x3 = 0) ∧ ri_calE ri_md (d + 4) 165 [.ref 0, .int 8, .int 0, .int 99] h1 = some (some (.int x7), h5) ∧ iM b n m (eh_V h5) ∧ ¬ (x7 = 0) ∧ 50 < (eh_i (eh_V h5) 3 8).toInt ∧ ri_calE ri_md (d + 4) 165 [.ref 0, .int 9, .int 1, .int (100 - (eh_i (eh_V h5) 3 8))] h5 = some (some (.int x16), h14) ∧ iM b n m (eh_V h14) ∧ x16 = 0 ∧ rs = [.int 0] ∧ eh_V h' = (eh_V h14) ∧ eh_N h' = eh_N h ∧ iM b n m (eh_V h14)) ∨ (∃ (x3 : Int32), ∃ (h1 : ri_H), ∃ (x7 : Int32), ∃ (h5 : ri_H), ∃ (x16 : Int32), ∃ (h14 : ri_H), ri_calE ri_md (d + 4) 169 [.ref 0, .int 4] h = some (some (.int x3), h1) ∧ iM b n m (eh_V h1) ∧ ¬ (x3 = 0) ∧ ri_calE ri_md (d + 4) 165 [.ref 0, .int 8, .int 0, .int 99] h1 = some (some (.int x7), h5) ∧ iM b n m (eh_V h5) ∧ ¬ (x7 = 0) ∧ 50 < (eh_i (eh_V h5) 3 8).toInt ∧ ri_calE ri_md (d + 4) 165 [.ref 0, .int 9, .int 1, .int (100 - (eh_i (eh_V h5) 3 8))] h5 = some (some (.int x16), h14) ∧ iM b n m (eh_V h14) ∧ ¬ (x16 = 0) ∧ rs = [.int 1] ∧ eh_V h' = (eh_V h14) ∧ eh_N h' = eh_N h ∧ iM b n m (eh_V h14)) := by
  have E := E.ld (p := 152) (t := ri_isA) (i := 0) (n := 1) (v := .ref 0) rfl (e := (.aload_n 0, 1, [], .null)) rfl rfl (fun _ _ => rfl) l0 rfl
  have E := E.pu (p := 153) (lo' := lo) (st' := [.int 4, .ref 0]) rfl (e := (.iconst 4, 1, [], .null)) rfl rfl (fun _ _ => rfl)
  obtain ⟨v1, h1, X, E⟩ := E.cv (p := 156) (as := [.int 4]) (b := 0) (r := []) rfl (x := 206) (m := 3) (w := .null) (j := 169) (n := 1) (t := 12) (u := [1500, 39, 1502]) rfl rfl rfl
  obtain ⟨x3, rfl, ivk2, hNk2⟩ := tp_169 (d := d + 1) X (by rw [hV]; exact iv)
  have Xk2 := X
  have E : eh_e _ _ 156 lo [.int x3] h1 rs h' := E
  rcases eh_q0 (E.br (p := 159) (c := 0) (tgt := 212) (a := x3) (b := 0) (st' := []) rfl (e := (.ifCond .eq 56, 3, [212], .null)) rfl rfl (fun _ _ => rfl) rfl) with ⟨c4, E⟩ | ⟨c4, E⟩
  · skip
    have E := E.pu (p := 213) (lo' := lo) (st' := [.int 0]) rfl (e := (.iconst 0, 1, [], .null)) rfl rfl (fun _ _ => rfl)
    obtain ⟨r1, r2⟩ := E.reti rfl (m := 1) (ax := []) (w := .null) rfl
    exact Or.inl ⟨x3, h1, Xk2, ivk2, c4, r1, ((congrArg eh_V r2).trans (rfl : eh_V h1 = eh_V h1)), ((congrArg eh_N r2).trans hNk2), ivk2⟩
  · skip
    have E := E.ld (p := 160) (t := ri_isA) (i := 0) (n := 1) (v := .ref 0) rfl (e := (.aload_n 0, 1, [], .null)) rfl rfl (fun _ _ => rfl) l0 rfl
    have E := E.pu (p := 162) (lo' := lo) (st' := [.int 8, .ref 0]) rfl (e := (.bipush 8, 2, [], .null)) rfl rfl (fun _ _ => rfl)
    have E := E.pu (p := 163) (lo' := lo) (st' := [.int 0, .int 8, .ref 0]) rfl (e := (.iconst 0, 1, [], .null)) rfl rfl (fun _ _ => rfl)
    have E := E.pu (p := 165) (lo' := lo) (st' := [.int 99, .int 0, .int 8, .ref 0]) rfl (e := (.bipush 99, 2, [], .null)) rfl rfl (fun _ _ => rfl)
    obtain ⟨v1, h5, X, E⟩ := E.cv (p := 168) (as := [.int 8, .int 0, .int 99]) (b := 0) (r := []) rfl (x := 209) (m := 3) (w := .null) (j := 165) (n := 3) (t := 12) (u := [1511, 41, 1513]) rfl rfl rfl
    obtain ⟨x7, rfl, ivk6, hNk6⟩ := tp_165 (d := d) X (by rw [(rfl : eh_V h1 = eh_V h1)]; exact ivk2)
    have Xk6 := X
    have E : eh_e _ _ 168 lo [.int x7] h5 rs h' := E
    rcases eh_q0 (E.br (p := 171) (c := 0) (tgt := 212) (a := x7) (b := 0) (st' := []) rfl (e := (.ifCond .eq 44, 3, [212], .null)) rfl rfl (fun _ _ => rfl) rfl) with ⟨c8, E⟩ | ⟨c8, E⟩
    · skip
      have E := E.pu (p := 213) (lo' := lo) (st' := [.int 0]) rfl (e := (.iconst 0, 1, [], .null)) rfl rfl (fun _ _ => rfl)
      obtain ⟨r1, r2⟩ := E.reti rfl (m := 1) (ax := []) (w := .null) rfl
      exact Or.inr (Or.inl ⟨x3, h1, x7, h5, Xk2, ivk2, c4, Xk6, ivk6, c8, r1, ((congrArg eh_V r2).trans (rfl : eh_V h5 = eh_V h5)), ((congrArg eh_N r2).trans (hNk6.trans hNk2)), ivk6⟩)
    · skip
      have E := E.ld (p := 172) (t := ri_isA) (i := 0) (n := 1) (v := .ref 0) rfl (e := (.aload_n 0, 1, [], .null)) rfl rfl (fun _ _ => rfl) l0 rfl
      have E := E.pu (p := 174) (lo' := lo) (st' := [.int 9, .ref 0]) rfl (e := (.bipush 9, 2, [], .null)) rfl rfl (fun _ _ => rfl)
      have E := E.pu (p := 175) (lo' := lo) (st' := [.int 1, .int 9, .ref 0]) rfl (e := (.iconst 1, 1, [], .null)) rfl rfl (fun _ _ => rfl)
      have E := E.ld (p := 176) (t := ri_isA) (i := 0) (n := 1) (v := .ref 0) rfl (e := (.aload_n 0, 1, [], .null)) rfl rfl (fun _ _ => rfl) l0 rfl
      have E := E.gr (n := 3) (p := 179) rfl (x := 37) (m := 3) (w := .null) (t := 12) (i := 7) (u := 1331) rfl rfl (rfl : eh_V h5 = eh_V h5) ivk6.1 rfl
      have E := E.pu (p := 181) (lo' := lo) (st' := [.int 8, .ref 3, .int 1, .int 9, .ref 0]) rfl (e := (.bipush 8, 2, [], .null)) rfl rfl (fun _ _ => rfl)
      have E := E.ai (p := 182) (z := eh_i (eh_V h5) 3 8) (n := 8) rfl (e := (.iaload, 1, [], .null)) rfl rfl (fun _ _ => rfl) rfl (rfl : eh_V h5 = eh_V h5) ivk6.1 (by decide) rfl rfl
      have E := E.pu (p := 184) (lo' := lo) (st' := [.int 50, .int (eh_i (eh_V h5) 3 8), .int 1, .int 9, .ref 0]) rfl (e := (.bipush 50, 2, [], .null)) rfl rfl (fun _ _ => rfl)
      rcases eh_r5 rfl (show (50 : Int32).toInt = 50 by decide) (E.br (p := 187) (c := 5) (tgt := 200) (a := eh_i (eh_V h5) 3 8) (b := 50) (st' := [.int 1, .int 9, .ref 0]) rfl (e := (.if_icmp .le 16, 3, [200], .null)) rfl rfl (fun _ _ => rfl) rfl) with ⟨c9, E⟩ | ⟨c9, E⟩
      · skip
        have E := E.pu (p := 202) (lo' := lo) (st' := [.int 50, .int 1, .int 9, .ref 0]) rfl (e := (.bipush 50, 2, [], .null)) rfl rfl (fun _ _ => rfl)
        obtain ⟨v1, h10, X, E⟩ := E.cv (p := 205) (as := [.int 9, .int 1, .int 50]) (b := 0) (r := []) rfl (x := 209) (m := 3) (w := .null) (j := 165) (n := 3) (t := 12) (u := [1511, 41, 1513]) rfl rfl rfl
        obtain ⟨x12, rfl, ivk11, hNk11⟩ := tp_165 (d := d) X (by rw [(rfl : eh_V h5 = eh_V h5)]; exact ivk6)
        have Xk11 := X
        have E : eh_e _ _ 205 lo [.int x12] h10 rs h' := E
        rcases eh_q0 (E.br (p := 208) (c := 0) (tgt := 212) (a := x12) (b := 0) (st' := []) rfl (e := (.ifCond .eq 7, 3, [212], .null)) rfl rfl (fun _ _ => rfl) rfl) with ⟨c13, E⟩ | ⟨c13, E⟩
        · skip
          have E := E.pu (p := 213) (lo' := lo) (st' := [.int 0]) rfl (e := (.iconst 0, 1, [], .null)) rfl rfl (fun _ _ => rfl)
          obtain ⟨r1, r2⟩ := E.reti rfl (m := 1) (ax := []) (w := .null) rfl
          exact Or.inr (Or.inr (Or.inl ⟨x3, h1, x7, h5, x12, h10, Xk2, ivk2, c4, Xk6, ivk6, c8, c9, Xk11, ivk11, c13, r1, ((congrArg eh_V r2).trans (rfl : eh_V h10 = eh_V h10)), ((congrArg eh_N r2).trans (hNk11.trans (hNk6.trans hNk2))), ivk11⟩))
        · skip
          have E := E.pu (p := 209) (lo' := lo) (st' := [.int 1]) rfl (e := (.iconst 1, 1, [], .null)) rfl rfl (fun _ _ => rfl)
          have E := E.pu (p := 213) (lo' := lo) (st' := [.int 1]) rfl (e := (.goto 4, 3, [213], .null)) rfl rfl (fun _ _ => rfl)
          obtain ⟨r1, r2⟩ := E.reti rfl (m := 1) (ax := []) (w := .null) rfl
          exact Or.inr (Or.inr (Or.inr (Or.inl ⟨x3, h1, x7, h5, x12, h10, Xk2, ivk2, c4, Xk6, ivk6, c8, c9, Xk11, ivk11, c13, r1, ((congrArg eh_V r2).trans (rfl : eh_V h10 = eh_V h10)), ((congrArg eh_N r2).trans (hNk11.trans (hNk6.trans hNk2))), ivk11⟩)))
      · skip
        have E := E.pu (p := 189) (lo' := lo) (st' := [.int 100, .int 1, .int 9, .ref 0]) rfl (e := (.bipush 100, 2, [], .null)) rfl rfl (fun _ _ => rfl)
        have E := E.ld (p := 190) (t := ri_isA) (i := 0) (n := 1) (v := .ref 0) rfl (e := (.aload_n 0, 1, [], .null)) rfl rfl (fun _ _ => rfl) l0 rfl
        have E := E.gr (n := 3) (p := 193) rfl (x := 37) (m := 3) (w := .null) (t := 12) (i := 7) (u := 1331) rfl rfl (rfl : eh_V h5 = eh_V h5) ivk6.1 rfl
        have E := E.pu (p := 195) (lo' := lo) (st' := [.int 8, .ref 3, .int 100, .int 1, .int 9, .ref 0]) rfl (e := (.bipush 8, 2, [], .null)) rfl rfl (fun _ _ => rfl)
        have E := E.ai (p := 196) (z := eh_i (eh_V h5) 3 8) (n := 8) rfl (e := (.iaload, 1, [], .null)) rfl rfl (fun _ _ => rfl) rfl (rfl : eh_V h5 = eh_V h5) ivk6.1 (by decide) rfl rfl
        have E := E.pu (p := 197) (lo' := lo) (st' := [.int (100 - (eh_i (eh_V h5) 3 8)), .int 1, .int 9, .ref 0]) rfl (e := (.isub, 1, [], .null)) rfl rfl (fun _ _ => rfl)
        have E := E.pu (p := 202) (lo' := lo) (st' := [.int (100 - (eh_i (eh_V h5) 3 8)), .int 1, .int 9, .ref 0]) rfl (e := (.goto 5, 3, [202], .null)) rfl rfl (fun _ _ => rfl)
        obtain ⟨v1, h14, X, E⟩ := E.cv (p := 205) (as := [.int 9, .int 1, .int (100 - (eh_i (eh_V h5) 3 8))]) (b := 0) (r := []) rfl (x := 209) (m := 3) (w := .null) (j := 165) (n := 3) (t := 12) (u := [1511, 41, 1513]) rfl rfl rfl
        obtain ⟨x16, rfl, ivk15, hNk15⟩ := tp_165 (d := d) X (by rw [(rfl : eh_V h5 = eh_V h5)]; exact ivk6)
        have Xk15 := X
        have E : eh_e _ _ 205 lo [.int x16] h14 rs h' := E
        rcases eh_q0 (E.br (p := 208) (c := 0) (tgt := 212) (a := x16) (b := 0) (st' := []) rfl (e := (.ifCond .eq 7, 3, [212], .null)) rfl rfl (fun _ _ => rfl) rfl) with ⟨c17, E⟩ | ⟨c17, E⟩
        · skip
          have E := E.pu (p := 213) (lo' := lo) (st' := [.int 0]) rfl (e := (.iconst 0, 1, [], .null)) rfl rfl (fun _ _ => rfl)
          obtain ⟨r1, r2⟩ := E.reti rfl (m := 1) (ax := []) (w := .null) rfl
          exact Or.inr (Or.inr (Or.inr (Or.inr (Or.inl ⟨x3, h1, x7, h5, x16, h14, Xk2, ivk2, c4, Xk6, ivk6, c8, c9, Xk15, ivk15, c17, r1, ((congrArg eh_V r2).trans (rfl : eh_V h14 = eh_V h14)), ((congrArg eh_N r2).trans (hNk15.trans (hNk6.trans hNk2))), ivk15⟩))))
        · skip
          have E := E.pu (p := 209) (lo' := lo) (st' := [.int 1]) rfl (e := (.iconst 1, 1, [], .null)) rfl rfl (fun _ _ => rfl)
          have E := E.pu (p := 213) (lo' := lo) (st' := [.int 1]) rfl (e := (.goto 4, 3, [213], .null)) rfl rfl (fun _ _ => rfl)
          obtain ⟨r1, r2⟩ := E.reti rfl (m := 1) (ax := []) (w := .null) rfl
          exact Or.inr (Or.inr (Or.inr (Or.inr (Or.inr (⟨x3, h1, x7, h5, x16, h14, Xk2, ivk2, c4, Xk6, ivk6, c8, c9, Xk15, ivk15, c17, r1, ((congrArg eh_V r2).trans (rfl : eh_V h14 = eh_V h14)), ((congrArg eh_N r2).trans (hNk15.trans (hNk6.trans hNk2))), ivk15⟩)))))
theorem tq_ln_4 {d : Nat} {lo : List (Nat × Value)} {h h' : ri_H} {rs : List Value} {G : eh_W} {b : Nat → Int32} {n m : Nat} (E : eh_e (ri_calE ri_md (d + 4)) md_170 151 lo [] h rs h') (hV : eh_V h = G) (iv : iM b n m G) (l0 : ri_lk lo 0 = some (.ref 0)) : ∃ x : Int32, rs = [.int x] ∧ iM b n m (eh_V h') ∧ eh_N h' = eh_N h := by
  rcases ln_4 E hV iv l0 with ⟨_, _, _, _, _, r1, r2, r3, r4⟩ | ⟨_, _, _, _, _, _, _, _, _, _, r1, r2, r3, r4⟩ | ⟨_, _, _, _, _, _, _, _, _, _, _, _, _, _, _, _, r1, r2, r3, r4⟩ | ⟨_, _, _, _, _, _, _, _, _, _, _, _, _, _, _, _, r1, r2, r3, r4⟩ | ⟨_, _, _, _, _, _, _, _, _, _, _, _, _, _, _, _, r1, r2, r3, r4⟩ | ⟨_, _, _, _, _, _, _, _, _, _, _, _, _, _, _, _, r1, r2, r3, r4⟩
  · exact ⟨_, r1, by rw [r2]; exact r4, r3⟩
  · exact ⟨_, r1, by rw [r2]; exact r4, r3⟩
  · exact ⟨_, r1, by rw [r2]; exact r4, r3⟩
  · exact ⟨_, r1, by rw [r2]; exact r4, r3⟩
  · exact ⟨_, r1, by rw [r2]; exact r4, r3⟩
  · exact ⟨_, r1, by rw [r2]; exact r4, r3⟩
theorem ln_5 {d : Nat} {lo : List (Nat × Value)} {h h' : ri_H} {rs : List Value} {G : eh_W} {b : Nat → Int32} {n m : Nat} (E : eh_e (ri_calE ri_md (d + 3)) md_170 224 lo [] h rs h') (hV : eh_V h = G) (iv : iM b n m G) (l0 : ri_lk lo 0 = some (.ref 0)) : (∃ (h2 : ri_H), ∃ (x6 : Int32), ∃ (h4 : ri_H), ¬ ((eh_i G 3 3) = 6) ∧ ri_calE ri_md (d + 3) 158 [.ref 0] h = some (none, h2) ∧ iM b n m (eh_V h2) ∧ ri_calE ri_md (d + 3) 167 [.ref 0, .int (24 + (eh_i (eh_V h2) 3 3))] h2 = some (some (.int x6), h4) ∧ iM b n m (eh_V h4) ∧ ¬ (x6 = 0) ∧ rs = [.int 1] ∧ eh_V h' = eh_u (eh_V h4) 3 3 (.int ((eh_i (eh_V h4) 3 3) + 1)) ∧ eh_N h' = eh_N h ∧ iM b n m (eh_u (eh_V h4) 3 3 (.int ((eh_i (eh_V h4) 3 3) + 1)))) ∨ (∃ (h2 : ri_H), ∃ (x6 : Int32), ∃ (h4 : ri_H), ¬ ((eh_i G 3 3) = 6) ∧ ri_calE ri_md (d + 3) 158 [.ref 0] h = some (none, h2) ∧ iM b n m (eh_V h2) ∧ ri_calE ri_md (d + 3) 167 [.ref 0, .int (24 + (eh_i (eh_V h2) 3 3))] h2 = some (some (.int x6), h4) ∧ iM b n m (eh_V h4) ∧ x6 = 0 ∧ rs = [.int 0] ∧ eh_V h' = (eh_V h4) ∧ eh_N h' = eh_N h ∧ iM b n m (eh_V h4)) ∨ ((eh_i G 3 3) = 6 ∧ rs = [.int 0] ∧ eh_V h' = eh_u (eh_u G 0 15 (.int 4)) 0 16 (.int (eh_i G 0 12)) ∧ eh_N h' = eh_N h ∧ iM b n m (eh_u (eh_u G 0 15 (.int 4)) 0 16 (.int (eh_i G 0 12)))) := by
  have E := E.ld (p := 225) (t := ri_isA) (i := 0) (n := 1) (v := .ref 0) rfl (e := (.aload_n 0, 1, [], .null)) rfl rfl (fun _ _ => rfl) l0 rfl
  have E := E.gr (n := 3) (p := 228) rfl (x := 37) (m := 3) (w := .null) (t := 12) (i := 7) (u := 1331) rfl rfl hV (iv.1) rfl
  have E := E.pu (p := 229) (lo' := lo) (st' := [.int 3, .ref 3]) rfl (e := (.iconst 3, 1, [], .null)) rfl rfl (fun _ _ => rfl)
  have E := E.ai (p := 230) (z := eh_i G 3 3) (n := 3) rfl (e := (.iaload, 1, [], .null)) rfl rfl (fun _ _ => rfl) rfl hV (iv.1) (by decide) rfl rfl
  have E := E.pu (p := 232) (lo' := lo) (st' := [.int 6, .int (eh_i G 3 3)]) rfl (e := (.bipush 6, 2, [], .null)) rfl rfl (fun _ _ => rfl)
  rcases eh_q1 (E.br (p := 235) (c := 1) (tgt := 241) (a := eh_i G 3 3) (b := 6) (st' := []) rfl (e := (.if_icmp .ne 9, 3, [241], .null)) rfl rfl (fun _ _ => rfl) rfl) with ⟨c1, E⟩ | ⟨c1, E⟩
  · skip
    have E := E.ld (p := 242) (t := ri_isA) (i := 0) (n := 1) (v := .ref 0) rfl (e := (.aload_n 0, 1, [], .null)) rfl rfl (fun _ _ => rfl) l0 rfl
    obtain ⟨v1, h2, X, E⟩ := E.cv (p := 245) (as := []) (b := 0) (r := []) rfl (x := 174) (m := 3) (w := .null) (j := 158) (n := 0) (t := 12) (u := [1478, 35, 1480]) rfl rfl rfl
    obtain ⟨rfl, ivk3, hNk3⟩ := tp_158 (d := d + 1) X (by rw [hV]; exact iv)
    have Xk3 := X
    have E : eh_e _ _ 245 lo [] h2 rs h' := E
    have E := E.ld (p := 246) (t := ri_isA) (i := 0) (n := 1) (v := .ref 0) rfl (e := (.aload_n 0, 1, [], .null)) rfl rfl (fun _ _ => rfl) l0 rfl
    have E := E.pu (p := 248) (lo' := lo) (st' := [.int 24, .ref 0]) rfl (e := (.bipush 24, 2, [], .null)) rfl rfl (fun _ _ => rfl)
    have E := E.ld (p := 249) (t := ri_isA) (i := 0) (n := 1) (v := .ref 0) rfl (e := (.aload_n 0, 1, [], .null)) rfl rfl (fun _ _ => rfl) l0 rfl
    have E := E.gr (n := 3) (p := 252) rfl (x := 37) (m := 3) (w := .null) (t := 12) (i := 7) (u := 1331) rfl rfl (rfl : eh_V h2 = eh_V h2) ivk3.1 rfl
    have E := E.pu (p := 253) (lo' := lo) (st' := [.int 3, .ref 3, .int 24, .ref 0]) rfl (e := (.iconst 3, 1, [], .null)) rfl rfl (fun _ _ => rfl)
    have E := E.ai (p := 254) (z := eh_i (eh_V h2) 3 3) (n := 3) rfl (e := (.iaload, 1, [], .null)) rfl rfl (fun _ _ => rfl) rfl (rfl : eh_V h2 = eh_V h2) ivk3.1 (by decide) rfl rfl
    have E := E.pu (p := 255) (lo' := lo) (st' := [.int (24 + (eh_i (eh_V h2) 3 3)), .ref 0]) rfl (e := (.iadd, 1, [], .null)) rfl rfl (fun _ _ => rfl)
    obtain ⟨v1, h4, X, E⟩ := E.cv (p := 258) (as := [.int (24 + (eh_i (eh_V h2) 3 3))]) (b := 0) (r := []) rfl (x := 212) (m := 3) (w := .null) (j := 167) (n := 1) (t := 12) (u := [1522, 43, 1524]) rfl rfl rfl
    obtain ⟨x6, rfl, ivk5, hNk5⟩ := tp_167 (d := d) X (by rw [(rfl : eh_V h2 = eh_V h2)]; exact ivk3)
    have Xk5 := X
    have E : eh_e _ _ 258 lo [.int x6] h4 rs h' := E
    rcases eh_q1 (E.br (p := 261) (c := 1) (tgt := 263) (a := x6) (b := 0) (st' := []) rfl (e := (.ifCond .ne 5, 3, [263], .null)) rfl rfl (fun _ _ => rfl) rfl) with ⟨c7, E⟩ | ⟨c7, E⟩
    · skip
      have E := E.ld (p := 264) (t := ri_isA) (i := 0) (n := 1) (v := .ref 0) rfl (e := (.aload_n 0, 1, [], .null)) rfl rfl (fun _ _ => rfl) l0 rfl
      have E := E.gr (n := 3) (p := 267) rfl (x := 37) (m := 3) (w := .null) (t := 12) (i := 7) (u := 1331) rfl rfl (rfl : eh_V h4 = eh_V h4) ivk5.1 rfl
      have E := E.pu (p := 268) (lo' := lo) (st' := [.int 3, .ref 3]) rfl (e := (.iconst 3, 1, [], .null)) rfl rfl (fun _ _ => rfl)
      have E := E.pu (p := 269) (lo' := lo) (st' := [.int 3, .ref 3, .int 3, .ref 3]) rfl (e := (.dup2, 1, [], .null)) rfl rfl (fun _ _ => rfl)
      have E := E.ai (p := 270) (z := eh_i (eh_V h4) 3 3) (n := 3) rfl (e := (.iaload, 1, [], .null)) rfl rfl (fun _ _ => rfl) rfl (rfl : eh_V h4 = eh_V h4) ivk5.1 (by decide) rfl rfl
      have E := E.pu (p := 271) (lo' := lo) (st' := [.int 1, .int (eh_i (eh_V h4) 3 3), .int 3, .ref 3]) rfl (e := (.iconst 1, 1, [], .null)) rfl rfl (fun _ _ => rfl)
      have E := E.pu (p := 272) (lo' := lo) (st' := [.int ((eh_i (eh_V h4) 3 3) + 1), .int 3, .ref 3]) rfl (e := (.iadd, 1, [], .null)) rfl rfl (fun _ _ => rfl)
      obtain ⟨h8, hV9, hN10, E⟩ := E.aw (gg := ri_g1) (b := true) (p := 273) (n := 3) rfl (e := (.iastore, 1, [], .null)) rfl rfl (fun _ _ => rfl) rfl (rfl : eh_V h4 = eh_V h4) (by decide)
      have E := E.pu (p := 274) (lo' := lo) (st' := [.int 1]) rfl (e := (.iconst 1, 1, [], .null)) rfl rfl (fun _ _ => rfl)
      obtain ⟨r1, r2⟩ := E.reti rfl (m := 1) (ax := []) (w := .null) rfl
      exact Or.inl ⟨h2, x6, h4, c1, Xk3, ivk3, Xk5, ivk5, c7, r1, ((congrArg eh_V r2).trans hV9), ((congrArg eh_N r2).trans (hN10.trans (hNk5.trans hNk3))), (iM_u ivk5 (ivk5.1.ui rfl) rfl)⟩
    · skip
      have E := E.pu (p := 262) (lo' := lo) (st' := [.int 0]) rfl (e := (.iconst 0, 1, [], .null)) rfl rfl (fun _ _ => rfl)
      obtain ⟨r1, r2⟩ := E.reti rfl (m := 1) (ax := []) (w := .null) rfl
      exact Or.inr (Or.inl ⟨h2, x6, h4, c1, Xk3, ivk3, Xk5, ivk5, c7, r1, ((congrArg eh_V r2).trans (rfl : eh_V h4 = eh_V h4)), ((congrArg eh_N r2).trans (hNk5.trans hNk3)), ivk5⟩)
  · skip
    have E := E.ld (p := 236) (t := ri_isA) (i := 0) (n := 1) (v := .ref 0) rfl (e := (.aload_n 0, 1, [], .null)) rfl rfl (fun _ _ => rfl) l0 rfl
    have E := E.pu (p := 237) (lo' := lo) (st' := [.int 4, .ref 0]) rfl (e := (.iconst 4, 1, [], .null)) rfl rfl (fun _ _ => rfl)
    obtain ⟨v1, h11, X, E⟩ := E.cv (p := 240) (as := [.int 4]) (b := 0) (r := []) rfl (x := 171) (m := 3) (w := .null) (j := 159) (n := 1) (t := 12) (u := [1507, 40, 1509]) rfl rfl rfl
    rcases sp_159 (d := d + 2) X hV (iv.1) with ⟨rfl, hV12, hN13⟩
    have hV12 : _ = eh_u (eh_u G 0 15 (.int 4)) 0 16 (.int (eh_i G 0 12)) := hV12
    have E : eh_e _ _ 240 lo [.int 0] _ rs h' := E
    obtain ⟨r1, r2⟩ := E.reti rfl (m := 1) (ax := []) (w := .null) rfl
    exact Or.inr (Or.inr (⟨c1, r1, ((congrArg eh_V r2).trans hV12), ((congrArg eh_N r2).trans hN13), (iM_u (iM_u iv ((iv.1).ui rfl) rfl) (((iv.1).ui rfl).ui rfl) rfl)⟩))
theorem tq_ln_5 {d : Nat} {lo : List (Nat × Value)} {h h' : ri_H} {rs : List Value} {G : eh_W} {b : Nat → Int32} {n m : Nat} (E : eh_e (ri_calE ri_md (d + 3)) md_170 224 lo [] h rs h') (hV : eh_V h = G) (iv : iM b n m G) (l0 : ri_lk lo 0 = some (.ref 0)) : ∃ x : Int32, rs = [.int x] ∧ iM b n m (eh_V h') ∧ eh_N h' = eh_N h := by
  rcases ln_5 E hV iv l0 with ⟨_, _, _, _, _, _, _, _, _, r1, r2, r3, r4⟩ | ⟨_, _, _, _, _, _, _, _, _, r1, r2, r3, r4⟩ | ⟨_, r1, r2, r3, r4⟩
  · exact ⟨_, r1, by rw [r2]; exact r4, r3⟩
  · exact ⟨_, r1, by rw [r2]; exact r4, r3⟩
  · exact ⟨_, r1, by rw [r2]; exact r4, r3⟩
theorem ln_6 {d : Nat} {lo : List (Nat × Value)} {h h' : ri_H} {rs : List Value} {G : eh_W} {b : Nat → Int32} {n m : Nat} (E : eh_e (ri_calE ri_md (d + 5)) md_170 285 lo [] h rs h') (hV : eh_V h = G) (iv : iM b n m G) (l0 : ri_lk lo 0 = some (.ref 0)) : ∃ (x3 : Int32), ∃ (h1 : ri_H), ri_calE ri_md (d + 5) 171 [.ref 0] h = some (some (.int x3), h1) ∧ iM b n m (eh_V h1) ∧ rs = [.int x3] ∧ eh_V h' = (eh_V h1) ∧ eh_N h' = eh_N h ∧ iM b n m (eh_V h1) := by
  have E := E.ld (p := 286) (t := ri_isA) (i := 0) (n := 1) (v := .ref 0) rfl (e := (.aload_n 0, 1, [], .null)) rfl rfl (fun _ _ => rfl) l0 rfl
  obtain ⟨v1, h1, X, E⟩ := E.cv (p := 289) (as := []) (b := 0) (r := []) rfl (x := 215) (m := 3) (w := .null) (j := 171) (n := 0) (t := 12) (u := [1534, 46, 1536]) rfl rfl rfl
  obtain ⟨x3, rfl, ivk2, hNk2⟩ := tp_171 (d := d) X (by rw [hV]; exact iv)
  have Xk2 := X
  have E : eh_e _ _ 289 lo [.int x3] h1 rs h' := E
  obtain ⟨r1, r2⟩ := E.reti rfl (m := 1) (ax := []) (w := .null) rfl
  exact ⟨x3, h1, Xk2, ivk2, r1, ((congrArg eh_V r2).trans (rfl : eh_V h1 = eh_V h1)), ((congrArg eh_N r2).trans hNk2), ivk2⟩
theorem tq_ln_6 {d : Nat} {lo : List (Nat × Value)} {h h' : ri_H} {rs : List Value} {G : eh_W} {b : Nat → Int32} {n m : Nat} (E : eh_e (ri_calE ri_md (d + 5)) md_170 285 lo [] h rs h') (hV : eh_V h = G) (iv : iM b n m G) (l0 : ri_lk lo 0 = some (.ref 0)) : ∃ x : Int32, rs = [.int x] ∧ iM b n m (eh_V h') ∧ eh_N h' = eh_N h := by
  obtain ⟨_, _, _, _, r1, r2, r3, r4⟩ := ln_6 E hV iv l0
  exact ⟨_, r1, by rw [r2]; exact r4, r3⟩
theorem ln_7 {d : Nat} {lo : List (Nat × Value)} {h h' : ri_H} {rs : List Value} {G : eh_W} {b : Nat → Int32} {n m : Nat} (E : eh_e (ri_calE ri_md (d + 3)) md_170 300 lo [] h rs h') (hV : eh_V h = G) (iv : iM b n m G) (l0 : ri_lk lo 0 = some (.ref 0)) : (∃ (h2 : ri_H), ∃ (x6 : Int32), ∃ (h4 : ri_H), ¬ ((eh_i G 3 5) = 4) ∧ ri_calE ri_md (d + 3) 158 [.ref 0] h = some (none, h2) ∧ iM b n m (eh_V h2) ∧ ri_calE ri_md (d + 3) 167 [.ref 0, .int (38 + (eh_i (eh_V h2) 3 5))] h2 = some (some (.int x6), h4) ∧ iM b n m (eh_V h4) ∧ ¬ (x6 = 0) ∧ rs = [.int 1] ∧ eh_V h' = eh_u (eh_V h4) 3 5 (.int ((eh_i (eh_V h4) 3 5) + 1)) ∧ eh_N h' = eh_N h ∧ iM b n m (eh_u (eh_V h4) 3 5 (.int ((eh_i (eh_V h4) 3 5) + 1)))) ∨ (∃ (h2 : ri_H), ∃ (x6 : Int32), ∃ (h4 : ri_H), ¬ ((eh_i G 3 5) = 4) ∧ ri_calE ri_md (d + 3) 158 [.ref 0] h = some (none, h2) ∧ iM b n m (eh_V h2) ∧ ri_calE ri_md (d + 3) 167 [.ref 0, .int (38 + (eh_i (eh_V h2) 3 5))] h2 = some (some (.int x6), h4) ∧ iM b n m (eh_V h4) ∧ x6 = 0 ∧ rs = [.int 0] ∧ eh_V h' = (eh_V h4) ∧ eh_N h' = eh_N h ∧ iM b n m (eh_V h4)) ∨ ((eh_i G 3 5) = 4 ∧ rs = [.int 0] ∧ eh_V h' = eh_u (eh_u G 0 15 (.int 4)) 0 16 (.int (eh_i G 0 12)) ∧ eh_N h' = eh_N h ∧ iM b n m (eh_u (eh_u G 0 15 (.int 4)) 0 16 (.int (eh_i G 0 12)))) := by
  have E := E.ld (p := 301) (t := ri_isA) (i := 0) (n := 1) (v := .ref 0) rfl (e := (.aload_n 0, 1, [], .null)) rfl rfl (fun _ _ => rfl) l0 rfl
  have E := E.gr (n := 3) (p := 304) rfl (x := 37) (m := 3) (w := .null) (t := 12) (i := 7) (u := 1331) rfl rfl hV (iv.1) rfl
  have E := E.pu (p := 305) (lo' := lo) (st' := [.int 5, .ref 3]) rfl (e := (.iconst 5, 1, [], .null)) rfl rfl (fun _ _ => rfl)
  have E := E.ai (p := 306) (z := eh_i G 3 5) (n := 5) rfl (e := (.iaload, 1, [], .null)) rfl rfl (fun _ _ => rfl) rfl hV (iv.1) (by decide) rfl rfl
  have E := E.pu (p := 307) (lo' := lo) (st' := [.int 4, .int (eh_i G 3 5)]) rfl (e := (.iconst 4, 1, [], .null)) rfl rfl (fun _ _ => rfl)
  rcases eh_q1 (E.br (p := 310) (c := 1) (tgt := 316) (a := eh_i G 3 5) (b := 4) (st' := []) rfl (e := (.if_icmp .ne 9, 3, [316], .null)) rfl rfl (fun _ _ => rfl) rfl) with ⟨c1, E⟩ | ⟨c1, E⟩
  · skip
    have E := E.ld (p := 317) (t := ri_isA) (i := 0) (n := 1) (v := .ref 0) rfl (e := (.aload_n 0, 1, [], .null)) rfl rfl (fun _ _ => rfl) l0 rfl
    obtain ⟨v1, h2, X, E⟩ := E.cv (p := 320) (as := []) (b := 0) (r := []) rfl (x := 174) (m := 3) (w := .null) (j := 158) (n := 0) (t := 12) (u := [1478, 35, 1480]) rfl rfl rfl
    obtain ⟨rfl, ivk3, hNk3⟩ := tp_158 (d := d + 1) X (by rw [hV]; exact iv)
    have Xk3 := X
    have E : eh_e _ _ 320 lo [] h2 rs h' := E
    have E := E.ld (p := 321) (t := ri_isA) (i := 0) (n := 1) (v := .ref 0) rfl (e := (.aload_n 0, 1, [], .null)) rfl rfl (fun _ _ => rfl) l0 rfl
    have E := E.pu (p := 323) (lo' := lo) (st' := [.int 38, .ref 0]) rfl (e := (.bipush 38, 2, [], .null)) rfl rfl (fun _ _ => rfl)
    have E := E.ld (p := 324) (t := ri_isA) (i := 0) (n := 1) (v := .ref 0) rfl (e := (.aload_n 0, 1, [], .null)) rfl rfl (fun _ _ => rfl) l0 rfl
    have E := E.gr (n := 3) (p := 327) rfl (x := 37) (m := 3) (w := .null) (t := 12) (i := 7) (u := 1331) rfl rfl (rfl : eh_V h2 = eh_V h2) ivk3.1 rfl
    have E := E.pu (p := 328) (lo' := lo) (st' := [.int 5, .ref 3, .int 38, .ref 0]) rfl (e := (.iconst 5, 1, [], .null)) rfl rfl (fun _ _ => rfl)
    have E := E.ai (p := 329) (z := eh_i (eh_V h2) 3 5) (n := 5) rfl (e := (.iaload, 1, [], .null)) rfl rfl (fun _ _ => rfl) rfl (rfl : eh_V h2 = eh_V h2) ivk3.1 (by decide) rfl rfl
    have E := E.pu (p := 330) (lo' := lo) (st' := [.int (38 + (eh_i (eh_V h2) 3 5)), .ref 0]) rfl (e := (.iadd, 1, [], .null)) rfl rfl (fun _ _ => rfl)
    obtain ⟨v1, h4, X, E⟩ := E.cv (p := 333) (as := [.int (38 + (eh_i (eh_V h2) 3 5))]) (b := 0) (r := []) rfl (x := 212) (m := 3) (w := .null) (j := 167) (n := 1) (t := 12) (u := [1522, 43, 1524]) rfl rfl rfl
    obtain ⟨x6, rfl, ivk5, hNk5⟩ := tp_167 (d := d) X (by rw [(rfl : eh_V h2 = eh_V h2)]; exact ivk3)
    have Xk5 := X
    have E : eh_e _ _ 333 lo [.int x6] h4 rs h' := E
    rcases eh_q1 (E.br (p := 336) (c := 1) (tgt := 338) (a := x6) (b := 0) (st' := []) rfl (e := (.ifCond .ne 5, 3, [338], .null)) rfl rfl (fun _ _ => rfl) rfl) with ⟨c7, E⟩ | ⟨c7, E⟩
    · skip
      have E := E.ld (p := 339) (t := ri_isA) (i := 0) (n := 1) (v := .ref 0) rfl (e := (.aload_n 0, 1, [], .null)) rfl rfl (fun _ _ => rfl) l0 rfl
      have E := E.gr (n := 3) (p := 342) rfl (x := 37) (m := 3) (w := .null) (t := 12) (i := 7) (u := 1331) rfl rfl (rfl : eh_V h4 = eh_V h4) ivk5.1 rfl
      have E := E.pu (p := 343) (lo' := lo) (st' := [.int 5, .ref 3]) rfl (e := (.iconst 5, 1, [], .null)) rfl rfl (fun _ _ => rfl)
      have E := E.pu (p := 344) (lo' := lo) (st' := [.int 5, .ref 3, .int 5, .ref 3]) rfl (e := (.dup2, 1, [], .null)) rfl rfl (fun _ _ => rfl)
      have E := E.ai (p := 345) (z := eh_i (eh_V h4) 3 5) (n := 5) rfl (e := (.iaload, 1, [], .null)) rfl rfl (fun _ _ => rfl) rfl (rfl : eh_V h4 = eh_V h4) ivk5.1 (by decide) rfl rfl
      have E := E.pu (p := 346) (lo' := lo) (st' := [.int 1, .int (eh_i (eh_V h4) 3 5), .int 5, .ref 3]) rfl (e := (.iconst 1, 1, [], .null)) rfl rfl (fun _ _ => rfl)
      have E := E.pu (p := 347) (lo' := lo) (st' := [.int ((eh_i (eh_V h4) 3 5) + 1), .int 5, .ref 3]) rfl (e := (.iadd, 1, [], .null)) rfl rfl (fun _ _ => rfl)
      obtain ⟨h8, hV9, hN10, E⟩ := E.aw (gg := ri_g1) (b := true) (p := 348) (n := 5) rfl (e := (.iastore, 1, [], .null)) rfl rfl (fun _ _ => rfl) rfl (rfl : eh_V h4 = eh_V h4) (by decide)
      have E := E.pu (p := 349) (lo' := lo) (st' := [.int 1]) rfl (e := (.iconst 1, 1, [], .null)) rfl rfl (fun _ _ => rfl)
      obtain ⟨r1, r2⟩ := E.reti rfl (m := 1) (ax := []) (w := .null) rfl
      exact Or.inl ⟨h2, x6, h4, c1, Xk3, ivk3, Xk5, ivk5, c7, r1, ((congrArg eh_V r2).trans hV9), ((congrArg eh_N r2).trans (hN10.trans (hNk5.trans hNk3))), (iM_u ivk5 (ivk5.1.ui rfl) rfl)⟩
    · skip
      have E := E.pu (p := 337) (lo' := lo) (st' := [.int 0]) rfl (e := (.iconst 0, 1, [], .null)) rfl rfl (fun _ _ => rfl)
      obtain ⟨r1, r2⟩ := E.reti rfl (m := 1) (ax := []) (w := .null) rfl
      exact Or.inr (Or.inl ⟨h2, x6, h4, c1, Xk3, ivk3, Xk5, ivk5, c7, r1, ((congrArg eh_V r2).trans (rfl : eh_V h4 = eh_V h4)), ((congrArg eh_N r2).trans (hNk5.trans hNk3)), ivk5⟩)
  · skip
    have E := E.ld (p := 311) (t := ri_isA) (i := 0) (n := 1) (v := .ref 0) rfl (e := (.aload_n 0, 1, [], .null)) rfl rfl (fun _ _ => rfl) l0 rfl
    have E := E.pu (p := 312) (lo' := lo) (st' := [.int 4, .ref 0]) rfl (e := (.iconst 4, 1, [], .null)) rfl rfl (fun _ _ => rfl)
    obtain ⟨v1, h11, X, E⟩ := E.cv (p := 315) (as := [.int 4]) (b := 0) (r := []) rfl (x := 171) (m := 3) (w := .null) (j := 159) (n := 1) (t := 12) (u := [1507, 40, 1509]) rfl rfl rfl
    rcases sp_159 (d := d + 2) X hV (iv.1) with ⟨rfl, hV12, hN13⟩
    have hV12 : _ = eh_u (eh_u G 0 15 (.int 4)) 0 16 (.int (eh_i G 0 12)) := hV12
    have E : eh_e _ _ 315 lo [.int 0] _ rs h' := E
    obtain ⟨r1, r2⟩ := E.reti rfl (m := 1) (ax := []) (w := .null) rfl
    exact Or.inr (Or.inr (⟨c1, r1, ((congrArg eh_V r2).trans hV12), ((congrArg eh_N r2).trans hN13), (iM_u (iM_u iv ((iv.1).ui rfl) rfl) (((iv.1).ui rfl).ui rfl) rfl)⟩))
theorem tq_ln_7 {d : Nat} {lo : List (Nat × Value)} {h h' : ri_H} {rs : List Value} {G : eh_W} {b : Nat → Int32} {n m : Nat} (E : eh_e (ri_calE ri_md (d + 3)) md_170 300 lo [] h rs h') (hV : eh_V h = G) (iv : iM b n m G) (l0 : ri_lk lo 0 = some (.ref 0)) : ∃ x : Int32, rs = [.int x] ∧ iM b n m (eh_V h') ∧ eh_N h' = eh_N h := by
  rcases ln_7 E hV iv l0 with ⟨_, _, _, _, _, _, _, _, _, r1, r2, r3, r4⟩ | ⟨_, _, _, _, _, _, _, _, _, r1, r2, r3, r4⟩ | ⟨_, r1, r2, r3, r4⟩
  · exact ⟨_, r1, by rw [r2]; exact r4, r3⟩
  · exact ⟨_, r1, by rw [r2]; exact r4, r3⟩
  · exact ⟨_, r1, by rw [r2]; exact r4, r3⟩
theorem ln_8 {d : Nat} {lo : List (Nat × Value)} {h h' : ri_H} {rs : List Value} {G : eh_W} {b : Nat → Int32} {n m : Nat} (E : eh_e (ri_calE ri_md (d + 4)) md_170 366 lo [] h rs h') (hV : eh_V h = G) (iv : iM b n m G) (l0 : ri_lk lo 0 = some (.ref 0)) : (∃ (h3 : ri_H), ∃ (h6 : ri_H), ∃ (x10 : Int32), ∃ (h8 : ri_H), ¬ ((eh_i G 3 6) = 6) ∧ eh_V h3 = eh_u G 0 20 (.int ((eh_i G 0 20) ||| 1)) ∧ ri_calE ri_md (d + 4) 158 [.ref 0] h3 = some (none, h6) ∧ iM b n m (eh_V h6) ∧ ri_calE ri_md (d + 4) 167 [.ref 0, .int (42 + (eh_i G 3 6))] h6 = some (some (.int x10), h8) ∧ iM b n m (eh_V h8) ∧ x10 = 0 ∧ rs = [.int 0] ∧ eh_V h' = (eh_V h8) ∧ eh_N h' = eh_N h ∧ iM b n m (eh_V h8)) ∨ (∃ (h3 : ri_H), ∃ (h6 : ri_H), ∃ (x10 : Int32), ∃ (h8 : ri_H), ∃ (x14 : Int32), ∃ (h12 : ri_H), ¬ ((eh_i G 3 6) = 6) ∧ eh_V h3 = eh_u G 0 20 (.int ((eh_i G 0 20) ||| 1)) ∧ ri_calE ri_md (d + 4) 158 [.ref 0] h3 = some (none, h6) ∧ iM b n m (eh_V h6) ∧ ri_calE ri_md (d + 4) 167 [.ref 0, .int (42 + (eh_i G 3 6))] h6 = some (some (.int x10), h8) ∧ iM b n m (eh_V h8) ∧ ¬ (x10 = 0) ∧ ri_calE ri_md (d + 4) 165 [.ref 0, .int (90 + (eh_i G 3 6)), .int 0, .int ((eh_i (eh_V h8) 3 0) - 1)] h8 = some (some (.int x14), h12) ∧ iM b n m (eh_V h12) ∧ ¬ (x14 = 0) ∧ rs = [.int 1] ∧ eh_V h' = eh_u (eh_V h12) 3 6 (.int ((eh_i (eh_V h12) 3 6) + 1)) ∧ eh_N h' = eh_N h ∧ iM b n m (eh_u (eh_V h12) 3 6 (.int ((eh_i (eh_V h12) 3 6) + 1)))) ∨ (∃ (h3 : ri_H), ∃ (h6 : ri_H), ∃ (x10 : Int32), ∃ (h8 : ri_H), ∃ (x14 : Int32), ∃ (h12 : ri_H), ¬ ((eh_i G 3 6) = 6) ∧ eh_V h3 = eh_u G 0 20 (.int ((eh_i G 0 20) ||| 1)) ∧ ri_calE ri_md (d + 4) 158 [.ref 0] h3 = some (none, h6) ∧ iM b n m (eh_V h6) ∧ ri_calE ri_md (d + 4) 167 [.ref 0, .int (42 + (eh_i G 3 6))] h6 = some (some (.int x10), h8) ∧ iM b n m (eh_V h8) ∧ ¬ (x10 = 0) ∧ ri_calE ri_md (d + 4) 165 [.ref 0, .int (90 + (eh_i G 3 6)), .int 0, .int ((eh_i (eh_V h8) 3 0) - 1)] h8 = some (some (.int x14), h12) ∧ iM b n m (eh_V h12) ∧ x14 = 0 ∧ rs = [.int 0] ∧ eh_V h' = (eh_V h12) ∧ eh_N h' = eh_N h ∧ iM b n m (eh_V h12)) ∨ ((eh_i G 3 6) = 6 ∧ rs = [.int 0] ∧ eh_V h' = eh_u (eh_u G 0 15 (.int 4)) 0 16 (.int (eh_i G 0 12)) ∧ eh_N h' = eh_N h ∧ iM b n m (eh_u (eh_u G 0 15 (.int 4)) 0 16 (.int (eh_i G 0 12)))) := by
  have E := E.ld (p := 367) (t := ri_isA) (i := 0) (n := 1) (v := .ref 0) rfl (e := (.aload_n 0, 1, [], .null)) rfl rfl (fun _ _ => rfl) l0 rfl
  have E := E.gr (n := 3) (p := 370) rfl (x := 37) (m := 3) (w := .null) (t := 12) (i := 7) (u := 1331) rfl rfl hV (iv.1) rfl
  have E := E.pu (p := 372) (lo' := lo) (st' := [.int 6, .ref 3]) rfl (e := (.bipush 6, 2, [], .null)) rfl rfl (fun _ _ => rfl)
  have E := E.ai (p := 373) (z := eh_i G 3 6) (n := 6) rfl (e := (.iaload, 1, [], .null)) rfl rfl (fun _ _ => rfl) rfl hV (iv.1) (by decide) rfl rfl
  have E := E.so (p := 374) (t := ri_isI) (i := 1) (n := 1) rfl (e := (.istore_n 1, 1, [], .null)) rfl rfl (fun _ _ => rfl) rfl
  have k1_1 : ri_lk (ri_st1 lo 1 (.int (eh_i G 3 6))) 1 = some (.int (eh_i G 3 6)) := eh_self
  have k1_0 : ri_lk (ri_st1 lo 1 (.int (eh_i G 3 6))) 0 = some (.ref 0) := eh_keep (by decide) (Or.inl rfl) l0
  have E := E.ld (p := 375) (t := ri_isI) (i := 1) (n := 1) (v := .int (eh_i G 3 6)) rfl (e := (.iload_n 1, 1, [], .null)) rfl rfl (fun _ _ => rfl) k1_1 rfl
  have E := E.pu (p := 377) (lo' := (ri_st1 lo 1 (.int (eh_i G 3 6)))) (st' := [.int 6, .int (eh_i G 3 6)]) rfl (e := (.bipush 6, 2, [], .null)) rfl rfl (fun _ _ => rfl)
  rcases eh_q1 (E.br (p := 380) (c := 1) (tgt := 386) (a := eh_i G 3 6) (b := 6) (st' := []) rfl (e := (.if_icmp .ne 9, 3, [386], .null)) rfl rfl (fun _ _ => rfl) rfl) with ⟨c2, E⟩ | ⟨c2, E⟩
  · skip
    have E := E.ld (p := 387) (t := ri_isA) (i := 0) (n := 1) (v := .ref 0) rfl (e := (.aload_n 0, 1, [], .null)) rfl rfl (fun _ _ => rfl) k1_0 rfl
    have E := E.pu (p := 388) (lo' := (ri_st1 lo 1 (.int (eh_i G 3 6)))) (st' := [.ref 0, .ref 0]) rfl (e := (.dup, 1, [], .null)) rfl rfl (fun _ _ => rfl)
    have E := E.gi (y := eh_i G 0 20) (p := 391) rfl (x := 196) (m := 3) (w := .null) (t := 12) (i := 20) (u := 1344) rfl rfl hV (iv.1) rfl rfl
    have E := E.pu (p := 392) (lo' := (ri_st1 lo 1 (.int (eh_i G 3 6)))) (st' := [.int 1, .int (eh_i G 0 20), .ref 0]) rfl (e := (.iconst 1, 1, [], .null)) rfl rfl (fun _ _ => rfl)
    have E := E.pu (p := 393) (lo' := (ri_st1 lo 1 (.int (eh_i G 3 6)))) (st' := [.int ((eh_i G 0 20) ||| 1), .ref 0]) rfl (e := (.ior, 1, [], .null)) rfl rfl (fun _ _ => rfl)
    obtain ⟨h3, hV4, hN5, E⟩ := E.gp (p := 396) rfl (x := 196) (m := 3) (w := .null) (t := 12) (i := 20) (u := 1344) (y := 0) rfl rfl hV
    have E := E.ld (p := 397) (t := ri_isA) (i := 0) (n := 1) (v := .ref 0) rfl (e := (.aload_n 0, 1, [], .null)) rfl rfl (fun _ _ => rfl) k1_0 rfl
    obtain ⟨v1, h6, X, E⟩ := E.cv (p := 400) (as := []) (b := 0) (r := []) rfl (x := 174) (m := 3) (w := .null) (j := 158) (n := 0) (t := 12) (u := [1478, 35, 1480]) rfl rfl rfl
    obtain ⟨rfl, ivk7, hNk7⟩ := tp_158 (d := d + 2) X (by rw [hV4]; exact (iM_u iv ((iv.1).ui rfl) rfl))
    have Xk7 := X
    have E : eh_e _ _ 400 (ri_st1 lo 1 (.int (eh_i G 3 6))) [] h6 rs h' := E
    have E := E.ld (p := 401) (t := ri_isA) (i := 0) (n := 1) (v := .ref 0) rfl (e := (.aload_n 0, 1, [], .null)) rfl rfl (fun _ _ => rfl) k1_0 rfl
    have E := E.pu (p := 403) (lo' := (ri_st1 lo 1 (.int (eh_i G 3 6)))) (st' := [.int 42, .ref 0]) rfl (e := (.bipush 42, 2, [], .null)) rfl rfl (fun _ _ => rfl)
    have E := E.ld (p := 404) (t := ri_isI) (i := 1) (n := 1) (v := .int (eh_i G 3 6)) rfl (e := (.iload_n 1, 1, [], .null)) rfl rfl (fun _ _ => rfl) k1_1 rfl
    have E := E.pu (p := 405) (lo' := (ri_st1 lo 1 (.int (eh_i G 3 6)))) (st' := [.int (42 + (eh_i G 3 6)), .ref 0]) rfl (e := (.iadd, 1, [], .null)) rfl rfl (fun _ _ => rfl)
    obtain ⟨v1, h8, X, E⟩ := E.cv (p := 408) (as := [.int (42 + (eh_i G 3 6))]) (b := 0) (r := []) rfl (x := 212) (m := 3) (w := .null) (j := 167) (n := 1) (t := 12) (u := [1522, 43, 1524]) rfl rfl rfl
    obtain ⟨x10, rfl, ivk9, hNk9⟩ := tp_167 (d := d + 1) X (by rw [(rfl : eh_V h6 = eh_V h6)]; exact ivk7)
    have Xk9 := X
    have E : eh_e _ _ 408 (ri_st1 lo 1 (.int (eh_i G 3 6))) [.int x10] h8 rs h' := E
    rcases eh_q0 (E.br (p := 411) (c := 0) (tgt := 431) (a := x10) (b := 0) (st' := []) rfl (e := (.ifCond .eq 23, 3, [431], .null)) rfl rfl (fun _ _ => rfl) rfl) with ⟨c11, E⟩ | ⟨c11, E⟩
    · skip
      have E := E.pu (p := 432) (lo' := (ri_st1 lo 1 (.int (eh_i G 3 6)))) (st' := [.int 0]) rfl (e := (.iconst 0, 1, [], .null)) rfl rfl (fun _ _ => rfl)
      obtain ⟨r1, r2⟩ := E.reti rfl (m := 1) (ax := []) (w := .null) rfl
      exact Or.inl ⟨h3, h6, x10, h8, c2, hV4, Xk7, ivk7, Xk9, ivk9, c11, r1, ((congrArg eh_V r2).trans (rfl : eh_V h8 = eh_V h8)), ((congrArg eh_N r2).trans (hNk9.trans (hNk7.trans hN5))), ivk9⟩
    · skip
      have E := E.ld (p := 412) (t := ri_isA) (i := 0) (n := 1) (v := .ref 0) rfl (e := (.aload_n 0, 1, [], .null)) rfl rfl (fun _ _ => rfl) k1_0 rfl
      have E := E.pu (p := 414) (lo' := (ri_st1 lo 1 (.int (eh_i G 3 6)))) (st' := [.int 90, .ref 0]) rfl (e := (.bipush 90, 2, [], .null)) rfl rfl (fun _ _ => rfl)
      have E := E.ld (p := 415) (t := ri_isI) (i := 1) (n := 1) (v := .int (eh_i G 3 6)) rfl (e := (.iload_n 1, 1, [], .null)) rfl rfl (fun _ _ => rfl) k1_1 rfl
      have E := E.pu (p := 416) (lo' := (ri_st1 lo 1 (.int (eh_i G 3 6)))) (st' := [.int (90 + (eh_i G 3 6)), .ref 0]) rfl (e := (.iadd, 1, [], .null)) rfl rfl (fun _ _ => rfl)
      have E := E.pu (p := 417) (lo' := (ri_st1 lo 1 (.int (eh_i G 3 6)))) (st' := [.int 0, .int (90 + (eh_i G 3 6)), .ref 0]) rfl (e := (.iconst 0, 1, [], .null)) rfl rfl (fun _ _ => rfl)
      have E := E.ld (p := 418) (t := ri_isA) (i := 0) (n := 1) (v := .ref 0) rfl (e := (.aload_n 0, 1, [], .null)) rfl rfl (fun _ _ => rfl) k1_0 rfl
      have E := E.gr (n := 3) (p := 421) rfl (x := 37) (m := 3) (w := .null) (t := 12) (i := 7) (u := 1331) rfl rfl (rfl : eh_V h8 = eh_V h8) ivk9.1 rfl
      have E := E.pu (p := 422) (lo' := (ri_st1 lo 1 (.int (eh_i G 3 6)))) (st' := [.int 0, .ref 3, .int 0, .int (90 + (eh_i G 3 6)), .ref 0]) rfl (e := (.iconst 0, 1, [], .null)) rfl rfl (fun _ _ => rfl)
      have E := E.ai (p := 423) (z := eh_i (eh_V h8) 3 0) (n := 0) rfl (e := (.iaload, 1, [], .null)) rfl rfl (fun _ _ => rfl) rfl (rfl : eh_V h8 = eh_V h8) ivk9.1 (by decide) rfl rfl
      have E := E.pu (p := 424) (lo' := (ri_st1 lo 1 (.int (eh_i G 3 6)))) (st' := [.int 1, .int (eh_i (eh_V h8) 3 0), .int 0, .int (90 + (eh_i G 3 6)), .ref 0]) rfl (e := (.iconst 1, 1, [], .null)) rfl rfl (fun _ _ => rfl)
      have E := E.pu (p := 425) (lo' := (ri_st1 lo 1 (.int (eh_i G 3 6)))) (st' := [.int ((eh_i (eh_V h8) 3 0) - 1), .int 0, .int (90 + (eh_i G 3 6)), .ref 0]) rfl (e := (.isub, 1, [], .null)) rfl rfl (fun _ _ => rfl)
      obtain ⟨v1, h12, X, E⟩ := E.cv (p := 428) (as := [.int (90 + (eh_i G 3 6)), .int 0, .int ((eh_i (eh_V h8) 3 0) - 1)]) (b := 0) (r := []) rfl (x := 209) (m := 3) (w := .null) (j := 165) (n := 3) (t := 12) (u := [1511, 41, 1513]) rfl rfl rfl
      obtain ⟨x14, rfl, ivk13, hNk13⟩ := tp_165 (d := d) X (by rw [(rfl : eh_V h8 = eh_V h8)]; exact ivk9)
      have Xk13 := X
      have E : eh_e _ _ 428 (ri_st1 lo 1 (.int (eh_i G 3 6))) [.int x14] h12 rs h' := E
      rcases eh_q1 (E.br (p := 431) (c := 1) (tgt := 433) (a := x14) (b := 0) (st' := []) rfl (e := (.ifCond .ne 5, 3, [433], .null)) rfl rfl (fun _ _ => rfl) rfl) with ⟨c15, E⟩ | ⟨c15, E⟩
      · skip
        have E := E.ld (p := 434) (t := ri_isA) (i := 0) (n := 1) (v := .ref 0) rfl (e := (.aload_n 0, 1, [], .null)) rfl rfl (fun _ _ => rfl) k1_0 rfl
        have E := E.gr (n := 3) (p := 437) rfl (x := 37) (m := 3) (w := .null) (t := 12) (i := 7) (u := 1331) rfl rfl (rfl : eh_V h12 = eh_V h12) ivk13.1 rfl
        have E := E.pu (p := 439) (lo' := (ri_st1 lo 1 (.int (eh_i G 3 6)))) (st' := [.int 6, .ref 3]) rfl (e := (.bipush 6, 2, [], .null)) rfl rfl (fun _ _ => rfl)
        have E := E.pu (p := 440) (lo' := (ri_st1 lo 1 (.int (eh_i G 3 6)))) (st' := [.int 6, .ref 3, .int 6, .ref 3]) rfl (e := (.dup2, 1, [], .null)) rfl rfl (fun _ _ => rfl)
        have E := E.ai (p := 441) (z := eh_i (eh_V h12) 3 6) (n := 6) rfl (e := (.iaload, 1, [], .null)) rfl rfl (fun _ _ => rfl) rfl (rfl : eh_V h12 = eh_V h12) ivk13.1 (by decide) rfl rfl
        have E := E.pu (p := 442) (lo' := (ri_st1 lo 1 (.int (eh_i G 3 6)))) (st' := [.int 1, .int (eh_i (eh_V h12) 3 6), .int 6, .ref 3]) rfl (e := (.iconst 1, 1, [], .null)) rfl rfl (fun _ _ => rfl)
        have E := E.pu (p := 443) (lo' := (ri_st1 lo 1 (.int (eh_i G 3 6)))) (st' := [.int ((eh_i (eh_V h12) 3 6) + 1), .int 6, .ref 3]) rfl (e := (.iadd, 1, [], .null)) rfl rfl (fun _ _ => rfl)
        obtain ⟨h16, hV17, hN18, E⟩ := E.aw (gg := ri_g1) (b := true) (p := 444) (n := 6) rfl (e := (.iastore, 1, [], .null)) rfl rfl (fun _ _ => rfl) rfl (rfl : eh_V h12 = eh_V h12) (by decide)
        have E := E.pu (p := 445) (lo' := (ri_st1 lo 1 (.int (eh_i G 3 6)))) (st' := [.int 1]) rfl (e := (.iconst 1, 1, [], .null)) rfl rfl (fun _ _ => rfl)
        obtain ⟨r1, r2⟩ := E.reti rfl (m := 1) (ax := []) (w := .null) rfl
        exact Or.inr (Or.inl ⟨h3, h6, x10, h8, x14, h12, c2, hV4, Xk7, ivk7, Xk9, ivk9, c11, Xk13, ivk13, c15, r1, ((congrArg eh_V r2).trans hV17), ((congrArg eh_N r2).trans (hN18.trans (hNk13.trans (hNk9.trans (hNk7.trans hN5))))), (iM_u ivk13 (ivk13.1.ui rfl) rfl)⟩)
      · skip
        have E := E.pu (p := 432) (lo' := (ri_st1 lo 1 (.int (eh_i G 3 6)))) (st' := [.int 0]) rfl (e := (.iconst 0, 1, [], .null)) rfl rfl (fun _ _ => rfl)
        obtain ⟨r1, r2⟩ := E.reti rfl (m := 1) (ax := []) (w := .null) rfl
        exact Or.inr (Or.inr (Or.inl ⟨h3, h6, x10, h8, x14, h12, c2, hV4, Xk7, ivk7, Xk9, ivk9, c11, Xk13, ivk13, c15, r1, ((congrArg eh_V r2).trans (rfl : eh_V h12 = eh_V h12)), ((congrArg eh_N r2).trans (hNk13.trans (hNk9.trans (hNk7.trans hN5)))), ivk13⟩))
  · skip
    have E := E.ld (p := 381) (t := ri_isA) (i := 0) (n := 1) (v := .ref 0) rfl (e := (.aload_n 0, 1, [], .null)) rfl rfl (fun _ _ => rfl) k1_0 rfl
    have E := E.pu (p := 382) (lo' := (ri_st1 lo 1 (.int (eh_i G 3 6)))) (st' := [.int 4, .ref 0]) rfl (e := (.iconst 4, 1, [], .null)) rfl rfl (fun _ _ => rfl)
    obtain ⟨v1, h19, X, E⟩ := E.cv (p := 385) (as := [.int 4]) (b := 0) (r := []) rfl (x := 171) (m := 3) (w := .null) (j := 159) (n := 1) (t := 12) (u := [1507, 40, 1509]) rfl rfl rfl
    rcases sp_159 (d := d + 3) X hV (iv.1) with ⟨rfl, hV20, hN21⟩
    have hV20 : _ = eh_u (eh_u G 0 15 (.int 4)) 0 16 (.int (eh_i G 0 12)) := hV20
    have E : eh_e _ _ 385 (ri_st1 lo 1 (.int (eh_i G 3 6))) [.int 0] _ rs h' := E
    obtain ⟨r1, r2⟩ := E.reti rfl (m := 1) (ax := []) (w := .null) rfl
    exact Or.inr (Or.inr (Or.inr (⟨c2, r1, ((congrArg eh_V r2).trans hV20), ((congrArg eh_N r2).trans hN21), (iM_u (iM_u iv ((iv.1).ui rfl) rfl) (((iv.1).ui rfl).ui rfl) rfl)⟩)))
theorem tq_ln_8 {d : Nat} {lo : List (Nat × Value)} {h h' : ri_H} {rs : List Value} {G : eh_W} {b : Nat → Int32} {n m : Nat} (E : eh_e (ri_calE ri_md (d + 4)) md_170 366 lo [] h rs h') (hV : eh_V h = G) (iv : iM b n m G) (l0 : ri_lk lo 0 = some (.ref 0)) : ∃ x : Int32, rs = [.int x] ∧ iM b n m (eh_V h') ∧ eh_N h' = eh_N h := by
  rcases ln_8 E hV iv l0 with ⟨_, _, _, _, _, _, _, _, _, _, _, r1, r2, r3, r4⟩ | ⟨_, _, _, _, _, _, _, _, _, _, _, _, _, _, _, _, r1, r2, r3, r4⟩ | ⟨_, _, _, _, _, _, _, _, _, _, _, _, _, _, _, _, r1, r2, r3, r4⟩ | ⟨_, r1, r2, r3, r4⟩
  · exact ⟨_, r1, by rw [r2]; exact r4, r3⟩
  · exact ⟨_, r1, by rw [r2]; exact r4, r3⟩
  · exact ⟨_, r1, by rw [r2]; exact r4, r3⟩
  · exact ⟨_, r1, by rw [r2]; exact r4, r3⟩
