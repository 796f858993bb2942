abbrev ac (bw : Int32) (fl : Int32) (ln : Int32) (ms : Int32) (a : Int32) (kd : Int32) (sa : Int32) (vl : Int32) (cd : Int64) (fa : Int32) (pl : Int32) (on : Int32) (il : Int32) (nm : Int32) (s0 : Int32) (s1 : Int32) (s2 : Int32) (s3 : Int32) (s4 : Int32) (q0 : Int32) (q1 : Int32) (q2 : Int32) (q3 : Int32) : eh_A := [(0, 0, .ref 1), (0, 1, .int bw), (0, 2, .ref 2), (0, 3, .ref 4), (0, 5, .ref 23), (0, 6, .ref 35), (0, 8, .ref 55), (0, 9, .ref 137), (0, 15, .int fl), (2, 0, .ref 1), (2, 1, .ref 3), (2, 2, .int ln), (2, 3, .int ms), (2, 4, .int a), (2, 5, .int kd), (2, 6, .int sa), (2, 7, .int vl), (2, 8, .long cd), (2, 9, .int fa), (2, 10, .int pl), (4, 0, .ref 2), (4, 1, .ref 5), (4, 2, .int on), (5, 0, .ref 6), (5, 1, .int il), (5, 2, .ref 7), (5, 3, .ref 8), (5, 4, .ref 9), (5, 5, .ref 10), (5, 6, .ref 11), (5, 7, .ref 12), (5, 8, .ref 13), (5, 9, .ref 14), (5, 10, .ref 15), (5, 11, .ref 16), (5, 12, .int nm), (6, 0, .int s0), (6, 1, .int s1), (6, 2, .int s2), (6, 3, .int s3), (6, 4, .int s4), (7, 0, .int q0), (7, 1, .int q1), (7, 2, .int q2), (7, 3, .int q3)]
abbrev am (th : Int32) (le : Int32) (sz : Int32) (pp : Int32) (li : Int32) (tk : Int32) (ta : Int32) (sp : Int32) (nu : Int32) (mf : Int32) (mp : Int32) (wd : Int64) (go : Int32) (ls : Int32) (oc : Int32) (um : Int32) (z0 : Int32) (z1 : Int32) (z2 : Int32) (z3 : Int32) (z4 : Int32) (z5 : Int32) (z6 : Int32) (z7 : Int32) (z8 : Int32) (z9 : Int32) : eh_A := [(0, 0, .int th), (0, 1, .ref 1), (0, 2, .int le), (0, 3, .int sz), (0, 4, .int pp), (0, 5, .int li), (0, 6, .ref 2), (0, 7, .ref 3), (0, 9, .ref 5), (0, 10, .ref 6), (0, 11, .int tk), (0, 12, .int ta), (0, 13, .int sp), (0, 14, .int nu), (0, 15, .int mf), (0, 16, .int mp), (0, 17, .long wd), (0, 18, .int go), (0, 19, .int ls), (0, 20, .int oc), (0, 25, .int um), (3, 0, .int z0), (3, 1, .int z1), (3, 2, .int z2), (3, 3, .int z3), (3, 4, .int z4), (3, 5, .int z5), (3, 6, .int z6), (3, 7, .int z7), (3, 8, .int z8), (3, 9, .int z9)]
def lx_C (g : eh_W) (ln ms a a' kd' sa' vl' : Int32) (cd' : Int64) : Prop := True
theorem sp_74 {d : Nat} {h h' : ri_H} {v : Option Value} {g : eh_W} {bw : Int32} {fl : Int32} {ln : Int32} {ms : Int32} {a : Int32} {kd : Int32} {sa : Int32} {vl : Int32} {cd : Int64} {fa : Int32} {pl : Int32} {on : Int32} {il : Int32} {nm : Int32} {s0 : Int32} {s1 : Int32} {s2 : Int32} {s3 : Int32} {s4 : Int32} {q0 : Int32} {q1 : Int32} {q2 : Int32} {q3 : Int32} (E : ri_calE ri_md (d + 3) 74 [.ref 2] h = some (v, h')) (hV : eh_V h = eh_o (ac bw fl ln ms a kd sa vl cd fa pl on il nm s0 s1 s2 s3 s4 q0 q1 q2 q3) g) : ∃ (a' kd' sa' vl' : Int32) (cd' : Int64), lx_C g ln ms a a' kd' sa' vl' cd' ∧ v = none ∧ eh_V h' = eh_o (ac bw fl ln ms a' kd' sa' vl' cd' fa pl on il nm s0 s1 s2 s3 s4 q0 q1 q2 q3) g ∧ eh_N h' = eh_N h := sorry
theorem sp_78 {d : Nat} {h h' : ri_H} {v : Option Value} {g : eh_W} {bw fl ln ms a kd sa vl fa pl on il nm s0 s1 s2 s3 s4 q0 q1 q2 q3 w : Int32} {cd : Int64} (E : ri_calE ri_md (d + 1) 78 [.ref 2, .int w] h = some (v, h')) (hV : eh_V h = eh_o (ac bw fl ln ms a kd sa vl cd fa pl on il nm s0 s1 s2 s3 s4 q0 q1 q2 q3) g) : (v = some (.int 0) ∧ eh_V h' = eh_o (ac bw fl ln ms a kd sa vl cd w sa on il nm s0 s1 s2 s3 s4 q0 q1 q2 q3) g ∧ eh_N h' = eh_N h) := by
  obtain ⟨rs, hrs, E⟩ := eh_in E (q := md_78) rfl
  have E := E.ld (p := 1) (t := ri_isA) (i := 0) (n := 1) (v := .ref 2) rfl (e := (.aload_n 0, 1, [], .null)) rfl rfl (fun _ _ => rfl) rfl rfl
  have E := E.ld (p := 2) (t := ri_isI) (i := 1) (n := 1) (v := .int w) rfl (e := (.iload_n 1, 1, [], .null)) rfl rfl (fun _ _ => rfl) rfl rfl
  obtain ⟨h1, hV2, hN3, E⟩ := E.pf (p := 5) (al' := ac bw fl ln ms a kd sa vl cd w pl on il nm s0 s1 s2 s3 s4 q0 q1 q2 q3) rfl (x := 38) (m := 3) (w := .null) (t := 8) (i := 9) (u := 204) (y := 0) rfl hV rfl rfl
  have E := E.ld (p := 6) (t := ri_isA) (i := 0) (n := 1) (v := .ref 2) rfl (e := (.aload_n 0, 1, [], .null)) rfl rfl (fun _ _ => rfl) rfl rfl
  have E := E.ld (p := 7) (t := ri_isA) (i := 0) (n := 1) (v := .ref 2) rfl (e := (.aload_n 0, 1, [], .null)) rfl rfl (fun _ _ => rfl) rfl rfl
  have E := E.gf (p := 10) (v := .int sa) rfl (x := 28) (m := 3) (w := .null) (t := 8) (i := 6) (u := 196) rfl hV2 rfl rfl
  obtain ⟨h4, hV5, hN6, E⟩ := E.pf (p := 13) (al' := ac bw fl ln ms a kd sa vl cd w sa on il nm s0 s1 s2 s3 s4 q0 q1 q2 q3) rfl (x := 41) (m := 3) (w := .null) (t := 8) (i := 10) (u := 206) (y := 0) rfl hV2 rfl rfl
  have E := E.pu (p := 14) (lo' := (ri_as 0 [.ref 2, .int w])) (st' := [.int 0]) rfl (e := (.iconst 0, 1, [], .null)) rfl rfl (fun _ _ => rfl)
  obtain ⟨r1, r2⟩ := E.reti rfl (m := 1) (ax := []) (w := .null) rfl
  subst r1 r2
  exact ⟨hrs.symm, hV5, (hN6.trans hN3)⟩
theorem sp_80 {d : Nat} {h h' : ri_H} {v : Option Value} {g : eh_W} {bw fl ln ms a kd sa vl fa pl on il nm s0 s1 s2 s3 s4 q0 q1 q2 q3 w : Int32} {cd : Int64} (E : ri_calE ri_md (d + 1) 80 [.ref 2, .int w] h = some (v, h')) (hV : eh_V h = eh_o (ac bw fl ln ms a kd sa vl cd fa pl on il nm s0 s1 s2 s3 s4 q0 q1 q2 q3) g) : (¬ (kd = 5) ∧ v = some (.int 0) ∧ eh_V h' = eh_o (ac bw fl ln ms a kd sa vl cd fa pl on il nm s0 s1 s2 s3 s4 q0 q1 q2 q3) g ∧ eh_N h' = eh_N h) ∨ (kd = 5 ∧ ¬ (vl = w) ∧ v = some (.int 0) ∧ eh_V h' = eh_o (ac bw fl ln ms a kd sa vl cd fa pl on il nm s0 s1 s2 s3 s4 q0 q1 q2 q3) g ∧ eh_N h' = eh_N h) ∨ (kd = 5 ∧ vl = w ∧ v = some (.int 1) ∧ eh_V h' = eh_o (ac bw fl ln ms a kd sa vl cd fa pl on il nm s0 s1 s2 s3 s4 q0 q1 q2 q3) g ∧ eh_N h' = eh_N h) := by
  obtain ⟨rs, hrs, E⟩ := eh_in E (q := md_80) rfl
  have E := E.ld (p := 1) (t := ri_isA) (i := 0) (n := 1) (v := .ref 2) rfl (e := (.aload_n 0, 1, [], .null)) rfl rfl (fun _ _ => rfl) rfl rfl
  have E := E.gf (p := 4) (v := .int kd) rfl (x := 25) (m := 3) (w := .null) (t := 8) (i := 5) (u := 192) rfl hV rfl rfl
  have E := E.pu (p := 5) (lo' := (ri_as 0 [.ref 2, .int w])) (st' := [.int 5, .int kd]) rfl (e := (.iconst 5, 1, [], .null)) rfl rfl (fun _ _ => rfl)
  rcases eh_q1 (E.br (p := 8) (c := 1) (tgt := 20) (a := kd) (b := 5) (st' := []) rfl (e := (.if_icmp .ne 15, 3, [20], .null)) rfl rfl (fun _ _ => rfl) rfl) with ⟨c1, E⟩ | ⟨c1, E⟩
  · skip
    have E := E.pu (p := 21) (lo' := (ri_as 0 [.ref 2, .int w])) (st' := [.int 0]) rfl (e := (.iconst 0, 1, [], .null)) rfl rfl (fun _ _ => rfl)
    obtain ⟨r1, r2⟩ := E.reti rfl (m := 1) (ax := []) (w := .null) rfl
    subst r1 r2
    exact Or.inl ⟨c1, hrs.symm, hV, rfl⟩
  · skip
    have E := E.ld (p := 9) (t := ri_isA) (i := 0) (n := 1) (v := .ref 2) rfl (e := (.aload_n 0, 1, [], .null)) rfl rfl (fun _ _ => rfl) rfl rfl
    have E := E.gf (p := 12) (v := .int vl) rfl (x := 31) (m := 3) (w := .null) (t := 8) (i := 7) (u := 197) rfl hV rfl rfl
    have E := E.ld (p := 13) (t := ri_isI) (i := 1) (n := 1) (v := .int w) rfl (e := (.iload_n 1, 1, [], .null)) rfl rfl (fun _ _ => rfl) rfl rfl
    rcases eh_q1 (E.br (p := 16) (c := 1) (tgt := 20) (a := vl) (b := w) (st' := []) rfl (e := (.if_icmp .ne 7, 3, [20], .null)) rfl rfl (fun _ _ => rfl) rfl) with ⟨c2, E⟩ | ⟨c2, E⟩
    · skip
      have E := E.pu (p := 21) (lo' := (ri_as 0 [.ref 2, .int w])) (st' := [.int 0]) rfl (e := (.iconst 0, 1, [], .null)) rfl rfl (fun _ _ => rfl)
      obtain ⟨r1, r2⟩ := E.reti rfl (m := 1) (ax := []) (w := .null) rfl
      subst r1 r2
      exact Or.inr (Or.inl ⟨c1, c2, hrs.symm, hV, rfl⟩)
    · skip
      have E := E.pu (p := 17) (lo' := (ri_as 0 [.ref 2, .int w])) (st' := [.int 1]) rfl (e := (.iconst 1, 1, [], .null)) rfl rfl (fun _ _ => rfl)
      have E := E.pu (p := 21) (lo' := (ri_as 0 [.ref 2, .int w])) (st' := [.int 1]) rfl (e := (.goto 4, 3, [21], .null)) rfl rfl (fun _ _ => rfl)
      obtain ⟨r1, r2⟩ := E.reti rfl (m := 1) (ax := []) (w := .null) rfl
      subst r1 r2
      exact Or.inr (Or.inr (⟨c1, c2, hrs.symm, hV, rfl⟩))
theorem sp_82 {d : Nat} {h h' : ri_H} {v : Option Value} {g : eh_W} {bw fl ln ms a kd sa vl fa pl on il nm s0 s1 s2 s3 s4 q0 q1 q2 q3 w : Int32} {cd : Int64} (E : ri_calE ri_md (d + 4) 82 [.ref 2, .int w] h = some (v, h')) (hV : eh_V h = eh_o (ac bw fl ln ms a kd sa vl cd fa pl on il nm s0 s1 s2 s3 s4 q0 q1 q2 q3) g) : (¬ (kd = 5) ∧ v = some (.int 0) ∧ eh_V h' = eh_o (ac bw fl ln ms a kd sa vl cd 1 sa on il nm s0 s1 s2 s3 s4 q0 q1 q2 q3) g ∧ eh_N h' = eh_N h) ∨ (kd = 5 ∧ ¬ (vl = w) ∧ v = some (.int 0) ∧ eh_V h' = eh_o (ac bw fl ln ms a kd sa vl cd 1 sa on il nm s0 s1 s2 s3 s4 q0 q1 q2 q3) g ∧ eh_N h' = eh_N h) ∨ (∃ (x21 : Int32), ∃ (x22 : Int32), ∃ (x23 : Int32), ∃ (x24 : Int32), ∃ (x25 : Int64), kd = 5 ∧ vl = w ∧ lx_C g ln ms a x21 x22 x23 x24 x25 ∧ v = some (.int 1) ∧ eh_V h' = eh_o (ac bw fl ln ms x21 x22 x23 x24 x25 fa pl on il nm s0 s1 s2 s3 s4 q0 q1 q2 q3) g ∧ eh_N h' = eh_N h) := by
  obtain ⟨rs, hrs, E⟩ := eh_in E (q := md_82) rfl
  have E := E.ld (p := 1) (t := ri_isA) (i := 0) (n := 1) (v := .ref 2) rfl (e := (.aload_n 0, 1, [], .null)) rfl rfl (fun _ _ => rfl) rfl rfl
  have E := E.ld (p := 2) (t := ri_isI) (i := 1) (n := 1) (v := .int w) rfl (e := (.iload_n 1, 1, [], .null)) rfl rfl (fun _ _ => rfl) rfl rfl
  obtain ⟨v1, h1, X, E⟩ := E.cv (p := 5) (as := [.int w]) (b := 2) (r := []) rfl (x := 87) (m := 3) (w := .null) (j := 80) (n := 1) (t := 8) (u := [739, 741, 740]) rfl rfl rfl
  rcases sp_80 (d := d + 2) X hV with ⟨c1, rfl, hV2, hN3⟩ | ⟨c4, c5, rfl, hV6, hN7⟩ | ⟨c8, c9, rfl, hV10, hN11⟩
  · skip
    have E : eh_e _ _ 5 (ri_as 0 [.ref 2, .int w]) [.int 0] h1 rs h' := E
    have E := E.brf (p := 8) (c := 1) (tgt := 14) (a := 0) (b := 0) (st' := []) rfl (e := (.ifCond .ne 9, 3, [14], .null)) rfl rfl (fun _ _ => rfl) (by decide) rfl
    have E := E.ld (p := 9) (t := ri_isA) (i := 0) (n := 1) (v := .ref 2) rfl (e := (.aload_n 0, 1, [], .null)) rfl rfl (fun _ _ => rfl) rfl rfl
    have E := E.pu (p := 10) (lo' := (ri_as 0 [.ref 2, .int w])) (st' := [.int 1, .ref 2]) rfl (e := (.iconst 1, 1, [], .null)) rfl rfl (fun _ _ => rfl)
    obtain ⟨v1, h1, X, E⟩ := E.cv (p := 13) (as := [.int 1]) (b := 2) (r := []) rfl (x := 84) (m := 3) (w := .null) (j := 78) (n := 1) (t := 8) (u := [700, 678, 677]) rfl rfl rfl
    rcases sp_78 (d := d + 2) X hV2 with ⟨rfl, hV13, hN14⟩
    have E : eh_e _ _ 13 (ri_as 0 [.ref 2, .int w]) [.int 0] h1 rs h' := E
    obtain ⟨r1, r2⟩ := E.reti rfl (m := 1) (ax := []) (w := .null) rfl
    subst r1 r2
    exact Or.inl ⟨c1, hrs.symm, hV13, (hN14.trans hN3)⟩
  · skip
    have E : eh_e _ _ 5 (ri_as 0 [.ref 2, .int w]) [.int 0] h1 rs h' := E
    have E := E.brf (p := 8) (c := 1) (tgt := 14) (a := 0) (b := 0) (st' := []) rfl (e := (.ifCond .ne 9, 3, [14], .null)) rfl rfl (fun _ _ => rfl) (by decide) rfl
    have E := E.ld (p := 9) (t := ri_isA) (i := 0) (n := 1) (v := .ref 2) rfl (e := (.aload_n 0, 1, [], .null)) rfl rfl (fun _ _ => rfl) rfl rfl
    have E := E.pu (p := 10) (lo' := (ri_as 0 [.ref 2, .int w])) (st' := [.int 1, .ref 2]) rfl (e := (.iconst 1, 1, [], .null)) rfl rfl (fun _ _ => rfl)
    obtain ⟨v1, h1, X, E⟩ := E.cv (p := 13) (as := [.int 1]) (b := 2) (r := []) rfl (x := 84) (m := 3) (w := .null) (j := 78) (n := 1) (t := 8) (u := [700, 678, 677]) rfl rfl rfl
    rcases sp_78 (d := d + 2) X hV6 with ⟨rfl, hV17, hN18⟩
    have E : eh_e _ _ 13 (ri_as 0 [.ref 2, .int w]) [.int 0] h1 rs h' := E
    obtain ⟨r1, r2⟩ := E.reti rfl (m := 1) (ax := []) (w := .null) rfl
    subst r1 r2
    exact Or.inr (Or.inl ⟨c4, c5, hrs.symm, hV17, (hN18.trans hN7)⟩)
  · skip
    have E : eh_e _ _ 5 (ri_as 0 [.ref 2, .int w]) [.int 1] h1 rs h' := E
    have E := E.brt (c := 1) (tgt := 14) (a := 1) (b := 0) (st' := []) rfl (e := (.ifCond .ne 9, 3, [14], .null)) rfl rfl (fun _ _ => rfl) (by decide)
    have E := E.ld (p := 15) (t := ri_isA) (i := 0) (n := 1) (v := .ref 2) rfl (e := (.aload_n 0, 1, [], .null)) rfl rfl (fun _ _ => rfl) rfl rfl
    obtain ⟨v1, h1, X, E⟩ := E.cv (p := 18) (as := []) (b := 2) (r := []) rfl (x := 67) (m := 3) (w := .null) (j := 74) (n := 0) (t := 8) (u := [646, 648, 647]) rfl rfl rfl
    rcases sp_74 (d := d + 0) X hV10 with ⟨x21, x22, x23, x24, x25, c26, rfl, hV27, hN28⟩
    have E : eh_e _ _ 18 (ri_as 0 [.ref 2, .int w]) [] h1 rs h' := E
    have E := E.pu (p := 19) (lo' := (ri_as 0 [.ref 2, .int w])) (st' := [.int 1]) rfl (e := (.iconst 1, 1, [], .null)) rfl rfl (fun _ _ => rfl)
    obtain ⟨r1, r2⟩ := E.reti rfl (m := 1) (ax := []) (w := .null) rfl
    subst r1 r2
    exact Or.inr (Or.inr (⟨x21, x22, x23, x24, x25, c8, c9, c26, hrs.symm, hV27, (hN28.trans hN11)⟩))
theorem sp_83 {d : Nat} {h h' : ri_H} {v : Option Value} {g : eh_W} {bw fl ln ms a kd sa vl fa pl on il nm s0 s1 s2 s3 s4 q0 q1 q2 q3 lw hw : Int32} {cd : Int64} (E : ri_calE ri_md (d + 4) 83 [.ref 2, .int lw, .int hw] h = some (v, h')) (hV : eh_V h = eh_o (ac bw fl ln ms a kd sa vl cd fa pl on il nm s0 s1 s2 s3 s4 q0 q1 q2 q3) g) : (kd = 4 ∧ vl.toInt < lw.toInt ∧ v = some (.int (-1)) ∧ eh_V h' = eh_o (ac bw fl ln ms a kd sa vl cd 2 sa on il nm s0 s1 s2 s3 s4 q0 q1 q2 q3) g ∧ eh_N h' = eh_N h) ∨ (∃ (x8 : Int32), ∃ (x9 : Int32), ∃ (x10 : Int32), ∃ (x11 : Int32), ∃ (x12 : Int64), kd = 4 ∧ ¬ (vl.toInt < lw.toInt) ∧ ¬ (hw.toInt < vl.toInt) ∧ lx_C g ln ms a x8 x9 x10 x11 x12 ∧ v = some (.int vl) ∧ eh_V h' = eh_o (ac bw fl ln ms x8 x9 x10 x11 x12 fa pl on il nm s0 s1 s2 s3 s4 q0 q1 q2 q3) g ∧ eh_N h' = eh_N h) ∨ (kd = 4 ∧ ¬ (vl.toInt < lw.toInt) ∧ hw.toInt < vl.toInt ∧ v = some (.int (-1)) ∧ eh_V h' = eh_o (ac bw fl ln ms a kd sa vl cd 2 sa on il nm s0 s1 s2 s3 s4 q0 q1 q2 q3) g ∧ eh_N h' = eh_N h) ∨ (¬ (kd = 4) ∧ v = some (.int (-1)) ∧ eh_V h' = eh_o (ac bw fl ln ms a kd sa vl cd 1 sa on il nm s0 s1 s2 s3 s4 q0 q1 q2 q3) g ∧ eh_N h' = eh_N h) := by
  obtain ⟨rs, hrs, E⟩ := eh_in E (q := md_83) rfl
  have E := E.ld (p := 1) (t := ri_isA) (i := 0) (n := 1) (v := .ref 2) rfl (e := (.aload_n 0, 1, [], .null)) rfl rfl (fun _ _ => rfl) rfl rfl
  have E := E.gf (p := 4) (v := .int kd) rfl (x := 25) (m := 3) (w := .null) (t := 8) (i := 5) (u := 192) rfl hV rfl rfl
  have E := E.pu (p := 5) (lo' := (ri_as 0 [.ref 2, .int lw, .int hw])) (st' := [.int 4, .int kd]) rfl (e := (.iconst 4, 1, [], .null)) rfl rfl (fun _ _ => rfl)
  rcases eh_q0 (E.br (p := 8) (c := 0) (tgt := 16) (a := kd) (b := 4) (st' := []) rfl (e := (.if_icmp .eq 11, 3, [16], .null)) rfl rfl (fun _ _ => rfl) rfl) with ⟨c1, E⟩ | ⟨c1, E⟩
  · skip
    have E := E.ld (p := 17) (t := ri_isA) (i := 0) (n := 1) (v := .ref 2) rfl (e := (.aload_n 0, 1, [], .null)) rfl rfl (fun _ _ => rfl) rfl rfl
    have E := E.gf (p := 20) (v := .int vl) rfl (x := 31) (m := 3) (w := .null) (t := 8) (i := 7) (u := 197) rfl hV rfl rfl
    have E := E.ld (p := 21) (t := ri_isI) (i := 1) (n := 1) (v := .int lw) rfl (e := (.iload_n 1, 1, [], .null)) rfl rfl (fun _ _ => rfl) rfl rfl
    rcases eh_q2 (E.br (p := 24) (c := 2) (tgt := 32) (a := vl) (b := lw) (st' := []) rfl (e := (.if_icmp .lt 11, 3, [32], .null)) rfl rfl (fun _ _ => rfl) rfl) with ⟨c2, E⟩ | ⟨c2, E⟩
    · skip
      have E := E.ld (p := 33) (t := ri_isA) (i := 0) (n := 1) (v := .ref 2) rfl (e := (.aload_n 0, 1, [], .null)) rfl rfl (fun _ _ => rfl) rfl rfl
      have E := E.pu (p := 34) (lo' := (ri_as 0 [.ref 2, .int lw, .int hw])) (st' := [.int 2, .ref 2]) rfl (e := (.iconst 2, 1, [], .null)) rfl rfl (fun _ _ => rfl)
      obtain ⟨v1, h1, X, E⟩ := E.cv (p := 37) (as := [.int 2]) (b := 2) (r := []) rfl (x := 84) (m := 3) (w := .null) (j := 78) (n := 1) (t := 8) (u := [700, 678, 677]) rfl rfl rfl
      rcases sp_78 (d := d + 2) X hV with ⟨rfl, hV3, hN4⟩
      have E : eh_e _ _ 37 (ri_as 0 [.ref 2, .int lw, .int hw]) [.int 0] h1 rs h' := E
      have E := E.pu (p := 38) (lo' := (ri_as 0 [.ref 2, .int lw, .int hw])) (st' := []) rfl (e := (.pop, 1, [], .null)) rfl rfl (fun _ _ => rfl)
      have E := E.pu (p := 39) (lo' := (ri_as 0 [.ref 2, .int lw, .int hw])) (st' := [.int (-1)]) rfl (e := (.iconst (-1), 1, [], .null)) rfl rfl (fun _ _ => rfl)
      obtain ⟨r1, r2⟩ := E.reti rfl (m := 1) (ax := []) (w := .null) rfl
      subst r1 r2
      exact Or.inl ⟨c1, c2, hrs.symm, hV3, hN4⟩
    · skip
      have E := E.ld (p := 25) (t := ri_isA) (i := 0) (n := 1) (v := .ref 2) rfl (e := (.aload_n 0, 1, [], .null)) rfl rfl (fun _ _ => rfl) rfl rfl
      have E := E.gf (p := 28) (v := .int vl) rfl (x := 31) (m := 3) (w := .null) (t := 8) (i := 7) (u := 197) rfl hV rfl rfl
      have E := E.ld (p := 29) (t := ri_isI) (i := 2) (n := 1) (v := .int hw) rfl (e := (.iload_n 2, 1, [], .null)) rfl rfl (fun _ _ => rfl) rfl rfl
      rcases eh_q5 (E.br (p := 32) (c := 5) (tgt := 40) (a := vl) (b := hw) (st' := []) rfl (e := (.if_icmp .le 11, 3, [40], .null)) rfl rfl (fun _ _ => rfl) rfl) with ⟨c6, E⟩ | ⟨c6, E⟩
      · skip
        have E := E.ld (p := 41) (t := ri_isA) (i := 0) (n := 1) (v := .ref 2) rfl (e := (.aload_n 0, 1, [], .null)) rfl rfl (fun _ _ => rfl) rfl rfl
        have E := E.gf (p := 44) (v := .int vl) rfl (x := 31) (m := 3) (w := .null) (t := 8) (i := 7) (u := 197) rfl hV rfl rfl
        have E := E.so (p := 45) (t := ri_isI) (i := 3) (n := 1) rfl (e := (.istore_n 3, 1, [], .null)) rfl rfl (fun _ _ => rfl) rfl
        have k7_3 : ri_lk (ri_st1 (ri_as 0 [.ref 2, .int lw, .int hw]) 3 (.int vl)) 3 = some (.int vl) := eh_self
        have k7_0 : ri_lk (ri_st1 (ri_as 0 [.ref 2, .int lw, .int hw]) 3 (.int vl)) 0 = some (.ref 2) := eh_keep (by decide) (Or.inl rfl) rfl
        have k7_1 : ri_lk (ri_st1 (ri_as 0 [.ref 2, .int lw, .int hw]) 3 (.int vl)) 1 = some (.int lw) := eh_keep (by decide) (Or.inl rfl) rfl
        have k7_2 : ri_lk (ri_st1 (ri_as 0 [.ref 2, .int lw, .int hw]) 3 (.int vl)) 2 = some (.int hw) := eh_keep (by decide) (Or.inl rfl) rfl
        have E := E.ld (p := 46) (t := ri_isA) (i := 0) (n := 1) (v := .ref 2) rfl (e := (.aload_n 0, 1, [], .null)) rfl rfl (fun _ _ => rfl) k7_0 rfl
        obtain ⟨v1, h1, X, E⟩ := E.cv (p := 49) (as := []) (b := 2) (r := []) rfl (x := 67) (m := 3) (w := .null) (j := 74) (n := 0) (t := 8) (u := [646, 648, 647]) rfl rfl rfl
        rcases sp_74 (d := d + 0) X hV with ⟨x8, x9, x10, x11, x12, c13, rfl, hV14, hN15⟩
        have E : eh_e _ _ 49 (ri_st1 (ri_as 0 [.ref 2, .int lw, .int hw]) 3 (.int vl)) [] h1 rs h' := E
        have E := E.ld (p := 50) (t := ri_isI) (i := 3) (n := 1) (v := .int vl) rfl (e := (.iload_n 3, 1, [], .null)) rfl rfl (fun _ _ => rfl) k7_3 rfl
        obtain ⟨r1, r2⟩ := E.reti rfl (m := 1) (ax := []) (w := .null) rfl
        subst r1 r2
        exact Or.inr (Or.inl ⟨x8, x9, x10, x11, x12, c1, c2, c6, c13, hrs.symm, hV14, hN15⟩)
      · skip
        have E := E.ld (p := 33) (t := ri_isA) (i := 0) (n := 1) (v := .ref 2) rfl (e := (.aload_n 0, 1, [], .null)) rfl rfl (fun _ _ => rfl) rfl rfl
        have E := E.pu (p := 34) (lo' := (ri_as 0 [.ref 2, .int lw, .int hw])) (st' := [.int 2, .ref 2]) rfl (e := (.iconst 2, 1, [], .null)) rfl rfl (fun _ _ => rfl)
        obtain ⟨v1, h1, X, E⟩ := E.cv (p := 37) (as := [.int 2]) (b := 2) (r := []) rfl (x := 84) (m := 3) (w := .null) (j := 78) (n := 1) (t := 8) (u := [700, 678, 677]) rfl rfl rfl
        rcases sp_78 (d := d + 2) X hV with ⟨rfl, hV17, hN18⟩
        have E : eh_e _ _ 37 (ri_as 0 [.ref 2, .int lw, .int hw]) [.int 0] h1 rs h' := E
        have E := E.pu (p := 38) (lo' := (ri_as 0 [.ref 2, .int lw, .int hw])) (st' := []) rfl (e := (.pop, 1, [], .null)) rfl rfl (fun _ _ => rfl)
        have E := E.pu (p := 39) (lo' := (ri_as 0 [.ref 2, .int lw, .int hw])) (st' := [.int (-1)]) rfl (e := (.iconst (-1), 1, [], .null)) rfl rfl (fun _ _ => rfl)
        obtain ⟨r1, r2⟩ := E.reti rfl (m := 1) (ax := []) (w := .null) rfl
        subst r1 r2
        exact Or.inr (Or.inr (Or.inl ⟨c1, c2, c6, hrs.symm, hV17, hN18⟩))
  · skip
    have E := E.ld (p := 9) (t := ri_isA) (i := 0) (n := 1) (v := .ref 2) rfl (e := (.aload_n 0, 1, [], .null)) rfl rfl (fun _ _ => rfl) rfl rfl
    have E := E.pu (p := 10) (lo' := (ri_as 0 [.ref 2, .int lw, .int hw])) (st' := [.int 1, .ref 2]) rfl (e := (.iconst 1, 1, [], .null)) rfl rfl (fun _ _ => rfl)
    obtain ⟨v1, h1, X, E⟩ := E.cv (p := 13) (as := [.int 1]) (b := 2) (r := []) rfl (x := 84) (m := 3) (w := .null) (j := 78) (n := 1) (t := 8) (u := [700, 678, 677]) rfl rfl rfl
    rcases sp_78 (d := d + 2) X hV with ⟨rfl, hV20, hN21⟩
    have E : eh_e _ _ 13 (ri_as 0 [.ref 2, .int lw, .int hw]) [.int 0] h1 rs h' := E
    have E := E.pu (p := 14) (lo' := (ri_as 0 [.ref 2, .int lw, .int hw])) (st' := []) rfl (e := (.pop, 1, [], .null)) rfl rfl (fun _ _ => rfl)
    have E := E.pu (p := 15) (lo' := (ri_as 0 [.ref 2, .int lw, .int hw])) (st' := [.int (-1)]) rfl (e := (.iconst (-1), 1, [], .null)) rfl rfl (fun _ _ => rfl)
    obtain ⟨r1, r2⟩ := E.reti rfl (m := 1) (ax := []) (w := .null) rfl
    subst r1 r2
    exact Or.inr (Or.inr (Or.inr (⟨c1, hrs.symm, hV20, hN21⟩)))
