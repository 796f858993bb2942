/-! a ONE, a CONDITION: by depth -/
section ONE
variable {e n m : Nat} {b : Nat → Int32} {q : Nat → Nat} {Gc0 Gm0 : eh_W} {hm' : ri_H} {rs2 : List Value}
theorem cl_bad {D : Nat} {x : Int32} {lo1 : List (Nat × Value)} {hs hc' : ri_H} {rs1 : List Value} {dp oo i : Int32} (hx : x = 0) (E : eh_e (ri_calE ri_md (D + 2)) md_96 13 lo1 [] hs rs1 hc') (a0 : ri_lk lo1 0 = some (.ref 17)) (a1 : ri_lk lo1 1 = some (.ref 23)) (a2 : ri_lk lo1 2 = some (.int dp)) (a3 : ri_lk lo1 3 = some (.int x)) (a4 : ri_lk lo1 4 = some (.int oo)) (a5 : ri_lk lo1 5 = some (.int i)) (is : iS b n m (eh_V hs)) : rs1.head? = some (.int 0) ∧ (∀ i, eh_V hc' 2 i = eh_V hs 2 i) ∧ iS b n m (eh_V hc') := by
  subst hx
  rcases zc_l (d := D) E rfl is a0 a1 a2 a3 a4 a5 with ⟨-, -, r1, r2, -, r4⟩ | ⟨h3, -, -, X, -, r1, r2, -, r4⟩ | ⟨-, -, -, r1, r2, -, r4⟩ | ⟨h3, -, -, -, X, -, r1, r2, -, r4⟩ | ⟨-, c, -⟩ | ⟨_, _, -, c, -⟩ | ⟨-, c, -⟩ | ⟨_, _, -, c, -⟩ | ⟨_, _, -, c, -⟩ | ⟨_, _, -, c, -⟩ | ⟨_, _, _, -, c, -⟩
  · exact ⟨by rw [r1]; rfl, fun i => (by rw [r2]), by rw [r2]; exact r4⟩
  · exact ⟨by rw [r1]; rfl, fun i => (by rw [r2]; exact add_2 (d := D + 1) X is.1 i), by rw [r2]; exact r4⟩
  · exact ⟨by rw [r1]; rfl, fun i => (by rw [r2]), by rw [r2]; exact r4⟩
  · exact ⟨by rw [r1]; rfl, fun i => (by rw [r2]; exact add_2 (d := D + 1) X is.1 i), by rw [r2]; exact r4⟩
  all_goals exact absurd rfl c
theorem J_cond {D dp B w : Nat} {hc hc' hm : ri_H} {v1 : Option Value} {lo : List (Nat × Value)} (dp9 : dp ≤ 9) (hB2 : B + 2 ≤ 3 * dp) (hG : 0 < B → eh_i (eh_V hm) 13 (B - 1) = 23)
    (H1 : ∀ (T w : Nat) (hc hm hc1 : ri_H) (v1 : Option Value) (lo : List (Nat × Value)), SJ b n m Gc0 Gm0 w T dp 0 (eh_V hc) (eh_V hm) → T ≤ 3 * dp → ri_calE ri_md (D + 2) 97 [.ref 17, .ref 23, .int (nI dp)] hc = some (v1, hc1) → HD e rs2 hm' hm lo → ONR b e n m Gc0 Gm0 w T dp v1 rs2 (eh_V hm) hc1 hm')
    (S : SJ b n m Gc0 Gm0 w B dp 0 (eh_V hc) (eh_V hm)) (E1 : ri_calE ri_md (D + 3) 96 [.ref 17, .ref 23, .int (nI dp)] hc = some (v1, hc')) (H : HD e rs2 hm' hm lo) : CNR b e n m (w + 1) Gc0 Gm0 B dp v1 rs2 (eh_V hm) hc' hm' := by
  obtain ⟨rs1, hrs1, E⟩ := eh_in E1 (q := md_96) rfl
  obtain ⟨h1, loz, v, hz, U1, -, -, Xc, Ec, m0, m1, m2⟩ := zc_a E rfl S.1 rfl rfl rfl
  rw [← hrs1]
  rcases H1 B w h1 hm hz v lo (by rw [U1]; exact S) (by omega) Xc H with ⟨p1, p2, p3, isz⟩ | ⟨p1, hz3, loz3, j3, w3, H3, p2, S3, p3, p4, p5⟩
  · subst p1
    obtain ⟨hy, loy, Ey, Vy, -, iy, b0, b1, b2, b3, b4, b5⟩ := zc_b (x := 0) Ec rfl isz m0 m1 m2
    obtain ⟨r1, r2, r4⟩ := cl_bad rfl Ey b0 b1 b2 b3 b4 b5 (by rw [Vy]; exact iy)
    exact Or.inl ⟨r1, p2, FL_2 p3 (fun i => by rw [r2 i, Vy]), r4⟩
  · subst p1
    obtain ⟨hy, loy, Ey, Vy, -, iy, b0, b1, b2, b3, b4, b5⟩ := zc_b (x := 1) Ec rfl S3.1 m0 m1 m2
    exact J_cl dp9 hB2 hG H1 21 0 loy hy hz3 loz3 j3 B w3 0 rfl Ey b0 b1 b2 b3 b4 b5 H3 (by rw [Vy]; exact S3) (by omega) p2 p3 (Or.inl rfl) p5 p4
theorem J_one (N : NS q Gc0 Gm0) : ∀ (k dp : Nat), dp + k = 9 → ∀ (d T w : Nat) (hc hm hc' : ri_H) (v1 : Option Value) (lo : List (Nat × Value)), SJ b n m Gc0 Gm0 w T dp 0 (eh_V hc) (eh_V hm) → T ≤ 3 * dp → ri_calE ri_md (d + 2 * k + 5) 97 [.ref 17, .ref 23, .int (nI dp)] hc = some (v1, hc') → HD e rs2 hm' hm lo → ONR b e n m Gc0 Gm0 w T dp v1 rs2 (eh_V hm) hc' hm' := by
  intro k
  induction k with
  | zero =>
    intro dp hk d T w hc hm hc' v1 lo S T3 E1 H
    have hwh := S.2.2.2.2.2.2.1
    have w0 : ∀ {p : Prop}, ¬ eh_i (eh_V hm) 0 43 = 0 → p := fun h => absurd hwh h
    rcases zt_h (d := e) H.1 rfl S.2.1 H.2.1 H.2.2 with ⟨x4, h2, -, X, i2, c, hz, loz, E2, V2, -, -, l0, l1⟩ | ⟨x4, h2, -, X, i2, c, r1, r2, -, -⟩ | ⟨_, _, c, -⟩ | ⟨_, _, c, -⟩ | ⟨_, _, c, -⟩ | ⟨_, _, c, -⟩
    · rcases J_oper S N (by omega) (by omega) E1 X with ⟨-, a, -⟩ | ⟨a1, a2, a3, a4⟩ | ⟨_, _, _, -, a, -⟩
      · exact absurd a c
      · exact Or.inr ⟨a1, hz, loz, 0, w + 1, ⟨E2, l0, l1⟩, Nat.le_refl _, by rw [V2]; exact a3, by omega, fun i _ => by rw [V2]; exact a4 i, fun i h1 h2 => by omega⟩
      · omega
    · rcases J_oper S N (by omega) (by omega) E1 X with ⟨a1, -, a3, a4⟩ | ⟨-, a, -⟩ | ⟨_, _, _, -, -, a, -⟩
      · exact Or.inl ⟨a1, by rw [r1, r2], by rw [r2]; exact a3, a4⟩
      · rw [a] at c; exact absurd c (by decide)
      · rw [a] at c; exact absurd c (by decide)
    all_goals exact w0 c
  | succ k ih =>
    intro dp hk d T w hc hm hc' v1 lo S T3 E1 H
    generalize hM : d + 2 * (k + 1) = M at E1
    have hwh := S.2.2.2.2.2.2.1
    have w0 : ∀ {p : Prop}, ¬ eh_i (eh_V hm) 0 43 = 0 → p := fun h => absurd hwh h
    rcases zt_h (d := e) H.1 rfl S.2.1 H.2.1 H.2.2 with ⟨x4, h2, -, X, i2, c, hz, loz, E2, V2, -, -, l0, l1⟩ | ⟨x4, h2, -, X, i2, c, r1, r2, -, -⟩ | ⟨_, _, c, -⟩ | ⟨_, _, c, -⟩ | ⟨_, _, c, -⟩ | ⟨_, _, c, -⟩
    · rcases J_oper (d := M) S N (by omega) (by omega) E1 X with ⟨-, a, -⟩ | ⟨a1, a2, a3, a4⟩ | ⟨j, pc, s, hj, dp8, -, ⟨h1, lo1, v, hzc, rs1, hrs1, Xc, Ec, m0, m1, m2, S1⟩, st1, st2⟩
      · exact absurd a c
      · exact Or.inr ⟨a1, hz, loz, 0, w + 1, ⟨E2, l0, l1⟩, Nat.le_refl _, by rw [V2]; exact a3, by omega, fun i _ => by rw [V2]; exact a4 i, fun i h1 h2 => by omega⟩
      · rw [← V2] at S1 st1 st2
        rcases hj with ⟨rfl, rfl, rfl⟩ | ⟨rfl, rfl, rfl⟩
        · have Xc' : ri_calE ri_md (d + 1 + 2 * k + 5) 97 [.ref 17, .ref 23, .int (nI (dp + 1))] h1 = some (v, hzc) := by
            rw [show d + 1 + 2 * k + 5 = M + 4 by omega]
            exact Xc
          rcases ih (dp + 1) (by omega) (d + 1) (T + 1) (w + 1) h1 hz hzc v loz S1 (by omega) Xc' ⟨E2, l0, l1⟩ with ⟨p1, p2, p3, isz⟩ | ⟨p1, hz3, loz3, j3, w3, H3, p2, S3, p3, p4, p5⟩
          · subst p1
            obtain ⟨hy, X8, i8, r1, r2, -, -⟩ := zo_n (d := M + 3) (x := 0) Ec rfl isz m0 m1 m2
            exact Or.inl ⟨by rw [← hrs1, r1]; rfl, p2, FL_2 p3 (fun i => by rw [r2]; exact add_2 (d := M + 3) X8 isz.1 i), by rw [r2]; exact i8⟩
          · subst p1
            obtain ⟨hy, X8, i8, r1, r2, -, -⟩ := zo_n (d := M + 3) (x := 1) Ec rfl S3.1 m0 m1 m2
            refine Or.inr ⟨by rw [← hrs1, r1]; rfl, hz3, loz3, j3 + 1, w3, H3, by omega, ?_, by omega, fun i hi => (p4 i (by omega)).trans (st1 i (by omega)), fun i a1 a2 => ?_⟩
            · rw [r2, show T + (j3 + 1) = T + 1 + j3 by omega, show dp + (j3 + 1) = dp + 1 + j3 by omega]
              exact (SJ_add (d := M + 3) S3 X8).1
            · by_cases ei : i = T
              · rw [ei]
                exact (p4 T (by omega)).trans st2
              · exact p5 i (by omega) (by omega)
        · have CN := J_cond (D := M + 1) (dp := dp + 1) (B := T + 1) (e := e) (rs2 := rs2) (hm' := hm') (by omega) (by omega) (fun _ => st2) (fun T w hc hm hc1 v1 lo S' T3' E1' H' => ih (dp + 1) (by omega) d T w hc hm hc1 v1 lo S' T3' (by rw [show d + 2 * k + 5 = M + 1 + 2 by omega]; exact E1') H') S1 Xc ⟨E2, l0, l1⟩
          rcases CN with ⟨p1, p2, p3, isz⟩ | ⟨p1, hz3, loz3, j3, T', w3, H3, p2, S3, p3, p4, p5, p6, p7, p8, p9⟩
          · subst p1
            rcases zo_b (d := M + 1) (x := 0) Ec rfl isz m0 m1 m2 with ⟨-, r1, r2, -, r4⟩ | ⟨_, _, c, -⟩ | ⟨_, _, c, -⟩
            · exact Or.inl ⟨by rw [← hrs1, r1]; rfl, p2, by rw [r2]; exact p3, by rw [r2]; exact r4⟩
            · exact absurd rfl c
            · exact absurd rfl c
          · subst p1
            obtain ⟨is3, it3, J3, fc3, fm3, ⟨w1, w2, w20⟩, hwh3, tp3, dp3⟩ := id S3
            have sg : ∃ (x4 : Int32) (hy : ri_H), ri_calE ri_md (M + 4) 82 [.ref 2, .int 41] hzc = some (some (.int x4), hy) ∧ iS b n m (eh_V hy) ∧ rs1.head? = some (.int (if x4 = 0 then 0 else 1)) ∧ eh_V hc' = eh_V hy := by
              rcases zo_b (d := M + 1) (x := 1) Ec rfl is3 m0 m1 m2 with ⟨c, -⟩ | ⟨x4, hy, -, X8, i8, c, r1, r2, -, -⟩ | ⟨x4, hy, -, X8, i8, c, r1, r2, -, -⟩
              · exact absurd c (by decide)
              · exact ⟨x4, hy, X8, i8, by rw [r1, if_pos c]; rfl, r2⟩
              · exact ⟨x4, hy, X8, i8, by rw [r1, if_neg c]; rfl, r2⟩
            obtain ⟨x82, hy, X82, i82, r1, r2⟩ := sg
            rw [hrs1] at r1
            have z82 := sp_82 (d := M + 1) X82 rfl (is3.C (eh_V hz3))
            have nosign : ¬ (eh_i (eh_V hzc) 2 5 = 5 ∧ eh_i (eh_V hzc) 2 7 = 41) → v1 = some (.int 0) ∧ eh_V hc' = eh_u (eh_u (eh_V hzc) 2 9 (.int 1)) 2 10 (.int (eh_i (eh_V hzc) 2 6)) := fun no => by
              rcases z82 with ⟨-, s1, s2, -, -⟩ | ⟨-, -, s1, s2, -, -⟩ | ⟨_, _, c1, c2, -⟩
              · cases s1
                exact ⟨r1, r2.trans s2⟩
              · cases s1
                exact ⟨r1, r2.trans s2⟩
              · exact absurd ⟨c1, c2⟩ no
            have hB3 : eh_i (eh_V hz3) 13 T = 23 := (p6 T (by omega)).trans st2
            have tt : 0 < T' → eh_i (eh_V hz3) 13 (T' - 1) ≠ 20 := fun h0 x => by
              by_cases eT : T' = T + 1
              · rw [eT, show T + 1 - 1 = T by omega, hB3] at x
                exact absurd x (by decide)
              · have := p7 (T' - 1) (by omega) (by omega)
                rw [x] at this
                rcases this with y | ⟨y, -⟩
                · exact absurd y (by decide)
                · exact absurd y (by decide)
            have topB : ∀ {G2 : eh_W}, jn b n m T' (dp + 1) 22 (eh_V hz3) G2 → eh_i G2 0 41 = nI (T + 1) := fun qj => qj.2.2.2 (T + 1) p4 p7 (fun _ => by
              rw [show T + 1 - 1 = T by omega]
              exact no23 hB3)
            have nT : ∀ {x : Int32}, x = nI (T + 1) → 0 < x.toInt ∧ ¬ x = 0 := fun {x} hx => by
              have : x.toInt = ((T + 1 : Nat) : Int) := by rw [hx, lx_i (by omega)]
              refine ⟨by omega, fun y => ?_⟩
              rw [y] at this
              have z : (0 : Int32).toInt = 0 := by decide
              omega
            rcases zt_h (d := e) H3.1 rfl it3 H3.2.1 H3.2.2 with ⟨_, _, c, -⟩ | ⟨_, _, c, -⟩ | ⟨x9, h7, -, c0, X7, i7, c, hz4, loz4, E4, V4, -, -, u0, u1⟩ | ⟨x9, h7, -, c0, X7, i7, c, s1, s2, -, -⟩ | ⟨h11, h13, -, c0, X11, -, X13, -, c, -⟩ | ⟨h11, h13, -, c0, X11, -, X13, -, c, s1, s2, -, -⟩
            · rw [hwh3] at c; exact absurd c (by decide)
            · rw [hwh3] at c; exact absurd c (by decide)
            · obtain ⟨ti, h2b, qj, g2, R⟩ := J_beh X7 it3 (by omega) (by omega) tp3 dp3 p8 tt
              rcases R with ⟨k1, k2, -⟩ | ⟨-, -, rfl, R⟩
              · refine absurd ?_ p9
                rcases J3.ks with ⟨a, z⟩ | ⟨a, z⟩ | ⟨a, z, kk, h5, h6, h7⟩ | ⟨a, z, -, h5⟩ | ⟨a, z, -⟩ | ⟨a, z, -⟩
                · rw [z] at k1; exact absurd k1 (by decide)
                · rw [z] at k1; exact absurd k1 (by decide)
                · rcases k2 with ⟨-, k2⟩ | ⟨-, k2⟩
                  · have := Wd_inj ⟨14, by decide⟩ ⟨kk, h5⟩ (k2.symm.trans h7)
                    dsimp only at this
                    subst this
                    exact ⟨a, Or.inr h6⟩
                  · have := Wd_inj ⟨13, by decide⟩ ⟨kk, h5⟩ (k2.symm.trans h7)
                    dsimp only at this
                    subst this
                    exact ⟨a, Or.inl h6⟩
                · rcases k2 with ⟨-, k2⟩ | ⟨-, k2⟩
                  · exact absurd k2 (h5 14 (by decide))
                  · exact absurd k2 (h5 13 (by decide))
                · rw [z] at k1; exact absurd k1 (by decide)
                · rw [z] at k1; exact absurd k1 (by decide)
              · rcases R with ⟨k1, k2, k3, -, h3, h4, V3, X4, i4, V7⟩ | ⟨-, k2, -⟩
                · have kd : eh_i (eh_V hzc) 2 5 = 5 ∧ eh_i (eh_V hzc) 2 7 = 41 := by
                    rcases J3.k5 with ⟨a, z, y⟩ | ⟨a, z⟩
                    · exact ⟨a, y.symm.trans k2⟩
                    · exact absurd k1 z
                  have t2 := topB qj
                  obtain ⟨i2b, f2, d2, -⟩ := qj
                  rw [t2, d2, show nI (T + 1) - 1 = nI (T + 1 - 1) from lx_sub (b := 1) (by omega), show nI (dp + 1) - 1 = nI (dp + 1 - 1) from lx_sub (b := 1) (by omega), Nat.add_sub_cancel, Nat.add_sub_cancel] at V3
                  have i3 : iT b n m (eh_V h3) := by
                    rw [V3]
                    have j0 : iT b n m (eh_u (eh_V h2b) 0 41 (.int (nI T))) := iT_u i2b (i2b.1.ui rfl) rfl
                    exact iT_u j0 (j0.1.ui rfl) rfl
                  have h34 : eh_i (eh_V h3) 0 4 = eh_i (eh_V hz3) 0 4 := by
                    rw [V3]
                    exact (show _ = eh_i (eh_V h2b) 0 4 from rfl).trans (ei_eq (g2 4 (by decide)))
                  rcases z82 with ⟨c1, -⟩ | ⟨-, c1, -⟩ | ⟨hx, h19, -, -, Vx, X19, i19, s1, s2, -, -⟩
                  · exact absurd kd.1 c1
                  · exact absurd kd.2 c1
                  · cases s1
                    obtain ⟨J4, y1, y2⟩ := JS_next (d := M + 1) (e := e + 1) J3 (by rw [kd.1]; decide) X19 X4 (by rw [Vx]; exact is3) i3 (by rw [Vx]) h34
                    rw [Vx] at y1
                    have hz4V : eh_V hz4 = eh_V h4 := V4.trans V7
                    refine Or.inr ⟨r1, hz4, loz4, 0, w3, ⟨E4, u0, u1⟩, by omega, ?_, by omega, fun i hi => ?_, fun i a1 a2 => by omega⟩
                    · rw [hz4V, r2, s2]
                      refine ⟨by rw [← s2]; exact i82, i4, J4, fc3.tr (y1.mo pS_ct), ?_, ⟨(y1.i rfl).trans w1, ?_, w20⟩, ?_, ?_, ?_⟩
                      · refine (fm3.tr (f2.mo pS_no)).tr (eh_fr.tr ?_ (y2.mo pS_mt))
                        rw [V3]
                        exact (eh_fr.rf.up rfl).up rfl
                      · refine (y2.i rfl).trans ?_
                        rw [V3]
                        exact (show _ = eh_i (eh_V h2b) 0 40 from rfl).trans ((f2.i rfl).trans w2)
                      · refine (y2.i rfl).trans ?_
                        rw [V3]
                        exact (show _ = eh_i (eh_V h2b) 0 43 from rfl).trans ((f2.i rfl).trans hwh3)
                      · refine (y2.i rfl).trans ?_
                        rw [V3]
                        rfl
                      · refine (y2.i rfl).trans ?_
                        rw [V3]
                        rfl
                    · rw [hz4V]
                      refine (y2.i rfl).trans ?_
                      rw [V3]
                      exact (show _ = eh_i (eh_V h2b) 13 i from rfl).trans ((f2.i rfl).trans ((p6 i (by omega)).trans (st1 i (by omega))))
                · rw [k2] at c
                  exact absurd rfl c
            · obtain ⟨ti, h2b, qj, g2, R⟩ := J_beh X7 it3 (by omega) (by omega) tp3 dp3 p8 tt
              rcases R with ⟨-, -, k2, -⟩ | ⟨-, -, rfl, R⟩
              · rw [k2] at c; exact absurd c (by decide)
              · rcases R with ⟨-, -, -, k2, -⟩ | ⟨k1, -, V7⟩
                · rw [k2] at c; exact absurd c (by decide)
                · have t2 := topB qj
                  obtain ⟨f1, f2⟩ := nosign (fun x => k1 (by
                    rcases J3.k5 with ⟨a, z, y⟩ | ⟨a, z⟩
                    · exact ⟨z, y.trans x.2, (nT t2).2⟩
                    · exact absurd x.1 a))
                  obtain ⟨f3, -, -⟩ := (JT_fm J3 (fun i hi => g2 i (by omega))).fl f2 V7 (by decide)
                  exact Or.inl ⟨f1, by rw [s1, s2], by rw [s2]; exact f3, by rw [r2]; exact i82⟩
            · obtain ⟨qj, -, -⟩ := jn_of (e := e + 2) it3 X11 rfl X13 (by omega) (by omega) tp3 dp3 p8 tt
              exact absurd (nT (topB qj)).1 c
            · obtain ⟨qj, -, g2⟩ := jn_of (e := e + 2) it3 X11 rfl X13 (by omega) (by omega) tp3 dp3 p8 tt
              obtain ⟨f1, f2⟩ := nosign (fun x => by
                rcases J3.k0 with ⟨a, z⟩ | ⟨a, z⟩
                · rw [a] at x; exact absurd x.1 (by decide)
                · exact absurd c0 z)
              obtain ⟨f3, -, -⟩ := (JT_fm J3 (fun i hi => g2 i (by omega))).fl f2 s2 (by decide)
              exact Or.inl ⟨f1, by rw [s1, s2]; rfl, f3, by rw [r2]; exact i82⟩
    · rcases J_oper (d := M) S N (by omega) (by omega) E1 X with ⟨a1, -, a3, a4⟩ | ⟨-, a, -⟩ | ⟨_, _, _, -, -, a, -⟩
      · exact Or.inl ⟨a1, by rw [r1, r2], by rw [r2]; exact a3, a4⟩
      · rw [a] at c; exact absurd c (by decide)
      · rw [a] at c; exact absurd c (by decide)
    all_goals exact w0 c
end ONE
