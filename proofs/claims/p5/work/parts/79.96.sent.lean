/-! sentence(), on both sides -/
section SENT
variable {d e n : Nat} {hc hc' hm hm' : ri_H} {v1 v2 : Option Value} {q : Nat → Nat}
theorem zt_lp {cal : eh_K} {rs : List Value} {h' : ri_H} {b : Nat → Int32} {n m : Nat} : ∀ (f : Nat) (k : Int32) (lo : List (Nat × Value)) (h : ri_H) (G : eh_W), ((3 * eh_i G 0 39).toInt - k.toInt).toNat = f → eh_e cal md_248 146 lo [] h rs h' → eh_V h = G → iT b n m G → ri_lk lo 0 = some (.ref 0) → ri_lk lo 1 = some (.int 0) → ri_lk lo 2 = some (.int k) → rs = [.int (eh_i G 0 40)] ∧ eh_i (eh_V h') 0 15 = eh_i G 0 15 := by
  intro f
  induction f with
  | zero =>
    intro k lo h G hf E hV ty l0 l1 l2
    rcases zt_f E hV ty l0 l1 l2 with ⟨c, r1, r2, -⟩ | ⟨c, -⟩
    · exact ⟨r1, by rw [r2]⟩
    · omega
  | succ f ih =>
    intro k lo h G hf E hV ty l0 l1 l2
    rcases zt_f E hV ty l0 l1 l2 with ⟨c, r1, r2, -⟩ | ⟨c, h1, lo1, E1, v1, -, t1, m0, m1, m2⟩
    · exact ⟨r1, by rw [r2]⟩
    · have k1 : (k + 1).toInt = k.toInt + 1 := by
        have e1 : (1 : Int32).toInt = 1 := by decide
        have a := Int32.le_toInt k
        have a2 := Int32.toInt_lt (3 * eh_i G 0 39)
        rw [Int32.toInt_add, e1]
        exact Int.bmod_eq_of_le (by omega) (by omega)
      exact ih (k + 1) lo1 h1 (eh_u G 2 (175 + k).toNatClampNeg (.int (eh_i G 4 k.toNatClampNeg))) (by
        rw [show eh_i (eh_u G 2 (175 + k).toNatClampNeg (.int (eh_i G 4 k.toNatClampNeg))) 0 39 = eh_i G 0 39 from rfl, k1]
        omega) E1 v1 t1 m0 m1 m2
theorem J_sent (E1 : ri_calE ri_md (d + 25) 139 [.ref 0] hc = some (v1, hc')) (E2 : ri_calE ri_md (e + 6) 248 [.ref 0] hm = some (v2, hm')) (tc : eh_ty tC (eh_V hc)) (tm : eh_ty tM (eh_V hm)) (hl : (eh_N hc).take 209 = NCl) (hn : eh_i (eh_V hc) 0 1 = nI n) (hn' : eh_i (eh_V hm) 0 2 = nI n) (n9 : n ≤ 940) (hb : ∀ i, i < 940 → eh_i (eh_V hc) 1 i = eh_i (eh_V hm) 1 i) (hr : ∀ i, i < 940 → -128 ≤ (eh_i (eh_V hm) 1 i).toInt ∧ (eh_i (eh_V hm) 1 i).toInt ≤ 127) (hk : ∀ k, k < 24 → eh_l (eh_V hc) 3 k = lx_K k) (hk' : ∀ k, k < 24 → eh_l (eh_V hm) 6 k = lx_Wd k) (N : NS q (eh_V hc) (eh_V hm)) : v1 = v2 ∧ eh_i (eh_V hc') 0 15 = eh_i (eh_V hm') 0 15 := by
  obtain ⟨rs1, hrs1, E1⟩ := eh_in E1 (q := md_139) rfl
  obtain ⟨rs2, hrs2, E2⟩ := eh_in E2 (q := md_248) rfl
  have bl : ∀ i, i < 940 → bc (bb (eh_V hc) (eh_V hm)) (eh_i (eh_V hm) 0 19) i = eh_i (eh_V hm) 1 i := fun i hi => (bc_lt hi).trans (bb_lt hi)
  have b9 : bc (bb (eh_V hc) (eh_V hm)) (eh_i (eh_V hm) 0 19) 940 = eh_i (eh_V hm) 0 19 := bc_at
  have bm : ∀ k i, 2 ≤ k → k < 100 → i < 1000 → bc (bb (eh_V hc) (eh_V hm)) (eh_i (eh_V hm) 0 19) (1000 * k + i) = eh_i (eh_V hm) k i := fun k i h1 h2 h3 => (bc_gt (by omega)).trans (bb_m h1 h2 h3)
  have bk : ∀ k i, i < 1000 → bc (bb (eh_V hc) (eh_V hm)) (eh_i (eh_V hm) 0 19) (100000 + 1000 * k + i) = eh_i (eh_V hc) k i := fun k i h3 => (bc_gt (by omega)).trans (bb_c h3)
  generalize bc (bb (eh_V hc) (eh_V hm)) (eh_i (eh_V hm) 0 19) = b at bl b9 bm bk
  -- the class, to its CONDITION
  obtain ⟨ha, loa, va, h3, Ua, na, ta, Xa, Ea, ma0⟩ := zx_a E1 rfl tc rfl
  obtain ⟨z1e, n3, c1, c2, ic1, a4, X74, ic2, V3, k3, f3⟩ := sq_105 (d := d + 20) (b := b) (m := 200) Xa Ua tc (by rw [na]; exact hl) hn n9 rfl (by decide) (fun i hi => (hb i (by omega)).trans (bl i (by omega)).symm) hk (fun k i _ h3 => (bk k i h3).symm)
  subst z1e
  have is2 : iS b n 200 (eh_V c2) := ic2.S (fun _ _ => rfl)
  have is3 : iS b n 200 (eh_V h3) := by
    rw [V3]
    exact iS_u is2 (is2.1.ui rfl) rfl
  obtain ⟨hb1, lob, vb, h4, Ub, nb, tb, Xb, Eb, mb0⟩ := zx_c Ea rfl is3.1 ma0
  obtain ⟨rs95, hrs95, E95⟩ := eh_in Xb (q := md_95) rfl
  obtain ⟨h5, lo5, v5, h6, U5, n5, i5, X96, E5, m50, m51⟩ := zw_a (d := d + 22) E95 rfl (by rw [Ub]; exact is3) rfl rfl
  rw [Ub] at U5 i5
  rw [← U5] at i5
  -- the reference, to its CONDITION
  obtain ⟨hz0, loz0, Ez0, Vz0, nz0, tz0, l0⟩ := zt_a (d := e + 4) E2 rfl tm rfl
  have fr0 : eh_fr (fun k _ => Nat.beq k 0) (eh_V hm) (eh_V hz0) := by
    rw [Vz0]
    exact ((((((((((eh_fr.rf.up rfl).up rfl).up rfl).up rfl).up rfl).up rfl).up rfl).up rfl).up rfl).up rfl).up rfl
  have im1 : iM b n 200 (eh_V hz0) := by
    refine ⟨by rw [Vz0]; exact tz0, ⟨by rw [Vz0]; exact hn', by rw [Vz0]; rfl, n9, by decide, fun i hi => (fr0.i rfl).trans (bl i (by omega)).symm, fun k hk => (fr0.l rfl).trans (hk' k hk), fun i hi => ?_, by rw [Vz0]; exact b9.symm, fun k i h1 h3 => (fr0.i (eh_bf (by omega))).trans (bm k i (by omega) (by omega) h3).symm⟩, 0, Nat.zero_le _, by rw [Vz0]; rfl⟩
    rw [bl i (by omega)]
    exact hr i (by omega)
  have it1 : iT b n 200 (eh_V hz0) := im1.T (fun _ _ => rfl)
  obtain ⟨h1m, X158, i1m, hz1, loz1, Ez1, Vz1, -, iz1, q0, q1⟩ := zt_b (d := e + 3) Ez0 rfl it1 l0
  obtain ⟨J, fc, fm⟩ := J_first X74 X158 ic1 im1 a4 (by rw [Vz0]; rfl)
  have N' : NS q (eh_V h5) (eh_V hz1) := by
    have F1 : eh_fr (fun k _ => Nat.ble k 22) (eh_V hc) (eh_V h5) := (k3.mo (fun k i h => lx_no (fun x => by
      have := Nat.ble_eq.mp x
      rw [Nat.ble_eq.mpr (show k ≤ 22 by omega)] at h
      cases h))).tr (by
      rw [U5]
      exact (eh_fr.rf.up rfl).up rfl)
    have F2 : eh_fr (fun k _ => Nat.beq k 0) (eh_V hm) (eh_V hz1) := by
      rw [Vz1]
      refine fr0.tr (fm.mo (fun k i h => ?_))
      unfold pMt
      rw [h]
      rfl
    exact NS_mv N (fun k i hk => F1 k i (lx_no (fun x => by have := Nat.ble_eq.mp x; omega))) (fun k i hk => F2 k i (by rcases hk with rfl | rfl <;> rfl))
  have fC0 : eh_i (eh_V h5) 2 9 = 0 := by
    rw [U5, V3]
    exact f3
  have fM0 : eh_i (eh_V hz1) 0 15 = 0 := by
    rw [Vz1]
    refine (fm.i rfl).trans ?_
    rw [Vz0]
    rfl
  have S : SJ b n 200 (eh_V h5) (eh_V hz1) 0 0 1 0 (eh_V h5) (eh_V hz1) := by
    refine ⟨i5, by rw [Vz1]; exact i1m, ?_, eh_fr.rf, eh_fr.rf, ⟨by rw [U5]; rfl, ?_, by decide⟩, ?_, ?_, ?_⟩
    · rw [U5, V3, Vz1]
      exact JT_fc J (fun i => rfl)
    · rw [Vz1]
      refine (fm.i rfl).trans ?_
      rw [Vz0]
      rfl
    · rw [Vz1]
      refine (fm.i rfl).trans ?_
      rw [Vz0]
      rfl
    · rw [Vz1]
      refine (fm.i rfl).trans ?_
      rw [Vz0]
      rfl
    · rw [Vz1]
      refine (fm.i rfl).trans ?_
      rw [Vz0]
      rfl
  have CN := J_cond (D := d + 20) (dp := 1) (B := 0) (e := e + 1) (rs2 := rs2) (hm' := hm') (by decide) (by decide) (fun h => absurd h (Nat.lt_irrefl 0)) (fun T w hc hm hc1 v1 lo S' T3 E1' H' => J_one N' 8 1 rfl (d + 1) T w hc hm hc1 v1 lo S' T3 (by rw [show d + 1 + 2 * 8 + 5 = d + 20 + 2 by omega]; exact E1') H') S X96 ⟨Ez1, q0, q1⟩
  have hv : ∀ {y : Int32}, rs1 = [.int y] → rs2 = [.int y] → eh_i (eh_V hc') 0 15 = eh_i (eh_V hm') 0 15 → v1 = v2 ∧ eh_i (eh_V hc') 0 15 = eh_i (eh_V hm') 0 15 := fun {y} r1 r2 r3 => ⟨by
    rw [← hrs1, ← hrs2, r1, r2], r3⟩
  have hl4 : (eh_N h4).take 209 = NCl := ln_N Xb (by rw [nb, n3, na]; exact hl)
  rcases CN with ⟨p1, p2, p3, isz⟩ | ⟨p1, hz3, loz3, j3, T', w3, H3, p2, S3, p3, p4, p5, p6, p7, p8, p9⟩
  · subst p1
    rcases zw_b (d := d + 22) (x := 0) E5 rfl isz m50 m51 with ⟨-, r1, r2, -, -⟩ | ⟨c, -⟩ | ⟨c, -⟩
    · rw [r1] at hrs95
      subst hrs95
      rcases zx_b (d := d + 23) (x := 0) Eb rfl (by rw [r2]; exact isz.1) mb0 hl4 with ⟨c, -⟩ | ⟨-, s1, s2, -⟩
      · exact absurd rfl c
      · refine hv s1 ?_ ?_
        · rw [p2, r2, p3.2.1]
        · rw [s2, eh_i_self, r2]
          exact p3.1
    · exact absurd rfl c
    · exact absurd rfl c
  · subst p1
    obtain ⟨is3', it3, J3, fc3, fm3, ⟨w1, w2, w20⟩, hwh3, tp3, dp3⟩ := id S3
    have tt : 0 < T' → eh_i (eh_V hz3) 13 (T' - 1) ≠ 20 := fun h0 x => by
      have := p7 (T' - 1) (by omega) (by omega)
      rw [x] at this
      rcases this with y | ⟨y, -⟩
      · exact absurd y (by decide)
      · exact absurd y (by decide)
    have topB : ∀ {G2 : eh_W}, jn b n 200 T' 1 22 (eh_V hz3) G2 → eh_i G2 0 41 = nI 0 := fun qj => qj.2.2.2 0 (Nat.zero_le _) p7 (fun h => absurd h (Nat.lt_irrefl 0))
    rcases zt_h (d := e + 1) H3.1 rfl it3 H3.2.1 H3.2.2 with ⟨_, _, c, -⟩ | ⟨_, _, c, -⟩ | ⟨x9, h7, -, c0, X7, i7, c, -⟩ | ⟨x9, h7, -, c0, X7, i7, c, s1, s2, -, -⟩ | ⟨h11, h13, -, c0, X11, -, X13, i13, c, hz5, loz5, E5', V5, -, i5', u0, u1⟩ | ⟨h11, h13, -, c0, X11, -, X13, -, c, -⟩
    · rw [hwh3] at c; exact absurd c (by decide)
    · rw [hwh3] at c; exact absurd c (by decide)
    · obtain ⟨ti, h2b, qj, g2, R⟩ := J_beh (e := e + 1) X7 it3 (by omega) (by omega) tp3 dp3 p8 tt
      rcases R with ⟨k1, k2, -⟩ | ⟨-, -, rfl, R⟩
      · refine absurd ?_ p9
        rcases J3.ks with ⟨a, z⟩ | ⟨a, z⟩ | ⟨a, z, kk, h5, h6, h7⟩ | ⟨a, z, -, h5⟩ | ⟨a, z, -⟩ | ⟨a, z, -⟩
        · rw [z] at k1; exact absurd k1 (by decide)
        · rw [z] at k1; exact absurd k1 (by decide)
        · rcases k2 with ⟨-, k2⟩ | ⟨-, k2⟩
          · have := Wd_inj ⟨14, by decide⟩ ⟨kk, h5⟩ (k2.symm.trans h7)
            dsimp only at this
            subst this
            exact ⟨a, Or.inr h6⟩
          · have := Wd_inj ⟨13, by decide⟩ ⟨kk, h5⟩ (k2.symm.trans h7)
            dsimp only at this
            subst this
            exact ⟨a, Or.inl h6⟩
        · rcases k2 with ⟨-, k2⟩ | ⟨-, k2⟩
          · exact absurd k2 (h5 14 (by decide))
          · exact absurd k2 (h5 13 (by decide))
        · rw [z] at k1; exact absurd k1 (by decide)
        · rw [z] at k1; exact absurd k1 (by decide)
      · rcases R with ⟨-, -, k3, -⟩ | ⟨-, k2, -⟩
        · exact absurd (topB qj) k3
        · exact absurd k2 c
    · obtain ⟨ti, h2b, qj, g2, R⟩ := J_beh (e := e + 1) X7 it3 (by omega) (by omega) tp3 dp3 p8 tt
      rcases R with ⟨-, -, k2, -⟩ | ⟨-, -, rfl, R⟩
      · rw [k2] at c; exact absurd c (by decide)
      · rcases R with ⟨-, -, -, k2, -⟩ | ⟨k1, -, V7⟩
        · rw [k2] at c; exact absurd c (by decide)
        · have kd : ¬ eh_i (eh_V h6) 2 5 = 0 := by
            rcases J3.k0 with ⟨a, z⟩ | ⟨a, z⟩
            · exact absurd z c0
            · exact a
          rcases zw_b (d := d + 22) (x := 1) E5 rfl is3' m50 m51 with ⟨k, -⟩ | ⟨-, k, -⟩ | ⟨-, -, r1, r2, -, r4⟩
          · exact absurd k (by decide)
          · exact absurd k kd
          · rw [r1] at hrs95
            subst hrs95
            rcases zx_b (d := d + 23) (x := 0) Eb rfl (by rw [r2]; exact r4.1) mb0 hl4 with ⟨c, -⟩ | ⟨-, t1, t2, -⟩
            · exact absurd rfl c
            · refine hv t1 ?_ ?_
              · rw [s1, r2, V7, eh_i_self, eh_i_self, J3.1, ei_eq (g2 12 (by decide))]
              · rw [t2, eh_i_self, r2, s2, V7]
                rfl
    · obtain ⟨qj, -, g2⟩ := jn_of (e := e + 3) it3 X11 rfl X13 (by omega) (by omega) tp3 dp3 p8 tt
      have kd : eh_i (eh_V h6) 2 5 = 0 := by
        rcases J3.k0 with ⟨a, z⟩ | ⟨a, z⟩
        · exact a
        · exact absurd c0 z
      obtain ⟨hz6, loz6, E6, V6, -, i6, y0, y1, y2⟩ := zt_e E5' V5 i13 u0 u1
      obtain ⟨r2s, r2f⟩ := zt_lp _ 0 loz6 hz6 _ rfl E6 V6 i6 y0 y1 y2
      rcases zw_b (d := d + 22) (x := 1) E5 rfl is3' m50 m51 with ⟨k, -⟩ | ⟨-, -, r1, r2, -, r4⟩ | ⟨-, k, -⟩
      · exact absurd k (by decide)
      · rw [r1] at hrs95
        subst hrs95
        rcases zx_b (d := d + 23) (x := 1) Eb rfl (by rw [r2]; exact is3'.1) mb0 hl4 with ⟨-, t1, t2, -⟩ | ⟨c, -⟩
        · refine hv t1 ?_ ?_
          · rw [r2s, r2, w1]
            have : eh_i (eh_V h13) 0 40 = nI w3 := (qj.2.1.i rfl).trans w2
            rw [← this]
            rfl
          · have e1 : eh_i (eh_V hc') 0 15 = 0 := by
              rw [t2, r2]
              exact (fc3.i rfl).trans fC0
            have e2 : eh_i (eh_V hm') 0 15 = 0 := by
              rw [r2f]
              exact ((qj.2.1.i rfl).trans (fm3.i rfl)).trans fM0
            rw [e1, e2]
        · exact absurd c (by decide)
      · exact absurd kd k
    · obtain ⟨qj, -, g2⟩ := jn_of (e := e + 3) it3 X11 rfl X13 (by omega) (by omega) tp3 dp3 p8 tt
      rw [topB qj] at c
      exact absurd c (by decide)
end SENT
