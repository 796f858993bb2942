/-! a DIARY: its LINES, on both sides -/
section DLL
variable {d e n m k : Nat} {b : Nat → Int32} {hc hc' hm hm' : ri_H} {q : Nat → Nat} {Gc0 Gm0 : eh_W} {rs1 rs2 : List Value} {li : Int32} {v1 v2 : Option Value}
theorem DJ_up {Gc Gm : eh_W} (D : DJ b n m Gc0 Gm0 k Gc Gm) (k9 : k < 40) {Hc Hm : eh_W} {a1 a2 : Int32} (ea : a1 = eh_i Gc 199 3 + 1) (eb : a2 = eh_i Gm 0 35 + 1) (hc : Hc = eh_u Gc 199 3 (.int a1)) (hm : Hm = eh_u Gm 0 35 (.int a2)) : DJ b n m Gc0 Gm0 (k + 1) Hc Hm := by
  obtain ⟨is, it, J, fc, fm, k1, k2, k40, f1, f2⟩ := D
  subst hc hm
  refine ⟨iS_u is (is.1.ui rfl) rfl, iT_u it (it.1.ui rfl) rfl, JT_c (JT_m J (by decide)) (by decide), fc.up rfl, fm.up rfl, ?_, ?_, by omega, f1, f2⟩
  · rw [eh_i_self, ea, k1, lx_a1]
  · rw [eh_i_self, eb, k2, lx_a1]
theorem J_dll (N : NS q Gc0 Gm0) : ∀ (f k : Nat) (lo1 lo2 : List (Nat × Value)) (h1 h2 : ri_H), k + f = 41 → eh_e (ri_calE ri_md (d + 5)) md_1 7 lo1 [] h1 rs1 hc' → ri_lk lo1 0 = some (.ref 199) → ri_lk lo1 1 = some (.ref 2) → ri_lk lo1 2 = some (.ref 23) → ri_lk lo1 3 = some (.int (nI k)) → DJ b n m Gc0 Gm0 k (eh_V h1) (eh_V h2) → eh_e (ri_calE ri_md (e + 4)) md_240 39 lo2 [] h2 rs2 hm' → ri_lk lo2 0 = some (.ref 0) → ri_lk lo2 1 = some (.int li) → (rs1 = [.int 0] ∧ FL (eh_V hc') (eh_V hm') ∧ iS b n m (eh_V hc')) ∨ (rs1 = [.int 1] ∧ ∃ hz loz kk, eh_e (ri_calE ri_md (e + 4)) md_240 83 loz [] hz rs2 hm' ∧ DJ b n m Gc0 Gm0 kk (eh_V hc') (eh_V hz)) := by
  intro f
  induction f with
  | zero =>
    intro k lo1 lo2 h1 h2 hf E1 a0 a1 a2 a3 D
    have := D.2.2.2.2.2.2.2.1
    omega
  | succ f ih =>
    intro k lo1 lo2 h1 h2 hf E1 a0 a1 a2 a3 D E2 b0' b1'
    have k40 := D.2.2.2.2.2.2.2.1
    have z1 := zg_l E1 rfl D.1 a0 a1 a2 a3
    rw [lx_i (a := k) (by omega)] at z1
    have z2 := zk_l E2 rfl D.2.1 b0' b1'
    rcases D.2.2.1.k0 with ⟨c1, c2⟩ | ⟨c1, c2⟩
    · rcases z1 with ⟨c, -⟩ | ⟨_, _, -, c, -⟩ | ⟨_, _, _, _, -, c, -⟩ | ⟨_, _, _, _, -, c, -⟩ | ⟨-, -, r1, r2, -, -⟩
      · omega
      · exact absurd c1 c
      · exact absurd c1 c
      · exact absurd c1 c
      · rcases z2 with ⟨-, hz, loz, E3, v3, -, -, -, -⟩ | ⟨_, _, c, -⟩ | ⟨_, _, _, _, c, -⟩ | ⟨_, _, _, _, c, -⟩
        · exact Or.inr ⟨r1, hz, loz, k, E3, by rw [r2, v3]; exact D⟩
        · exact absurd c2 c
        · exact absurd c2 c
        · exact absurd c2 c
    · have ln : ∀ {x5 x4 : Int32} {h3 g2 : ri_H}, ri_calE ri_md (d + 5) 2 [.ref 199, .ref 2, .ref 23] h1 = some (some (.int x5), h3) → ri_calE ri_md (e + 4) 238 [.ref 0] h2 = some (some (.int x4), g2) → (x5 = 0 ∧ x4 = 0 ∧ FL (eh_V h3) (eh_V g2)) ∨ (x5 = 1 ∧ x4 = 1 ∧ DJ b n m Gc0 Gm0 k (eh_V h3) (eh_V g2) ∧ k < 40) := fun {x5 x4 h3 g2} X Y => by
        obtain ⟨rs, hrs, X⟩ := eh_in X (q := md_2) rfl
        rcases J_dl (e := e) N D X rfl rfl rfl Y with ⟨r1, r2, r3⟩ | ⟨r1, r2, r3, r4⟩
        · rw [r1] at hrs
          cases hrs
          exact Or.inl ⟨rfl, r2, r3⟩
        · rw [r1] at hrs
          cases hrs
          exact Or.inr ⟨rfl, r2, r3, r4⟩
      have sg : ∀ {x9 x8 : Int32} {h3 g2 h7 g6 : ri_H}, DJ b n m Gc0 Gm0 k (eh_V h3) (eh_V g2) → ri_calE ri_md (d + 2 + 3) 82 [.ref 2, .int 59] h3 = some (some (.int x9), h7) → iS b n m (eh_V h7) → ri_calE ri_md (e + 1 + 3) 162 [.ref 0, .int 59] g2 = some (some (.int x8), g6) → iT b n m (eh_V g6) → (x9 = 0 ∧ x8 = 0 ∧ FL (eh_V h7) (eh_V g6)) ∨ (x9 = 1 ∧ x8 = 1 ∧ DJ b n m Gc0 Gm0 k (eh_V h7) (eh_V g6)) := fun {x9 x8 h3 g2 h7 g6} D X i7 Y i6 => by
        obtain ⟨is, it, J, fc, fm, k1, k2, k40, f1, f2⟩ := D
        obtain ⟨g1, g2', -, -, o⟩ := J_sign J X Y (is.C (eh_V g2)) (it.M (eh_V h3))
        rcases o with ⟨o1, o2, o3⟩ | ⟨o1, o2, o3⟩
        · exact Or.inl ⟨o1, o2, o3⟩
        · refine Or.inr ⟨o1, o2, i7, i6, o3.mo (Nat.zero_le _), fc.tr (g1.mo pD_cf), fm.tr (g2'.mo pD_mf), (g1.i rfl).trans k1, (g2'.i rfl).trans k2, k40, ?_, ?_⟩
          · rcases nfc_82 X (is.C (eh_V g2)) with z | z
            · cases z
              exact absurd o1 (by decide)
            · exact Eq.trans z f1
          · rcases nfm_162 Y (it.M (eh_V h3)) with z | z
            · cases z
              exact absurd o2 (by decide)
            · exact Eq.trans z f2
      rcases z1 with ⟨c, -⟩ | ⟨x5, h3, -, -, X, i3, x0, r1, r2, -, r4⟩ | ⟨x5, h3, x9, h7, -, -, X, i3, x0, X2, i7, y0, hz, loz, E3, v3, -, -, m0, m1, m2, m3⟩ | ⟨x5, h3, x9, h7, -, -, X, i3, x0, X2, i7, y0, r1, r2, -, r4⟩ | ⟨-, c, -⟩
      · omega
      · rcases z2 with ⟨c, -⟩ | ⟨x4, g2, -, Y, j2, y4, s1, s2, -, -⟩ | ⟨x4, g2, x8, g6, -, Y, j2, y4, -⟩ | ⟨x4, g2, x8, g6, -, Y, j2, y4, -⟩
        · exact absurd c c2
        · rcases ln X Y with ⟨-, -, l3⟩ | ⟨l1, -⟩
          · exact Or.inl ⟨r1, by rw [r2, s2]; exact l3, by rw [r2]; exact r4⟩
          · rw [x0] at l1
            exact absurd l1 (by decide)
        · rcases ln X Y with ⟨-, l2, -⟩ | ⟨l1, -⟩
          · exact absurd l2 y4
          · rw [x0] at l1
            exact absurd l1 (by decide)
        · rcases ln X Y with ⟨-, l2, -⟩ | ⟨l1, -⟩
          · exact absurd l2 y4
          · rw [x0] at l1
            exact absurd l1 (by decide)
      · rcases z2 with ⟨c, -⟩ | ⟨x4, g2, -, Y, j2, y4, -⟩ | ⟨x4, g2, x8, g6, -, Y, j2, y4, Y2, j6, w0, hz2, loz2, E4, v4, -, -, n0, n1⟩ | ⟨x4, g2, x8, g6, -, Y, j2, y4, Y2, j6, w0, s1, s2, -, -⟩
        · exact absurd c c2
        · rcases ln X Y with ⟨l1, -⟩ | ⟨-, l2, -⟩
          · exact absurd l1 x0
          · rw [y4] at l2
            exact absurd l2 (by decide)
        · rcases ln X Y with ⟨l1, -⟩ | ⟨-, -, D2, k9⟩
          · exact absurd l1 x0
          · rcases sg D2 X2 i7 Y2 j6 with ⟨o1, -⟩ | ⟨-, -, D3⟩
            · exact absurd o1 y0
            · rw [lx_a1] at m3
              exact ih (k + 1) loz loz2 hz hz2 (by omega) E3 m0 m1 m2 m3 (DJ_up D3 k9 rfl rfl v3 v4) E4 n0 n1
        · rcases ln X Y with ⟨l1, -⟩ | ⟨-, -, D2, k9⟩
          · exact absurd l1 x0
          · rcases sg D2 X2 i7 Y2 j6 with ⟨o1, -⟩ | ⟨-, o2, -⟩
            · exact absurd o1 y0
            · rw [w0] at o2
              exact absurd o2 (by decide)
      · rcases z2 with ⟨c, -⟩ | ⟨x4, g2, -, Y, j2, y4, -⟩ | ⟨x4, g2, x8, g6, -, Y, j2, y4, Y2, j6, w0, -⟩ | ⟨x4, g2, x8, g6, -, Y, j2, y4, Y2, j6, w0, s1, s2, -, -⟩
        · exact absurd c c2
        · rcases ln X Y with ⟨l1, -⟩ | ⟨-, l2, -⟩
          · exact absurd l1 x0
          · rw [y4] at l2
            exact absurd l2 (by decide)
        · rcases ln X Y with ⟨l1, -⟩ | ⟨-, -, D2, k9⟩
          · exact absurd l1 x0
          · rcases sg D2 X2 i7 Y2 j6 with ⟨-, o2, -⟩ | ⟨o1, -⟩
            · exact absurd o2 w0
            · rw [y0] at o1
              exact absurd o1 (by decide)
        · rcases ln X Y with ⟨l1, -⟩ | ⟨-, -, D2, k9⟩
          · exact absurd l1 x0
          · rcases sg D2 X2 i7 Y2 j6 with ⟨-, -, o3⟩ | ⟨o1, -⟩
            · exact Or.inl ⟨r1, by rw [r2, s2]; exact o3, by rw [r2]; exact r4⟩
            · rw [y0] at o1
              exact absurd o1 (by decide)
      · exact absurd c c1
/-- the FAULT that a DIARY leaves -/
theorem J_diary (E1 : ri_calE ri_md (d + 7) 137 [.ref 0, .int li] hc = some (v1, hc')) (E2 : ri_calE ri_md (e + 5) 240 [.ref 0, .int li] hm = some (v2, hm')) (tc : eh_ty tC (eh_V hc)) (tm : eh_ty tM (eh_V hm)) (hl : (eh_N hc).take 209 = NCl) (hn : eh_i (eh_V hc) 0 1 = nI n) (hn' : eh_i (eh_V hm) 0 2 = nI n) (n9 : n ≤ 940) (hb : ∀ i, i < 940 → eh_i (eh_V hc) 1 i = eh_i (eh_V hm) 1 i) (hr : ∀ i, i < 940 → -128 ≤ (eh_i (eh_V hm) 1 i).toInt ∧ (eh_i (eh_V hm) 1 i).toInt ≤ 127) (hk : ∀ k, k < 24 → eh_l (eh_V hc) 3 k = lx_K k) (hk' : ∀ k, k < 24 → eh_l (eh_V hm) 6 k = lx_Wd k) (N : NS q (eh_V hc) (eh_V hm)) (hF : eh_i (eh_V hc) 0 15 = eh_i (eh_V hm) 0 15) {cc cm : ri_C} (kc : hc[0]? = some cc) (kc2 : cc.1 = 11) (km : hm[0]? = some cm) (km2 : cm.1 = 12) (kh : ∃ v, eh_V hm 2 0 = some v) : eh_i (eh_V hc') 0 15 = eh_i (eh_V hm') 0 15 := by
  have R1 := ln_calE (md := ri_md) (d + 7) 137 _ hc v1 hc' E1
  have R2 := ln_calE (md := ri_md) (e + 5) 240 _ hm v2 hm' E2
  obtain ⟨rs1, hrs1, E1⟩ := eh_in E1 (q := md_137) rfl
  obtain ⟨rs2, hrs2, E2⟩ := eh_in E2 (q := md_240) rfl
  have bl : ∀ i, i < 940 → bc (bb (eh_V hc) (eh_V hm)) (eh_i (eh_V hm) 0 19) i = eh_i (eh_V hm) 1 i := fun i hi => (bc_lt hi).trans (bb_lt hi)
  have b9 : bc (bb (eh_V hc) (eh_V hm)) (eh_i (eh_V hm) 0 19) 940 = eh_i (eh_V hm) 0 19 := bc_at
  have bm : ∀ k i, 2 ≤ k → k < 100 → i < 1000 → bc (bb (eh_V hc) (eh_V hm)) (eh_i (eh_V hm) 0 19) (1000 * k + i) = eh_i (eh_V hm) k i := fun k i h1 h2 h3 => (bc_gt (by omega)).trans (bb_m h1 h2 h3)
  have bk : ∀ k i, i < 1000 → bc (bb (eh_V hc) (eh_V hm)) (eh_i (eh_V hm) 0 19) (100000 + 1000 * k + i) = eh_i (eh_V hc) k i := fun k i h3 => (bc_gt (by omega)).trans (bb_c h3)
  generalize bc (bb (eh_V hc) (eh_V hm)) (eh_i (eh_V hm) 0 19) = b at bl b9 bm bk
  -- lives
  by_cases hli : li = 0 ∨ li = 1
  · have p1 : ¬ li.toInt < 0 := by rcases hli with rfl | rfl <;> decide
    have p2 : ¬ 1 < li.toInt := by rcases hli with rfl | rfl <;> decide
    -- the class, to its LINES
    have Z : ∃ ha loa va h3, eh_V ha = eh_V hc ∧ eh_N ha = eh_N hc ∧ ri_calE ri_md (d + 6) 105 [.ref 0, .int 400] ha = some (va, h3) ∧ eh_e (ri_calE ri_md (d + 6)) md_137 20 loa (va.toList ++ []) h3 rs1 hc' ∧ ri_lk loa 0 = some (.ref 0) ∧ ri_lk loa 1 = some (.int li) := by
      rcases zh_a E1 rfl tc rfl rfl with ⟨-, ha, loa, va, h3, Ua, na, -, Xa, Ea, m0, m1⟩ | ⟨-, -, ha, loa, va, h3, Ua, na, -, Xa, Ea, m0, m1⟩ | ⟨c1, c2, -⟩
      · exact ⟨ha, loa, va, h3, Ua, na, Xa, Ea, m0, m1⟩
      · exact ⟨ha, loa, va, h3, Ua, na, Xa, Ea, m0, m1⟩
      · exact absurd hli (fun x => x.elim c1 c2)
    obtain ⟨ha, loa, va, h3, Ua, na, Xa, Ea, ma0, ma1⟩ := Z
    obtain ⟨z1e, n3, c1, c2, ic1, a4, X74, ic2, V3, k3, f3⟩ := sq_105 (d := d + 2) (b := b) (m := 400) Xa Ua tc (by rw [na]; exact hl) hn n9 rfl (by decide) (fun i hi => (hb i (by omega)).trans (bl i (by omega)).symm) hk (fun k i _ h3 => (bk k i h3).symm)
    subst z1e
    have is2 : iS b n 400 (eh_V c2) := ic2.S (fun _ _ => rfl)
    have is3 : iS b n 400 (eh_V h3) := by
      rw [V3]
      exact iS_u is2 (is2.1.ui rfl) rfl
    obtain ⟨hb1, lob, vb, h4, Ub, nb, tb, Xb, Eb, mb0, mb1⟩ := zh_b Ea rfl is3.1 ma0 ma1
    obtain ⟨rs95, hrs95, E95⟩ := eh_in Xb (q := md_1) rfl
    obtain ⟨h5, lo5, E5, U5, n5, i5, m50, m51, m52, m53⟩ := zg_a E95 rfl (by rw [Ub]; exact is3) rfl rfl rfl
    rw [Ub] at U5 i5
    rw [← U5] at i5
    -- the reference, to its LINES
    have Y : ∃ hz0 loz0, eh_e (ri_calE ri_md (e + 4)) md_240 35 loz0 [] hz0 rs2 hm' ∧ eh_V hz0 = eh_u (eh_u (eh_u (eh_u (eh_u (eh_u (eh_u (eh_V hm) 0 0 (.int 0)) 0 3 (.int (eh_i (eh_V hm) 0 2))) 0 2 (.int 0)) 0 4 (.int 0)) 0 5 (.int 400)) 0 15 (.int 0)) 0 35 (.int 0) ∧ eh_ty tM (eh_V hz0) ∧ ri_lk loz0 0 = some (.ref 0) ∧ ri_lk loz0 1 = some (.int li) := by
      rcases zk_a (d := e + 3) E2 rfl tm rfl rfl with ⟨c, -⟩ | ⟨-, c, -⟩ | ⟨-, -, hz0, loz0, Ez0, Vz0, -, tz0, l0, l1⟩
      · exact absurd c p1
      · exact absurd c p2
      · exact ⟨hz0, loz0, Ez0, Vz0, by rw [Vz0]; exact tz0, l0, l1⟩
    obtain ⟨hz0, loz0, Ez0, Vz0, tz0, l0, l1⟩ := Y
    have fr0 : eh_fr (fun k _ => Nat.beq k 0) (eh_V hm) (eh_V hz0) := by
      rw [Vz0]
      exact ((((((eh_fr.rf.up rfl).up rfl).up rfl).up rfl).up rfl).up rfl).up rfl
    have im1 : iM b n 400 (eh_V hz0) := by
      refine ⟨tz0, ⟨by rw [Vz0]; exact hn', by rw [Vz0]; rfl, n9, by decide, fun i hi => (fr0.i rfl).trans (bl i (by omega)).symm, fun k hk => (fr0.l rfl).trans (hk' k hk), fun i hi => ?_, by rw [Vz0]; exact b9.symm, fun k i h1 h3 => (fr0.i (eh_bf (by omega))).trans (bm k i (by omega) (by omega) h3).symm⟩, 0, Nat.zero_le _, by rw [Vz0]; rfl⟩
      rw [bl i (by omega)]
      exact hr i (by omega)
    have it1 : iT b n 400 (eh_V hz0) := im1.T (fun _ _ => rfl)
    obtain ⟨h1m, X158, i1m, hz1, loz1, Ez1, Vz1, -, iz1, q0, q1⟩ := zk_b (d := e + 2) Ez0 rfl it1 l0 l1
    obtain ⟨J, fc, fm⟩ := J_first X74 X158 ic1 im1 a4 (by rw [Vz0]; rfl)
    have S : DJ b n 400 (eh_V hc) (eh_V hm) 0 (eh_V h5) (eh_V hz1) := by
      refine ⟨i5, by rw [Vz1]; exact i1m, ?_, ?_, ?_, by rw [U5]; rfl, ?_, by decide, ?_, ?_⟩
      · rw [U5, V3, Vz1]
        exact JT_c (JT_c J (by decide)) (by decide)
      · refine (k3.mo (fun k i h => lx_no (fun x => by have := Nat.ble_eq.mp x; have := (pD_no h).1; omega))).tr ?_
        rw [U5]
        exact eh_fr.rf.up rfl
      · rw [Vz1]
        exact (fr0.mo (fun k i h => by rcases pD_25 h with rfl | rfl <;> rfl)).tr (fm.mo pD_mt)
      · rw [Vz1]
        refine (fm.i rfl).trans ?_
        rw [Vz0]
        rfl
      · rw [U5, V3]
        exact f3
      · rw [Vz1]
        refine (fm.i rfl).trans ?_
        rw [Vz0]
        rfl
    rcases J_dll (d := d) (e := e) N 41 0 lo5 loz1 h5 hz1 rfl E5 m50 m51 m52 m53 S Ez1 q0 q1 with ⟨p3, p4, p5⟩ | ⟨p3, hz, loz, kk, Ez, D⟩
    · rw [p3] at hrs95
      subst hrs95
      rcases zh_c (x := 0) Eb rfl p5.1 mb0 mb1 with ⟨c, -⟩ | ⟨-, -, r2, -⟩
      · exact absurd rfl c
      · rw [r2, eh_i_self]
        exact p4.1
    · rw [p3] at hrs95
      subst hrs95
      rcases zh_c (x := 1) Eb rfl D.1.1 mb0 mb1 with ⟨-, hy, loy, Ey, vy, -⟩ | ⟨c, -⟩
      · have s1 : eh_i (eh_V hy) 0 15 = 0 := by
          rw [vy, eh_i_self]
          exact D.2.2.2.2.2.2.2.2.1
        have s2 : eh_i (eh_V hz) 0 15 = 0 := D.2.2.2.2.2.2.2.2.2
        obtain ⟨c3, c4, c5⟩ := kd_mid (ln_calE _) R1 Ey kc (k := 0) (k' := 0) (Nat.le_refl _) (i := 15) (v := .int (eh_i (eh_V h4) 2 9)) (by rw [vy]; rfl)
        obtain ⟨w, hw⟩ := kh
        obtain ⟨c6, c7, c8⟩ := kd_mid (ln_calE _) R2 Ez km (k := 0) (k' := 2) (by decide) (i := 0) ((D.2.2.2.2.1 2 0 rfl).trans hw)
        rw [fk_C Ey c4 (c5.trans kc2), fk_M Ez c7 (c8.trans km2), s1, s2]
      · exact absurd c (by decide)
  · -- refused
    have a : eh_V hc' = eh_V hc := by
      rcases zh_a E1 rfl tc rfl rfl with ⟨c, -⟩ | ⟨-, c, -⟩ | ⟨-, -, -, r2, -⟩
      · exact absurd (Or.inl c) hli
      · exact absurd (Or.inr c) hli
      · exact r2
    have c : eh_V hm' = eh_u (eh_V hm) 0 0 (.int 0) := by
      rcases zk_a (d := e + 3) E2 rfl tm rfl rfl with ⟨-, -, r2, -⟩ | ⟨-, -, -, r2, -⟩ | ⟨c1, c2, -⟩
      · exact r2
      · exact r2
      · exfalso
        apply hli
        have i0 : li.toInt = 0 ∨ li.toInt = 1 := by omega
        rcases i0 with h | h
        · exact Or.inl (Int32.toInt_inj.mp h)
        · exact Or.inr (Int32.toInt_inj.mp h)
    rw [a, c, hF]
    exact (eh_i_ne _ _ (Or.inr (by decide))).symm
end DLL
