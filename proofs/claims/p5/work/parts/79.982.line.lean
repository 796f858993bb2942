section DLK
variable {d e n m k : Nat} {b : Nat → Int32} {h h' g hc hc' hm hm' : ri_H} {rs : List Value} {lo : List (Nat × Value)} {q : Nat → Nat} {Gc0 Gm0 : eh_W} {x2 : Int32}
/-- the reference's NAME -/
theorem zD_116 {to : Int32} (E : eh_e (ri_calE ri_md (d + 1)) md_238 116 lo [] h rs h') (ty : eh_ty tM (eh_V h)) (l0 : ri_lk lo 0 = some (.ref 0)) (l1 : ri_lk lo 1 = some (.int to)) : (¬ nm_M (eh_V h) ∧ rs = [.int 0] ∧ eh_V h' = eh_u (eh_u (eh_V h) 0 15 (.int 1)) 0 16 (.int (eh_i (eh_V h) 0 12))) ∨ (nm_M (eh_V h) ∧ ∃ x9 x15 : Int32, fd_M (eh_V h) 14 (eh_i (eh_V h) 2 5) x9 ∧ fd_M (eh_V h) 18 (eh_i (eh_V h) 2 6) x15 ∧ ((x9.toInt < 0 ∧ x15.toInt < 0 ∧ rs = [.int 0] ∧ eh_V h' = eh_u (eh_u (eh_V h) 0 15 (.int 3)) 0 16 (.int (eh_i (eh_V h) 0 12))) ∨ (¬ (x9.toInt < 0 ∧ x15.toInt < 0) ∧ ((eh_i (eh_V h) 0 35 = 40 ∧ rs = [.int 0] ∧ eh_V h' = eh_u (eh_u (eh_V h) 0 15 (.int 4)) 0 16 (.int (eh_i (eh_V h) 0 12))) ∨ (¬ eh_i (eh_V h) 0 35 = 40 ∧ ∃ hz loz, eh_e (ri_calE ri_md (d + 1)) md_238 187 loz [] hz rs h' ∧ eh_V hz = eh_V h ∧ ri_lk loz 0 = some (.ref 0) ∧ ri_lk loz 1 = some (.int to) ∧ ri_lk loz 3 = some (.int x9) ∧ ri_lk loz 4 = some (.int x15)))))) := by
  rcases zi_d E rfl ty l0 l1 with ⟨x9, x15, c0, c1, c2, c3, c4, hz, loz, E1, a1, -, -, b0, b1, b3, b4⟩ | ⟨x9, x15, c0, c1, c2, c3, c4, r1, r2, -⟩ | ⟨x9, x15, c0, c1, c2, c3, c5, c4, hz, loz, E1, a1, -, -, b0, b1, b3, b4⟩ | ⟨x9, x15, c0, c1, c2, c3, c5, c4, r1, r2, -⟩ | ⟨x9, x15, c0, c1, c2, c3, c4, r1, r2, -⟩ | ⟨c0, r1, r2, -⟩
  · exact Or.inr ⟨c0, x9, x15, c1, c2, Or.inr ⟨fun x => c3 x.1, Or.inr ⟨c4, hz, loz, E1, a1, b0, b1, b3, b4⟩⟩⟩
  · exact Or.inr ⟨c0, x9, x15, c1, c2, Or.inr ⟨fun x => c3 x.1, Or.inl ⟨c4, r1, r2⟩⟩⟩
  · exact Or.inr ⟨c0, x9, x15, c1, c2, Or.inr ⟨fun x => c5 x.2, Or.inr ⟨c4, hz, loz, E1, a1, b0, b1, b3, b4⟩⟩⟩
  · exact Or.inr ⟨c0, x9, x15, c1, c2, Or.inr ⟨fun x => c5 x.2, Or.inl ⟨c4, r1, r2⟩⟩⟩
  · exact Or.inr ⟨c0, x9, x15, c1, c2, Or.inl ⟨c3, c4, r1, r2⟩⟩
  · exact Or.inl ⟨c0, r1, r2⟩
/-- the next TOKEN -/
theorem J_ad {h1 h5 g1 g5 : ri_H} {u1 u2 : Option Value} (D : DJ b n m Gc0 Gm0 k (eh_V hc) (eh_V hm)) (kd : 2 ≤ (eh_i (eh_V hc) 2 5).toInt) (vc : eh_V h1 = eh_V hc) (X : ri_calE ri_md (d + 2) 74 [.ref 2] h1 = some (u1, h5)) (i5 : iS b n m (eh_V h5)) (fg : eh_fr (fun k _ => Nat.beq k 4) (eh_V hm) (eh_V g1)) (ig : iT b n m (eh_V g1)) (X2 : ri_calE ri_md (e + 2) 158 [.ref 0] g1 = some (u2, g5)) (j5 : iT b n m (eh_V g5)) : DJ b n m Gc0 Gm0 k (eh_V h5) (eh_V g5) := by
  obtain ⟨is, it, J, fc, fm, k1, k2, k40, f1, f2⟩ := D
  obtain ⟨J2, c1, c2⟩ := JS_next J kd X X2 (by rw [vc]; exact is) ig (by rw [vc]) (fg.i rfl)
  rw [vc] at c1
  exact ⟨i5, j5, J2, fc.tr (c1.mo pD_ct), (fm.tr (fg.mo (fun k i h => by rcases pD_25 h with rfl | rfl <;> rfl))).tr (c2.mo pD_mt), (c1.i rfl).trans k1, ((c2.i rfl).trans (fg.i rfl)).trans k2, k40, (c1.i rfl).trans f1, ((c2.i rfl).trans (fg.i rfl)).trans f2⟩
theorem DJ_201 {Gc Gm : eh_W} {a : Nat} {y : Int32} (D : DJ b n m Gc0 Gm0 k Gc Gm) : DJ b n m Gc0 Gm0 k (eh_u Gc 201 a (.int y)) Gm := by
  obtain ⟨is, it, J, fc, fm, k1, k2, k40, f1, f2⟩ := D
  exact ⟨iS_u is (is.1.ui rfl) rfl, it, JT_c J (by decide), fc.up rfl, fm, (eh_i_ne _ _ (Or.inl (by decide))).trans k1, k2, k40, (eh_i_ne _ _ (Or.inl (by decide))).trans f1, f2⟩
theorem Wd_sh : lx_Wd 9 = 495673374579 ∧ lx_Wd 11 = 495555538035 ∧ lx_Wd 10 = 491395114867 ∧ lx_Wd 12 = 6578553 := by decide +kernel
/-- behind a name: the word, and what it tells -/
theorem J_nk (N : NS q Gc0 Gm0) (D : DJ b n m Gc0 Gm0 k (eh_V hc) (eh_V hm)) (k9 : k < 40) {ke to x9 x15 : Int32} {h2 h17 h19 h24 : ri_H} {y9 : Int32} {rs2 : List Value} {loz2 : List (Nat × Value)} {a : Nat} {y : Int32} (kd : eh_i (eh_V hc) 2 5 = 3) (V2 : eh_V h2 = eh_V hc) (X17 : ri_calE ri_md (d + 1 + 3) 74 [.ref 2] h2 = some (none, h17)) (i17 : iS b n m (eh_V h17)) (V19 : eh_V h19 = eh_u (eh_V h17) 201 a (.int y)) (X24 : ri_calE ri_md (d + 1 + 3) 81 [.ref 2, .int ke] h19 = some (some (.int y9), h24)) (i24 : iS b n m (eh_V h24)) (fin : (y9 = 0 ∧ rs = [.int 0] ∧ eh_V hc' = eh_V h24) ∨ (¬ y9 = 0 ∧ ∃ hz loz, eh_e (ri_calE ri_md (d + 1 + 3)) md_2 187 loz [] hz rs hc' ∧ eh_V hz = eh_V h24 ∧ ri_lk loz 0 = some (.ref 199) ∧ ri_lk loz 1 = some (.ref 2) ∧ ri_lk loz 2 = some (.ref 23) ∧ ri_lk loz 6 = some (.int ke))) (E2 : eh_e (ri_calE ri_md (e + 3)) md_238 187 loz2 [] g rs2 hm') (vg : eh_V g = eh_V hm) (b0' : ri_lk loz2 0 = some (.ref 0)) (b1' : ri_lk loz2 1 = some (.int to)) (b3' : ri_lk loz2 3 = some (.int x9)) (b4' : ri_lk loz2 4 = some (.int x15)) (hr : rs2.head? = some (.int x2)) (hk : (ke = 9 ∧ ¬ x9.toInt < 0) ∨ (ke = 11 ∧ x9.toInt < 0)) : DO b n m Gc0 Gm0 k rs x2 (eh_V hc') (eh_V hm') := by
  have it := D.2.1
  have wrap : ∀ {y : Int32}, rs2 = [.int y] → x2 = y := fun e => by
    rw [e] at hr
    cases hr
    rfl
  have fg : ∀ {g5 : ri_H} {a c : Nat} {x y : Int32}, eh_V g5 = eh_u (eh_u (eh_V hm) 4 a (.int x)) 4 c (.int y) → eh_fr (fun k _ => Nat.beq k 4) (eh_V hm) (eh_V g5) ∧ iT b n m (eh_V g5) := fun {g5 a c x y} e => by
    rw [e]
    refine ⟨(eh_fr.rf.up rfl).up rfl, ?_⟩
    have i1 : iT b n m (eh_u (eh_V hm) 4 a (.int x)) := iT_u it (it.1.ui rfl) rfl
    exact iT_u i1 (i1.1.ui rfl) rfl
  have S8 : ∀ {g5 g8 : ri_H} {a c : Nat} {x y : Int32}, eh_V g5 = eh_u (eh_u (eh_V hm) 4 a (.int x)) 4 c (.int y) → ri_calE ri_md (e + 1 + 2) 158 [.ref 0] g5 = some (none, g8) → iT b n m (eh_V g8) → DJ b n m Gc0 Gm0 k (eh_V h19) (eh_V g8) := fun {g5 g8 a c x y} e5 X8 i8 => by
    rw [V19]
    exact DJ_201 (J_ad D (by rw [kd]; decide) V2 X17 i17 (fg e5).1 (fg e5).2 X8 i8)
  have bad : ∀ {g8 : ri_H} {j : Nat}, j < 24 → ke = nI j → DJ b n m Gc0 Gm0 k (eh_V h19) (eh_V g8) → ¬ (eh_i (eh_V g8) 0 11 = 1 ∧ eh_l (eh_V g8) 0 17 = lx_Wd j) → rs2 = [.int 0] → eh_V hm' = eh_u (eh_u (eh_V g8) 0 15 (.int 1)) 0 16 (.int (eh_i (eh_V g8) 0 12)) → DO b n m Gc0 Gm0 k rs x2 (eh_V hc') (eh_V hm') := fun {g8 j} hj ek S no s1 s2 => by
    have out : y9 = 0 ∧ eh_V h24 = eh_u (eh_u (eh_V h19) 2 9 (.int 1)) 2 10 (.int (eh_i (eh_V h19) 2 6)) := by
      rcases zs_81 X24 rfl S.1 with ⟨-, r1, r2, -, -⟩ | ⟨-, -, r1, r2, -, -⟩ | ⟨_, _, c1, c2, -⟩
      · cases r1
        exact ⟨rfl, r2⟩
      · cases r1
        exact ⟨rfl, r2⟩
      · rcases S.2.2.1.key hj with ⟨-, -, a3, a4⟩ | ⟨n1, -⟩
        · exact absurd ⟨a3, a4⟩ no
        · exact absurd ⟨c1, c2.trans ek⟩ n1
    rcases fin with ⟨-, r1, r2⟩ | ⟨c, -⟩
    · exact Or.inl ⟨r1, wrap s1, (S.2.2.1.fl (r2.trans out.2) s2 (by decide)).1⟩
    · exact absurd out.1 c
  have good : ∀ {g8 g10 g28 : ri_H} {j : Nat}, j < 24 → ke = nI j → DJ b n m Gc0 Gm0 k (eh_V h19) (eh_V g8) → eh_i (eh_V g8) 0 11 = 1 → eh_l (eh_V g8) 0 17 = lx_Wd j → eh_V g10 = eh_V g8 → ri_calE ri_md (e + 1 + 2) 158 [.ref 0] g10 = some (none, g28) → iT b n m (eh_V g28) → ∃ hz loz, eh_e (ri_calE ri_md (d + 1 + 3)) md_2 187 loz [] hz rs hc' ∧ DJ b n m Gc0 Gm0 k (eh_V hz) (eh_V g28) ∧ ri_lk loz 0 = some (.ref 199) ∧ ri_lk loz 1 = some (.ref 2) ∧ ri_lk loz 2 = some (.ref 23) ∧ ri_lk loz 6 = some (.int ke) := fun {g8 g10 g28 j} hj ek S a3 a4 V10 X28 i28 => by
    rcases S.2.2.1.key hj with ⟨a1, a2, -, -⟩ | ⟨-, n2⟩
    · have out : y9 = 1 ∧ ∃ h1 h20, eh_V h1 = eh_V h19 ∧ ri_calE ri_md (d + 1 + 2) 74 [.ref 2] h1 = some (none, h20) ∧ iS b n m (eh_V h20) ∧ eh_V h24 = eh_V h20 := by
        rcases zs_81 X24 rfl S.1 with ⟨c, -⟩ | ⟨-, c, -⟩ | ⟨h1, h20, -, -, c3, c4, c5, r1, r2, -, -⟩
        · exact absurd a1 c
        · exact absurd (a2.trans ek.symm) c
        · cases r1
          exact ⟨rfl, h1, h20, c3, c4, c5, r2⟩
      obtain ⟨y1, h1, h20, c3, c4, c5, c6⟩ := out
      rcases fin with ⟨c, -⟩ | ⟨-, hz, loz, E1, v1, m0, m1, m2, m6⟩
      · rw [y1] at c
        exact absurd c (by decide)
      · refine ⟨hz, loz, E1, ?_, m0, m1, m2, m6⟩
        rw [v1, c6]
        exact J_ad S (by rw [a1]; decide) c3 c4 c5 (by rw [V10]; exact eh_fr.rf) (by rw [V10]; exact S.2.1) X28 i28
    · exact absurd ⟨a3, a4⟩ n2
  have z2 := zi_e E2 vg it b0' b1' b3' b4'
  rcases hk with ⟨e9, p9⟩ | ⟨e9, p9⟩
  · rcases z2 with ⟨h5, h8, -, V5, X8, i8, c, s1, s2, -, -⟩ | ⟨h5, h8, -, V5, X8, i8, -, c, s1, s2, -, -⟩ | ⟨h5, h8, h10, h28, x32, h30, h34, -, V5, X8, i8, w1, w2, V10, X28, i28, X30, i30, x0, X34, i34, s1, s2, -, -⟩ | ⟨h5, h8, h10, h28, x32, h30, -, V5, X8, i8, w1, w2, V10, X28, i28, X30, i30, x0, s1, s2, -, -⟩ | ⟨_, _, c, -⟩ | ⟨_, _, c, -⟩ | ⟨_, _, _, _, _, _, c, -⟩ | ⟨_, _, _, _, _, _, c, -⟩
    · exact bad (j := 9) (by decide) e9 (S8 V5 X8 i8) (fun x => c x.1) s1 s2
    · exact bad (j := 9) (by decide) e9 (S8 V5 X8 i8) (fun x => c (x.2.trans Wd_sh.1)) s1 s2
    · obtain ⟨hz, loz, E1, S, m0, m1, m2, m6⟩ := good (j := 9) (by decide) e9 (S8 V5 X8 i8) w1 (w2.trans Wd_sh.1.symm) V10 X28 i28
      exact J_wm (t0 := 1) (e := e + 1) N S k9 E1 m0 m1 m2 m6 (Or.inr ⟨e9, rfl⟩) rfl rfl X30 (Or.inr ⟨x0, wrap s1, h34, _, _, X34, i34, s2⟩)
    · obtain ⟨hz, loz, E1, S, m0, m1, m2, m6⟩ := good (j := 9) (by decide) e9 (S8 V5 X8 i8) w1 (w2.trans Wd_sh.1.symm) V10 X28 i28
      exact J_wm (t0 := 1) (e := e + 1) N S k9 E1 m0 m1 m2 m6 (Or.inr ⟨e9, rfl⟩) rfl rfl X30 (Or.inl ⟨x0, wrap s1, s2⟩)
    all_goals exact absurd c p9
  · rcases z2 with ⟨_, _, c, -⟩ | ⟨_, _, c, -⟩ | ⟨_, _, _, _, _, _, _, c, -⟩ | ⟨_, _, _, _, _, _, c, -⟩ | ⟨h5, h8, -, V5, X8, i8, c, s1, s2, -, -⟩ | ⟨h5, h8, -, V5, X8, i8, -, c, s1, s2, -, -⟩ | ⟨h5, h8, h10, h28, x32, h30, -, V5, X8, i8, w1, w2, V10, X28, i28, X30, i30, x0, s1, s2, -, -⟩ | ⟨h5, h8, h10, h28, x32, h30, -, V5, X8, i8, w1, w2, V10, X28, i28, X30, i30, x0, s1, s2, -, -⟩
    · exact absurd p9 c
    · exact absurd p9 c
    · exact absurd p9 c
    · exact absurd p9 c
    · exact bad (j := 11) (by decide) e9 (S8 V5 X8 i8) (fun x => c x.1) s1 s2
    · exact bad (j := 11) (by decide) e9 (S8 V5 X8 i8) (fun x => c (x.2.trans Wd_sh.2.1)) s1 s2
    · obtain ⟨hz, loz, E1, S, m0, m1, m2, m6⟩ := good (j := 11) (by decide) e9 (S8 V5 X8 i8) w1 (w2.trans Wd_sh.2.1.symm) V10 X28 i28
      exact J_wn (e := e) S k9 E1 m0 m1 m2 m6 (Or.inr ⟨e9, rfl, rfl⟩) X30 i30 (Or.inr ⟨x0, wrap s1, _, _, s2⟩)
    · obtain ⟨hz, loz, E1, S, m0, m1, m2, m6⟩ := good (j := 11) (by decide) e9 (S8 V5 X8 i8) w1 (w2.trans Wd_sh.2.1.symm) V10 X28 i28
      exact J_wn (e := e) S k9 E1 m0 m1 m2 m6 (Or.inr ⟨e9, rfl, rfl⟩) X30 i30 (Or.inl ⟨x0, wrap s1, s2⟩)
theorem J_dl (N : NS q Gc0 Gm0) (D : DJ b n m Gc0 Gm0 k (eh_V hc) (eh_V hm)) (E1 : eh_e (ri_calE ri_md (d + 4)) md_2 0 lo [] hc rs hc') (l0 : ri_lk lo 0 = some (.ref 199)) (l1 : ri_lk lo 1 = some (.ref 2)) (l2 : ri_lk lo 2 = some (.ref 23)) (E2 : ri_calE ri_md (e + 4) 238 [.ref 0] hm = some (some (.int x2), hm')) : DO b n m Gc0 Gm0 k rs x2 (eh_V hc') (eh_V hm') := by
  obtain ⟨is, it, J, fc, fm, k1, k2, k40, f1, f2⟩ := id D
  obtain ⟨rs2, hr2, E2⟩ := eh_in E2 (q := md_238) rfl
  have wrap : ∀ {y : Int32}, rs2 = [.int y] → x2 = y := fun e => by
    rw [e] at hr2
    cases hr2
    rfl
  have lc : (eh_i (eh_V hc) 199 3).toInt = k := by rw [k1, lx_i (by omega)]
  have lm : eh_i (eh_V hm) 0 35 = 40 ↔ k = 40 := by
    rw [k2]
    constructor
    · exact fun e => lx_inj (a := k) (b := 40) (by omega) (by decide) e
    · intro e
      rw [e]
      rfl
  have NN := NS_D N fc fm
  have bad : ∀ {f : Int32}, ¬ f = 0 → rs = [.int 0] → eh_V hc' = eh_u (eh_u (eh_V hc) 2 9 (.int f)) 2 10 (.int (eh_i (eh_V hc) 2 6)) → rs2 = [.int 0] → eh_V hm' = eh_u (eh_u (eh_V hm) 0 15 (.int f)) 0 16 (.int (eh_i (eh_V hm) 0 12)) → DO b n m Gc0 Gm0 k rs x2 (eh_V hc') (eh_V hm') := fun f0 r1 r2 s1 s2 => Or.inl ⟨r1, wrap s1, (J.fl r2 s2 f0).1⟩
  have fg : ∀ {g5 : ri_H} {a : Nat} {x : Int32}, eh_V g5 = eh_u (eh_V hm) 4 a (.int x) → eh_fr (fun k _ => Nat.beq k 4) (eh_V hm) (eh_V g5) ∧ iT b n m (eh_V g5) := fun e => by
    rw [e]
    exact ⟨eh_fr.rf.up rfl, iT_u it (it.1.ui rfl) rfl⟩
  rcases J.key (j := 10) (by decide) with ⟨a1, a2, a3, a4⟩ | ⟨n1, n2⟩
  · rcases zi_a (d := e + 2) E2 rfl it.1 rfl with ⟨c, -⟩ | ⟨-, c, -⟩ | ⟨-, c, -⟩ | ⟨-, -, hz, loz, E3, v3, -, -, b0', b1', b2'⟩
    · exact absurd a3 c
    · exact absurd (a4.trans Wd_sh.2.2.1) c
    · exact absurd (a4.trans Wd_sh.2.2.1) c
    · have z2 := zi_b (d := e + 1) E3 v3 it b0' b1' b2'
      rcases zA_2 E1 is l0 l1 l2 a1 (Or.inl a2) with ⟨c, r1, r2⟩ | ⟨c, g, h5, hz1, loz1, vg, X5, i5, E5, v5, m0, m1, m2, m6⟩
      · have k4 : eh_i (eh_V hm) 0 35 = 40 := lm.mpr (by omega)
        rcases z2 with ⟨_, _, _, _, _, w, -⟩ | ⟨_, _, _, _, w, -⟩ | ⟨-, s1, s2, -, -⟩
        · exact absurd k4 w
        · exact absurd k4 w
        · exact bad (by decide) r1 r2 s1 s2
      · have k9 : k < 40 := by omega
        rw [a2] at m6
        rcases z2 with ⟨g2, g5, x9, g7, g11, -, V2, X5', i5', X7, i7, x0, X11, i11, s1, s2, -, -⟩ | ⟨g2, g5, x9, g7, -, V2, X5', i5', X7, i7, x0, s1, s2, -, -⟩ | ⟨w, -⟩
        · have S : DJ b n m Gc0 Gm0 k (eh_V hz1) (eh_V g5) := by
            rw [v5]
            exact J_ad D (by rw [a1]; decide) vg X5 i5 (fg V2).1 (fg V2).2 X5' i5'
          exact J_wm (t0 := 0) (e := e + 1) N S k9 E5 m0 m1 m2 m6 (Or.inl ⟨rfl, rfl⟩) rfl rfl X7 (Or.inr ⟨x0, wrap s1, g11, _, _, X11, i11, s2⟩)
        · have S : DJ b n m Gc0 Gm0 k (eh_V hz1) (eh_V g5) := by
            rw [v5]
            exact J_ad D (by rw [a1]; decide) vg X5 i5 (fg V2).1 (fg V2).2 X5' i5'
          exact J_wm (t0 := 0) (e := e + 1) N S k9 E5 m0 m1 m2 m6 (Or.inl ⟨rfl, rfl⟩) rfl rfl X7 (Or.inl ⟨x0, wrap s1, s2⟩)
        · have := lm.mp w
          omega
  · rcases J.key (j := 12) (by decide) with ⟨a1, a2, a3, a4⟩ | ⟨o1, o2⟩
    · rcases zi_a (d := e + 2) E2 rfl it.1 rfl with ⟨c, -⟩ | ⟨-, -, c, -⟩ | ⟨-, -, -, hz, loz, E3, v3, -, -, b0', b1', b2'⟩ | ⟨c1, c2, -⟩
      · exact absurd a3 c
      · exact absurd (a4.trans Wd_sh.2.2.2) c
      · have z2 := zi_c (d := e) E3 v3 it b0' b1' b2'
        rcases zA_2 E1 is l0 l1 l2 a1 (Or.inr a2) with ⟨c, r1, r2⟩ | ⟨c, g, h5, hz1, loz1, vg, X5, i5, E5, v5, m0, m1, m2, m6⟩
        · have k4 : eh_i (eh_V hm) 0 35 = 40 := lm.mpr (by omega)
          rcases z2 with ⟨_, _, _, _, w, -⟩ | ⟨_, _, _, _, w, -⟩ | ⟨-, s1, s2, -, -⟩
          · exact absurd k4 w
          · exact absurd k4 w
          · exact bad (by decide) r1 r2 s1 s2
        · have k9 : k < 40 := by omega
          rw [a2] at m6
          rcases z2 with ⟨g2, g5, x9, g7, -, V2, X5', i5', X7, i7, x0, s1, s2, -, -⟩ | ⟨g2, g5, x9, g7, -, V2, X5', i5', X7, i7, x0, s1, s2, -, -⟩ | ⟨w, -⟩
          · have S : DJ b n m Gc0 Gm0 k (eh_V hz1) (eh_V g5) := by
              rw [v5]
              exact J_ad D (by rw [a1]; decide) vg X5 i5 (fg V2).1 (fg V2).2 X5' i5'
            exact J_wn (e := e) S k9 E5 m0 m1 m2 m6 (Or.inl ⟨rfl, rfl, rfl⟩) X7 i7 (Or.inr ⟨x0, wrap s1, _, _, s2⟩)
          · have S : DJ b n m Gc0 Gm0 k (eh_V hz1) (eh_V g5) := by
              rw [v5]
              exact J_ad D (by rw [a1]; decide) vg X5 i5 (fg V2).1 (fg V2).2 X5' i5'
            exact J_wn (e := e) S k9 E5 m0 m1 m2 m6 (Or.inl ⟨rfl, rfl, rfl⟩) X7 i7 (Or.inl ⟨x0, wrap s1, s2⟩)
          · have := lm.mp w
            omega
      · exact absurd ⟨c1, c2.trans Wd_sh.2.2.1.symm⟩ n2
    · have M : ∃ hz loz, eh_e (ri_calE ri_md (e + 2 + 1)) md_238 116 loz [] hz rs2 hm' ∧ eh_V hz = eh_V hm ∧ ri_lk loz 0 = some (.ref 0) ∧ ri_lk loz 1 = some (.int (3 * (eh_i (eh_V hm) 0 35))) := by
        rcases zi_a (d := e + 2) E2 rfl it.1 rfl with ⟨-, hz, loz, E3, v3, -, -, b0', b1', b2'⟩ | ⟨-, -, -, hz, loz, E3, v3, -, -, b0', b1', b2'⟩ | ⟨c1, -, c2, -⟩ | ⟨c1, c2, -⟩
        · exact ⟨hz, loz, E3, v3, b0', b1'⟩
        · exact ⟨hz, loz, E3, v3, b0', b1'⟩
        · exact absurd ⟨c1, c2.trans Wd_sh.2.2.2.symm⟩ o2
        · exact absurd ⟨c1, c2.trans Wd_sh.2.2.1.symm⟩ n2
      obtain ⟨hz, loz, E3, v3, b0', b1'⟩ := M
      have z2 := zD_116 E3 (by rw [v3]; exact it.1) b0' b1'
      rw [v3] at z2
      have nm := nm_iff J (it.M (eh_V hc))
      rcases zC_2 (d := d + 1) E1 is l0 l1 l2 n1 o1 with ⟨f, r1, r2, F⟩ | ⟨kd, kl, x, ke, h2, h17, h19, y9, h24, fd, xn, hk, V2, X17, i17, ⟨a, y, V19⟩, X24, i24, fin⟩
      · rcases F with ⟨rfl, nk⟩ | ⟨kd, x, fd, F⟩
        · rcases z2 with ⟨-, s1, s2⟩ | ⟨c, -⟩
          · exact bad (by decide) r1 r2 s1 s2
          · rcases nm with ⟨y1, -⟩ | ⟨-, y2⟩
            · exact absurd y1 nk
            · exact absurd c y2
        · rcases nm with ⟨-, y2, vw⟩ | ⟨y1, -⟩
          · rcases z2 with ⟨c, -⟩ | ⟨-, x9, x15, w1, w2, z2⟩
            · exact absurd y2 c
            · have who := J_who NN vw fd w1 w2
              rcases F with ⟨rfl, F⟩ | ⟨rfl, xn, F, kl⟩
              · rcases z2 with ⟨-, -, s1, s2⟩ | ⟨c, -⟩
                · exact bad (by decide) r1 r2 s1 s2
                · exfalso
                  rcases who with ⟨u1, u2, -⟩ | ⟨u1, u2, -, -⟩ | ⟨-, u2, u3⟩
                  · rcases F with F | ⟨-, F, -⟩
                    · exact u1 F
                    · exact F u2
                  · rcases F with F | ⟨-, -, F⟩
                    · exact u1 F
                    · exact F u2
                  · exact c ⟨u2, u3⟩
              · rcases z2 with ⟨c1, c2, -⟩ | ⟨-, z2⟩
                · exfalso
                  rcases who with ⟨-, -, u3⟩ | ⟨-, -, -, u4⟩ | ⟨u1 | ⟨u1, u2⟩, -, -⟩
                  · exact u3 c1
                  · exact u4 c2
                  · exact xn u1
                  · exact F.elim u1 u2
                · rcases z2 with ⟨-, s1, s2⟩ | ⟨c, -⟩
                  · exact bad (by decide) r1 r2 s1 s2
                  · exact absurd (lm.mpr (by omega)) c
          · exact absurd kd y1
      · have k9 : k < 40 := by omega
        rcases nm with ⟨-, y2, vw⟩ | ⟨y1, -⟩
        · rcases z2 with ⟨c, -⟩ | ⟨-, x9, x15, w1, w2, z2⟩
          · exact absurd y2 c
          · have who := J_who NN vw fd w1 w2
            have hk2 : (ke = 9 ∧ ¬ x9.toInt < 0) ∨ (ke = 11 ∧ x9.toInt < 0 ∧ ¬ x15.toInt < 0) := by
              rcases who with ⟨-, u2, u3⟩ | ⟨-, u2, u3, u4⟩ | ⟨u1 | ⟨u1, u2⟩, -, -⟩
              · rcases hk with ⟨-, e⟩ | ⟨c, -⟩
                · exact Or.inl ⟨e, u3⟩
                · rw [u2] at c
                  exact absurd c (by decide)
              · rcases hk with ⟨c, -⟩ | ⟨-, e⟩
                · rw [u2] at c
                  exact absurd c (by decide)
                · exact Or.inr ⟨e, u3, u4⟩
              · exact absurd u1 xn
              · rcases hk with ⟨c, -⟩ | ⟨c, -⟩
                · exact absurd c u1
                · exact absurd c u2
            rcases z2 with ⟨c1, c2, -⟩ | ⟨-, z2⟩
            · exfalso
              rcases hk2 with ⟨-, u⟩ | ⟨-, -, u⟩
              · exact u c1
              · exact u c2
            · rcases z2 with ⟨c, -⟩ | ⟨-, hz9, loz9, E9, v9, b0, b1, b3, b4⟩
              · have := lm.mp c
                omega
              · exact J_nk N D k9 kd V2 X17 i17 V19 X24 i24 fin E9 v9 b0 b1 b3 b4 hr2 (hk2.imp_right (fun x => ⟨x.1, x.2.1⟩))
        · exact absurd kd y1
end DLK
