/-! a LINE of a DIARY, on both sides -/
def pDc (k _i : Nat) : Bool := Nat.ble k 22 || Nat.ble 199 k
theorem pD_no {k i : Nat} (h : pDc k i = false) : 22 < k ∧ k < 199 := by
  unfold pDc at h
  rw [Bool.or_eq_false_iff] at h
  constructor
  · apply Nat.lt_of_not_le
    intro x
    rw [Nat.ble_eq.mpr x] at h
    exact absurd h.1 (by decide)
  · apply Nat.lt_of_not_le
    intro x
    rw [Nat.ble_eq.mpr x] at h
    exact absurd h.2 (by decide)
theorem pD_cf (k i : Nat) (h : pDc k i = false) : pCf k i = false := by
  have := pD_no h
  unfold pCf
  rw [eh_bf (show k ≠ 2 by omega)]
  rfl
theorem pD_ct (k i : Nat) (h : pDc k i = false) : pCt k i = false := by
  have := pD_no h
  unfold pCt
  rw [eh_bf (show k ≠ 2 by omega)]
  rfl
theorem pCf_ct (k i : Nat) (h : pCf k i = false) : pCt k i = false := by
  unfold pCf at h
  unfold pCt
  rw [Bool.and_eq_false_iff] at h ⊢
  rcases h with h | h
  · exact Or.inl h
  · refine Or.inr ?_
    rw [Bool.and_eq_false_iff] at h ⊢
    rcases h with h | h
    · exact Or.inl h
    · refine Or.inr (lx_no (fun x => ?_))
      rw [Nat.ble_eq.mpr (show i ≤ 10 by have := Nat.ble_eq.mp x; omega)] at h
      cases h
def pDm (k _i : Nat) : Bool := !(Nat.beq k 2 || Nat.beq k 5)
theorem pD_25 {k i : Nat} (h : pDm k i = false) : k = 2 ∨ k = 5 := by
  unfold pDm at h
  rw [Bool.not_eq_false', Bool.or_eq_true] at h
  exact h.elim (fun x => Or.inl (Nat.eq_of_beq_eq_true x)) (fun x => Or.inr (Nat.eq_of_beq_eq_true x))
theorem pD_mf (k i : Nat) (h : pDm k i = false) : pMf k i = false := by
  rcases pD_25 h with rfl | rfl <;> rfl
theorem pD_mt (k i : Nat) (h : pDm k i = false) : pMt k i = false := by
  rcases pD_25 h with rfl | rfl <;> rfl
theorem NS_D {q : Nat → Nat} {Gc0 Gm0 Gc Gm : eh_W} (N : NS q Gc0 Gm0) (fc : eh_fr pDc Gc0 Gc) (fm : eh_fr pDm Gm0 Gm) : NS q Gc Gm := by
  obtain ⟨a, b, n, s⟩ := N
  exact ⟨a, fun t ht => (fm.i rfl).trans (b t ht), NL_mv a n (fun i _ => fc.l rfl) (fun i _ => fc.i rfl) (fun i _ => fc.i rfl) (fun j _ => fm.l rfl), (fc.i rfl).trans s⟩
def DJ (b : Nat → Int32) (n m : Nat) (Gc0 Gm0 : eh_W) (k : Nat) (Gc Gm : eh_W) : Prop := iS b n m Gc ∧ iT b n m Gm ∧ JT n 0 Gc Gm ∧ eh_fr pDc Gc0 Gc ∧ eh_fr pDm Gm0 Gm ∧ eh_i Gc 199 3 = nI k ∧ eh_i Gm 0 35 = nI k ∧ k ≤ 40 ∧ eh_i Gc 2 9 = 0 ∧ eh_i Gm 0 15 = 0
def DO (b : Nat → Int32) (n m : Nat) (Gc0 Gm0 : eh_W) (k : Nat) (rs : List Value) (x2 : Int32) (Gc Gm : eh_W) : Prop := (rs = [.int 0] ∧ x2 = 0 ∧ FL Gc Gm) ∨ (rs = [.int 1] ∧ x2 = 1 ∧ DJ b n m Gc0 Gm0 k Gc Gm ∧ k < 40)
theorem FL_u {Gc Gm : eh_W} {k i : Nat} {v : Value} (h : FL Gc Gm) (hk : k ≠ 2) : FL (eh_u Gc k i v) Gm := by
  unfold FL at h ⊢
  rw [eh_i_ne _ _ (Or.inl hk), eh_i_ne _ _ (Or.inl hk)]
  exact h
theorem JT.key {n c : Nat} {Gc Gm : eh_W} (J : JT n c Gc Gm) {j : Nat} (hj : j < 24) : (eh_i Gc 2 5 = 2 ∧ eh_i Gc 2 7 = nI j ∧ eh_i Gm 0 11 = 1 ∧ eh_l Gm 0 17 = lx_Wd j) ∨ (¬ (eh_i Gc 2 5 = 2 ∧ eh_i Gc 2 7 = nI j) ∧ ¬ (eh_i Gm 0 11 = 1 ∧ eh_l Gm 0 17 = lx_Wd j)) := by
  rcases J.ks with ⟨a, z⟩ | ⟨a, z⟩ | ⟨a, z, k, k1, k2, k3⟩ | ⟨a, z, -, k1⟩ | ⟨a, z, -⟩ | ⟨a, z, -⟩
  · exact Or.inr ⟨fun x => by rw [a] at x; exact absurd x.1 (by decide), fun x => by rw [z] at x; exact absurd x.1 (by decide)⟩
  · exact Or.inr ⟨fun x => by rw [a] at x; exact absurd x.1 (by decide), fun x => by rw [z] at x; exact absurd x.1 (by decide)⟩
  · by_cases e : k = j
    · subst e
      exact Or.inl ⟨a, k2, z, k3⟩
    · refine Or.inr ⟨fun x => e (lx_inj (by omega) (by omega) (k2.symm.trans x.2)), fun x => e ?_⟩
      have := Wd_inj ⟨k, k1⟩ ⟨j, hj⟩ (k3.symm.trans x.2)
      exact this
  · exact Or.inr ⟨fun x => by rw [a] at x; exact absurd x.1 (by decide), fun x => k1 j hj x.2⟩
  · exact Or.inr ⟨fun x => by rw [a] at x; exact absurd x.1 (by decide), fun x => by rw [z] at x; exact absurd x.1 (by decide)⟩
  · exact Or.inr ⟨fun x => by rw [a] at x; exact absurd x.1 (by decide), fun x => by rw [z] at x; exact absurd x.1 (by decide)⟩
section DLJ
variable {d e n m k : Nat} {b : Nat → Int32} {h h' g g7 hc hc' hm hm' : ri_H} {rs : List Value} {lo : List (Nat × Value)} {q : Nat → Nat} {Gc0 Gm0 : eh_W} {ke x x2 : Int32}
theorem fs_84 {v : Option Value} {so : Int32} (E : ri_calE ri_md (d + 3) 84 [.ref 2, .ref 23, .int so] h = some (v, h')) (iv : iS b n m (eh_V h)) : eh_fr pCf (eh_V h) (eh_V h') := by
  rcases zs_84 E rfl iv with ⟨_, -, -, -, -, r2, -, -⟩ | ⟨_, g, h13, -, -, -, -, vg, X, -, -, r2, -, -⟩ | ⟨_, -, -, -, -, -, r2, -, -⟩ | ⟨-, -, r2, -, -⟩
  · rw [r2]
    exact (eh_fr.rf.up rfl).up rfl
  · have f := fr_74S X (by rw [vg]; exact iv)
    rw [vg] at f
    rw [r2]
    exact f.mo pCf_ct
  · rw [r2]
    exact (eh_fr.rf.up rfl).up rfl
  · rw [r2]
    exact (eh_fr.rf.up rfl).up rfl
/-- a number -/
theorem J_wn {l h0 : Int32} (S : DJ b n m Gc0 Gm0 k (eh_V h) (eh_V g)) (k9 : k < 40) (E : eh_e (ri_calE ri_md (d + 4)) md_2 187 lo [] h rs hc') (l0 : ri_lk lo 0 = some (.ref 199)) (l1 : ri_lk lo 1 = some (.ref 2)) (l2 : ri_lk lo 2 = some (.ref 23)) (l6 : ri_lk lo 6 = some (.int ke)) (hk : (ke = 12 ∧ l = 1 ∧ h0 = 60) ∨ (ke = 11 ∧ l = 0 ∧ h0 = 7)) (X : ri_calE ri_md (e + 3) 164 [.ref 0, .int l, .int h0] g = some (some (.int x), g7)) (i7 : iT b n m (eh_V g7)) (R : (x = 0 ∧ x2 = 0 ∧ eh_V hm' = eh_V g7) ∨ (¬ x = 0 ∧ x2 = 1 ∧ ∃ (j : Nat) (y : Int32), eh_V hm' = eh_u (eh_V g7) 4 j (.int y))) : DO b n m Gc0 Gm0 k rs x2 (eh_V hc') (eh_V hm') := by
  obtain ⟨is, it, J, fc, fm, k1, k2, k40, f1, f2⟩ := S
  obtain ⟨h1, u, h4, a, a', v1, i1, X3, i4, vo, io, fin⟩ := zW_2 E is l0 l1 l2 l6
  have J1 : JT n 0 (eh_V h1) (eh_V g) := by
    rw [v1]
    exact JT_c J (by decide)
  have Y : ∃ h2, ri_calE ri_md (d + 3) 83 [.ref 2, .int l, .int h0] h1 = some (some (.int u), h2) ∧ eh_V h4 = eh_V h2 := by
    rcases hk with ⟨rfl, rfl, rfl⟩ | ⟨rfl, rfl, rfl⟩
    · rcases zd_3 X3 rfl i1 with ⟨x4, h2, -, Y, -, r1, r2, -, -⟩ | ⟨_, _, c, -⟩ | ⟨_, _, c, -⟩ | ⟨_, _, c, -⟩
      · cases r1
        exact ⟨h2, Y, r2⟩
      all_goals exact absurd c (by decide)
    · rcases zd_3 X3 rfl i1 with ⟨_, _, c, -⟩ | ⟨_, _, c, -⟩ | ⟨_, _, c, -⟩ | ⟨x4, h2, -, Y, -, r1, r2, -, -⟩
      · exact absurd c (by decide)
      · exact absurd c (by decide)
      · exact absurd c (by decide)
      · cases r1
        exact ⟨h2, Y, r2⟩
  obtain ⟨h2, Y, e4⟩ := Y
  obtain ⟨g1, g2, -, -, o⟩ := J_num J1 Y X (i1.C (eh_V g)) (it.M (eh_V h1))
  have k4 : eh_i (eh_V h4) 199 3 = eh_i (eh_V h) 199 3 := by
    rw [e4, g1.i rfl, v1, eh_i_ne _ _ (Or.inl (by decide))]
  rcases o with ⟨o1, o2, o3⟩ | ⟨o1, o2, -, -, -, o3, o4⟩
  · rcases fin k4 with ⟨-, p2⟩ | ⟨p1, -⟩
    · rcases R with ⟨-, q1, q2⟩ | ⟨q0, -⟩
      · refine Or.inl ⟨p2, q1, ?_⟩
        rw [vo, q2, e4]
        exact FL_u o3 (by decide)
      · exact absurd o2 q0
    · exact absurd o1 p1
  · rcases fin k4 with ⟨p1, -⟩ | ⟨-, p2⟩
    · rw [p1] at o3
      exact absurd o3 (by decide)
    · rcases R with ⟨q0, -⟩ | ⟨-, q1, j, y, q2⟩
      · rw [q0] at o2
        exact absurd o2 (by decide)
      · refine Or.inr ⟨p2, q1, ⟨io, by rw [q2]; exact iT_u i7 (i7.1.ui rfl) rfl, ?_, ?_, ?_, ?_, ?_, k40, ?_, ?_⟩, k9⟩
        · rw [vo, q2, e4]
          exact JT_c (JT_fm (o4.mo (Nat.zero_le _)) (fun i _ => eh_u_ne _ _ (Or.inl (by decide)))) (by decide)
        · rw [vo, e4]
          refine eh_fr.up (fc.tr (eh_fr.tr ?_ (g1.mo pD_cf))) rfl
          rw [v1]
          exact eh_fr.rf.up rfl
        · rw [q2]
          exact eh_fr.up (fm.tr (g2.mo pD_mf)) rfl
        · rw [vo, eh_i_ne _ _ (Or.inl (by decide)), k4]
          exact k1
        · rw [q2, eh_i_ne _ _ (Or.inl (by decide)), g2.i rfl]
          exact k2
        · rw [vo, eh_i_ne _ _ (Or.inl (by decide)), e4]
          rcases nfc_83 Y (i1.C (eh_V g)) with z | z
          · cases z
            exact absurd o3 (by decide)
          · refine Eq.trans z ?_
            rw [v1, eh_i_ne _ _ (Or.inl (by decide))]
            exact f1
        · rw [q2, eh_i_ne _ _ (Or.inl (by decide))]
          rcases nfm_164 X (it.M (eh_V h1)) with z | z
          · cases z
            exact absurd o2 (by decide)
          · exact Eq.trans z f2
/-- a name -/
theorem J_wm {t0 : Nat} {fr ma : Int32} (N : NS q Gc0 Gm0) (S : DJ b n m Gc0 Gm0 k (eh_V h) (eh_V g)) (k9 : k < 40) (E : eh_e (ri_calE ri_md (d + 4)) md_2 187 lo [] h rs hc') (l0 : ri_lk lo 0 = some (.ref 199)) (l1 : ri_lk lo 1 = some (.ref 2)) (l2 : ri_lk lo 2 = some (.ref 23)) (l6 : ri_lk lo 6 = some (.int ke)) (hk : (ke = 10 ∧ t0 = 0) ∨ (ke = 9 ∧ t0 = 1)) (hfr : fr = nI (b0 t0)) (hma : ma = eh_i (eh_V g) 2 (3 + t0)) (X : ri_calE ri_md (e + 2) 168 [.ref 0, .int fr, .int ma] g = some (some (.int x), g7)) (R : (x = 0 ∧ x2 = 0 ∧ eh_V hm' = eh_V g7) ∨ (¬ x = 0 ∧ x2 = 1 ∧ ∃ (g11 : ri_H) (j : Nat) (y : Int32), ri_calE ri_md (e + 2) 158 [.ref 0] g7 = some (none, g11) ∧ iT b n m (eh_V g11) ∧ eh_V hm' = eh_u (eh_V g11) 4 j (.int y))) : DO b n m Gc0 Gm0 k rs x2 (eh_V hc') (eh_V hm') := by
  obtain ⟨is, it, J, fc, fm, k1, k2, k40, f1, f2⟩ := S
  obtain ⟨h1, u, h4, a, a', v1, i1, X3, i4, vo, io, fin⟩ := zW_2 E is l0 l1 l2 l6
  have J1 : JT n 0 (eh_V h1) (eh_V g) := by
    rw [v1]
    exact JT_c J (by decide)
  have t4 : t0 < 4 := by omega
  have Y : ∃ h2, ri_calE ri_md (d + 3) 84 [.ref 2, .ref 23, .int (nI t0)] h1 = some (some (.int u), h2) ∧ eh_V h4 = eh_V h2 := by
    rcases hk with ⟨rfl, rfl⟩ | ⟨rfl, rfl⟩
    · rcases zd_3 X3 rfl i1 with ⟨_, _, c, -⟩ | ⟨_, _, c, -⟩ | ⟨x4, h2, -, Y, -, r1, r2, -, -⟩ | ⟨_, _, c, -⟩
      · exact absurd c (by decide)
      · exact absurd c (by decide)
      · cases r1
        exact ⟨h2, Y, r2⟩
      · exact absurd c (by decide)
    · rcases zd_3 X3 rfl i1 with ⟨_, _, c, -⟩ | ⟨x4, h2, -, Y, -, r1, r2, -, -⟩ | ⟨_, _, c, -⟩ | ⟨_, _, c, -⟩
      · exact absurd c (by decide)
      · cases r1
        exact ⟨h2, Y, r2⟩
      · exact absurd c (by decide)
      · exact absurd c (by decide)
  obtain ⟨h2, Y, e4⟩ := Y
  have fh : eh_fr pDc (eh_V h) (eh_V h1) := by
    rw [v1]
    exact eh_fr.rf.up rfl
  have N1 : NS q (eh_V h1) (eh_V g) := NS_D N (fc.tr fh) fm
  have g1 := fs_84 Y i1
  have k4 : eh_i (eh_V h4) 199 3 = eh_i (eh_V h) 199 3 := by
    rw [e4, g1.i rfl, v1, eh_i_ne _ _ (Or.inl (by decide))]
  rcases J_nm t4 J1 N1 i1 it Y rfl hfr (hma.trans (N1.2.1 t0 t4)) X with ⟨a1, a2, a3⟩ | ⟨a1, a2, ⟨y0, a3⟩, a4, gg, h13, vg, X13, i13, a5⟩
  · rcases fin k4 with ⟨-, p2⟩ | ⟨p1, -⟩
    · rcases R with ⟨-, q1, q2⟩ | ⟨q0, -⟩
      · refine Or.inl ⟨p2, q1, ?_⟩
        rw [vo, q2, e4]
        exact FL_u a3 (by decide)
      · exact absurd a2 q0
    · exact absurd a1 p1
  · rcases fin k4 with ⟨p1, -⟩ | ⟨-, p2⟩
    · exact absurd p1 a1
    · rcases R with ⟨q0, -⟩ | ⟨-, q1, g11, j, y, X11, i11, q2⟩
      · rw [q0] at a2
        exact absurd a2 (by decide)
      · have i7 : iT b n m (eh_V g7) := by
          rw [a3]
          exact iT_u it (it.1.ui rfl) rfl
        obtain ⟨J2, c1, c2⟩ := JS_next J1 (by rw [a4]; decide) X13 X11 (by rw [vg]; exact i1) i7 (by rw [vg]) (by rw [a3]; rfl)
        rw [vg] at c1
        have fg : eh_fr pDm (eh_V g) (eh_V g7) := by
          rw [a3]
          exact eh_fr.rf.up rfl
        refine Or.inr ⟨p2, q1, ⟨io, by rw [q2]; exact iT_u i11 (i11.1.ui rfl) rfl, ?_, ?_, ?_, ?_, ?_, k40, ?_, ?_⟩, k9⟩
        · rw [vo, q2, e4, a5]
          exact JT_c (JT_fm J2 (fun i _ => eh_u_ne _ _ (Or.inl (by decide)))) (by decide)
        · rw [vo, e4, a5]
          exact eh_fr.up ((fc.tr fh).tr (c1.mo pD_ct)) rfl
        · rw [q2]
          exact eh_fr.up ((fm.tr fg).tr (c2.mo pD_mt)) rfl
        · rw [vo, eh_i_ne _ _ (Or.inl (by decide)), k4]
          exact k1
        · rw [q2, eh_i_ne _ _ (Or.inl (by decide)), c2.i rfl, a3]
          exact (eh_i_ne _ _ (Or.inr (by decide))).trans k2
        · rw [vo, eh_i_ne _ _ (Or.inl (by decide)), e4, a5, c1.i rfl, v1, eh_i_ne _ _ (Or.inl (by decide))]
          exact f1
        · rw [q2, eh_i_ne _ _ (Or.inl (by decide)), c2.i rfl, a3]
          exact (eh_i_ne _ _ (Or.inr (by decide))).trans f2
/-- who: a TEACHER, a BOAT, neither -/
theorem J_who {Gc Gm : eh_W} {x9 x15 : Int32} (D : NS q Gc Gm) (vw : VW (eh_l Gc 2 8) (eh_l Gm 0 17)) (fd : fd_C Gc 23 32 (eh_l Gc 2 8) x) (m1 : fd_M Gm 14 (eh_i Gm 2 5) x9) (m2 : fd_M Gm 18 (eh_i Gm 2 6) x15) : (¬ x = -1 ∧ eh_i Gc 33 x.toNatClampNeg = 2 ∧ ¬ x9.toInt < 0) ∨ (¬ x = -1 ∧ eh_i Gc 33 x.toNatClampNeg = 3 ∧ x9.toInt < 0 ∧ ¬ x15.toInt < 0) ∨ ((x = -1 ∨ (¬ eh_i Gc 33 x.toNatClampNeg = 2 ∧ ¬ eh_i Gc 33 x.toNatClampNeg = 3)) ∧ x9.toInt < 0 ∧ x15.toInt < 0) := by
  have qm : ∀ t, t < 4 → q t ≤ 8 := fun t ht => Nat.le_trans (D.1 t ht) (mx_le ht)
  have z := N_C (B := 23) (nm := fun j => eh_l Gm 5 j) D.1 D.2.2.1 vw D.2.2.2 fd
  have z1 := N_M (t := 2) (k := q 2) (by decide) (D.1 2 (by decide)) rfl (D.2.1 2 (by decide)) m1
  have z2 := N_M (t := 3) (k := q 3) (by decide) (D.1 3 (by decide)) rfl (D.2.1 3 (by decide)) m2
  have neg : ((-1 : Int32)).toInt < 0 := by decide
  have pos : ∀ {r : Nat}, r < 100 → ¬ (nI r).toInt < 0 := fun hr => by
    rw [lx_i (by omega)]
    omega
  have ne1 : ∀ {i : Nat}, i < 100 → ¬ nI i = -1 := fun hi e => by
    have := congrArg Int32.toInt e
    rw [lx_i (by omega), show (-1 : Int32).toInt = -1 by decide] at this
    omega
  rcases z with ⟨t, r, i, t1, t2, t3, t5, t6, -, t7, t8⟩ | ⟨no, t3⟩
  · have e33 : eh_i Gc 33 x.toNatClampNeg = nI t := by
      rw [t3, lx_cl (by omega)]
      exact t6
    have no9 : t ≠ 2 → x9 = -1 := fun ne => by
      rcases z1 with ⟨r', y1, y2, -⟩ | ⟨-, y2⟩
      · exact absurd (t8 2 r' (by decide) y1 y2).1.symm ne
      · exact y2
    have no15 : t ≠ 3 → x15 = -1 := fun ne => by
      rcases z2 with ⟨r', y1, y2, -⟩ | ⟨-, y2⟩
      · exact absurd (t8 3 r' (by decide) y1 y2).1.symm ne
      · exact y2
    by_cases e2 : t = 2
    · subst e2
      refine Or.inl ⟨by rw [t3]; exact ne1 (by omega), e33, ?_⟩
      rcases z1 with ⟨r', y1, y2, y3⟩ | ⟨y1, -⟩
      · rw [y3]
        exact pos (by have := qm 2 (by decide); omega)
      · exact absurd t7 (y1 r t2)
    · by_cases e3 : t = 3
      · subst e3
        refine Or.inr (Or.inl ⟨by rw [t3]; exact ne1 (by omega), e33, by rw [no9 e2]; exact neg, ?_⟩)
        rcases z2 with ⟨r', y1, y2, y3⟩ | ⟨y1, -⟩
        · rw [y3]
          exact pos (by have := qm 3 (by decide); omega)
        · exact absurd t7 (y1 r t2)
      · refine Or.inr (Or.inr ⟨Or.inr ⟨?_, ?_⟩, by rw [no9 e2]; exact neg, by rw [no15 e3]; exact neg⟩)
        · rw [e33]
          exact fun w => e2 (lx_inj (a := t) (b := 2) (by omega) (by decide) w)
        · rw [e33]
          exact fun w => e3 (lx_inj (a := t) (b := 3) (by omega) (by decide) w)
  · refine Or.inr (Or.inr ⟨Or.inl t3, ?_, ?_⟩)
    · rcases z1 with ⟨r', y1, y2, -⟩ | ⟨-, y2⟩
      · exact absurd y2 (no 2 r' (by decide) y1)
      · rw [y2]
        exact neg
    · rcases z2 with ⟨r', y1, y2, -⟩ | ⟨-, y2⟩
      · exact absurd y2 (no 3 r' (by decide) y1)
      · rw [y2]
        exact neg
end DLJ
