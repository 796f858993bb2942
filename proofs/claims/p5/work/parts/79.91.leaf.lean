/-! what follows the word of a ONE, on both sides -/
def pLc (k i : Nat) : Bool := pCt k i || pAd k i
def pLm (k i : Nat) : Bool := Nat.beq k 4 || (Nat.beq k 0 && ((Nat.ble i 18 && !Nat.beq i 15) || Nat.beq i 39))
theorem pL_ct (k i : Nat) (h : pLc k i = false) : pCt k i = false := ((Bool.or_eq_false_iff).mp h).1
theorem pL_ad (k i : Nat) (h : pLc k i = false) : pAd k i = false := ((Bool.or_eq_false_iff).mp h).2
theorem pL_co (k i : Nat) (h : pLm k i = false) : (Nat.beq k 4 || (Nat.beq k 0 && Nat.beq i 39)) = false := by
  unfold pLm at h
  simp only [Bool.or_eq_false_iff, Bool.and_eq_false_iff] at h ⊢
  exact ⟨h.1, h.2.elim Or.inl (fun x => Or.inr x.2)⟩
theorem pL_mt (k i : Nat) (h : pLm k i = false) : pMt k i = false := by
  unfold pLm at h
  simp only [Bool.or_eq_false_iff, Bool.and_eq_false_iff] at h
  unfold pMt
  rcases h.2 with x | x
  · rw [x]
    rfl
  · by_cases e15 : i = 15
    · subst e15
      exact Bool.and_eq_false_iff.mpr (Or.inr rfl)
    have : 18 < i := by
      apply Nat.lt_of_not_le
      intro y
      rcases x.1 with x | x
      · rw [Nat.ble_eq.mpr y] at x
        cases x
      · rw [eh_bf e15] at x
        cases x
    have ne : ∀ a, a ≤ 18 → Nat.beq i a = false := fun a ha => eh_bf (by omega)
    have nl : ∀ a, a ≤ 18 → Nat.ble i a = false := fun a ha => lx_no (fun y => by have := Nat.ble_eq.mp y; omega)
    simp only [ne 4 (by decide), ne 11 (by decide), ne 12 (by decide), ne 13 (by decide), ne 14 (by decide), ne 17 (by decide), nl 14 (by decide), nl 17 (by decide), Bool.and_false, Bool.or_false]
def LFo (b : Nat → Int32) (n m : Nat) (v1 : Option Value) (x2 : Int32) (Gc Gm Gc' Gm' : eh_W) : Prop := (v1 = some (.int 0) ∧ x2 = 0 ∧ FL Gc' Gm' ∧ iS b n m Gc') ∨ (v1 = some (.int 1) ∧ x2 = 1 ∧ iS b n m Gc' ∧ iT b n m Gm' ∧ JT n 0 Gc' Gm' ∧ eh_fr pLc Gc Gc' ∧ eh_fr pLm (eh_u Gm 0 43 (.int 1)) Gm')
section LEAF
variable {d e n m : Nat} {b : Nat → Int32} {hc hc' hm hm' : ri_H} {q : Nat → Nat} {v1 : Option Value} {x2 : Int32} {k : Nat}
theorem fr_88 {h h' : ri_H} {v : Option Value} {ke si nu : Int32} (E : ri_calE ri_md (d + 1) 88 [.ref 18, .int ke, .int si, .int nu] h = some (v, h')) (iv : iS b n m (eh_V h)) : eh_fr pAd (eh_V h) (eh_V h') ∧ ∀ i, eh_V h' 2 i = eh_V h 2 i := by
  have f := fs_88 E iv.1
  exact ⟨f, fun i => f 2 i rfl⟩
/-- known, today -/
theorem J_lf1 (k2 : k < 2) (J : JT n 0 (eh_V hc) (eh_V hm)) (is : iS b n m (eh_V hc)) (it : iT b n m (eh_V hm)) (E1 : ri_calE ri_md (d + 4) 98 [.ref 17, .ref 23, .int (nI (16 + k))] hc = some (v1, hc')) {h12 h57 : ri_H} {le : Int32} (V12 : eh_V h12 = eh_u (eh_V hm) 0 43 (.int 1)) (X : ri_calE ri_md (e + 1) 242 [.ref 0, .int le, .int 0, .int 0] h12 = some (none, h57)) (i57 : iT b n m (eh_V h57)) (hx : x2 = 1) (V2 : eh_V hm' = eh_V h57) : LFo b n m v1 x2 (eh_V hc) (eh_V hm) (eh_V hc') (eh_V hm') := by
  have ne : ∀ j : Nat, j = 18 ∨ j = 19 → ¬ nI (16 + k) = nI j := fun j hj x => by
    have := lx_inj (a := 16 + k) (b := j) (by omega) (by omega) x
    omega
  have i12 : iT b n m (eh_V h12) := by
    rw [V12]
    exact iT_u it (it.1.ui rfl) rfl
  have f := fr_242 X i12
  rcases zs_98 E1 rfl is with ⟨_, _, _, c, -⟩ | ⟨_, _, c, -⟩ | ⟨h11, c0, c1, X1, i11, r1, r2, -, -⟩ | ⟨_, _, _, -, c, -⟩ | ⟨_, _, -, c, -⟩
  · exact absurd c (ne 18 (Or.inl rfl))
  · exact absurd c (ne 18 (Or.inl rfl))
  · obtain ⟨g1, g2⟩ := fr_88 X1 is
    refine Or.inr ⟨r1, hx, by rw [r2]; exact i11, by rw [V2]; exact i57, ?_, by rw [r2]; exact g1.mo pL_ad, ?_⟩
    · rw [r2, V2]
      refine JT_fc (JT_fm J (fun i hi => ?_)) g2
      rw [f 0 i (by dsimp only; rw [eh_bf (show i ≠ 39 by omega)]; rfl), V12]
      exact eh_u_ne _ _ (Or.inr (by omega))
    · rw [V2, ← V12]
      exact f.mo pL_co
  · exact absurd c (ne 19 (Or.inr rfl))
  · exact absurd c (ne 19 (Or.inr rfl))
/-- at, by: a name -/
theorem J_lf2 {t0 : Nat} (hk : (k = 2 ∧ t0 = 0) ∨ (k = 3 ∧ t0 = 2)) (J : JT n 0 (eh_V hc) (eh_V hm)) (is : iS b n m (eh_V hc)) (it : iT b n m (eh_V hm)) (N : NS q (eh_V hc) (eh_V hm)) (E1 : ri_calE ri_md (d + 4) 98 [.ref 17, .ref 23, .int (nI (16 + k))] hc = some (v1, hc')) {h12 h49 : ri_H} {x le fr ma : Int32} (V12 : eh_V h12 = eh_u (eh_V hm) 0 43 (.int 1)) (hfr : fr = nI (b0 t0)) (hma : ma = eh_i (eh_V hm) 2 (3 + t0)) (X : ri_calE ri_md (e + 2) 168 [.ref 0, .int fr, .int ma] h12 = some (some (.int x), h49)) (i49 : iT b n m (eh_V h49))
    (R : (x = 0 ∧ x2 = 0 ∧ eh_V hm' = eh_V h49) ∨ (¬ x = 0 ∧ ∃ (nu : Int32) (h53 h55 : ri_H), ri_calE ri_md (e + 2) 242 [.ref 0, .int le, .int 0, .int nu] h49 = some (none, h53) ∧ iT b n m (eh_V h53) ∧ ri_calE ri_md (e + 2) 158 [.ref 0] h53 = some (none, h55) ∧ iT b n m (eh_V h55) ∧ x2 = 1 ∧ eh_V hm' = eh_V h55)) : LFo b n m v1 x2 (eh_V hc) (eh_V hm) (eh_V hc') (eh_V hm') := by
  have t4 : t0 < 4 := by omega
  have i12 : iT b n m (eh_V h12) := by
    rw [V12]
    exact iT_u it (it.1.ui rfl) rfl
  have J12 : JT n 0 (eh_V hc) (eh_V h12) := by
    rw [V12]
    exact JT_m J (by decide)
  have N12 : NS q (eh_V hc) (eh_V h12) := NS_mv N (fun _ _ _ => rfl) (fun k i hk => by
    rw [V12]
    exact eh_u_ne _ _ (Or.inl (by omega)))
  have main : ∀ {so u : Int32} {h3 : ri_H}, so = nI t0 → ri_calE ri_md (d + 3) 84 [.ref 2, .ref 23, .int so] hc = some (some (.int u), h3) → ((u = -1 ∧ v1 = some (.int 0) ∧ eh_V hc' = eh_V h3) ∨ (¬ u = -1 ∧ ∃ (ke : Int32) (h8 : ri_H), ri_calE ri_md (d + 3) 88 [.ref 18, .int ke, .int (-1), .int u] h3 = some (none, h8) ∧ iS b n m (eh_V h8) ∧ v1 = some (.int 1) ∧ eh_V hc' = eh_V h8)) → iS b n m (eh_V h3) → LFo b n m v1 x2 (eh_V hc) (eh_V hm) (eh_V hc') (eh_V hm') := fun {so u h3} hso X1 fin i3 => by
    rcases J_nm t4 J12 N12 is i12 X1 hso hfr (hma.trans (N.2.1 t0 t4)) X with ⟨a1, a2, a3⟩ | ⟨a1, a2, ⟨y, a3⟩, a4, g, h13, vg, X13, i13, a5⟩
    · rcases fin with ⟨-, f2, f3⟩ | ⟨f1, -⟩
      · rcases R with ⟨-, y2, y3⟩ | ⟨y1, -⟩
        · exact Or.inl ⟨f2, y2, by rw [f3, y3]; exact a3, by rw [f3]; exact i3⟩
        · exact absurd a2 y1
      · exact absurd a1 f1
    · rcases fin with ⟨f1, -⟩ | ⟨-, ke, h8, X8, i8, f3, f4⟩
      · exact absurd f1 a1
      · rcases R with ⟨y1, -⟩ | ⟨-, nu, h53, h55, X53, i53, X55, i55, y2, y3⟩
        · rw [y1] at a2
          exact absurd a2 (by decide)
        · have f53 := fr_242 (d := e + 1) X53 i49
          obtain ⟨J2, g1, g2⟩ := JS_next J12 (by rw [a4]; decide) X13 X55 (by rw [vg]; exact is) i53 (by rw [vg]) (by
            rw [show eh_i (eh_V h53) 0 4 = eh_i (eh_V h49) 0 4 from f53.i rfl, a3]
            rfl)
          obtain ⟨g3, g4⟩ := fr_88 (d := d + 2) X8 i3
          refine Or.inr ⟨f3, y2, by rw [f4]; exact i8, by rw [y3]; exact i55, ?_, ?_, ?_⟩
          · rw [f4, y3]
            refine JT_fc J2 (fun i => ?_)
            rw [g4 i, a5]
          · rw [f4]
            refine eh_fr.tr ?_ (g3.mo pL_ad)
            rw [a5]
            rw [vg] at g1
            exact g1.mo pL_ct
          · rw [y3, ← V12]
            refine eh_fr.tr (eh_fr.tr ?_ (f53.mo pL_co)) (g2.mo pL_mt)
            rw [a3]
            exact eh_fr.rf.up rfl
  rcases hk with ⟨rfl, rfl⟩ | ⟨rfl, rfl⟩
  · rcases zs_98 E1 rfl is with ⟨x5, h3, h8, c, X3, i3, y0, X8, i8, r1, r2, -, -⟩ | ⟨x5, h3, c, X3, i3, y0, r1, r2, -, -⟩ | ⟨_, c, -⟩ | ⟨_, _, _, c, -⟩ | ⟨_, _, c, -⟩
    · exact main rfl X3 (Or.inr ⟨y0, _, h8, X8, i8, r1, r2⟩) i3
    · exact main rfl X3 (Or.inl ⟨y0, r1, r2⟩) i3
    · exact absurd rfl c
    · exact absurd rfl c
    · exact absurd rfl c
  · rcases zs_98 E1 rfl is with ⟨_, _, _, c, -⟩ | ⟨_, _, c, -⟩ | ⟨_, -, c, -⟩ | ⟨x5, h3, h8, -, c, X3, i3, y0, X8, i8, r1, r2, -, -⟩ | ⟨x5, h3, -, c, X3, i3, y0, r1, r2, -, -⟩
    · exact absurd c (by decide)
    · exact absurd c (by decide)
    · exact absurd rfl c
    · exact main rfl X3 (Or.inr ⟨y0, _, h8, X8, i8, r1, r2⟩) i3
    · exact main rfl X3 (Or.inl ⟨y0, r1, r2⟩) i3
/-- a measure, a sign, a number -/
theorem J_lf3 {ke : Int32} (J : JT n 0 (eh_V hc) (eh_V hm)) (is : iS b n m (eh_V hc)) (it : iT b n m (eh_V hm)) (E1 : ri_calE ri_md (d + 4) 99 [.ref 17, .int ke] hc = some (v1, hc'))
    (R : ((¬ eh_i (eh_V hm) 0 11 = 3 ∨ (eh_i (eh_V hm) 0 11 = 3 ∧ (eh_i (eh_V hm) 0 14).toInt < 60) ∨ (eh_i (eh_V hm) 0 11 = 3 ∧ 62 < (eh_i (eh_V hm) 0 14).toInt)) ∧ x2 = 0 ∧ eh_V hm' = eh_u (eh_u (eh_u (eh_V hm) 0 43 (.int 1)) 0 15 (.int 1)) 0 16 (.int (eh_i (eh_V hm) 0 12))) ∨ (eh_i (eh_V hm) 0 11 = 3 ∧ ¬ (eh_i (eh_V hm) 0 14).toInt < 60 ∧ ¬ 62 < (eh_i (eh_V hm) 0 14).toInt ∧ ∃ h12 h27 : ri_H, eh_V h12 = eh_u (eh_V hm) 0 43 (.int 1) ∧ ri_calE ri_md (e + 2) 158 [.ref 0] h12 = some (none, h27) ∧ iT b n m (eh_V h27) ∧ ((¬ eh_i (eh_V h27) 0 11 = 2 ∧ x2 = 0 ∧ eh_V hm' = eh_u (eh_u (eh_V h27) 0 15 (.int 1)) 0 16 (.int (eh_i (eh_V h27) 0 12))) ∨ (eh_i (eh_V h27) 0 11 = 2 ∧ ∃ (le si nu : Int32) (h30 h32 : ri_H), ri_calE ri_md (e + 2) 242 [.ref 0, .int le, .int si, .int nu] h27 = some (none, h30) ∧ iT b n m (eh_V h30) ∧ ri_calE ri_md (e + 2) 158 [.ref 0] h30 = some (none, h32) ∧ iT b n m (eh_V h32) ∧ x2 = 1 ∧ eh_V hm' = eh_V h32)))) : LFo b n m v1 x2 (eh_V hc) (eh_V hm) (eh_V hc') (eh_V hm') := by
  have J43 : JT n 0 (eh_V hc) (eh_u (eh_V hm) 0 43 (.int 1)) := JT_m J (by decide)
  have z1 := zs_99 E1 rfl is
  have bad : (¬ eh_i (eh_V hc) 2 5 = 5 ∨ (eh_i (eh_V hc) 2 7).toInt < 60 ∨ 62 < (eh_i (eh_V hc) 2 7).toInt) → v1 = some (.int 0) ∧ eh_V hc' = eh_u (eh_u (eh_V hc) 2 9 (.int 1)) 2 10 (.int (eh_i (eh_V hc) 2 6)) ∧ iS b n m (eh_V hc') := fun w => by
    rcases z1 with ⟨-, r1, r2, -, r4⟩ | ⟨-, -, r1, r2, -, r4⟩ | ⟨_, _, _, _, c0, c1, c2, -⟩ | ⟨_, _, _, c0, c1, c2, -⟩ | ⟨-, -, -, r1, r2, -, r4⟩
    · exact ⟨r1, r2, by rw [r2]; exact r4⟩
    · exact ⟨r1, r2, by rw [r2]; exact r4⟩
    · exact absurd w (fun w => w.elim (fun x => x c0) (fun x => x.elim c1 c2))
    · exact absurd w (fun w => w.elim (fun x => x c0) (fun x => x.elim c1 c2))
    · exact ⟨r1, r2, by rw [r2]; exact r4⟩
  rcases R with ⟨w, y2, y3⟩ | ⟨t3, n60, n62, h12, h27, V12, X27, i27, R⟩
  · have w' : ¬ eh_i (eh_V hc) 2 5 = 5 ∨ (eh_i (eh_V hc) 2 7).toInt < 60 ∨ 62 < (eh_i (eh_V hc) 2 7).toInt := by
      rcases J.k5 with ⟨a, z, y⟩ | ⟨a, z⟩
      · rw [y] at w
        rcases w with w | w | w
        · exact absurd z w
        · exact Or.inr (Or.inl w.2)
        · exact Or.inr (Or.inr w.2)
      · exact Or.inl a
    obtain ⟨r1, r2, r4⟩ := bad w'
    obtain ⟨f1, -, -⟩ := J43.fl r2 y3 (by decide)
    exact Or.inl ⟨r1, y2, f1, r4⟩
  · rcases J.k5 with ⟨a, -, y⟩ | ⟨-, z⟩
    · rw [y] at n60 n62
      have i12 : iT b n m (eh_V h12) := by
        rw [V12]
        exact iT_u it (it.1.ui rfl) rfl
      have J12 : JT n 0 (eh_V hc) (eh_V h12) := by
        rw [V12]
        exact J43
      have go : ∀ {x15 : Int32} {h11 h13 : ri_H}, ri_calE ri_md (d + 3) 74 [.ref 2] hc = some (none, h11) → iS b n m (eh_V h11) → ri_calE ri_md (d + 3) 83 [.ref 2, .int 0, .int 999] h11 = some (some (.int x15), h13) → iS b n m (eh_V h13) → ((x15 = -1 ∧ v1 = some (.int 0) ∧ eh_V hc' = eh_V h13) ∨ (¬ x15 = -1 ∧ ∃ (si : Int32) (h18 : ri_H), ri_calE ri_md (d + 3) 88 [.ref 18, .int ke, .int si, .int x15] h13 = some (none, h18) ∧ iS b n m (eh_V h18) ∧ v1 = some (.int 1) ∧ eh_V hc' = eh_V h18)) → LFo b n m v1 x2 (eh_V hc) (eh_V hm) (eh_V hc') (eh_V hm') := fun {x15 h11 h13} X11 i11 X13 i13 fin => by
        obtain ⟨J2, g1, g2⟩ := JS_next (d := d + 1) J12 (by rw [a]; decide) X11 X27 is i12 rfl rfl
        have z83 := sp_83 X13 rfl (i11.C (eh_V hm))
        have e0 : (0 : Int32).toInt = 0 := by decide
        have e9 : (999 : Int32).toInt = 999 := by decide
        rw [e0, e9] at z83
        rcases J2.k4 with ⟨b1, b2, b3, b4, b5⟩ | ⟨b1, b2⟩
        · rcases z83 with ⟨-, c, -⟩ | ⟨h8, -, -, -, X8, i8, s1, s2, -, -⟩ | ⟨-, -, c, -⟩ | ⟨c, -⟩
          · omega
          · cases s1
            rcases fin with ⟨f1, -⟩ | ⟨-, si, h18, X18, i18, f3, f4⟩
            · rw [f1] at b4
              exact absurd b4 (by decide)
            · rcases R with ⟨c, -⟩ | ⟨-, le, si', nu, h30, h32, X30, i30, X32, i32, y2, y3⟩
              · exact absurd b2 c
              · have f30 := fr_242 (d := e + 1) X30 i27
                obtain ⟨J3, g3, g4⟩ := JS_next J2 (by rw [b1]; decide) X8 X32 i11 i30 rfl (f30.i rfl)
                obtain ⟨g5, g6⟩ := fr_88 (d := d + 2) X18 i13
                refine Or.inr ⟨f3, y2, by rw [f4]; exact i18, by rw [y3]; exact i32, ?_, ?_, ?_⟩
                · rw [f4, y3]
                  refine JT_fc J3 (fun i => ?_)
                  rw [g6 i, s2]
                · rw [f4]
                  refine eh_fr.tr ?_ (g5.mo pL_ad)
                  rw [s2]
                  exact eh_fr.tr (g1.mo pL_ct) (g3.mo pL_ct)
                · rw [y3, ← V12]
                  exact eh_fr.tr (eh_fr.tr (g2.mo pL_mt) (f30.mo pL_co)) (g4.mo pL_mt)
          · omega
          · exact absurd b1 c
        · rcases z83 with ⟨c, -⟩ | ⟨_, c, -⟩ | ⟨c, -⟩ | ⟨-, s1, s2, -, -⟩
          · exact absurd c b1
          · exact absurd c b1
          · exact absurd c b1
          · cases s1
            rcases fin with ⟨-, f2, f3⟩ | ⟨f1, -⟩
            · rcases R with ⟨-, y2, y3⟩ | ⟨c, -⟩
              · obtain ⟨f1, -, -⟩ := J2.fl s2 y3 (by decide)
                exact Or.inl ⟨f2, y2, by rw [f3]; exact f1, by rw [f3]; exact i13⟩
              · exact absurd c b2
            · exact absurd rfl f1
      rcases z1 with ⟨c, -⟩ | ⟨-, c, -⟩ | ⟨h11, x15, h13, h18, -, -, -, X11, i11, X13, i13, y0, X18, i18, r1, r2, -, -⟩ | ⟨h11, x15, h13, -, -, -, X11, i11, X13, i13, y0, r1, r2, -, -⟩ | ⟨-, -, c, -⟩
      · exact absurd a c
      · exact absurd c n60
      · exact go X11 i11 X13 i13 (Or.inr ⟨y0, _, h18, X18, i18, r1, r2⟩)
      · exact go X11 i11 X13 i13 (Or.inl ⟨y0, r1, r2⟩)
      · exact absurd c n62
    · exact absurd t3 z
end LEAF
