/-! a CONDITION of a SENTENCE, on both sides -/
abbrev HD (e : Nat) (rs2 : List Value) (hm' h : ri_H) (lo : List (Nat × Value)) : Prop := eh_e (ri_calE ri_md (e + 4)) md_248 48 lo [] h rs2 hm' ∧ ri_lk lo 0 = some (.ref 0) ∧ ri_lk lo 1 = some (.int 1)
def FR (b : Nat → Int32) (n m : Nat) (v1 : Option Value) (rs2 : List Value) (Gc' Gm' : eh_W) : Prop := v1 = some (.int 0) ∧ rs2 = [.int (-1 - eh_i Gm' 0 16)] ∧ FL Gc' Gm' ∧ iS b n m Gc'
def ONR (b : Nat → Int32) (e n m : Nat) (Gc0 Gm0 : eh_W) (w T dp : Nat) (v1 : Option Value) (rs2 : List Value) (Gm : eh_W) (hc' hm' : ri_H) : Prop := FR b n m v1 rs2 (eh_V hc') (eh_V hm') ∨ (v1 = some (.int 1) ∧ ∃ (hz : ri_H) (loz : List (Nat × Value)) (j w' : Nat), HD e rs2 hm' hz loz ∧ w + 1 ≤ w' ∧ SJ b n m Gc0 Gm0 w' (T + j) (dp + j) 1 (eh_V hc') (eh_V hz) ∧ dp + j ≤ 9 ∧ (∀ i, i < T → eh_i (eh_V hz) 13 i = eh_i Gm 13 i) ∧ ∀ i, T ≤ i → i < T + j → eh_i (eh_V hz) 13 i = 20)
def CNR (b : Nat → Int32) (e n m w0 : Nat) (Gc0 Gm0 : eh_W) (B dp : Nat) (v1 : Option Value) (rs2 : List Value) (Gm : eh_W) (hc' hm' : ri_H) : Prop := FR b n m v1 rs2 (eh_V hc') (eh_V hm') ∨ (v1 = some (.int 1) ∧ ∃ (hz : ri_H) (loz : List (Nat × Value)) (j T' w' : Nat), HD e rs2 hm' hz loz ∧ w0 ≤ w' ∧ SJ b n m Gc0 Gm0 w' (T' + j) (dp + j) 1 (eh_V hc') (eh_V hz) ∧ dp + j ≤ 9 ∧ B ≤ T' ∧ T' ≤ B + 2 ∧ (∀ i, i < B → eh_i (eh_V hz) 13 i = eh_i Gm 13 i) ∧ (∀ i, B ≤ i → i < T' → pop 22 (eh_i (eh_V hz) 13 i)) ∧ (∀ i, T' ≤ i → i < T' + j → eh_i (eh_V hz) 13 i = 20) ∧ ¬ (eh_i (eh_V hc') 2 5 = 2 ∧ (eh_i (eh_V hc') 2 7 = 13 ∨ eh_i (eh_V hc') 2 7 = 14)))
/-- and, or that wait -/
def PD (B T' : Nat) (G : eh_W) : Prop := T' = B ∨ (T' = B + 1 ∧ (eh_i G 13 B = 21 ∨ eh_i G 13 B = 22)) ∨ (T' = B + 2 ∧ eh_i G 13 B = 22 ∧ eh_i G 13 (B + 1) = 21)
section COND
variable {d e n m w w0 dp B : Nat} {b : Nat → Int32} {q : Nat → Nat} {Gc0 Gm0 : eh_W} {hm' : ri_H} {rs2 : List Value}
theorem SJ_add {T : Nat} {wh ke si nu : Int32} {hx hy : ri_H} {v : Option Value} {Gm : eh_W} (S : SJ b n m Gc0 Gm0 w T dp wh (eh_V hx) Gm) (X : ri_calE ri_md (d + 1) 88 [.ref 18, .int ke, .int si, .int nu] hx = some (v, hy)) : SJ b n m Gc0 Gm0 w T dp wh (eh_V hy) Gm ∧ ∀ i, eh_V hy 2 i = eh_V hx 2 i := by
  obtain ⟨is, it, J, fc, fm, ⟨w1, w2, w20⟩, r⟩ := S
  obtain ⟨f, g⟩ := fr_88 X is
  obtain ⟨-, iy, -⟩ := ts_88 X is
  exact ⟨⟨iy, it, JT_fc J g, fc.tr (f.mo pS_ad), fm, ⟨(f.i rfl).trans w1, w2, w20⟩, r⟩, g⟩
theorem FL_2 {Gc Hc Gm : eh_W} (h : FL Gc Gm) (g : ∀ i, Hc 2 i = Gc 2 i) : FL Hc Gm := by
  unfold FL at h ⊢
  rw [show eh_i Hc 2 9 = _ from ei_eq (g 9), show eh_i Hc 2 10 = _ from ei_eq (g 10)]
  exact h
theorem add_2 {ke si nu : Int32} {hx hy : ri_H} {v : Option Value} (X : ri_calE ri_md (d + 1) 88 [.ref 18, .int ke, .int si, .int nu] hx = some (v, hy)) (ty : eh_ty tC (eh_V hx)) : ∀ i, eh_V hy 2 i = eh_V hx 2 i := fun i => fs_88 X ty 2 i rfl
theorem PD_pop {T' : Nat} {G : eh_W} (P : PD B T' G) : B ≤ T' ∧ T' ≤ B + 2 ∧ ∀ i, B ≤ i → i < T' → pop 22 (eh_i G 13 i) := by
  rcases P with rfl | ⟨rfl, h⟩ | ⟨rfl, h1, h2⟩
  · exact ⟨by omega, by omega, fun i h1 h2 => by omega⟩
  · refine ⟨by omega, by omega, fun i h1 h2 => ?_⟩
    rw [show i = B by omega]
    exact h.elim Or.inl (fun x => Or.inr ⟨x, rfl⟩)
  · refine ⟨by omega, by omega, fun i h3 h4 => ?_⟩
    by_cases e : i = B
    · rw [e]
      exact Or.inr ⟨h1, rfl⟩
    · rw [show i = B + 1 by omega]
      exact Or.inl h2
theorem no23 {ti x : Int32} (h : x = 23) : ¬ pop ti x := by
  subst h
  intro h
  rcases h with h | ⟨h, -⟩
  · exact absurd h (by decide)
  · exact absurd h (by decide)
/-- what joins leaves below the word -/
theorem PD_jn {T' : Nat} {ti : Int32} {G G2 : eh_W} (P : PD B T' G) (hB : 0 < B → eh_i G 13 (B - 1) = 23) (hti : ti = 21 ∨ ti = 22) (q : jn b n m T' dp ti G G2) : ∃ Tn, B ≤ Tn ∧ Tn ≤ B + 1 ∧ eh_i G2 0 41 = nI Tn ∧ (Tn = B ∨ (Tn = B + 1 ∧ ti = 21 ∧ eh_i G 13 B = 22)) := by
  obtain ⟨p1, p2, p3⟩ := PD_pop P
  rcases hti with rfl | rfl
  · rcases P with rfl | ⟨rfl, h⟩ | ⟨rfl, h1, h2⟩
    · exact ⟨T', by omega, by omega, q.2.2.2 T' (Nat.le_refl _) (fun i a c => by omega) (fun h => no23 (hB h)), Or.inl rfl⟩
    · rcases h with h | h
      · refine ⟨B, by omega, by omega, q.2.2.2 B (by omega) (fun i a c => ?_) (fun h => no23 (hB h)), Or.inl rfl⟩
        rw [show i = B by omega]
        exact Or.inl h
      · refine ⟨B + 1, by omega, by omega, q.2.2.2 (B + 1) (by omega) (fun i a c => by omega) (fun _ x => ?_), Or.inr ⟨rfl, rfl, h⟩⟩
        rw [show B + 1 - 1 = B by omega, h] at x
        rcases x with x | ⟨-, x⟩
        · exact absurd x (by decide)
        · exact absurd x (by decide)
    · refine ⟨B + 1, by omega, by omega, q.2.2.2 (B + 1) (by omega) (fun i a c => ?_) (fun _ x => ?_), Or.inr ⟨rfl, rfl, h1⟩⟩
      · rw [show i = B + 1 by omega]
        exact Or.inl h2
      · rw [show B + 1 - 1 = B by omega, h1] at x
        rcases x with x | ⟨-, x⟩
        · exact absurd x (by decide)
        · exact absurd x (by decide)
  · exact ⟨B, by omega, by omega, q.2.2.2 B p1 p3 (fun h => no23 (hB h)), Or.inl rfl⟩
theorem top20 {T' : Nat} {G : eh_W} (P : PD B T' G) (hB : 0 < B → eh_i G 13 (B - 1) = 23) : 0 < T' → eh_i G 13 (T' - 1) ≠ 20 := by
  intro h0 x
  rcases P with rfl | ⟨rfl, h⟩ | ⟨rfl, h1, h2⟩
  · rw [hB h0] at x
    exact absurd x (by decide)
  · rw [show B + 1 - 1 = B by omega] at x
    rw [x] at h
    rcases h with h | h
    · exact absurd h (by decide)
    · exact absurd h (by decide)
  · rw [show B + 2 - 1 = B + 1 by omega] at x
    rw [x] at h2
    exact absurd h2 (by decide)
/-- readCond's loop -/
theorem J_cl {D : Nat} {hc' : ri_H} {rs1 : List Value} {Gm : eh_W} (dp9 : dp ≤ 9) (hB2 : B + 2 ≤ 3 * dp) (hG : 0 < B → eh_i Gm 13 (B - 1) = 23)
    (H1 : ∀ (T w : Nat) (hc hm hc1 : ri_H) (v1 : Option Value) (lo : List (Nat × Value)), SJ b n m Gc0 Gm0 w T dp 0 (eh_V hc) (eh_V hm) → T ≤ 3 * dp → ri_calE ri_md (D + 2) 97 [.ref 17, .ref 23, .int (nI dp)] hc = some (v1, hc1) → HD e rs2 hm' hm lo → ONR b e n m Gc0 Gm0 w T dp v1 rs2 (eh_V hm) hc1 hm') :
    ∀ (f i : Nat) (lo1 : List (Nat × Value)) (hs hz : ri_H) (loz : List (Nat × Value)) (j T' w : Nat) (oo : Int32), i + f = 21 → eh_e (ri_calE ri_md (D + 2)) md_96 13 lo1 [] hs rs1 hc' → ri_lk lo1 0 = some (.ref 17) → ri_lk lo1 1 = some (.ref 23) → ri_lk lo1 2 = some (.int (nI dp)) → ri_lk lo1 3 = some (.int 1) → ri_lk lo1 4 = some (.int oo) → ri_lk lo1 5 = some (.int (nI i)) → HD e rs2 hm' hz loz → SJ b n m Gc0 Gm0 w (T' + j) (dp + j) 1 (eh_V hs) (eh_V hz) → i + 1 ≤ w → w0 ≤ w → dp + j ≤ 9 → PD B T' (eh_V hz) → (∀ i, T' ≤ i → i < T' + j → eh_i (eh_V hz) 13 i = 20) → (∀ i, i < B → eh_i (eh_V hz) 13 i = eh_i Gm 13 i) → CNR b e n m w0 Gc0 Gm0 B dp rs1.head? rs2 Gm hc' hm' := by
  have one0 : ¬ (1 : Int32) = 0 := by decide
  -- the loop with a fault behind it
  have bad : ∀ {x : Int32} {lo1 : List (Nat × Value)} {hs : ri_H} {oo i : Int32}, x = 0 → eh_e (ri_calE ri_md (D + 2)) md_96 13 lo1 [] hs rs1 hc' → ri_lk lo1 0 = some (.ref 17) → ri_lk lo1 1 = some (.ref 23) → ri_lk lo1 2 = some (.int (nI dp)) → ri_lk lo1 3 = some (.int x) → ri_lk lo1 4 = some (.int oo) → ri_lk lo1 5 = some (.int i) → iS b n m (eh_V hs) → rs1.head? = some (.int 0) ∧ (∀ i, eh_V hc' 2 i = eh_V hs 2 i) ∧ iS b n m (eh_V hc') := fun {x lo1 hs oo i} hx E a0 a1 a2 a3 a4 a5 is => by
    subst hx
    rcases zc_l (d := D) E rfl is a0 a1 a2 a3 a4 a5 with ⟨-, -, r1, r2, -, r4⟩ | ⟨h3, -, -, X, -, r1, r2, -, r4⟩ | ⟨-, -, -, r1, r2, -, r4⟩ | ⟨h3, -, -, -, X, -, r1, r2, -, r4⟩ | ⟨-, c, -⟩ | ⟨_, _, -, c, -⟩ | ⟨-, c, -⟩ | ⟨_, _, -, c, -⟩ | ⟨_, _, -, c, -⟩ | ⟨_, _, -, c, -⟩ | ⟨_, _, _, -, c, -⟩
    · exact ⟨by rw [r1]; rfl, fun i => (by rw [r2]), by rw [r2]; exact r4⟩
    · exact ⟨by rw [r1]; rfl, fun i => (by rw [r2]; exact add_2 (d := D + 1) X is.1 i), by rw [r2]; exact r4⟩
    · exact ⟨by rw [r1]; rfl, fun i => (by rw [r2]), by rw [r2]; exact r4⟩
    · exact ⟨by rw [r1]; rfl, fun i => (by rw [r2]; exact add_2 (d := D + 1) X is.1 i), by rw [r2]; exact r4⟩
    all_goals exact absurd rfl c
  intro f
  induction f with
  | zero =>
    intro i lo1 hs hz loz j T' w oo hf E a0 a1 a2 a3 a4 a5 H S hw hw0 dj P hN hU
    have := S.2.2.2.2.2.1.2.2
    omega
  | succ f ih =>
    intro i lo1 hs hz loz j T' w oo hf E a0 a1 a2 a3 a4 a5 H S hw hw0 dj P hN hU
    have w20 := S.2.2.2.2.2.1.2.2
    have hB : 0 < B → eh_i (eh_V hz) 13 (B - 1) = 23 := fun h => (hU _ (by omega)).trans (hG h)
    obtain ⟨pp1, pp2, pp3⟩ := PD_pop P
    have fin : ∀ {hy : ri_H}, SJ b n m Gc0 Gm0 w (T' + j) (dp + j) 1 (eh_V hy) (eh_V hz) → ¬ (eh_i (eh_V hy) 2 5 = 2 ∧ (eh_i (eh_V hy) 2 7 = 13 ∨ eh_i (eh_V hy) 2 7 = 14)) → rs1 = [.int 1] → eh_V hc' = eh_V hy → CNR b e n m w0 Gc0 Gm0 B dp rs1.head? rs2 Gm hc' hm' := fun {hy} S' nt r1 r2 => by
      rw [← r2] at S' nt
      exact Or.inr ⟨by rw [r1]; rfl, hz, loz, j, T', w, H, by omega, S', dj, pp1, pp2, hU, pp3, hN, nt⟩
    have op : ∀ {hx h65 : ri_H} {u : Option Value} {key : Nat} {oo' o : Int32}, (key = 13 ∨ key = 14) → SJ b n m Gc0 Gm0 w (T' + j) (dp + j) 1 (eh_V hx) (eh_V hz) → eh_i (eh_V hx) 2 5 = 2 → eh_i (eh_V hx) 2 7 = nI key → ri_calE ri_md (D + 2) 74 [.ref 2] hx = some (u, h65) → iS b n m (eh_V h65) → (∃ h1 loz' v hz', eh_V h1 = eh_V h65 ∧ eh_N h1 = eh_N hs ∧ iS b n m (eh_V h65) ∧ ri_calE ri_md (D + 2) 97 [.ref 17, .ref 23, .int (nI dp)] h1 = some (v, hz') ∧ eh_e (ri_calE ri_md (D + 2)) md_96 100 loz' (v.toList ++ []) hz' rs1 hc' ∧ ri_lk loz' 0 = some (.ref 17) ∧ ri_lk loz' 1 = some (.ref 23) ∧ ri_lk loz' 2 = some (.int (nI dp)) ∧ ri_lk loz' 3 = some (.int 1) ∧ ri_lk loz' 4 = some (.int oo') ∧ ri_lk loz' 5 = some (.int (nI i)) ∧ ri_lk loz' 6 = some (.int o)) → CNR b e n m w0 Gc0 Gm0 B dp rs1.head? rs2 Gm hc' hm' := fun {hx h65 u key oo' o} hkey S' kd ky X65 i65 ⟨h1, loz', v, hz', U1, _, _, Xc, Ec, m0, m1, m2, m3, m4, m5, m6⟩ => by
      obtain ⟨is, it, J, fc, fm, ⟨w1, w2, -⟩, hwh, tp, dpp⟩ := S'
      have tk : eh_i (eh_V hz) 0 11 = 1 ∧ eh_l (eh_V hz) 0 17 = lx_Wd key := by
        rcases J.ks with ⟨a, z⟩ | ⟨a, z⟩ | ⟨a, z, k, k1, k2, k3⟩ | ⟨a, z, -⟩ | ⟨a, z, -⟩ | ⟨a, z, -⟩
        · rw [a] at kd; exact absurd kd (by decide)
        · rw [a] at kd; exact absurd kd (by decide)
        · have := lx_inj (a := k) (b := key) (by omega) (by omega) (k2.symm.trans ky)
          rw [← this]
          exact ⟨z, k3⟩
        · rw [a] at kd; exact absurd kd (by decide)
        · rw [a] at kd; exact absurd kd (by decide)
        · rw [a] at kd; exact absurd kd (by decide)
      have t0 : ¬ eh_i (eh_V hz) 0 11 = 0 := by
        rw [tk.1]
        decide
      have wn0 : ¬ eh_i (eh_V hz) 0 43 = 0 := by
        rw [hwh]
        decide
      have beh : ∀ {x9 : Int32} {h7 : ri_H}, ri_calE ri_md (e + 4) 247 [.ref 0] hz = some (some (.int x9), h7) → ∃ (Tn : Nat) (ti : Int32), x9 = 1 ∧ B ≤ Tn ∧ Tn ≤ B + 1 ∧ SJ b n m Gc0 Gm0 w (Tn + 1) dp 0 (eh_V h65) (eh_V h7) ∧ (∀ i, i < Tn → eh_i (eh_V h7) 13 i = eh_i (eh_V hz) 13 i) ∧ eh_i (eh_V h7) 13 Tn = ti ∧ (ti = 21 ∨ ti = 22) ∧ (Tn = B ∨ (Tn = B + 1 ∧ ti = 21 ∧ eh_i (eh_V hz) 13 B = 22)) := fun {x9 h7} X => by
        obtain ⟨ti, h2, qj, g2, R⟩ := J_beh X it (by omega) (by omega) tp dpp hN (top20 P hB)
        rcases R with ⟨-, hti, hx9, h3, h4, V3, X4, i4, V7⟩ | ⟨n1, n2, -⟩
        · have hti' : ti = 21 ∨ ti = 22 := hti.elim (fun x => Or.inl x.1) (fun x => Or.inr x.1)
          obtain ⟨Tn, q1, q2, q3, q4⟩ := PD_jn P hB hti' qj
          rw [q3, lx_cl (by omega)] at V3
          obtain ⟨i2, f2, d2, -⟩ := qj
          have i3 : iT b n m (eh_V h3) := by
            rw [V3]
            have j0 : iT b n m (eh_u (eh_V h2) 13 Tn (.int ti)) := iT_u i2 (i2.1.ui rfl) rfl
            have j1 : iT b n m (eh_u (eh_u (eh_V h2) 13 Tn (.int ti)) 0 41 (.int (nI Tn + 1))) := iT_u j0 (j0.1.ui rfl) rfl
            exact iT_u j1 (j1.1.ui rfl) rfl
          have h34 : eh_i (eh_V h3) 0 4 = eh_i (eh_V hz) 0 4 := by
            rw [V3]
            exact (show _ = eh_i (eh_V h2) 0 4 from rfl).trans (ei_eq (g2 4 (by decide)))
          obtain ⟨J2, y1, y2⟩ := JS_next (e := e + 1) J (by rw [kd]; decide) X65 X4 is i3 rfl h34
          rw [V7]
          refine ⟨Tn, ti, hx9, q1, q2, ⟨i65, i4, J2, fc.tr (y1.mo pS_ct), ?_, ⟨(y1.i rfl).trans w1, ?_, w20⟩, ?_, ?_, ?_⟩, fun i hi => ?_, ?_, hti', q4⟩
          · refine (fm.tr (f2.mo pS_no)).tr (eh_fr.tr ?_ (y2.mo pS_mt))
            rw [V3]
            exact ((eh_fr.rf.up rfl).up rfl).up rfl
          · refine (y2.i rfl).trans ?_
            rw [V3]
            exact (show _ = eh_i (eh_V h2) 0 40 from rfl).trans ((f2.i rfl).trans w2)
          · refine (y2.i rfl).trans ?_
            rw [V3]
            rfl
          · refine (y2.i rfl).trans ?_
            rw [V3]
            exact (show _ = nI Tn + 1 from rfl).trans (lx_a1 Tn)
          · refine (y2.i rfl).trans ?_
            rw [V3]
            exact (show _ = eh_i (eh_V h2) 0 42 from rfl).trans d2
          · refine (y2.i rfl).trans ?_
            rw [V3, eh_i_ne _ _ (Or.inl (by decide)), eh_i_ne _ _ (Or.inl (by decide)), eh_i_ne _ _ (Or.inr (by omega))]
            exact f2.i rfl
          · refine (y2.i rfl).trans ?_
            rw [V3, eh_i_ne _ _ (Or.inl (by decide)), eh_i_ne _ _ (Or.inl (by decide)), eh_i_self]
        · rcases hkey with rfl | rfl
          · exact absurd tk n2
          · exact absurd tk n1
      rcases zt_h (d := e) H.1 rfl it H.2.1 H.2.2 with ⟨_, _, c, -⟩ | ⟨_, _, c, -⟩ | ⟨x9, h7, -, -, X, -, c, hz2, loz2, E2, V2, -, -, l0, l1⟩ | ⟨x9, h7, -, -, X, -, c, -⟩ | ⟨_, _, -, c, -⟩ | ⟨_, _, -, c, -⟩
      · exact absurd c wn0
      · exact absurd c wn0
      · obtain ⟨Tn, ti, -, q1, q2, S2, u1, u2, u3, u4⟩ := beh X
        rw [← V2] at S2 u1 u2
        have R := H1 (Tn + 1) w h1 hz2 hz' v loz2 (by rw [U1]; exact S2) (by omega) Xc ⟨E2, l0, l1⟩
        rcases R with ⟨p1, p2, p3, isz⟩ | ⟨p1, hz3, loz3, j3, w3, H3, p2, S3, p3, p4, p5⟩
        · subst p1
          rcases zc_c (d := D + 1) (x := 0) Ec rfl isz m0 m1 m2 m3 m4 m5 m6 with ⟨-, hy, loy, Ey, Vy, -, iy, b0, b1, b2, b3, b4, b5, -⟩ | ⟨h4, -, X4, i4, hy, loy, Ey, Vy, -, iy, b0, b1, b2, b3, b4, b5, -⟩
          · obtain ⟨r1, r2, r4⟩ := bad rfl Ey b0 b1 b2 b3 b4 b5 (by rw [Vy]; exact iy)
            exact Or.inl ⟨r1, p2, FL_2 p3 (fun i => by rw [r2 i, Vy]), r4⟩
          · obtain ⟨r1, r2, r4⟩ := bad rfl Ey b0 b1 b2 b3 b4 b5 (by rw [Vy]; exact iy)
            exact Or.inl ⟨r1, p2, FL_2 p3 (fun i => (by rw [r2 i, Vy]; exact add_2 (d := D + 1) X4 isz.1 i)), r4⟩
        · subst p1
          have T3 : T' ≤ B + 2 := pp2
          have P3 : PD B (Tn + 1) (eh_V hz3) := by
            have e1 : eh_i (eh_V hz3) 13 Tn = ti := (p4 Tn (by omega)).trans u2
            rcases u4 with rfl | ⟨rfl, k1, k2⟩
            · refine Or.inr (Or.inl ⟨rfl, ?_⟩)
              rw [e1]
              exact u3
            · refine Or.inr (Or.inr ⟨rfl, ?_, e1.trans k1⟩)
              exact (p4 B (by omega)).trans ((u1 B (by omega)).trans k2)
          have U3 : ∀ i, i < B → eh_i (eh_V hz3) 13 i = eh_i Gm 13 i := fun i hi => (p4 i (by omega)).trans ((u1 i (by omega)).trans (hU i hi))
          rcases zc_c (d := D + 1) (x := 1) Ec rfl S3.1 m0 m1 m2 m3 m4 m5 m6 with ⟨-, hy, loy, Ey, Vy, -, iy, b0, b1, b2, b3, b4, b5, -⟩ | ⟨h4, -, X4, i4, hy, loy, Ey, Vy, -, iy, b0, b1, b2, b3, b4, b5, -⟩
          · rw [lx_a1] at b5
            exact ih (i + 1) loy hy hz3 loz3 j3 (Tn + 1) w3 _ (by omega) Ey b0 b1 b2 b3 b4 b5 H3 (by rw [Vy]; exact S3) (by omega) (by omega) p3 P3 p5 U3
          · rw [lx_a1] at b5
            exact ih (i + 1) loy hy hz3 loz3 j3 (Tn + 1) w3 _ (by omega) Ey b0 b1 b2 b3 b4 b5 H3 (by rw [Vy]; exact (SJ_add (d := D + 1) S3 X4).1) (by omega) (by omega) p3 P3 p5 U3
      · obtain ⟨Tn, ti, q0, -⟩ := beh X
        rw [q0] at c
        exact absurd c one0
      · exact absurd c t0
      · exact absurd c t0
    have z := zc_l (d := D) E rfl S.1 a0 a1 a2 a3 a4 a5
    rw [lx_i (a := i) (by omega)] at z
    rcases z with ⟨c, -⟩ | ⟨_, c, -⟩ | ⟨-, c, -⟩ | ⟨_, -, c, -⟩ | ⟨-, -, c, -, r1, r2, -, -⟩ | ⟨h21, h34, -, -, c, -, V, X, -, r1, r2, -, -⟩ | ⟨-, -, c0, c1, c2, -, r1, r2, -, -⟩ | ⟨h21, h34, -, -, c0, c1, c2, -, V, X, -, r1, r2, -, -⟩ | ⟨h51, h65, -, -, c0, -, c2, V, X, i65, cl⟩ | ⟨h51, h65, -, -, c0, c1, -, V, X, i65, cl⟩ | ⟨h51, h86, h65, -, -, c0, c1, -, V, X8, i8, X, i65, cl⟩
    · omega
    · omega
    · exact absurd c one0
    · exact absurd c one0
    · exact fin S (fun x => c x.1) r1 r2
    · rw [← V] at S
      obtain ⟨S', g⟩ := SJ_add (d := D + 1) S X
      exact fin S' (fun x => c (by rw [← V]; exact (ei_eq (g 5)).symm.trans x.1)) r1 r2
    · exact fin S (fun x => x.2.elim c1 c2) r1 r2
    · rw [← V] at S c1 c2
      obtain ⟨S', g⟩ := SJ_add (d := D + 1) S X
      exact fin S' (fun x => x.2.elim (fun y => c1 ((ei_eq (g 7)).symm.trans y)) (fun y => c2 ((ei_eq (g 7)).symm.trans y))) r1 r2
    · rw [← V] at S c0 c2
      exact op (key := 14) (Or.inr rfl) S c0 c2 X i65 cl
    · rw [← V] at S c0 c1
      exact op (key := 13) (Or.inl rfl) S c0 c1 X i65 cl
    · rw [← V] at S c0 c1
      obtain ⟨S', g⟩ := SJ_add (d := D + 1) S X8
      exact op (key := 13) (Or.inl rfl) S' ((ei_eq (g 5)).trans c0) ((ei_eq (g 7)).trans c1) X i65 cl
end COND
