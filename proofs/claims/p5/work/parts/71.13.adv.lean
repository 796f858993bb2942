/-! advance: what it leaves (TC) -/
def iC (b : Nat → Int32) (n m : Nat) (G : eh_W) : Prop := eh_ty tC G ∧ (eh_i G 2 2 = nI n ∧ eh_i G 2 3 = nI m ∧ n ≤ 940 ∧ m ≤ 940 ∧ (∀ i, i < n → eh_i G 1 i = b i) ∧ (∀ k, k < 24 → eh_l G 3 k = lx_K k) ∧ (∀ k i, 17 ≤ k → i < 1000 → eh_i G k i = b (100000 + 1000 * k + i))) ∧ ∃ x, x ≤ n ∧ eh_i G 2 4 = nI x
def pCi (k i : Nat) : Bool := !(Nat.ble 17 k || (Nat.beq k 1 || (Nat.beq k 3 || (Nat.beq k 2 && (Nat.ble 2 i && Nat.ble i 4)))))
theorem iC_u {b : Nat → Int32} {n m k i : Nat} {v : Value} {G : eh_W} (H : iC b n m G) (ht : eh_ty tC (eh_u G k i v)) (hp : pCi k i = true) : iC b n m (eh_u G k i v) := by
  obtain ⟨-, ⟨a1, a2, a3, a4, a5, a6, a7⟩, x, x1, x2⟩ := H
  unfold pCi at hp
  simp only [Bool.not_eq_true', Bool.or_eq_false_iff] at hp
  obtain ⟨p0, p1, p3, p2⟩ := hp
  have n0 : k < 17 := by
    apply Nat.lt_of_not_le
    intro e
    rw [Nat.ble_eq.mpr e] at p0
    cases p0
  have n1 : k ≠ 1 := fun e => by rw [e] at p1; cases p1
  have n3 : k ≠ 3 := fun e => by rw [e] at p3; cases p3
  have n2 : ∀ j, 2 ≤ j → j ≤ 4 → k ≠ 2 ∨ i ≠ j := fun j h1 h2 => by
    by_cases e : k = 2
    · refine Or.inr (fun e2 => ?_)
      subst e e2
      rw [eh_bt, Nat.ble_eq.mpr h1, Nat.ble_eq.mpr h2] at p2
      cases p2
    · exact Or.inl e
  refine ⟨ht, ⟨?_, ?_, a3, a4, fun j hj => ?_, fun j hj => ?_, fun k' i' h1 h2 => ?_⟩, x, x1, ?_⟩
  · rw [eh_i_ne G v (n2 2 (by omega) (by omega))]
    exact a1
  · rw [eh_i_ne G v (n2 3 (by omega) (by omega))]
    exact a2
  · rw [eh_i_ne G v (Or.inl n1)]
    exact a5 j hj
  · rw [eh_l_ne G v (Or.inl n3)]
    exact a6 j hj
  · rw [eh_i_ne G v (Or.inl (by omega))]
    exact a7 k' i' h1 h2
  · rw [eh_i_ne G v (n2 4 (by omega) (by omega))]
    exact x2
theorem iC_fr {b : Nat → Int32} {n m x : Nat} {G G' : eh_W} (H : iC b n m G) (f : eh_fr pCf G G') (ht : eh_ty tC G') (hx : x ≤ n) (h4 : eh_i G' 2 4 = nI x) : iC b n m G' := by
  obtain ⟨-, ⟨a1, a2, a3, a4, a5, a6, a7⟩, -⟩ := H
  exact ⟨ht, ⟨(f.i rfl).trans a1, (f.i rfl).trans a2, a3, a4, fun i hi => (f.i rfl).trans (a5 i hi), fun k hk => (f.l rfl).trans (a6 k hk), fun k i h1 h2 => (f.i (by
    unfold pCf
    rw [eh_bf (show k ≠ 2 by omega)]
    rfl)).trans (a7 k i h1 h2)⟩, x, hx, h4⟩
def lx_s (n m : Nat) : Nat := if m < n then m else n
def lx_x (b : Nat → Int32) (n m a : Nat) : Nat := lx_sk b (lx_s n m - a) a
/-- a run at x -/
def TCr (b : Nat → Int32) (n x : Nat) (G : eh_W) : Prop := lx_L b n x ≠ 0 ∧ eh_i G 2 4 = nI (x + lx_L b n x) ∧ (((lx_F b n x).1 = 0 ∧ lx_L b n x ≤ 7 ∧ eh_l G 2 8 = (lx_F b n x).2.2 ∧ ((∃ k, k < 24 ∧ (lx_F b n x).2.2 = lx_K k ∧ eh_i G 2 5 = 2 ∧ eh_i G 2 7 = nI k) ∨ ((∀ k, k < 24 → (lx_F b n x).2.2 ≠ lx_K k) ∧ eh_i G 2 5 = 3))) ∨ (¬ ((lx_F b n x).1 = 0 ∧ lx_L b n x ≤ 7) ∧ (lx_F b n x).1 = nI (lx_L b n x) ∧ lx_L b n x ≤ 3 ∧ eh_i G 2 5 = 4 ∧ eh_i G 2 7 = (lx_F b n x).2.1) ∨ (¬ ((lx_F b n x).1 = 0 ∧ lx_L b n x ≤ 7) ∧ ¬ ((lx_F b n x).1 = nI (lx_L b n x) ∧ lx_L b n x ≤ 3) ∧ eh_i G 2 5 = 1))
/-- another byte at x -/
def TCs (b : Nat → Int32) (n x : Nat) (G : eh_W) : Prop := lx_L b n x = 0 ∧ ((lx_sg (b x) ∧ eh_i G 2 5 = 5 ∧ eh_i G 2 7 = b x ∧ eh_i G 2 4 = nI (x + 1)) ∨ (¬ lx_sg (b x) ∧ eh_i G 2 5 = 1))
/-- the TOKEN behind a place a -/
def TC (b : Nat → Int32) (n m a : Nat) (G : eh_W) : Prop := (lx_s n m ≤ lx_x b n m a ∧ eh_i G 2 5 = (if m < n then 1 else 0) ∧ eh_i G 2 6 = nI (lx_s n m)) ∨ (lx_x b n m a < lx_s n m ∧ eh_i G 2 6 = nI (lx_x b n m a) ∧ (TCs b n (lx_x b n m a) G ∨ TCr b n (lx_x b n m a) G))
theorem lx_key {G : eh_W} {co : Int64} {u : Int32} (hk : ∀ k, k < 24 → eh_l G 3 k = lx_K k) (h : lx_k G co u) : (∃ k, k < 24 ∧ co = lx_K k ∧ u = nI k) ∨ ((∀ k, k < 24 → co ≠ lx_K k) ∧ u = -1) := by
  rcases h with ⟨k, k1, k2, k3⟩ | ⟨h1, h2⟩
  · exact Or.inl ⟨k, k1, by rw [k2, hk k k1], k3⟩
  · exact Or.inr ⟨fun k k1 e => h1 k k1 (by rw [hk k k1]; exact e), h2⟩
abbrev ad_Q (b : Nat → Int32) (n m a : Nat) (G : eh_W) (h h' : ri_H) (rs : List Value) : Prop := rs = [] ∧ eh_fr pCt G (eh_V h') ∧ iC b n m (eh_V h') ∧ eh_N h' = eh_N h ∧ TC b n m a (eh_V h')
theorem ad_t {d : Nat} {lo : List (Nat × Value)} {h h' : ri_H} {rs : List Value} {G : eh_W} {b : Nat → Int32} {n m s a : Nat} (E : eh_e (ri_calE ri_md (d + 1)) md_74 12 lo [] h rs h') (hV : eh_V h = G) (iv : iC b n m G) (h4 : eh_i G 2 4 = nI a) (an : a ≤ n) (es : s = lx_s n m) (l0 : ri_lk lo 0 = some (.ref 2)) (l1 : ri_lk lo 1 = some (.int (nI s))) : ad_Q b n m a G h h' rs := by
  have iv0 := iv
  obtain ⟨ty, ⟨k2, k3, hn, hm, hb, hk, -⟩, -⟩ := iv
  have sn : s ≤ n ∧ s ≤ m := by
    rw [es]
    unfold lx_s
    split <;> omega
  obtain ⟨h1, lo1, E, fr, t1, n1, g4, l0, l1⟩ := ad_lp (s := s) sn.1 hn (s - a) a lo h G an rfl E hV ty h4 hb l0 l1
  have ex : lx_sk b (s - a) a = lx_x b n m a := by rw [es]; rfl
  rw [ex] at g4
  have hx : a ≤ lx_x b n m a ∧ lx_x b n m a ≤ a + (s - a) := by
    rw [← ex]
    exact lx_sk_le b (s - a) a
  have xn : lx_x b n m a ≤ n := by omega
  have c2 : eh_i (eh_V h1) 2 2 = nI n := (fr.i rfl).trans k2
  have c3 : eh_i (eh_V h1) 2 3 = nI m := (fr.i rfl).trans k3
  have fr2 : eh_fr pCt G (eh_V h1) := fr.mo (fun k i e => by
    have := pC_rt k i e
    unfold pCr at this
    cases e1 : Nat.beq k 2 with
    | false => rfl
    | true =>
      rw [e1] at this
      simp only [Bool.true_and, Bool.or_eq_false_iff] at this ⊢
      exact this.1)
  have z := ad_y E rfl t1 l0 l1
  rw [g4, c2, c3, lx_i (a := lx_x b n m a) (by omega), lx_i (a := n) (by omega), lx_i (a := m) (by omega), lx_i (a := s) (by omega)] at z
  have fin : ∀ {G1 : eh_W}, rs = [] → eh_V h' = G1 → eh_N h' = eh_N h1 → eh_fr pCt (eh_V h1) G1 → eh_ty tC G1 → (∃ y, y ≤ n ∧ eh_i G1 2 4 = nI y) → TC b n m a G1 → ad_Q b n m a G h h' rs := fun {G1} r1 r2 r3 f1 t3 ⟨y, y1, y2⟩ q => by
    subst r2
    exact ⟨r1, fr2.tr f1, iC_fr iv0 ((fr2.tr f1).mo pC_tf) t3 y1 y2, by rw [r3, n1], q⟩
  rcases z with ⟨c, c1, r1, r2, r3⟩ | ⟨c, c1, r1, r2, r3⟩ | ⟨c, c1, h3, lo3, E, V3, n3, t3, l0, l1⟩ | ⟨c, c1, e1, r1, r2, r3⟩ | ⟨c, c1, e1, r1, r2, r3⟩
  · exact fin r1 r2 r3 (((eh_fr.rf.up rfl).up rfl).up rfl) (((t1.ui rfl).ui rfl).ui rfl) ⟨_, xn, g4⟩ (Or.inl ⟨by omega, by rw [if_neg (by omega)]; rfl, by rw [← es]; rfl⟩)
  · exact fin r1 r2 r3 (((eh_fr.rf.up rfl).up rfl).up rfl) (((t1.ui rfl).ui rfl).ui rfl) ⟨_, xn, g4⟩ (Or.inl ⟨by omega, by rw [if_pos (by omega)]; rfl, by rw [← es]; rfl⟩)
  · have E := E.ld (p := 108) (t := ri_isA) (i := 0) (n := 1) (v := .ref 2) rfl (e := (.aload_n 0, 1, [], .null)) rfl rfl (fun _ _ => rfl) l0 rfl
    obtain ⟨v1, h5, X, E⟩ := E.cv (p := 111) (as := []) (b := 2) (r := []) rfl (x := 70) (m := 3) (w := .null) (j := 75) (n := 0) (t := 8) (u := [650, 2, 652]) rfl rfl rfl
    have fr3 : eh_fr pCt (eh_V h1) (eh_V h3) := by
      rw [V3]
      exact (eh_fr.rf.up rfl).up rfl
    have frr := fr2.tr fr3
    obtain ⟨rfl, f5, t5, n5, g6, g4', hR⟩ := sp_75 (d := d) (b := b) (n := n) (a := lx_x b n m a) X V3 t3 c2 g4 rfl (fun i hi => (fr2.i rfl).trans (hb i hi)) hn xn
    have E : eh_e (ri_calE ri_md (d + 1)) md_74 111 lo3 [] h5 rs h' := E
    have f15 : eh_fr pCt G (eh_V h5) := frr.tr (by rw [V3]; exact f5)
    have hk5 : ∀ k, k < 24 → eh_l (eh_V h5) 3 k = lx_K k := fun k kk => (f15.l rfl).trans (hk k kk)
    have hb5 : ∀ i, i < n → eh_i (eh_V h5) 1 i = b i := fun i hi => (f15.i rfl).trans (hb i hi)
    have hL : lx_L b n (lx_x b n m a) ≤ n - lx_x b n m a := lx_rl_le _ _ _
    have z := ad_x E rfl t5 l0 l1
    rw [g4', g6] at z
    have fin2 : ∀ {G1 : eh_W}, rs = [] → eh_V h' = G1 → eh_N h' = eh_N h5 → eh_fr pCt (eh_V h5) G1 → eh_ty tC G1 → (∃ y, y ≤ n ∧ eh_i G1 2 4 = nI y) → (eh_i G1 2 6 = nI (lx_x b n m a)) → (TCs b n (lx_x b n m a) G1 ∨ TCr b n (lx_x b n m a) G1) → ad_Q b n m a G h h' rs := fun {G1} r1 r2 r3 f1 t6 hy q6 q => by
      refine fin r1 r2 (by rw [r3, n5, n3]) ((fr3.tr (by rw [V3]; exact f5)).tr f1) t6 hy (Or.inr ⟨by rw [← es]; omega, q6, q⟩)
    have l1L : nI (lx_x b n m a + lx_L b n (lx_x b n m a)) = nI (lx_x b n m a) → lx_L b n (lx_x b n m a) = 0 := fun e => by
      have := lx_inj (by omega) (by omega) e
      omega
    have l2L : ¬ nI (lx_x b n m a + lx_L b n (lx_x b n m a)) = nI (lx_x b n m a) → lx_L b n (lx_x b n m a) ≠ 0 := fun e e1 => e (by rw [e1]; rfl)
    obtain ⟨hc, hR⟩ := hR
    rcases z with ⟨e1, e2, r1, r2, r3⟩ | ⟨u, e1, e2, e3, e4, r1, r2, r3⟩ | ⟨u, e1, e2, e3, e4, r1, r2, r3⟩ | ⟨e1, e2, r1, r2, r3⟩ | ⟨e1, e2, r1, r2, r3⟩
    · refine fin2 r1 r2 r3 eh_fr.rf t5 ⟨_, by omega, g4'⟩ g6 (Or.inr ⟨l2L e1, g4', ?_⟩)
      rcases hR with ⟨-, -, q, -⟩ | ⟨q1, q2, q3, q4, q5⟩ | ⟨q1, q2, q3, -⟩
      · exact absurd q e2
      · exact Or.inr (Or.inl ⟨q1, q2, q3, q4, q5⟩)
      · exact Or.inr (Or.inr ⟨q1, q2, q3⟩)
    · rcases hR with ⟨q1, q2, -, -⟩ | ⟨-, -, -, q4, -⟩ | ⟨-, -, q3, -⟩
      · rcases lx_key hk5 e3 with ⟨k, w1, w2, w3⟩ | ⟨-, w3⟩
        · exact fin2 r1 r2 r3 ((eh_fr.rf.up rfl).up rfl) ((t5.ui rfl).ui rfl) ⟨_, by omega, g4'⟩ g6 (Or.inr ⟨l2L e1, g4', Or.inl ⟨q1, q2, hc, Or.inl ⟨k, w1, by rw [← hc]; exact w2, rfl, w3⟩⟩⟩)
        · exact absurd w3 e4
      · rw [e2] at q4
        exact absurd q4 (by decide)
      · rw [e2] at q3
        exact absurd q3 (by decide)
    · rcases hR with ⟨q1, q2, -, -⟩ | ⟨-, -, -, q4, -⟩ | ⟨-, -, q3, -⟩
      · rcases lx_key hk5 e3 with ⟨k, w1, w2, w3⟩ | ⟨w, w3⟩
        · exfalso
          rw [e4] at w3
          have := congrArg Int32.toInt w3
          rw [lx_i (by omega)] at this
          rw [show (-1 : Int32).toInt = -1 by decide] at this
          omega
        · exact fin2 r1 r2 r3 ((eh_fr.rf.up rfl).up rfl) ((t5.ui rfl).ui rfl) ⟨_, by omega, g4'⟩ g6 (Or.inr ⟨l2L e1, g4', Or.inl ⟨q1, q2, hc, Or.inr ⟨fun k kk => by rw [← hc]; exact w k kk, rfl⟩⟩⟩)
      · rw [e2] at q4
        exact absurd q4 (by decide)
      · rw [e2] at q3
        exact absurd q3 (by decide)
    · have hl0 := l1L e1
      rw [hl0, Nat.add_zero, lx_cl (by omega), hb5 _ (by omega)] at e2 r2
      exact fin2 r1 r2 r3 (((eh_fr.rf.up rfl).up rfl).up rfl) (((t5.ui rfl).ui rfl).ui rfl) ⟨lx_x b n m a + 1, by omega, lx_a1 _⟩ g6 (Or.inl ⟨hl0, Or.inl ⟨e2, rfl, rfl, lx_a1 _⟩⟩)
    · have hl0 := l1L e1
      rw [hl0, Nat.add_zero, lx_cl (by omega), hb5 _ (by omega)] at e2 r2
      exact fin2 r1 r2 r3 (((eh_fr.rf.up rfl).up rfl).up rfl) (((t5.ui rfl).ui rfl).ui rfl) ⟨lx_x b n m a + 1, by omega, lx_a1 _⟩ g6 (Or.inl ⟨hl0, Or.inr ⟨e2, rfl⟩⟩)
  · exact fin r1 r2 r3 (((eh_fr.rf.up rfl).up rfl).up rfl) (((t1.ui rfl).ui rfl).ui rfl) ⟨_, xn, g4⟩ (Or.inl ⟨by omega, by rw [if_neg (by omega)]; rfl, by rw [← es, show s = lx_x b n m a by omega]; rfl⟩)
  · exact fin r1 r2 r3 (((eh_fr.rf.up rfl).up rfl).up rfl) (((t1.ui rfl).ui rfl).ui rfl) ⟨_, xn, g4⟩ (Or.inl ⟨by omega, by rw [if_pos (by omega)]; rfl, by rw [← es, show s = lx_x b n m a by omega]; rfl⟩)
theorem sp_74 {d : Nat} {h h' : ri_H} {v : Option Value} {G : eh_W} {b : Nat → Int32} {n m a : Nat} (E : ri_calE ri_md (d + 2) 74 [.ref 2] h = some (v, h')) (hV : eh_V h = G) (iv : iC b n m G) (h4 : eh_i G 2 4 = nI a) (an : a ≤ n) : v = none ∧ eh_fr pCt G (eh_V h') ∧ iC b n m (eh_V h') ∧ eh_N h' = eh_N h ∧ TC b n m a (eh_V h') := by
  obtain ⟨rs, hrs, E⟩ := eh_in E (q := md_74) rfl
  have z := ad_a E hV iv.1 rfl
  have hn := iv.2.1.2.2.1
  have hm := iv.2.1.2.2.2.1
  rw [iv.2.1.1, iv.2.1.2.1, lx_i (a := n) (by omega), lx_i (a := m) (by omega)] at z
  rcases z with ⟨c, h1, lo1, E, V1, n1, t1, l0, l1⟩ | ⟨c, h1, lo1, E, V1, n1, t1, l0, l1⟩
  · obtain ⟨r1, r2, r3, r4, r5⟩ := ad_t (s := m) (b := b) E V1 iv h4 an (by unfold lx_s; rw [if_pos (by omega)]) l0 l1
    exact ⟨by rw [← hrs, r1]; rfl, r2, r3, by rw [r4, n1], r5⟩
  · obtain ⟨r1, r2, r3, r4, r5⟩ := ad_t (s := n) (b := b) E V1 iv h4 an (by unfold lx_s; rw [if_neg (by omega)]) l0 l1
    exact ⟨by rw [← hrs, r1]; rfl, r2, r3, by rw [r4, n1], r5⟩
theorem tp_74 {d : Nat} {h h' : ri_H} {v : Option Value} {b : Nat → Int32} {n m : Nat} (E : ri_calE ri_md (d + 2) 74 [.ref 2] h = some (v, h')) (iv : iC b n m (eh_V h)) : v = none ∧ iC b n m (eh_V h') ∧ eh_N h' = eh_N h := by
  obtain ⟨x, x1, x2⟩ := iv.2.2
  obtain ⟨a1, a2, a3, a4, -⟩ := sp_74 E rfl iv x2 x1
  exact ⟨a1, a3, a4⟩
