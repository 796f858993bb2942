section MJD
variable {gd : List sx_T} {G : sx_G} {J : Nat → ri_H → Prop} {p : List Int} {B B' : sx_B} {h : ri_H}
/-- two slots hold one number -/
def mj_eq (B : sx_B) (k : Nat) (i : Int) (k' : Nat) (i' : Int) : Bool := match sx_fj B k (0, 0, i), sx_fj B k' (0, 0, i') with
  | some a, some b => Nat.ble a.1 1 && sx_veq a b
  | _, _ => false
theorem mj_eq_ok (H : sx_E G J p B h) {k k' : Nat} {i i' : Int} (hs : mj_eq B k i k' i' = true) : sx_at h k i = sx_at h k' i' := by
  unfold mj_eq at hs
  split at hs
  · next a b ha hb =>
    simp only [Bool.and_eq_true] at hs
    obtain ⟨x, x1, x2⟩ := sx_fj_ok H (i := i) rfl ha
    obtain ⟨y, y1, y2⟩ := sx_fj_ok H (i := i') rfl hb
    rw [← sx_veq_ok hs.2] at y2
    obtain ⟨X, rfl, hX⟩ := sx_g_isn hs.1 x2
    obtain ⟨Y, rfl, hY⟩ := sx_g_isn hs.1 y2
    rw [hX] at hY
    have : X = Y := Int32.toInt_inj.mp (Option.some.inj hY)
    rw [x1, y1, this]
  · cases hs
def mj_ne (B : sx_B) (w : sx_v × Int × Int) (n : Int) : Bool := sx_ble w.2.2 (n - 1) || (sx_ble (n + 1) w.2.1 || B.2.2.1.any (fun f => Nat.beq f.1 1 && (sx_veq f.2.1 w.1 && sx_veq f.2.2.1 (0, 0, n))))
theorem mj_ne_ok (H : sx_E G J p B h) {w : sx_v × Int × Int} {n y : Int} (hy : sx_n p w.1 = some y) (h1 : w.2.1 ≤ y) (h2 : y ≤ w.2.2) (hs : mj_ne B w n = true) : y ≠ n := by
  unfold mj_ne at hs
  rcases (Bool.or_eq_true _ _).mp hs with e | e
  · have := sx_ble_iff.mp e
    omega
  · rcases (Bool.or_eq_true _ _).mp e with e | e
    · have := sx_ble_iff.mp e
      omega
    · obtain ⟨f, f1, f2⟩ := List.any_eq_true.mp e
      simp only [Bool.and_eq_true] at f2
      have h0 := H.2.2.1 f f1
      unfold sx_fh at h0
      rw [show f.1 = 1 from Nat.eq_of_beq_eq_true f2.1, sx_veq_ok f2.2.1, sx_veq_ok f2.2.2] at h0
      obtain ⟨a, b, a1, b1, ab⟩ := h0
      rw [hy] at a1
      cases a1
      have b1 : some n = some b := b1
      cases b1
      exact ab
def mj_rk (B : sx_B) (k : Nat) : Bool := mj_has B (281 + 200 * k) && (mj_has B (9 + k) && (match mj_k B 17 (0, 0, (k : Int)) with
  | some a => sx_ble 1 a.2.1
  | none => false))
def mj_rc (B : sx_B) (q : sx_v) : Bool := (match mj_fs B.2.2.2.2 with
  | some _ => true
  | none => false) && (match mj_k B 0 (0, 0, 39) with
  | some c => sx_veq c.1 q && (sx_ble c.2.2 60 && (match mj_f3 c.1 B.2.2.1 with
    | some u => (match sx_r B.2.1 u with
      | some r => B.2.2.2.2.any (fun i => Nat.ble 500 i && sx_ble r.2 ((i : Int) - 500))
      | none => false)
    | none => false))
  | none => false)
def mj_g8 (B : sx_B) : Bool := (match mj_k B 2 (0, 0, 174) with
  | some q => sx_ble q.2.2 0 || mj_rc B q.1
  | none => false) || (mj_rk B 0 || mj_rk B 1)
theorem mj_g8_ok (H : sx_E G (mj_J gd) p B h) (hs : mj_g8 B = true) : mj_P h := by
  unfold mj_g8 at hs
  have rk : ∀ k : Nat, k ≤ 1 → mj_rk B k = true → mj_P h := fun k hk1 hs => by
    unfold mj_rk at hs
    simp only [Bool.and_eq_true] at hs
    obtain ⟨s1, s2, s3⟩ := hs
    split at s3
    · next a ha =>
      have s3 := sx_ble_iff.mp s3
      obtain ⟨y, y1, -, y3, -⟩ := mj_k_at H ha
      have hR : mj_R (k : Int) 355 h := by
        have := mj_has_ok H s1
        rcases (show k = 0 ∨ k = 1 by omega) with rfl | rfl
        · exact (mj_J_R0 (gd := gd) (h := h) (j := 281) (by decide) (by decide)) ▸ this
        · exact (mj_J_R1 (gd := gd) (h := h) (j := 481) (by decide) (by decide)) ▸ this
      have hK : mj_Kk (k : Int) h := by
        have := mj_has_ok H s2
        rcases (show k = 0 ∨ k = 1 by omega) with rfl | rfl
        · exact this
        · exact this
      obtain ⟨c, c1, c2, D, c3⟩ := hK y y1 (by omega)
      refine ⟨c, ?_, c2, D, ?_⟩
      · rw [← c1]
        exact mj_int_cg (hR 174 (by omega) (by omega))
      · rw [← c3]
        refine mj_pf_cg (fun i hi => mj_int_cg ?_)
        rw [hR _ (by omega) (by omega)]
        congr 1
        omega
    · cases s3
  rcases (Bool.or_eq_true _ _).mp hs with s | s
  · split at s
    · next q hq =>
      obtain ⟨y, y1, y2, y3, y4⟩ := mj_k_at H hq
      rcases (Bool.or_eq_true _ _).mp s with s | s
      · have s := sx_ble_iff.mp s
        refine ⟨y, y1, by omega, 0, ?_⟩
        rw [show y.toNat = 0 by omega]
        rfl
      · unfold mj_rc at s
        simp only [Bool.and_eq_true] at s
        obtain ⟨s1, s2⟩ := s
        split at s1
        · next js hjs =>
          obtain ⟨j1, j2, j3⟩ := mj_fs_ok hjs
          have hS := H.2.2.2.2.1 js j1
          rw [mj_J_S j2 j3] at hS
          obtain ⟨c, tt, o, c1, c2, c3, c4, c5, c6, c7, c8⟩ := hS
          split at s2
          · next cc hcc =>
            obtain ⟨z, z1, z2, z3, z4⟩ := mj_k_at H hcc
            rw [c1] at z1
            cases z1
            simp only [Bool.and_eq_true, sx_ble_iff] at s2
            obtain ⟨t1, t2, t3⟩ := s2
            rw [← sx_veq_ok t1, z2] at y2
            obtain rfl : y = c := (Option.some.inj y2).symm
            split at t3
            · next u hu =>
              have un := mj_f3_ok z2 H.2.2.1 hu
              split at t3
              · next r hr =>
                obtain ⟨i, i1, i2⟩ := List.any_eq_true.mp t3
                simp only [Bool.and_eq_true, Nat.ble_eq, sx_ble_iff] at i2
                have hru := sx_r_at H.2.1 hr un
                have hC := H.2.2.2.2.1 i i1
                rw [mj_J_C i2.1] at hC
                refine ⟨y, y1, by omega, mj_jn (fun i => mj_int h 13 (i : Int)) tt.toNat + (js - 20) / 4, ?_⟩
                rw [← c8]
                exact mj_pf_cg (fun n hn => mj_int_cg (hC _ (by omega) (by omega)))
              · cases t3
            · cases t3
          · cases s2
        · cases s1
    · cases s
  · rcases (Bool.or_eq_true _ _).mp s with s | s
    · exact rk 0 (by omega) s
    · exact rk 1 (by omega) s
def mj_g9 (B : sx_B) (k : Nat) : Bool := (match mj_k B 17 (0, 0, (k : Int)) with
  | some a => sx_ble a.2.2 0
  | none => false) || (mj_has B (281 + 200 * k) && mj_has B 8)
theorem mj_g9_ok (H : sx_E G (mj_J gd) p B h) {k : Nat} (hk1 : k ≤ 1) (hs : mj_g9 B k = true) : mj_Kk (k : Int) h := by
  unfold mj_g9 at hs
  rcases (Bool.or_eq_true _ _).mp hs with s | s
  · split at s
    · next a ha =>
      have s := sx_ble_iff.mp s
      obtain ⟨y, y1, -, -, y4⟩ := mj_k_at H ha
      intro b hb h1
      rw [y1] at hb
      cases hb
      omega
    · cases s
  · simp only [Bool.and_eq_true] at s
    have hR : mj_R (k : Int) 355 h := by
      have := mj_has_ok H s.1
      rcases (show k = 0 ∨ k = 1 by omega) with rfl | rfl
      · exact (mj_J_R0 (gd := gd) (h := h) (j := 281) (by decide) (by decide)) ▸ this
      · exact (mj_J_R1 (gd := gd) (h := h) (j := 481) (by decide) (by decide)) ▸ this
    have hP : mj_P h := mj_has_ok H s.2
    obtain ⟨c, c1, c2, D, c3⟩ := hP
    intro b hb h1
    refine ⟨c, ?_, c2, D, ?_⟩
    · rw [← c1]
      exact (mj_int_cg (hR 174 (by omega) (by omega))).symm
    · rw [← c3]
      refine mj_pf_cg (fun i hi => (mj_int_cg ?_).symm)
      rw [hR _ (by omega) (by omega)]
      congr 1
      omega
def mj_g12 (B : sx_B) : Bool := match mj_k B 0 (0, 0, 35) with
  | some c => (match mj_f3 c.1 B.2.2.1 with
    | some u => (match mj_k B 4 u with
      | some w => (mj_ne B w 0 || (match mj_k B 4 (sx_sh u 2) with
          | some z => sx_ble 0 z.2.1 && sx_ble z.2.2 7
          | none => false)) && (mj_ne B w 2 || (match mj_k B 4 (sx_sh u 1) with
          | some z => sx_ble 0 z.2.1 && sx_ble z.2.2 5
          | none => false))
      | none => false)
    | none => false)
  | none => false
theorem mj_g12_ok (H : sx_E G J p B h) (hs : mj_g12 B = true) : mj_Bp h := by
  unfold mj_g12 at hs
  split at hs
  · next c hc =>
    obtain ⟨y, y1, y2, -⟩ := mj_k_at H hc
    split at hs
    · next u hu =>
      have un := mj_f3_ok y2 H.2.2.1 hu
      split at hs
      · next w hw =>
        obtain ⟨x, x1, x2, x3, x4⟩ := mj_k_ok H un hw
        simp only [Bool.and_eq_true] at hs
        intro c' x' hc' hx'
        rw [y1] at hc'
        cases hc'
        rw [x1] at hx'
        cases hx'
        refine ⟨fun e z hz => ?_, fun e z hz => ?_⟩
        · rcases (Bool.or_eq_true _ _).mp hs.1 with s | s
          · exact absurd e (mj_ne_ok H x2 x3 x4 s)
          · split at s
            · next zz hzz =>
              obtain ⟨z', z1, -, z3, z4⟩ := mj_k_ok H (sx_sh_n (c := 2) un) hzz
              rw [z1] at hz
              cases hz
              simp only [Bool.and_eq_true, sx_ble_iff] at s
              omega
            · cases s
        · rcases (Bool.or_eq_true _ _).mp hs.2 with s | s
          · exact absurd e (mj_ne_ok H x2 x3 x4 s)
          · split at s
            · next zz hzz =>
              obtain ⟨z', z1, -, z3, z4⟩ := mj_k_ok H (sx_sh_n (c := 1) un) hzz
              rw [z1] at hz
              cases hz
              simp only [Bool.and_eq_true, sx_ble_iff] at s
              omega
            · cases s
      · cases hs
    · cases hs
  · cases hs
def mj_g13 (B : sx_B) : Bool := match mj_k B 0 (0, 0, 41) with
  | some c => sx_ble c.2.2 0 || (match mj_k B 13 (sx_sh c.1 (-1)) with
    | some w => mj_ne B w 21 && mj_ne B w 22
    | none => false)
  | none => false
theorem mj_g13_ok (H : sx_E G J p B h) (hs : mj_g13 B = true) : mj_T h := by
  unfold mj_g13 at hs
  split at hs
  · next c hc =>
    obtain ⟨y, y1, y2, y3, y4⟩ := mj_k_at H hc
    intro t v ht h1 hv
    rw [y1] at ht
    cases ht
    rcases (Bool.or_eq_true _ _).mp hs with s | s
    · have := sx_ble_iff.mp s
      omega
    · split at s
      · next w hw =>
        obtain ⟨x, x1, x2, x3, x4⟩ := mj_k_ok H (sx_sh_n (c := -1) y2) hw
        have hv : mj_int h 13 (y + -1) = some v := hv
        rw [x1] at hv
        cases hv
        simp only [Bool.and_eq_true] at s
        exact ⟨mj_ne_ok H x2 x3 x4 s.1, mj_ne_ok H x2 x3 x4 s.2⟩
      · cases s
  · cases hs
def mj_g20 (B : sx_B) (x d : Nat) : Bool := B.2.2.2.2.any (fun i => (Nat.ble 20 i && Nat.blt i 32) && (Nat.beq ((i - 20) / 4) x && Nat.ble d ((i - 20) % 4))) || (Nat.beq x 0 && (match mj_k B 0 (0, 0, 39), mj_k B 0 (0, 0, 41), mj_k B 0 (0, 0, 40) with
  | some c, some t, some o => (sx_beq c.2.1 0 && sx_beq c.2.2 0) && ((sx_beq t.2.1 0 && sx_beq t.2.2 0) && (sx_ble (d : Int) (2 * o.2.1) && sx_ble o.2.2 20))
  | _, _, _ => false))
theorem mj_g20_ok (H : sx_E G (mj_J gd) p B h) {x d : Nat} (hs : mj_g20 B x d = true) : mj_S x d h := by
  unfold mj_g20 at hs
  rcases (Bool.or_eq_true _ _).mp hs with s | s
  · obtain ⟨i, i1, i2⟩ := List.any_eq_true.mp s
    simp only [Bool.and_eq_true, Nat.ble_eq, Nat.blt_eq] at i2
    have hS := H.2.2.2.2.1 i i1
    rw [mj_J_S i2.1.1 i2.1.2] at hS
    have e : (i - 20) / 4 = x := Nat.eq_of_beq_eq_true i2.2.1
    rw [e] at hS
    obtain ⟨c, tt, o, c1, c2, c3, c4, c5, c6, c7, c8⟩ := hS
    exact ⟨c, tt, o, c1, c2, c3, c4, c5, c6, by omega, c8⟩
  · simp only [Bool.and_eq_true] at s
    have e : x = 0 := Nat.eq_of_beq_eq_true s.1
    have s2 := s.2
    split at s2
    · next c t o hc ht ho =>
      simp only [Bool.and_eq_true, sx_ble_iff] at s2
      obtain ⟨cv, c1, -, c3, c4⟩ := mj_k_at H hc
      obtain ⟨tv, t1, -, t3, t4⟩ := mj_k_at H ht
      obtain ⟨ov, o1, -, o3, o4⟩ := mj_k_at H ho
      have := sx_beq_ok s2.1.1
      have := sx_beq_ok s2.1.2
      have := sx_beq_ok s2.2.1.1
      have := sx_beq_ok s2.2.1.2
      refine ⟨cv, tv, ov, c1, t1, o1, by omega, by omega, by omega, by omega, ?_⟩
      rw [show cv.toNat = 0 by omega, show tv.toNat = 0 by omega, e]
      rfl
    · cases s2
theorem mj_J_Q {j : Nat} : (40 ≤ j → j < 60 → mj_J gd j h = mj_Q 15 0 ((j : Int) - 40) h) ∧ (60 ≤ j → j < 80 → mj_J gd j h = mj_Q 15 355 ((j : Int) - 60) h) ∧ (80 ≤ j → j < 100 → mj_J gd j h = mj_Q 3 0 ((j : Int) - 80) h) := by
  unfold mj_J
  refine ⟨fun h1 h2 => ?_, fun h1 h2 => ?_, fun h1 h2 => ?_⟩
  · rw [if_neg (by omega), if_neg (by omega), if_neg (by omega), if_neg (by omega), if_neg (by omega), if_neg (by omega), if_neg (by omega), if_neg (by omega), if_neg (by omega), if_neg (by omega), if_neg (by omega), if_pos (by omega)]
  · rw [if_neg (by omega), if_neg (by omega), if_neg (by omega), if_neg (by omega), if_neg (by omega), if_neg (by omega), if_neg (by omega), if_neg (by omega), if_neg (by omega), if_neg (by omega), if_neg (by omega), if_neg (by omega), if_pos (by omega)]
  · rw [if_neg (by omega), if_neg (by omega), if_neg (by omega), if_neg (by omega), if_neg (by omega), if_neg (by omega), if_neg (by omega), if_neg (by omega), if_neg (by omega), if_neg (by omega), if_neg (by omega), if_neg (by omega), if_neg (by omega), if_pos (by omega)]
/-- guards over copies of the first ten slots -/
def mj_pr (g : sx_T) (h : ri_H) : Prop := ∀ x y : Int32, sx_at h g.2.1.1 g.2.1.2.1 = some (.int x) → g.2.1.2.2.1 ≤ x.toInt → x.toInt ≤ g.2.1.2.2.2 → sx_at h g.2.2.1 g.2.2.2.1 = some (.int y) → g.2.2.2.2.1 ≤ y.toInt ∧ y.toInt ≤ g.2.2.2.2.2
def mj_lo1 (B : sx_B) (g : sx_T) : Bool := Nat.beq g.1.1 9999 || (match mj_k B g.1.1 (0, 0, g.1.2) with
  | some c => sx_ble 1 c.2.1
  | none => false)
def mj_hi1 (B : sx_B) (g : sx_T) : Bool := Nat.beq g.1.1 9999 || (match mj_k B g.1.1 (0, 0, g.1.2) with
  | some c => sx_ble c.2.2 1
  | none => false)
theorem mj_cnt_int {g : sx_T} {y : Int} (h9 : Nat.beq g.1.1 9999 = false) (e : mj_int h g.1.1 g.1.2 = some y) : sx_cnt h g.1 = some y := by
  unfold sx_cnt
  rw [h9]
  exact e
theorem mj_lo1_ok (H : sx_E G J p B h) {g : sx_T} (hs : mj_lo1 B g = true) (hg : sx_gh g h) : mj_pr g h := by
  have hc : ∃ c, sx_cnt h g.1 = some c ∧ 0 < c := by
    unfold mj_lo1 at hs
    cases h9 : Nat.beq g.1.1 9999 with
    | true => exact ⟨1, by unfold sx_cnt; rw [h9]; rfl, by decide⟩
    | false =>
      rw [h9] at hs
      rw [Bool.false_or] at hs
      split at hs
      · next c hc =>
        obtain ⟨y, y1, -, y3, -⟩ := mj_k_at H hc
        have := sx_ble_iff.mp hs
        exact ⟨y, mj_cnt_int h9 y1, by omega⟩
      · cases hs
  obtain ⟨c, c1, c2⟩ := hc
  intro x y hx x1 x2 hy
  exact hg c 0 x y c1 (Int.le_refl _) c2 (by rw [Int.add_zero]; exact hx) x1 x2 (by rw [Int.add_zero]; exact hy)
theorem mj_hi1_ok (H : sx_E G J p B h) {g : sx_T} (hs : mj_hi1 B g = true) (hg : mj_pr g h) : sx_gh g h := by
  intro c i x y hc h0 hi hx x1 x2 hy
  have : c ≤ 1 := by
    unfold mj_hi1 at hs
    cases h9 : Nat.beq g.1.1 9999 with
    | true =>
      unfold sx_cnt at hc
      rw [h9] at hc
      have : (1 : Int) = c := Option.some.inj hc
      omega
    | false =>
      rw [h9] at hs
      rw [Bool.false_or] at hs
      split at hs
      · next cc hcc =>
        obtain ⟨y, y1, -, -, y4⟩ := mj_k_at H hcc
        have := sx_ble_iff.mp hs
        rw [mj_cnt_int h9 y1] at hc
        cases hc
        omega
      · cases hs
  have e : i = 0 := by omega
  subst e
  rw [Int.add_zero] at hx hy
  exact hg x y hx x1 x2 hy
/-- g speaks of s as f does of the cell c from o on -/
def mj_ali (g f : sx_T) (c : Nat) (o : Int) : Bool := Nat.beq g.2.1.1 2 && (Nat.beq g.2.2.1 2 && (Nat.beq f.2.1.1 c && (Nat.beq f.2.2.1 c && (sx_beq f.2.1.2.1 (o + g.2.1.2.1) && (sx_beq f.2.2.2.1 (o + g.2.2.2.1) && (sx_beq f.2.1.2.2.1 g.2.1.2.2.1 && (sx_beq f.2.1.2.2.2 g.2.1.2.2.2 && (sx_beq f.2.2.2.2.1 g.2.2.2.2.1 && (sx_beq f.2.2.2.2.2 g.2.2.2.2.2 && (sx_ble 0 g.2.1.2.1 && (sx_ble g.2.1.2.1 9 && (sx_ble 0 g.2.2.2.1 && sx_ble g.2.2.2.1 9))))))))))))
theorem mj_ali_ok {g f : sx_T} {c : Nat} {o : Int} (hs : mj_ali g f c o = true) (hQ : mj_Q c o 10 h) : mj_pr g h ↔ mj_pr f h := by
  unfold mj_ali at hs
  simp only [Bool.and_eq_true, sx_ble_iff] at hs
  obtain ⟨a1, a2, a3, a4, a5, a6, a7, a8, a9, b1, b2, b3, b4, b5⟩ := hs
  have a1 : g.2.1.1 = 2 := Nat.eq_of_beq_eq_true a1
  have a2 : g.2.2.1 = 2 := Nat.eq_of_beq_eq_true a2
  have a3 : f.2.1.1 = c := Nat.eq_of_beq_eq_true a3
  have a4 : f.2.2.1 = c := Nat.eq_of_beq_eq_true a4
  have a5 := sx_beq_ok a5
  have a6 := sx_beq_ok a6
  have a7 := sx_beq_ok a7
  have a8 := sx_beq_ok a8
  have a9 := sx_beq_ok a9
  have b1 := sx_beq_ok b1
  unfold mj_pr
  rw [a1, a2, a3, a4, a5, a6, a7, a8, a9, b1, hQ _ b2 (by omega), hQ _ b4 (by omega)]
def mj_gq (gd : List sx_T) (B : sx_B) (j q c : Nat) (o : Int) : Bool := mj_has B q && (match gd[j]? with
  | some g => B.2.2.2.2.any (fun i => Nat.blt i 8 && (match gd[i]? with
    | some f => (mj_ali g f c o || mj_ali f g c o) && (mj_lo1 B f && mj_hi1 B g)
    | none => false))
  | none => false)
theorem mj_gq_ok (H : sx_E G (mj_J gd) p B h) {j q c : Nat} {o : Int} (j8 : j < 8) (hQ : mj_J gd q h → mj_Q c o 10 h) (hs : mj_gq gd B j q c o = true) : mj_J gd j h := by
  unfold mj_gq at hs
  simp only [Bool.and_eq_true] at hs
  have hQ := hQ (mj_has_ok H hs.1)
  have hs := hs.2
  rw [mj_J_g j8]
  split at hs
  · next g hg =>
    obtain ⟨i, i1, i2⟩ := List.any_eq_true.mp hs
    simp only [Bool.and_eq_true, Nat.blt_eq] at i2
    obtain ⟨i8, i3⟩ := i2
    split at i3
    · next f hf =>
      simp only [Bool.and_eq_true] at i3
      have hJ := H.2.2.2.2.1 i i1
      rw [mj_J_g i8] at hJ
      have hpf := mj_lo1_ok H i3.2.1 (hJ f hf)
      have hpg : mj_pr g h := by
        rcases (Bool.or_eq_true _ _).mp i3.1 with s | s
        · exact (mj_ali_ok s hQ).mpr hpf
        · exact (mj_ali_ok s hQ).mp hpf
      intro g' hg'
      rw [hg] at hg'
      cases hg'
      exact mj_hi1_ok H i3.2.2 hpg
    · cases i3
  · cases hs
def mj_g (gd : List sx_T) (B : sx_B) (j : Nat) : Bool :=
  bif Nat.blt j 8 then sx_reg (fun j => bif Nat.blt j 8 then gd[j]? else none) B j || (mj_gq gd B j 50 15 0 || (mj_gq gd B j 70 15 355 || mj_gq gd B j 90 3 0)) else
  bif Nat.beq j 8 then mj_g8 B else bif Nat.beq j 9 then mj_g9 B 0 else bif Nat.beq j 10 then mj_g9 B 1 else
  bif Nat.beq j 11 then (match mj_k B 0 (0, 0, 35) with
    | some c => sx_ble c.2.2 0
    | none => false) else
  bif Nat.beq j 12 then mj_g12 B else bif Nat.beq j 13 then mj_g13 B else
  bif Nat.ble 20 j && Nat.blt j 32 then mj_g20 B ((j - 20) / 4) ((j - 20) % 4) else
  bif Nat.ble 100 j && Nat.blt j 300 then Nat.beq j 100 || (mj_has B (j - 1) && mj_eq B 2 (73 + (j : Int)) 15 (73 + (j : Int))) else
  bif Nat.ble 300 j && Nat.blt j 500 then Nat.beq j 300 || (mj_has B (j - 1) && mj_eq B 2 ((j : Int) - 127) 15 (228 + (j : Int))) else
  bif Nat.ble 40 j && Nat.blt j 60 then Nat.beq j 40 || (mj_has B (j - 1) && mj_eq B 2 ((j : Int) - 41) 15 ((j : Int) - 41)) else
  bif Nat.ble 60 j && Nat.blt j 80 then Nat.beq j 60 || (mj_has B (j - 1) && mj_eq B 2 ((j : Int) - 61) 15 ((j : Int) + 294)) else
  bif Nat.ble 80 j && Nat.blt j 100 then Nat.beq j 80 || (mj_has B (j - 1) && mj_eq B 2 ((j : Int) - 81) 3 ((j : Int) - 81)) else
  Nat.ble 500 j && (Nat.beq j 500 || (mj_has B (j - 1) && mj_eq B 2 ((j : Int) - 326) 4 ((j : Int) - 501)))
theorem mj_g_ok (H : sx_E G (mj_J gd) p B h) {j : Nat} (hs : mj_g gd B j = true) : mj_J gd j h := by
  unfold mj_g at hs
  cases b8 : Nat.blt j 8 with
  | true =>
    rw [b8] at hs
    dsimp only [cond_true] at hs
    have l8 := Nat.blt_eq.mp b8
    rcases (Bool.or_eq_true _ _).mp hs with s | s
    · exact sx_reg_ok mj_HG H s
    · rcases (Bool.or_eq_true _ _).mp s with s | s
      · exact mj_gq_ok H l8 (fun hh => (mj_J_Q (gd := gd) (h := h) (j := 50)).1 (by decide) (by decide) ▸ hh) s
      · rcases (Bool.or_eq_true _ _).mp s with s | s
        · exact mj_gq_ok H l8 (fun hh => (mj_J_Q (gd := gd) (h := h) (j := 70)).2.1 (by decide) (by decide) ▸ hh) s
        · exact mj_gq_ok H l8 (fun hh => (mj_J_Q (gd := gd) (h := h) (j := 90)).2.2 (by decide) (by decide) ▸ hh) s
  | false =>
  rw [b8] at hs
  dsimp only [cond_false] at hs
  cases e8 : Nat.beq j 8 with
  | true => rw [e8] at hs; rw [Nat.eq_of_beq_eq_true e8]; exact mj_g8_ok H hs
  | false =>
  rw [e8] at hs
  dsimp only [cond_false] at hs
  cases e9 : Nat.beq j 9 with
  | true => rw [e9] at hs; rw [Nat.eq_of_beq_eq_true e9]; exact mj_g9_ok H (k := 0) (by decide) hs
  | false =>
  rw [e9] at hs
  dsimp only [cond_false] at hs
  cases e10 : Nat.beq j 10 with
  | true => rw [e10] at hs; rw [Nat.eq_of_beq_eq_true e10]; exact mj_g9_ok H (k := 1) (by decide) hs
  | false =>
  rw [e10] at hs
  dsimp only [cond_false] at hs
  cases e11 : Nat.beq j 11 with
  | true =>
    rw [e11] at hs
    dsimp only [cond_true] at hs
    rw [Nat.eq_of_beq_eq_true e11]
    split at hs
    · next c hc =>
      obtain ⟨y, y1, -, -, y4⟩ := mj_k_at H hc
      have hs := sx_ble_iff.mp hs
      intro c' i x hc' h0 hi
      rw [y1] at hc'
      cases hc'
      omega
    · cases hs
  | false =>
  rw [e11] at hs
  dsimp only [cond_false] at hs
  cases e12 : Nat.beq j 12 with
  | true => rw [e12] at hs; rw [Nat.eq_of_beq_eq_true e12]; exact mj_g12_ok H hs
  | false =>
  rw [e12] at hs
  dsimp only [cond_false] at hs
  cases e13 : Nat.beq j 13 with
  | true => rw [e13] at hs; rw [Nat.eq_of_beq_eq_true e13]; exact mj_g13_ok H hs
  | false =>
  rw [e13] at hs
  dsimp only [cond_false] at hs
  cases e20 : (Nat.ble 20 j && Nat.blt j 32) with
  | true =>
    rw [e20] at hs
    simp only [Bool.and_eq_true, Nat.ble_eq, Nat.blt_eq] at e20
    rw [mj_J_S e20.1 e20.2]
    exact mj_g20_ok H hs
  | false =>
  rw [e20] at hs
  dsimp only [cond_false] at hs
  cases e100 : (Nat.ble 100 j && Nat.blt j 300) with
  | true =>
    rw [e100] at hs
    dsimp only [cond_true] at hs
    simp only [Bool.and_eq_true, Nat.ble_eq, Nat.blt_eq] at e100
    rw [mj_J_R0 e100.1 e100.2]
    rcases (Bool.or_eq_true _ _).mp hs with s | s
    · rw [Nat.eq_of_beq_eq_true s]
      intro i h1 h2
      omega
    · simp only [Bool.and_eq_true] at s
      by_cases ej : j = 100
      · rw [ej]
        intro i h1 h2
        omega
      have hR := mj_has_ok H s.1
      rw [mj_J_R0 (by omega) (by omega)] at hR
      have he := mj_eq_ok H s.2
      intro i h1 h2
      by_cases e : i = 73 + (j : Int)
      · rw [e, he]
        congr 1
        omega
      · exact hR i h1 (by omega)
  | false =>
  rw [e100] at hs
  dsimp only [cond_false] at hs
  cases e300 : (Nat.ble 300 j && Nat.blt j 500) with
  | true =>
    rw [e300] at hs
    dsimp only [cond_true] at hs
    simp only [Bool.and_eq_true, Nat.ble_eq, Nat.blt_eq] at e300
    rw [mj_J_R1 e300.1 e300.2]
    rcases (Bool.or_eq_true _ _).mp hs with s | s
    · rw [Nat.eq_of_beq_eq_true s]
      intro i h1 h2
      omega
    · simp only [Bool.and_eq_true] at s
      by_cases ej : j = 300
      · rw [ej]
        intro i h1 h2
        omega
      have hR := mj_has_ok H s.1
      rw [mj_J_R1 (by omega) (by omega)] at hR
      have he := mj_eq_ok H s.2
      intro i h1 h2
      by_cases e : i = (j : Int) - 127
      · rw [e, he]
        congr 1
        omega
      · exact hR i h1 (by omega)
  | false =>
  rw [e300] at hs
  dsimp only [cond_false] at hs
  cases e40 : (Nat.ble 40 j && Nat.blt j 60) with
  | true =>
    rw [e40] at hs
    dsimp only [cond_true] at hs
    simp only [Bool.and_eq_true, Nat.ble_eq, Nat.blt_eq] at e40
    rw [mj_J_Q.1 e40.1 e40.2]
    rcases (Bool.or_eq_true _ _).mp hs with s | s
    · rw [Nat.eq_of_beq_eq_true s]
      intro i h1 h2
      omega
    · simp only [Bool.and_eq_true] at s
      by_cases ej : j = 40
      · rw [ej]
        intro i h1 h2
        omega
      have hR := mj_has_ok H s.1
      rw [mj_J_Q.1 (by omega) (by omega)] at hR
      have he := mj_eq_ok H s.2
      intro i h1 h2
      by_cases e : i = (j : Int) - 41
      · rw [e, he]
        congr 1
        omega
      · exact hR i h1 (by omega)
  | false =>
  rw [e40] at hs
  dsimp only [cond_false] at hs
  cases e60 : (Nat.ble 60 j && Nat.blt j 80) with
  | true =>
    rw [e60] at hs
    dsimp only [cond_true] at hs
    simp only [Bool.and_eq_true, Nat.ble_eq, Nat.blt_eq] at e60
    rw [mj_J_Q.2.1 e60.1 e60.2]
    rcases (Bool.or_eq_true _ _).mp hs with s | s
    · rw [Nat.eq_of_beq_eq_true s]
      intro i h1 h2
      omega
    · simp only [Bool.and_eq_true] at s
      by_cases ej : j = 60
      · rw [ej]
        intro i h1 h2
        omega
      have hR := mj_has_ok H s.1
      rw [mj_J_Q.2.1 (by omega) (by omega)] at hR
      have he := mj_eq_ok H s.2
      intro i h1 h2
      by_cases e : i = (j : Int) - 61
      · rw [e, he]
        congr 1
        omega
      · exact hR i h1 (by omega)
  | false =>
  rw [e60] at hs
  dsimp only [cond_false] at hs
  cases e80 : (Nat.ble 80 j && Nat.blt j 100) with
  | true =>
    rw [e80] at hs
    dsimp only [cond_true] at hs
    simp only [Bool.and_eq_true, Nat.ble_eq, Nat.blt_eq] at e80
    rw [mj_J_Q.2.2 e80.1 e80.2]
    rcases (Bool.or_eq_true _ _).mp hs with s | s
    · rw [Nat.eq_of_beq_eq_true s]
      intro i h1 h2
      omega
    · simp only [Bool.and_eq_true] at s
      by_cases ej : j = 80
      · rw [ej]
        intro i h1 h2
        omega
      have hR := mj_has_ok H s.1
      rw [mj_J_Q.2.2 (by omega) (by omega)] at hR
      have he := mj_eq_ok H s.2
      intro i h1 h2
      by_cases e : i = (j : Int) - 81
      · rw [e, he]
        congr 1
        omega
      · exact hR i h1 (by omega)
  | false =>
  rw [e80] at hs
  dsimp only [cond_false] at hs
  simp only [Bool.and_eq_true, Nat.ble_eq] at hs
  rw [mj_J_C hs.1]
  rcases (Bool.or_eq_true _ _).mp hs.2 with s | s
  · rw [Nat.eq_of_beq_eq_true s]
    intro i h1 h2
    omega
  · simp only [Bool.and_eq_true] at s
    by_cases ej : j = 500
    · rw [ej]
      intro i h1 h2
      omega
    have hC := mj_has_ok H s.1
    rw [mj_J_C (by omega)] at hC
    have he := mj_eq_ok H s.2
    intro i h1 h2
    by_cases e : i = (j : Int) - 501
    · rw [← e] at he
      rw [← he]
      congr 1
      omega
    · exact hC i h1 (by omega)
def mj_dp (gd : List sx_T) : sx_D := (mj_d1 gd, mj_w gd, mj_l gd, mj_g gd)
theorem mj_HJ (G : sx_G) (gd : List sx_T) : sx_HJ G (mj_J gd) (mj_dp gd) :=
  ⟨fun j h h' hf hJ => mj_fr hf hJ, fun p B h k j jj ji t tv q v H hn hg hk hjl hs hJ => mj_w_ok H hn hg hk hjl hs hJ, fun p B h k t v i x H hn hx hv => mj_l_ok H hn hx hv, fun p B h j H hs => mj_g_ok H hs⟩
end MJD
