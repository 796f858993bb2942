/-! wavesAt (class) -/
def dnI (c sw P : Nat) (ku sz : Nat → Nat) (i l w : Nat) : Prop := w < 256 ∧ ∀ j, j < 8 → (Nat.testBit w j = true ↔ j < P ∧ chs c sw ku j = true ∧ i ≤ sz j ∧ (j < l → i < sz j))
theorem clr_fin : ∀ (w : Fin 256) (l : Fin 8), nI w.val &&& (((1 : Int32) <<< (nI l.val &&& 31)) ^^^ (-1)) = nI (w.val &&& (255 - 2 ^ l.val)) := by decide +kernel
theorem clr_tb : ∀ (l j : Fin 8), Nat.testBit (255 - 2 ^ l.val) j.val = !decide (l.val = j.val) := by decide +kernel
theorem b2_fin : ∀ (b : Bool) (r : Fin 4), ((if b = true then 2 else 0) ||| (r.val &&& 2)) = if (b || Nat.ble 2 r.val) = true then 2 else 0 := by decide
theorem hg_step {b : Nat → Bool} {r : Nat → Nat} {x y : Nat} (H : hgC b y) (hx : x < 65536) (hd : ∀ k, k < 8 → dg x k = r k % 4) : hgC (fun k => b k || Nat.ble 2 (r k % 4)) (y ||| (x &&& 43690)) := by
  refine ⟨Nat.or_lt_two_pow (n := 16) H.1 (Nat.lt_of_le_of_lt Nat.and_le_left hx), fun k hk => ?_⟩
  rw [dg_or, dg_and, H.2 k hk, ((dg_c k).1 hk).2, hd k hk]
  exact b2_fin (b k) ⟨r k % 4, Nat.mod_lt _ (by decide)⟩
section XV
variable {d c sw P : Nat} {ku sz : Nat → Nat} {ce hi : Nat → Nat → Nat} {cu se : Int32} {h' : ri_H} {rs : List Value} {G : eh_W}
def xv_G (d c sw P : Nat) (ku sz : Nat → Nat) (ce hi : Nat → Nat → Nat) (cu se hg : Int32) (h' : ri_H) (rs : List Value) (i : Nat) (h : ri_H) (G : eh_W) : Prop := ∃ h1 lo1 x w, eh_e (ri_calE ri_md (d + 1)) md_34 18 lo1 [] h1 rs h' ∧ eh_V h1 = G ∧ eh_N h1 = eh_N h ∧ ri_lk lo1 0 = some (.ref 23) ∧ ri_lk lo1 1 = some (.int cu) ∧ ri_lk lo1 2 = some (.int se) ∧ ri_lk lo1 3 = some (.int (nI x)) ∧ ri_lk lo1 4 = some (.int (hg ||| (nI x &&& 43690))) ∧ ri_lk lo1 5 = some (.int (nI w)) ∧ ri_lk lo1 6 = some (.int (nI (i + 1))) ∧ x < 65536 ∧ (∀ k, k < 8 → dg x k = rR (chs c sw ku) sz ce hi P k (i + 1) % 4) ∧ dnI c sw P ku sz (i + 1) 0 w
theorem xv_in {hg : Int32} {i : Nat} (hi8 : i < 8) (ty : eh_ty tC G) (D : xE c sw P ku sz ce hi cu se G) : ∀ (f l : Nat) (lo : List (Nat × Value)) (h : ri_H) (x w : Nat), l + f = P → eh_e (ri_calE ri_md (d + 1)) md_34 33 lo [] h rs h' → eh_V h = G → ri_lk lo 0 = some (.ref 23) → ri_lk lo 1 = some (.int cu) → ri_lk lo 2 = some (.int se) → ri_lk lo 3 = some (.int (nI x)) → ri_lk lo 4 = some (.int hg) → ri_lk lo 5 = some (.int (nI w)) → ri_lk lo 6 = some (.int (nI i)) → ri_lk lo 7 = some (.int (nI l)) → x < 65536 → (∀ k, k < 8 → dg x k = (rR (chs c sw ku) sz ce hi P k i + rL (chs c sw ku) sz ce hi i k l) % 4) → dnI c sw P ku sz i l w → xv_G d c sw P ku sz ce hi cu se hg h' rs i h G := by
  obtain ⟨rfl, rfl, hsw, hc6, ⟨hP8, hb⟩, hP, hm, -⟩ := D
  intro f
  induction f with
  | zero =>
    intro l lo h x w hf E hV l0 l1 l2 l3 l4 l5 l6 l7 hx hd ⟨w1, w2⟩
    have z := xv_l E hV ty l0 l1 l2 l3 l4 l5 l6 l7
    rw [hP, lx_i (a := l) (by omega), lx_i (a := P) (by omega), show nI i + 1 = nI (i + 1) from lx_a1 i] at z
    rcases z with ⟨-, h1, lo1, E1, v1, n1, -, m0, m1, m2, m3, m4, m5, m6, -⟩ | ⟨c, -⟩ | ⟨c, -⟩ | ⟨c, -⟩
    · have e : l = P := by omega
      subst e
      refine ⟨h1, lo1, x, w, E1, v1, n1, m0, m1, m2, m3, m4, m5, m6, hx, hd, w1, fun j hj => ?_⟩
      rw [w2 j hj]
      constructor
      · rintro ⟨a, b, c, d⟩
        exact ⟨a, b, d a, fun x => absurd x (Nat.not_lt_zero j)⟩
      · rintro ⟨a, b, c, -⟩
        exact ⟨a, b, by omega, fun _ => c⟩
    all_goals omega
  | succ f ih =>
    intro l lo h x w hf E hV l0 l1 l2 l3 l4 l5 l6 l7 hx hd ⟨w1, w2⟩
    have hl : l < P := by omega
    obtain ⟨e1, e2, e3, -⟩ := hm l hl
    obtain ⟨b1, b2, b3⟩ := hb l hl
    have z := xv_l E hV ty l0 l1 l2 l3 l4 l5 l6 l7
    rw [hP, lx_i (a := l) (by omega), lx_i (a := P) (by omega), lx_i (a := i) (by omega), lx_cl (a := l) (by omega), e2, lx_i (a := sz l) (by omega), show nI l * 8 = nI (l * 8) from (Int32.ofNat_mul l 8).symm, show nI (l * 8) + nI i = nI (l * 8 + i) from lx_add _ _, lx_cl (a := l * 8 + i) (by omega), show l * 8 + i = 8 * l + i by omega, show nI l + 1 = nI (l + 1) from lx_a1 l] at z
    have wl := w2 l (by omega)
    rcases z with ⟨c1, -⟩ | ⟨-, c2, c3, h1, lo1, E1, v1, n1, -, m0, m1, m2, m3, m4, m5, m6, m7⟩ | ⟨-, c2, c3, h1, lo1, E1, v1, n1, -, m0, m1, m2, m3, m4, m5, m6, m7, -⟩ | ⟨-, c2, h1, lo1, E1, v1, n1, -, m0, m1, m2, m3, m4, m5, m6, m7⟩
    · omega
    · have c3 : ¬ i < sz l := by omega
      have cl : nI w &&& (((1 : Int32) <<< (nI l &&& 31)) ^^^ (-1)) = nI (w &&& (255 - 2 ^ l)) := clr_fin ⟨w, w1⟩ ⟨l, by omega⟩
      rw [cl] at m5
      obtain ⟨h2, lo2, x', w', r1, r2, r3, r4⟩ := ih (l + 1) lo1 h1 x _ (by omega) E1 v1 m0 m1 m2 m3 m4 m5 m6 m7 hx (fun k hk => by
        rw [hd k hk, rL_s, rC_out c3, Nat.add_zero]) ⟨Nat.lt_of_le_of_lt Nat.and_le_left w1, fun j hj => by
        have t : Nat.testBit (255 - 2 ^ l) j = !decide (l = j) := clr_tb ⟨l, by omega⟩ ⟨j, hj⟩
        rw [Nat.testBit_and, Bool.and_eq_true, w2 j hj, t, Bool.not_eq_true', decide_eq_false_iff_not]
        constructor
        · rintro ⟨⟨a, b, c, d⟩, e⟩
          exact ⟨a, b, c, fun x => d (by omega)⟩
        · rintro ⟨a, b, c, d⟩
          refine ⟨⟨a, b, c, fun x => d (by omega)⟩, fun x => ?_⟩
          subst x
          exact c3 (d (by omega))⟩
      exact ⟨h2, lo2, x', w', r1, r2, r3.trans n1, r4⟩
    · have c3 : i < sz l := by omega
      have tl : Nat.testBit w l = true := by
        cases e : Nat.testBit w l with
        | true => rfl
        | false => exact absurd ((nI_b0 (by omega) (by omega)).mpr e) c2
      have hf' := (wl.mp tl).2.1
      obtain ⟨g1, g2⟩ := b3 i c3
      rw [e3 i c3] at m3
      have m3 : ri_lk lo1 3 = some (.int (add2 (nI x) (wv (nI (10 * ce l i + hi l i))))) := m3
      rw [wv_nI g1 g2, add2_nI] at m3
      obtain ⟨h2, lo2, x', w', r1, r2, r3, r4⟩ := ih (l + 1) lo1 h1 _ w (by omega) E1 v1 m0 m1 m2 m3 m4 m5 m6 m7 (ad_lt _ _) (fun k hk => by
        rw [dg_ad hk, hd k hk, wv_dg g1 g2 hk, rL_s, rC_ce hf' c3]
        omega) ⟨w1, fun j hj => by
        rw [w2 j hj]
        constructor
        · rintro ⟨a, b, c, d⟩
          refine ⟨a, b, c, fun x => ?_⟩
          by_cases e : j = l
          · subst e
            exact c3
          · exact d (by omega)
        · rintro ⟨a, b, c, d⟩
          exact ⟨a, b, c, fun x => d (by omega)⟩⟩
      exact ⟨h2, lo2, x', w', r1, r2, r3.trans n1, r4⟩
    · have tl : ¬ Nat.testBit w l = true := by
        rw [(nI_b0 (by omega) (by omega)).mp c2]
        exact Bool.false_ne_true
      have no : ¬ (chs c sw ku l = true ∧ i ≤ sz l) := fun y => tl (wl.mpr ⟨hl, y.1, y.2, fun x => absurd x (Nat.lt_irrefl l)⟩)
      obtain ⟨h2, lo2, x', w', r1, r2, r3, r4⟩ := ih (l + 1) lo1 h1 x w (by omega) E1 v1 m0 m1 m2 m3 m4 m5 m6 m7 hx (fun k hk => by
        rw [hd k hk, rL_s]
        have : rC (chs c sw ku) sz ce hi i l k = 0 := by
          by_cases e : chs c sw ku l = true
          · exact rC_out (fun y => no ⟨e, by omega⟩)
          · exact rC_no (lx_no e)
        rw [this, Nat.add_zero]) ⟨w1, fun j hj => by
        rw [w2 j hj]
        constructor
        · rintro ⟨a, b, c, d⟩
          refine ⟨a, b, c, fun x => ?_⟩
          by_cases e : j = l
          · subst e
            exact absurd ⟨b, c⟩ no
          · exact d (by omega)
        · rintro ⟨a, b, c, d⟩
          exact ⟨a, b, c, fun x => d (by omega)⟩⟩
      exact ⟨h2, lo2, x', w', r1, r2, r3.trans n1, r4⟩
theorem xv_out (ty : eh_ty tC G) (D : xE c sw P ku sz ce hi cu se G) : ∀ (f i : Nat) (lo : List (Nat × Value)) (h : ri_H) (x y w : Nat), i + f = 8 → eh_e (ri_calE ri_md (d + 1)) md_34 18 lo [] h rs h' → eh_V h = G → ri_lk lo 0 = some (.ref 23) → ri_lk lo 1 = some (.int cu) → ri_lk lo 2 = some (.int se) → ri_lk lo 3 = some (.int (nI x)) → ri_lk lo 4 = some (.int (nI y)) → ri_lk lo 5 = some (.int (nI w)) → ri_lk lo 6 = some (.int (nI i)) → x < 65536 → (∀ k, k < 8 → dg x k = rR (chs c sw ku) sz ce hi P k i % 4) → hgC (fun k => hB (chs c sw ku) sz ce hi P k i) y → dnI c sw P ku sz i 0 w → ∃ u, wsC (fun k => hB (chs c sw ku) sz ce hi P k 8) u ∧ rs = [.int u] ∧ eh_V h' = G ∧ eh_N h' = eh_N h := by
  intro f
  induction f with
  | zero =>
    intro i lo h x y w hf E hV l0 l1 l2 l3 l4 l5 l6 hx hd hy hw
    have z := xv_o E hV ty l0 l1 l2 l3 l4 l5 l6
    rw [lx_i (a := i) (by omega)] at z
    rcases z with ⟨-, h1, lo1, E1, v1, n1, -, m0, m1, m2, m3, m4, m5, m6⟩ | ⟨c, -⟩ | ⟨c, -⟩
    · have e : i = 8 := by omega
      subst e
      obtain ⟨u, u1, r1, r2, r3⟩ := xv_z (d := d) E1 v1 ty m0 m1 m2 m3 m4 m5 m6 rfl hy
      exact ⟨u, u1, r1, r2, r3.trans n1⟩
    all_goals omega
  | succ f ih =>
    intro i lo h x y w hf E hV l0 l1 l2 l3 l4 l5 l6 hx hd hy hw
    have hi8 : i < 8 := by omega
    have z := xv_o E hV ty l0 l1 l2 l3 l4 l5 l6
    rw [lx_i (a := i) (by omega)] at z
    rcases z with ⟨c, -⟩ | ⟨-, c2, h1, lo1, E1, v1, n1, -, m0, m1, m2, m3, m4, m5, m6⟩ | ⟨-, c2, h1, lo1, E1, v1, n1, -, m0, m1, m2, m3, m4, m5, m6, m7⟩
    · omega
    · have w0 : w = 0 := lx_inj (by have := hw.1; omega) (by omega) c2
      subst w0
      have nz : ∀ k j, i ≤ j → rL (chs c sw ku) sz ce hi j k P = 0 := fun k j hj => sm_z P (fun l hl => by
        have hP8 := D.2.2.2.2.1.1
        have := hw.2 l (by omega)
        rw [Nat.zero_testBit] at this
        by_cases e : chs c sw ku l = true
        · refine rC_out (fun y => ?_)
          have := this.mpr ⟨hl, e, by omega, fun x => absurd x (Nat.not_lt_zero l)⟩
          cases this
        · exact rC_no (lx_no e))
      have e8 : ∀ k, hB (chs c sw ku) sz ce hi P k 8 = hB (chs c sw ku) sz ce hi P k i := fun k => by
        rw [show 8 = i + (8 - i) by omega]
        exact hB_end (8 - i) (nz k)
      obtain ⟨u, u1, r1, r2, r3⟩ := xv_z (d := d) (y := y) (b := fun k => hB (chs c sw ku) sz ce hi P k 8) E1 v1 ty m0 m1 m2 m3 m4 m5 m6 rfl (by
        rw [show (fun k => hB (chs c sw ku) sz ce hi P k 8) = (fun k => hB (chs c sw ku) sz ce hi P k i) from funext e8]
        exact hy)
      exact ⟨u, u1, r1, r2, r3.trans n1⟩
    · obtain ⟨h2, lo2, x', w', E2, v2, n2, p0, p1, p2, p3, p4, p5, p6, q1, q2, q3⟩ := xv_in hi8 ty D P 0 lo1 h1 x w (by omega) E1 v1 m0 m1 m2 m3 m4 m5 m6 m7 hx (fun k hk => hd k hk) hw
      have p4 : ri_lk lo2 4 = some (.int (nI y ||| (nI x' &&& nI 43690))) := p4
      rw [nI_and, nI_or] at p4
      obtain ⟨u, u1, r1, r2, r3⟩ := ih (i + 1) lo2 h2 x' _ w' (by omega) E2 v2 p0 p1 p2 p3 p4 p5 p6 q1 q2 (hg_step hy q1 q2) q3
      exact ⟨u, u1, r1, r2, r3.trans (n2.trans n1)⟩
theorem xv_34 {h : ri_H} {v : Option Value} (E : ri_calE ri_md (d + 2) 34 [.ref 23, .int cu, .int se] h = some (v, h')) (hV : eh_V h = G) (ty : eh_ty tC G) (D : xE c sw P ku sz ce hi cu se G) : ∃ u : Int32, wsC (fun k => hB (chs c sw ku) sz ce hi P k 8) u ∧ v = some (.int u) ∧ eh_V h' = G ∧ eh_N h' = eh_N h := by
  obtain ⟨rs, hrs, E⟩ := eh_in E (q := md_34) rfl
  obtain ⟨h1, lo1, E1, v1, n1, -, m0, m1, m2, m3, m4, m5, m6⟩ := xv_a E hV ty rfl rfl rfl
  have D0 := D
  obtain ⟨rfl, rfl, hsw, hc6, ⟨hP8, hb⟩, hP, hm, hw⟩ := D
  obtain ⟨w, w1, w2, w3⟩ := hw c hc6
  rw [lx_cl (a := c) (by omega), w2, nI_and] at m5
  obtain ⟨u, u1, r1, r2, r3⟩ := xv_out (d := d) ty D0 8 0 lo1 h1 0 0 (sw &&& w) (by omega) E1 v1 m0 m1 m2 m3 m4 m5 m6 (by decide) (fun k _ => (dg_0 k).trans rfl) ⟨by decide, fun k _ => (dg_0 k).trans rfl⟩ ⟨Nat.lt_of_le_of_lt Nat.and_le_left hsw, fun j hj => by
    constructor
    · intro t
      have t2 : Nat.testBit w j = true := by
        rw [Nat.testBit_and, Bool.and_eq_true] at t
        exact t.2
      have hj' := ((w3 j hj).mp t2).1
      rw [chs_w (w3 j hj) hj'] at t
      exact ⟨hj', t, Nat.zero_le _, fun x => absurd x (Nat.not_lt_zero j)⟩
    · rintro ⟨a, b, -, -⟩
      rw [chs_w (w3 j hj) a]
      exact b⟩
  exact ⟨u, u1, by rw [← hrs, r1]; rfl, r2, r3.trans n1⟩
end XV
theorem ws_uq {b : Nat → Bool} {u : Int32} {w : Nat} (h : wsC b u) (w1 : w < 256) (w3 : ∀ k, k < 8 → Nat.testBit w k = b k) : u = nI w := by
  obtain ⟨x, x1, rfl, x3⟩ := h
  congr 1
  refine Nat.eq_of_testBit_eq (fun i => ?_)
  by_cases e : i < 8
  · rw [x3 i e, w3 i e]
  · rw [tb_lt (by omega) x1, tb_lt (by omega) w1]
