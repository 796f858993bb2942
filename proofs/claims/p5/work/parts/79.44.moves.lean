/-! moves (reference): the rows, and what was high -/
def rwM (r : Nat → Nat) (G : eh_W) : Prop := ∀ k, k < 8 → eh_i G 7 k = nI (r k % 4)
def hgM (b : Nat → Bool) (G : eh_W) : Prop := ∃ w, w < 256 ∧ eh_i G 0 22 = nI w ∧ ∀ k, k < 8 → Nat.testBit w k = b k
def mo_M (c sw P : Nat) (ku sz : Nat → Nat) (ce hi : Nat → Nat → Nat) (G G1 : eh_W) : Prop := eh_fr pMv G G1 ∧ rwM (fun k => rR (chs c sw ku) sz ce hi P k 8) G1 ∧ hgM (fun k => hB (chs c sw ku) sz ce hi P k 8) G1
theorem rwM_cg {r r' : Nat → Nat} {G : eh_W} (h : rwM r G) (e : ∀ k, k < 8 → r k = r' k) : rwM r' G := fun k hk => by
  rw [← e k hk]
  exact h k hk
def xr_G (d c sw P : Nat) (ku sz : Nat → Nat) (ce hi : Nat → Nat → Nat) (cu se : Int32) (h' : ri_H) (rs : List Value) (i : Nat) (h : ri_H) (G : eh_W) : Prop := ∃ h1 lo1, eh_e (ri_calE ri_md (d + 1)) md_190 139 lo1 [] h1 rs h' ∧ eh_fr (fun k _ => Nat.beq k 7) G (eh_V h1) ∧ eh_ty tM (eh_V h1) ∧ eh_N h1 = eh_N h ∧ ri_lk lo1 0 = some (.ref 0) ∧ ri_lk lo1 1 = some (.int cu) ∧ ri_lk lo1 2 = some (.int se) ∧ ri_lk lo1 3 = some (.int (nI i)) ∧ ri_lk lo1 4 = some (.int (nI P)) ∧ rwM (fun k => rR (chs c sw ku) sz ce hi P k (i + 1)) (eh_V h1)
section XM
variable {d c sw P : Nat} {ku sz : Nat → Nat} {ce hi : Nat → Nat → Nat} {cu se : Int32} {h' : ri_H} {rs : List Value} {cal : eh_K}
theorem xm_zero : ∀ (f i : Nat) (lo : List (Nat × Value)) (h : ri_H) (G : eh_W), i + f = 8 → eh_e cal md_190 7 lo [] h rs h' → eh_V h = G → eh_ty tM G → ri_lk lo 0 = some (.ref 0) → ri_lk lo 1 = some (.int cu) → ri_lk lo 2 = some (.int se) → ri_lk lo 3 = some (.int (nI i)) → (∀ k, k < i → eh_i G 7 k = 0) → ∃ h1 lo1, eh_e cal md_190 28 lo1 [] h1 rs h' ∧ eh_fr (fun k _ => Nat.beq k 7) G (eh_V h1) ∧ eh_ty tM (eh_V h1) ∧ eh_N h1 = eh_N h ∧ ri_lk lo1 0 = some (.ref 0) ∧ ri_lk lo1 1 = some (.int cu) ∧ ri_lk lo1 2 = some (.int se) ∧ ri_lk lo1 3 = some (.int (nI 0)) ∧ ∀ k, k < 8 → eh_i (eh_V h1) 7 k = 0 := by
  intro f
  induction f with
  | zero =>
    intro i lo h G hf E hV ty l0 l1 l2 l3 hz
    have z := xm_r E hV ty l0 l1 l2 l3
    rw [lx_i (a := i) (by omega)] at z
    rcases z with ⟨-, h1, lo1, E1, v1, n1, t1, m0, m1, m2, m3⟩ | ⟨c, -⟩
    · exact ⟨h1, lo1, E1, by rw [v1]; exact eh_fr.rf, by rw [v1]; exact t1, n1, m0, m1, m2, m3, fun k hk => by rw [v1]; exact hz k (by omega)⟩
    · omega
  | succ f ih =>
    intro i lo h G hf E hV ty l0 l1 l2 l3 hz
    have z := xm_r E hV ty l0 l1 l2 l3
    rw [lx_i (a := i) (by omega), lx_cl (a := i) (by omega), lx_a1] at z
    rcases z with ⟨c, -⟩ | ⟨-, h1, lo1, E1, v1, n1, t1, m0, m1, m2, m3⟩
    · omega
    · obtain ⟨h2, lo2, E2, f2, t2, n2, p0, p1, p2, p3, p4⟩ := ih (i + 1) lo1 h1 _ (by omega) E1 v1 t1 m0 m1 m2 m3 (fun k hk => by
        by_cases e : i = k
        · subst e
          exact eh_i_self _ _ _ _
        · rw [eh_i_ne G _ (Or.inr e)]
          exact hz k (by omega))
      exact ⟨h2, lo2, E2, (eh_fr.rf.up rfl).tr f2, t2, n2.trans n1, p0, p1, p2, p3, p4⟩
/-- the lessons of one round -/
theorem xm_row {i : Nat} (hi8 : i < 8) : ∀ (f l : Nat) (lo : List (Nat × Value)) (h : ri_H) (G : eh_W), l + f = P → eh_e (ri_calE ri_md (d + 1)) md_190 37 lo [] h rs h' → eh_V h = G → eh_ty tM G → xD c sw P ku sz ce hi cu se G → ri_lk lo 0 = some (.ref 0) → ri_lk lo 1 = some (.int cu) → ri_lk lo 2 = some (.int se) → ri_lk lo 3 = some (.int (nI i)) → ri_lk lo 4 = some (.int (nI l)) → rwM (fun k => rR (chs c sw ku) sz ce hi P k i + rL (chs c sw ku) sz ce hi i k l) G → xr_G d c sw P ku sz ce hi cu se h' rs i h G := by
  intro f
  induction f with
  | zero =>
    intro l lo h G hf E hV ty D l0 l1 l2 l3 l4 hr
    obtain ⟨-, -, -, -, ⟨hP8, -⟩, hP, -⟩ := D
    have z := xm_l E hV ty l0 l1 l2 l3 l4
    rw [hP, lx_i (a := l) (by omega), lx_i (a := P) (by omega)] at z
    rcases z with ⟨-, h1, lo1, E1, v1, n1, t1, m0, m1, m2, m3, m4⟩ | ⟨c, -⟩ | ⟨c, -⟩ | ⟨c, -⟩ | ⟨c, -⟩
    · have e : l = P := by omega
      subst e
      exact ⟨h1, lo1, E1, by rw [v1]; exact eh_fr.rf, by rw [v1]; exact t1, n1, m0, m1, m2, m3, m4, by rw [v1]; exact hr⟩
    all_goals omega
  | succ f ih =>
    intro l lo h G hf E hV ty D l0 l1 l2 l3 l4 hr
    have D0 := D
    obtain ⟨rfl, rfl, hsw, hc6, ⟨hP8, hb⟩, hP, hm⟩ := D
    have hl : l < P := by omega
    obtain ⟨e1, e2, e3⟩ := hm l hl
    obtain ⟨b1, b2, b3⟩ := hb l hl
    have z := xm_l E hV ty l0 l1 l2 l3 l4
    rw [hP, lx_i (a := l) (by omega), lx_i (a := P) (by omega), lx_i (a := i) (by omega), nI_p10, show (18 : Int32) + nI l = nI (18 + l) from lx_add 18 l, show (8 : Int32) * nI l = nI (8 * l) from (Int32.ofNat_mul 8 l).symm, show (26 : Int32) + nI (8 * l) = nI (26 + 8 * l) from lx_add 26 (8 * l), show nI (26 + 8 * l) + nI i = nI (26 + 8 * l + i) from lx_add _ _, lx_cl (a := 10 + l) (by omega), lx_cl (a := 18 + l) (by omega), lx_cl (a := 26 + 8 * l + i) (by omega), e1, e2, lx_i (a := sz l) (by omega), lx_a1] at z
    have cc : nI (ku l) = nI c ↔ ku l = c := ⟨fun e => lx_inj (by omega) (by omega) e, fun e => by rw [e]⟩
    have same : ∀ (h1 : ri_H) (lo1 : List (Nat × Value)), (∀ k, rC (chs c sw ku) sz ce hi i l k = 0) → eh_e (ri_calE ri_md (d + 1)) md_190 37 lo1 [] h1 rs h' → eh_V h1 = G → eh_N h1 = eh_N h → ri_lk lo1 0 = some (.ref 0) → ri_lk lo1 1 = some (.int (nI c)) → ri_lk lo1 2 = some (.int (nI sw)) → ri_lk lo1 3 = some (.int (nI i)) → ri_lk lo1 4 = some (.int (nI (l + 1))) → xr_G d c sw P ku sz ce hi (nI c) (nI sw) h' rs i h G := fun h1 lo1 hz E1 v1 n1 m0 m1 m2 m3 m4 => by
      obtain ⟨h2, lo2, E2, f2, t2, n2, p0, p1, p2, p3, p4, p5⟩ := ih (l + 1) lo1 h1 G (by omega) E1 v1 ty D0 m0 m1 m2 m3 m4 (rwM_cg hr (fun k _ => by rw [rL_s, hz k, Nat.add_zero]))
      exact ⟨h2, lo2, E2, f2, t2, n2.trans n1, p0, p1, p2, p3, p4, p5⟩
    rcases z with ⟨c1, -⟩ | ⟨-, c2, h1, lo1, E1, v1, n1, -, m0, m1, m2, m3, m4⟩ | ⟨-, c2, c3, h1, lo1, E1, v1, n1, -, m0, m1, m2, m3, m4⟩ | ⟨-, c2, c3, c4, h1, lo1, E1, v1, n1, t1, m0, m1, m2, m3, m4, -⟩ | ⟨-, c2, c3, c4, h1, lo1, E1, v1, n1, -, m0, m1, m2, m3, m4⟩
    · omega
    · rw [nI_bit (by omega) (by omega)] at c2
      exact same h1 lo1 (fun _ => rC_no (chs_f1 c2)) E1 v1 n1 m0 m1 m2 m3 m4
    · exact same h1 lo1 (fun _ => rC_no (chs_f2 (fun e => c3 (cc.mpr e)))) E1 v1 n1 m0 m1 m2 m3 m4
    · rw [nI_bit (by omega) (by omega)] at c2
      have hf : chs c sw ku l = true := chs_t c2 (cc.mp c3)
      have hi' : i < sz l := by omega
      obtain ⟨g1, g2⟩ := b3 i hi'
      obtain ⟨s1, s2⟩ := st_fin ⟨ce l i, g1⟩ ⟨hi l i, g2⟩
      have s1 : nI (10 * ce l i + hi l i) / 10 = nI (ce l i) := s1
      have s2 : nI (10 * ce l i + hi l i) - nI (10 * ce l i + hi l i) / 10 * 10 = nI (hi l i) := s2
      rw [e3 i hi', s2, s1, lx_cl (a := ce l i) (by omega), hr (ce l i) g1] at v1 t1
      have s3 := m4_fin ⟨(rR (chs c sw ku) sz ce hi P (ce l i) i + rL (chs c sw ku) sz ce hi i (ce l i) l) % 4, Nat.mod_lt _ (by decide)⟩ ⟨hi l i, g2⟩
      dsimp only at s3
      rw [s3] at v1 t1
      have fr : eh_fr (fun k _ => Nat.beq k 7) G (eh_u G 7 (ce l i) (.int (nI (((rR (chs c sw ku) sz ce hi P (ce l i) i + rL (chs c sw ku) sz ce hi i (ce l i) l) % 4 + hi l i) % 4)))) := eh_fr.rf.up rfl
      obtain ⟨h2, lo2, E2, f2, t2, n2, p0, p1, p2, p3, p4, p5⟩ := ih (l + 1) lo1 h1 _ (by omega) E1 v1 t1 (xD_fr D0 (fr.mo (fun k i e => by
        unfold pMv at e
        rw [Bool.or_eq_false_iff] at e
        exact e.1))) m0 m1 m2 m3 m4 (fun k hk => by
        show eh_i _ 7 k = nI ((rR (chs c sw ku) sz ce hi P k i + (rL (chs c sw ku) sz ce hi i k l + rC (chs c sw ku) sz ce hi i l k)) % 4)
        rw [rC_ce hf hi']
        by_cases e : ce l i = k
        · subst e
          rw [eh_i_self, if_pos rfl]
          congr 1
          omega
        · rw [eh_i_ne G _ (Or.inr e), if_neg e, Nat.add_zero]
          exact hr k hk)
      exact ⟨h2, lo2, E2, fr.tr f2, t2, n2.trans n1, p0, p1, p2, p3, p4, p5⟩
    · exact same h1 lo1 (fun _ => rC_out (by omega)) E1 v1 n1 m0 m1 m2 m3 m4
theorem hs_fin : ∀ (w : Fin 256) (k : Fin 8), (nI w.val ||| ((1 : Int32) <<< (nI k.val &&& 31))) = nI (w.val ||| 1 <<< k.val) := by decide +kernel
theorem tb_or {w k j : Nat} : Nat.testBit (w ||| 1 <<< k) j = (Nat.testBit w j || decide (k = j)) := by
  rw [Nat.testBit_or, Nat.one_shiftLeft, Nat.testBit_two_pow]
/-- which cells are high after a round -/
theorem xm_high {i : Nat} {r : Nat → Nat} : ∀ (f l : Nat) (lo : List (Nat × Value)) (h : ri_H) (G : eh_W), l + f = 8 → eh_e cal md_190 152 lo [] h rs h' → eh_V h = G → eh_ty tM G → ri_lk lo 0 = some (.ref 0) → ri_lk lo 1 = some (.int cu) → ri_lk lo 2 = some (.int se) → ri_lk lo 3 = some (.int (nI i)) → ri_lk lo 4 = some (.int (nI l)) → rwM r G → (b : Nat → Bool) → hgM (fun k => b k || (Nat.blt k l && Nat.ble 2 (r k % 4))) G → ∃ h1 lo1, eh_e cal md_190 28 lo1 [] h1 rs h' ∧ eh_fr (fun k i => Nat.beq k 0 && Nat.beq i 22) G (eh_V h1) ∧ eh_ty tM (eh_V h1) ∧ eh_N h1 = eh_N h ∧ ri_lk lo1 0 = some (.ref 0) ∧ ri_lk lo1 1 = some (.int cu) ∧ ri_lk lo1 2 = some (.int se) ∧ ri_lk lo1 3 = some (.int (nI (i + 1))) ∧ rwM r (eh_V h1) ∧ hgM (fun k => b k || Nat.ble 2 (r k % 4)) (eh_V h1) := by
  intro f
  induction f with
  | zero =>
    intro l lo h G hf E hV ty l0 l1 l2 l3 l4 hr b ⟨w, w1, w2, w3⟩
    have z := xm_h E hV ty l0 l1 l2 l3 l4
    rw [lx_i (a := l) (by omega), lx_a1] at z
    rcases z with ⟨-, h1, lo1, E1, v1, n1, t1, m0, m1, m2, m3, m4⟩ | ⟨c, -⟩ | ⟨c, -⟩
    · refine ⟨h1, lo1, E1, by rw [v1]; exact eh_fr.rf, by rw [v1]; exact t1, n1, m0, m1, m2, m3, by rw [v1]; exact hr, w, w1, by rw [v1]; exact w2, fun k hk => ?_⟩
      rw [w3 k hk]
      dsimp only
      rw [Nat.blt_eq.mpr (show k < l by omega)]
      rfl
    all_goals omega
  | succ f ih =>
    intro l lo h G hf E hV ty l0 l1 l2 l3 l4 hr b ⟨w, w1, w2, w3⟩
    have hl : l < 8 := by omega
    have z := xm_h E hV ty l0 l1 l2 l3 l4
    have hm := Nat.mod_lt (r l) (show 4 > 0 by decide)
    rw [lx_i (a := l) (by omega), lx_cl (a := l) (by omega), hr l hl, lx_i (a := r l % 4) (by omega), w2, show nI l + 1 = nI (l + 1) from lx_a1 l] at z
    rcases z with ⟨c, -⟩ | ⟨-, c2, h1, lo1, E1, v1, n1, t1, m0, m1, m2, m3, m4⟩ | ⟨-, c2, h1, lo1, E1, v1, n1, t1, m0, m1, m2, m3, m4⟩
    · omega
    · rw [show nI w ||| 0 = nI w from Int32.or_zero] at v1 t1
      obtain ⟨h2, lo2, E2, f2, t2, n2, p0, p1, p2, p3, p4, p5⟩ := ih (l + 1) lo1 h1 _ (by omega) E1 v1 t1 m0 m1 m2 m3 m4 (fun k hk => (eh_i_ne G _ (Or.inl (by decide))).trans (hr k hk)) b ⟨w, w1, eh_i_self _ _ _ _, fun k hk => by
        rw [w3 k hk]
        dsimp only
        by_cases e : k = l
        · subst e
          rw [blt_no (Nat.lt_irrefl k), Nat.blt_eq.mpr (Nat.lt_succ_self k), show Nat.ble 2 (r k % 4) = false from lx_no (fun x => by have := Nat.ble_eq.mp x; omega)]
          rfl
        · rw [show Nat.blt k (l + 1) = Nat.blt k l by
            by_cases x : k < l
            · rw [Nat.blt_eq.mpr x, Nat.blt_eq.mpr (by omega)]
            · rw [blt_no x, blt_no (by omega)]]⟩
      exact ⟨h2, lo2, E2, (eh_fr.rf.up rfl).tr f2, t2, n2.trans n1, p0, p1, p2, p3, p4, p5⟩
    · have s := hs_fin ⟨w, w1⟩ ⟨l, hl⟩
      have s : nI w ||| ((1 : Int32) <<< (nI l &&& 31)) = nI (w ||| 1 <<< l) := s
      rw [s] at v1 t1
      obtain ⟨h2, lo2, E2, f2, t2, n2, p0, p1, p2, p3, p4, p5⟩ := ih (l + 1) lo1 h1 _ (by omega) E1 v1 t1 m0 m1 m2 m3 m4 (fun k hk => (eh_i_ne G _ (Or.inl (by decide))).trans (hr k hk)) b ⟨w ||| 1 <<< l, Nat.or_lt_two_pow (n := 8) w1 (by
        rw [Nat.one_shiftLeft]
        exact Nat.pow_lt_pow_right (by decide) hl), eh_i_self _ _ _ _, fun k hk => by
        rw [tb_or, w3 k hk]
        dsimp only
        by_cases e : k = l
        · subst e
          rw [blt_no (Nat.lt_irrefl k), Nat.blt_eq.mpr (Nat.lt_succ_self k), Nat.ble_eq.mpr (show 2 ≤ r k % 4 by omega), decide_eq_true rfl]
          cases b k <;> rfl
        · rw [decide_eq_false (fun x => e x.symm), show Nat.blt k (l + 1) = Nat.blt k l by
            by_cases x : k < l
            · rw [Nat.blt_eq.mpr x, Nat.blt_eq.mpr (by omega)]
            · rw [blt_no x, blt_no (by omega)]]
          cases b k <;> cases Nat.blt k l <;> cases Nat.ble 2 (r k % 4) <;> rfl⟩
      exact ⟨h2, lo2, E2, (eh_fr.rf.up rfl).tr f2, t2, n2.trans n1, p0, p1, p2, p3, p4, p5⟩
theorem p7_mv (k i : Nat) (e : pMv k i = false) : Nat.beq k 7 = false := by
  unfold pMv at e
  rw [Bool.or_eq_false_iff] at e
  exact e.1
theorem p22_mv (k i : Nat) (e : pMv k i = false) : (Nat.beq k 0 && Nat.beq i 22) = false := by
  unfold pMv at e
  rw [Bool.or_eq_false_iff] at e
  exact e.2
/-- all rounds -/
theorem xm_out : ∀ (f i : Nat) (lo : List (Nat × Value)) (h : ri_H) (G : eh_W), i + f = 8 → eh_e (ri_calE ri_md (d + 2)) md_190 28 lo [] h rs h' → eh_V h = G → eh_ty tM G → xD c sw P ku sz ce hi cu se G → ri_lk lo 0 = some (.ref 0) → ri_lk lo 1 = some (.int cu) → ri_lk lo 2 = some (.int se) → ri_lk lo 3 = some (.int (nI i)) → rwM (fun k => rR (chs c sw ku) sz ce hi P k i) G → hgM (fun k => hB (chs c sw ku) sz ce hi P k i) G → rs = [] ∧ eh_ty tM (eh_V h') ∧ eh_N h' = eh_N h ∧ mo_M c sw P ku sz ce hi G (eh_V h') := by
  intro f
  induction f with
  | zero =>
    intro i lo h G hf E hV ty D l0 l1 l2 l3 hr hg
    have z := xm_o E hV ty l0 l1 l2 l3
    rw [lx_i (a := i) (by omega)] at z
    rcases z with ⟨-, r1, r2, r3⟩ | ⟨c, -⟩
    · have e : i = 8 := by omega
      subst e
      rw [r2]
      exact ⟨r1, ty, r3, eh_fr.rf, hr, hg⟩
    · omega
  | succ f ih =>
    intro i lo h G hf E hV ty D l0 l1 l2 l3 hr hg
    have hi8 : i < 8 := by omega
    have z := xm_o E hV ty l0 l1 l2 l3
    rw [lx_i (a := i) (by omega)] at z
    rcases z with ⟨c, -⟩ | ⟨-, h1, lo1, E1, v1, n1, t1, m0, m1, m2, m3, m4⟩
    · omega
    · obtain ⟨h2, lo2, E2, f2, t2, n2, p0, p1, p2, p3, p4, p5⟩ := xm_row (d := d + 1) hi8 P 0 lo1 h1 G (by omega) E1 v1 t1 D m0 m1 m2 m3 m4 (rwM_cg hr (fun k _ => rfl))
      have f2' : eh_fr pMv G (eh_V h2) := f2.mo p7_mv
      have D2 := xD_fr D f2'
      have hg2 : hgM (fun k => hB (chs c sw ku) sz ce hi P k i) (eh_V h2) := by
        obtain ⟨w, w1, w2, w3⟩ := hg
        exact ⟨w, w1, by rw [f2.i rfl]; exact w2, w3⟩
      have hM8 : rM (chs c sw ku) sz P ≤ 8 := rM_le (P := P) (fun l hl => (D.2.2.2.2.1.2 l hl).2.1) P (Nat.le_refl _)
      rcases xm_x E2 rfl t2 p0 p1 p2 p3 p4 D2 with ⟨x, x1, cw, h3, lo3, E3, v3, n3, t3, q0, q1, q2, q3, -⟩ | ⟨x, x1, cw, h3, lo3, E3, v3, n3, t3, q0, q1, q2, q3, q4⟩
      · subst x1
        rw [lx_i (a := i) (by omega), lx_i (a := rM (chs c sw ku) sz P) (by omega)] at cw
        rw [lx_a1] at q3
        obtain ⟨s1, s2, s3, s4, s5, s6⟩ := ih (i + 1) lo3 h3 (eh_V h2) (by omega) E3 v3 t3 D2 q0 q1 q2 q3 p5 (by
          obtain ⟨w, w1, w2, w3⟩ := hg2
          exact ⟨w, w1, w2, fun k hk => by
            rw [w3 k hk]
            dsimp only
            rw [hB_st (rL_long (by omega))]⟩)
        exact ⟨s1, s2, s3.trans (n3.trans (n2.trans n1)), f2'.tr s4, s5, s6⟩
      · obtain ⟨h4, lo4, E4, f4, t4, n4, u0, u1, u2, u3, u4, u5⟩ := xm_high 8 0 lo3 h3 (eh_V h2) (by omega) E3 v3 t3 q0 q1 q2 q3 q4 p5 (fun k => hB (chs c sw ku) sz ce hi P k i) (by
          obtain ⟨w, w1, w2, w3⟩ := hg2
          exact ⟨w, w1, w2, fun k hk => by
            rw [w3 k hk]
            dsimp only
            rw [blt_no (Nat.not_lt_zero k), Bool.false_and, Bool.or_false]⟩)
        have f4' : eh_fr pMv (eh_V h2) (eh_V h4) := f4.mo p22_mv
        obtain ⟨s1, s2, s3, s4, s5, s6⟩ := ih (i + 1) lo4 h4 _ (by omega) E4 rfl t4 (xD_fr D2 f4') u0 u1 u2 u3 u4 u5
        exact ⟨s1, s2, s3.trans (n4.trans (n3.trans (n2.trans n1))), (f2'.tr f4').tr s4, s5, s6⟩
theorem xm_190 {h : ri_H} {v : Option Value} {G : eh_W} (E : ri_calE ri_md (d + 3) 190 [.ref 0, .int cu, .int se] h = some (v, h')) (hV : eh_V h = G) (ty : eh_ty tM G) (D : xD c sw P ku sz ce hi cu se G) : ∃ G1 : eh_W, mo_M c sw P ku sz ce hi G G1 ∧ eh_ty tM G1 ∧ v = none ∧ eh_V h' = G1 ∧ eh_N h' = eh_N h := by
  obtain ⟨rs, hrs, E⟩ := eh_in E (q := md_190) rfl
  obtain ⟨h1, lo1, E1, v1, n1, t1, m0, m1, m2, m3⟩ := xm_a E hV ty rfl rfl rfl
  have f1 : eh_fr pMv G (eh_u G 0 22 (.int 0)) := eh_fr.rf.up rfl
  obtain ⟨h2, lo2, E2, f2, t2, n2, p0, p1, p2, p3, p4⟩ := xm_zero 8 0 lo1 h1 _ (by omega) E1 v1 t1 m0 m1 m2 m3 (fun k hk => absurd hk (Nat.not_lt_zero k))
  have f2' := f1.tr (f2.mo p7_mv)
  obtain ⟨s1, s2, s3, s4, s5, s6⟩ := xm_out 8 0 lo2 h2 _ (by omega) E2 rfl t2 (xD_fr D f2') p0 p1 p2 p3 (fun k hk => (p4 k hk).trans rfl) ⟨0, by decide, (f2.i rfl).trans (eh_i_self _ _ _ _), fun k _ => Nat.zero_testBit k⟩
  exact ⟨_, ⟨f2'.tr s4, s5, s6⟩, s2, by rw [← hrs, s1]; rfl, rfl, s3.trans (n2.trans n1)⟩
end XM
