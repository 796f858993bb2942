/-! learnt (reference): which sets explain it -/
def pMlr (k i : Nat) : Bool := pMv k i || Nat.beq k 10
theorem pMv_lr (k i : Nat) (h : pMlr k i = false) : pMv k i = false := by
  unfold pMlr at h
  rw [Bool.or_eq_false_iff] at h
  exact h.1
/-- the sets that explain the first M blocks -/
def exT (cb hb : Nat → Nat) (M P w : Nat) (ku sz : Nat → Nat) (ce hi : Nat → Nat → Nat) (s : Nat) : Bool := decide (∀ j, j < M → ht_M (cb j) s P w ku sz ce hi = hb j)
theorem exT_iff {cb hb : Nat → Nat} {M P w : Nat} {ku sz : Nat → Nat} {ce hi : Nat → Nat → Nat} {s : Nat} : exT cb hb M P w ku sz ce hi s = true ↔ ∀ j, j < M → ht_M (cb j) s P w ku sz ce hi = hb j := by
  unfold exT
  rw [decide_eq_true_eq]
/-- a set told by what is in some -/
def boL (b : Nat → Prop) (x : Int32) : Prop := ∃ a, a < 256 ∧ x = nI a ∧ ∀ l, l < 8 → (Nat.testBit a l = true ↔ b l)
theorem boL_or {b : Nat → Prop} {x : Int32} {s : Nat} (h : boL b x) (hs : s < 256) : boL (fun l => b l ∨ Nat.testBit s l = true) (x ||| nI s) := by
  obtain ⟨a, a1, rfl, a3⟩ := h
  refine ⟨a ||| s, Nat.or_lt_two_pow (n := 8) a1 hs, nI_or a s, fun l hl => ?_⟩
  rw [Nat.testBit_or, Bool.or_eq_true, a3 l hl]
theorem boL_cg {b b' : Nat → Prop} {x : Int32} (h : boL b x) (e : ∀ l, b l ↔ b' l) : boL b' x := by
  obtain ⟨a, a1, a2, a3⟩ := h
  exact ⟨a, a1, a2, fun l hl => by rw [a3 l hl, e l]⟩
/-- the state behind the first n sets -/
def mtS (P : Nat) (ex : Nat → Bool) (n : Nat) (mn su sm : Int32) (G : eh_W) : Prop := mn = nI (cn ex n) ∧ bsL P (fun l => ∀ s, s < n → ex s = true → Nat.testBit s l = true) su ∧ boL (fun l => ∃ s, s < n ∧ ex s = true ∧ Nat.testBit s l = true) sm ∧ ∀ s, s < n → eh_i G 10 s = if ex s = true then 1 else 0
theorem i8_01 : (0 : Int32).toInt8.toInt32 = 0 ∧ (1 : Int32).toInt8.toInt32 = 1 := by decide
section YT
variable {d P w W N M q0 : Nat} {ku sz : Nat → Nat} {ce hi : Nat → Nat → Nat} {h' : ri_H} {rs : List Value} {G0 : eh_W} {ea al mn su sm : Int32}
/-- the blocks, for one set n -/
theorem ylm_blk (hW : W = w + 1) (w8 : w ≤ 8) (hN : N = W * M) (h940 : N ≤ 940) (B : LDb P ku sz ce hi) (C : LDm P ku sz ce hi G0) (hw : eh_i G0 2 0 = nI w) (hs : eh_i G0 0 3 = nI N) (hb : bRa G0) (q6 : q0 ≤ 6) (ok : ∀ j, j < M → lsX G0 W q0 w j) {n : Nat} (n8 : n < 256) : ∀ (f J : Nat) (lo : List (Nat × Value)) (h : ri_H) (is : Int32), J + f = M → eh_e (ri_calE ri_md (d + 4)) md_219 114 lo [] h rs h' → eh_fr pMlr G0 (eh_V h) → eh_ty tM (eh_V h) → ri_lk lo 0 = some (.ref 0) → ri_lk lo 1 = some (.int (nI W)) → ri_lk lo 2 = some (.int mn) → ri_lk lo 3 = some (.int al) → ri_lk lo 4 = some (.int su) → ri_lk lo 5 = some (.int sm) → ri_lk lo 6 = some (.int (nI n)) → ri_lk lo 7 = some (.int is) → ri_lk lo 8 = some (.int (nI (W * J))) → ((is = 1 ∧ ∀ j, j < J → ht_M (cbT G0 W j) n P w ku sz ce hi = hbT G0 W w j) ∨ (is = 0 ∧ exT (cbT G0 W) (hbT G0 W w) M P w ku sz ce hi n = false)) → ∃ h1 lo1, eh_e (ri_calE ri_md (d + 4)) md_219 102 lo1 [] h1 rs h' ∧ eh_fr pMlr G0 (eh_V h1) ∧ eh_ty tM (eh_V h1) ∧ eh_N h1 = eh_N h ∧ ri_lk lo1 0 = some (.ref 0) ∧ ri_lk lo1 1 = some (.int (nI W)) ∧ ri_lk lo1 3 = some (.int al) ∧ ri_lk lo1 6 = some (.int (nI (n + 1))) ∧ (∀ s, s ≠ n → eh_i (eh_V h1) 10 s = eh_i (eh_V h) 10 s) ∧ ((exT (cbT G0 W) (hbT G0 W w) M P w ku sz ce hi n = true ∧ eh_i (eh_V h1) 10 n = 1 ∧ ri_lk lo1 2 = some (.int (mn + 1)) ∧ ri_lk lo1 4 = some (.int (su &&& nI n)) ∧ ri_lk lo1 5 = some (.int (sm ||| nI n))) ∨ (exT (cbT G0 W) (hbT G0 W w) M P w ku sz ce hi n = false ∧ eh_i (eh_V h1) 10 n = 0 ∧ ri_lk lo1 2 = some (.int mn) ∧ ri_lk lo1 4 = some (.int su) ∧ ri_lk lo1 5 = some (.int sm))) := by
  intro f
  have out : ∀ (h h1 : ri_H) (is : Int32), eh_fr pMlr G0 (eh_V h) → eh_V h1 = eh_u (eh_V h) 10 n (.int (is.toInt8.toInt32)) → eh_fr pMlr G0 (eh_V h1) ∧ (∀ s, s ≠ n → eh_i (eh_V h1) 10 s = eh_i (eh_V h) 10 s) ∧ (is = 0 → eh_i (eh_V h1) 10 n = 0) ∧ (is = 1 → eh_i (eh_V h1) 10 n = 1) := fun h h1 is fr v1 => by
    rw [v1]
    refine ⟨fr.up rfl, fun s e => eh_i_ne _ _ (Or.inr (fun x => e x.symm)), fun e => ?_, fun e => ?_⟩
    · rw [e, eh_i_self]
      exact i8_01.1
    · rw [e, eh_i_self]
      exact i8_01.2
  induction f with
  | zero =>
    intro J lo h is hf E fr ty l0 l1 l2 l3 l4 l5 l6 l7 l8 I
    have hJ : J = M := by omega
    subst hJ
    have hsz : eh_i (eh_V h) 0 3 = nI N := (fr.i rfl).trans hs
    have z := ylm_d (d := d) (c := 0) (sw := n) (P := P) (ku := ku) (sz := sz) (ce := ce) (hi := hi) E rfl ty l0 l1 l2 l3 l4 l5 l6 l7 l8 rfl ((fr.i rfl).trans hw) w8 (by
      rw [hsz, lx_i (by omega), lx_i (by omega)]
      omega) (fun i hi => by
      rw [show eh_i (eh_V h) 1 i = eh_i G0 1 i from fr.i rfl]
      exact hb i hi) (by
      rw [hsz, lx_i (by omega), lx_i (by omega)]
      omega)
    rw [hsz, lx_i (a := W * J) (by omega), lx_i (a := N) (by omega), lx_cl (a := n) (by omega), show nI n + 1 = nI (n + 1) from lx_a1 n] at z
    rcases z with ⟨-, i1, h1, lo1, E1, v1, n1, t1, m0, m1, m2, m3, m4, m5, m6, -⟩ | ⟨-, i1, h1, lo1, E1, v1, n1, t1, m0, m1, m2, m3, m4, m5, m6, -⟩ | ⟨x, -⟩ | ⟨u, g, v, x, -⟩ | ⟨u, g, v, x, -⟩
    · rw [← v1] at t1
      obtain ⟨o1, o2, -, o4⟩ := out h h1 is fr v1
      rcases I with ⟨i2, i3⟩ | ⟨i2, -⟩
      · exact ⟨h1, lo1, E1, o1, t1, n1, m0, m1, m3, m6, o2, Or.inl ⟨exT_iff.mpr i3, o4 i2, m2, m4, m5⟩⟩
      · exact absurd i2 i1
    · rw [← v1] at t1
      obtain ⟨o1, o2, o3, -⟩ := out h h1 is fr v1
      rcases I with ⟨i2, -⟩ | ⟨-, i3⟩
      · rw [i1] at i2
        exact absurd i2 (by decide)
      · exact ⟨h1, lo1, E1, o1, t1, n1, m0, m1, m3, m6, o2, Or.inr ⟨i3, o3 i1, m2, m4, m5⟩⟩
    all_goals omega
  | succ f ih =>
    intro J lo h is hf E fr ty l0 l1 l2 l3 l4 l5 l6 l7 l8 I
    have hJ : J < M := by omega
    have hm : W * (J + 1) ≤ W * M := Nat.mul_le_mul_left W hJ
    rw [Nat.mul_succ] at hm
    have hsz : eh_i (eh_V h) 0 3 = nI N := (fr.i rfl).trans hs
    have e1 : ∀ i, eh_i (eh_V h) 1 i = eh_i G0 1 i := fun i => fr.i rfl
    obtain ⟨k1, k2, k3⟩ := ok J hJ
    obtain ⟨c1, c2⟩ := nI_cl k1 (by omega)
    have cu : eh_i (eh_V h) 1 (nI (W * J)).toNatClampNeg &&& 255 = nI (cbT G0 W J) := by
      rw [lx_cl (by omega), e1]
      show eh_i G0 1 (W * J) &&& 255 = nI (eh_i G0 1 (W * J)).toNatClampNeg
      rw [c1, lx_cl (by omega)]
      exact oc_pos (by omega)
    have cq : cbT G0 W J < 6 := by
      show (eh_i G0 1 (W * J)).toNatClampNeg < 6
      omega
    have z := ylm_d (d := d) (c := cbT G0 W J) (sw := n) E rfl ty l0 l1 l2 l3 l4 l5 l6 l7 l8 rfl ((fr.i rfl).trans hw) w8 (by
      intro _
      omega) (fun i hi => by
      rw [e1]
      exact hb i hi) (fun _ => ⟨cu, rfl, n8, cq, B, LDm_fr C (fun j => fr.i rfl)⟩)
    have eh : ∀ {G1 : eh_W}, eh_fr pMv (eh_V h) G1 → (hOK G1 w (W * J + 1) ↔ hOK G0 w (W * J + 1)) ∧ hNM G1 w (W * J + 1) = hbT G0 W w J := fun g => ⟨hOK_cg (fun c _ => (g.i rfl).trans (e1 _)), hNM_cg (fun c _ => (g.i rfl).trans (e1 _))⟩
    rw [hsz, lx_i (a := W * J) (by omega), lx_i (a := N) (by omega), lx_cl (a := n) (by omega), show nI n + 1 = nI (n + 1) from lx_a1 n, show nI (W * J) + nI W = nI (W * J + W) from lx_add _ _] at z
    have hH : hbT G0 W w J ≤ 100000 := by
      have := hNM_lt G0 (W * J + 1) w8
      show hNM G0 w (W * J + 1) ≤ 100000
      omega
    have hT : ht_M (cbT G0 W J) n P w ku sz ce hi ≤ 100000 := by
      have := ht_lt (c := cbT G0 W J) (sw := n) (P := P) (ku := ku) (sz := sz) (ce := ce) (hi := hi) w8
      omega
    rcases z with ⟨x, -⟩ | ⟨x, -⟩ | ⟨-, i1, h1, lo1, E1, v1, n1, t1, m0, m1, m2, m3, m4, m5, m6, -⟩ | ⟨u, g, v, -, i1, y1, g1, -, y2, y3, h1, lo1, E1, v1, n1, t1, m0, m1, m2, m3, m4, m5, m6, m7, m8⟩ | ⟨u, g, v, -, i1, y1, g1, -, y2, y3, h1, lo1, E1, v1, n1, t1, m0, m1, m2, m3, m4, m5, m6, m7, m8⟩
    · omega
    · omega
    · rw [← v1] at t1
      obtain ⟨o1, o2, o3, -⟩ := out h h1 is fr v1
      rcases I with ⟨i2, -⟩ | ⟨-, i3⟩
      · rw [i1] at i2
        exact absurd i2 (by decide)
      · exact ⟨h1, lo1, E1, o1, t1, n1, m0, m1, m3, m6, o2, Or.inr ⟨i3, o3 i1, m2, m4, m5⟩⟩
    · rw [← v1] at t1 g1 y2
      rw [← Nat.mul_succ] at m8
      rw [(eh g1).1, (eh g1).2] at y2
      have ve : v = nI (hbT G0 W w J) := by
        rcases y2 with ⟨-, b⟩ | ⟨a, -⟩
        · exact b
        · exact absurd k3 a
      have f1 : eh_fr pMlr (eh_V h) (eh_V h1) := g1.mo pMv_lr
      obtain ⟨h2, lo2, E2, f2, t2, n2, p0, p1, p3, p6, p7, p8⟩ := ih (J + 1) lo1 h1 0 (by omega) E1 (fr.tr f1) t1 m0 m1 m2 m3 m4 m5 m6 m7 m8 (Or.inr ⟨rfl, lx_no (fun x => y3 (by
        rw [y1, ve, exT_iff.mp x J hJ]))⟩)
      exact ⟨h2, lo2, E2, f2, t2, n2.trans n1, p0, p1, p3, p6, fun s e => (p7 s e).trans (g1.i rfl), p8⟩
    · rw [← v1] at t1 g1 y2
      rw [← Nat.mul_succ] at m8
      rw [(eh g1).1, (eh g1).2] at y2
      have ve : v = nI (hbT G0 W w J) := by
        rcases y2 with ⟨-, b⟩ | ⟨a, -⟩
        · exact b
        · exact absurd k3 a
      have f1 : eh_fr pMlr (eh_V h) (eh_V h1) := g1.mo pMv_lr
      have I2 : ∀ j, j < J → ht_M (cbT G0 W j) n P w ku sz ce hi = hbT G0 W w j := by
        rcases I with ⟨-, i3⟩ | ⟨i2, -⟩
        · exact i3
        · exact absurd i2 i1
      obtain ⟨h2, lo2, E2, f2, t2, n2, p0, p1, p3, p6, p7, p8⟩ := ih (J + 1) lo1 h1 1 (by omega) E1 (fr.tr f1) t1 m0 m1 m2 m3 m4 m5 m6 m7 m8 (Or.inl ⟨rfl, fun j hj => by
        by_cases e : j = J
        · rw [e]
          exact lx_inj hT hH (by rw [← y1, ← ve]; exact y3)
        · exact I2 j (by omega)⟩)
      exact ⟨h2, lo2, E2, f2, t2, n2.trans n1, p0, p1, p3, p6, fun s e => (p7 s e).trans (g1.i rfl), p8⟩
/-- all sets -/
theorem ylm_sets (hW : W = w + 1) (w8 : w ≤ 8) (hN : N = W * M) (h940 : N ≤ 940) (B : LDb P ku sz ce hi) (C : LDm P ku sz ce hi G0) (hw : eh_i G0 2 0 = nI w) (hs : eh_i G0 0 3 = nI N) (hb : bRa G0) (q6 : q0 ≤ 6) (ok : ∀ j, j < M → lsX G0 W q0 w j) : ∀ (f n : Nat) (lo : List (Nat × Value)) (h : ri_H) (mn su sm : Int32), n + f = 2 ^ P → eh_e (ri_calE ri_md (d + 4)) md_219 102 lo [] h rs h' → eh_fr pMlr G0 (eh_V h) → eh_ty tM (eh_V h) → ri_lk lo 0 = some (.ref 0) → ri_lk lo 1 = some (.int (nI W)) → ri_lk lo 2 = some (.int mn) → ri_lk lo 3 = some (.int (nI (2 ^ P - 1))) → ri_lk lo 4 = some (.int su) → ri_lk lo 5 = some (.int sm) → ri_lk lo 6 = some (.int (nI n)) → mtS P (exT (cbT G0 W) (hbT G0 W w) M P w ku sz ce hi) n mn su sm (eh_V h) → ∃ h1 lo1 mn su sm, eh_e (ri_calE ri_md (d + 4)) md_219 207 lo1 [] h1 rs h' ∧ eh_fr pMlr G0 (eh_V h1) ∧ eh_ty tM (eh_V h1) ∧ eh_N h1 = eh_N h ∧ ri_lk lo1 0 = some (.ref 0) ∧ ri_lk lo1 1 = some (.int (nI W)) ∧ ri_lk lo1 2 = some (.int mn) ∧ ri_lk lo1 3 = some (.int (nI (2 ^ P - 1))) ∧ ri_lk lo1 4 = some (.int su) ∧ ri_lk lo1 5 = some (.int sm) ∧ ri_lk lo1 6 = some (.int (nI (2 ^ P))) ∧ mtS P (exT (cbT G0 W) (hbT G0 W w) M P w ku sz ce hi) (2 ^ P) mn su sm (eh_V h1) := by
  have p8 := (nI_set B.1).2
  have p1 : 1 ≤ 2 ^ P := Nat.two_pow_pos P
  intro f
  induction f with
  | zero =>
    intro n lo h mn su sm hf E fr ty l0 l1 l2 l3 l4 l5 l6 I
    have e : n = 2 ^ P := by omega
    subst e
    have z := ylm_c E rfl ty l0 l1 l2 l3 l4 l5 l6
    rw [lx_i (a := 2 ^ P - 1) (by omega), lx_i (a := 2 ^ P) (by omega)] at z
    rcases z with ⟨-, h1, lo1, E1, v1, n1, t1, m0, m1, m2, m3, m4, m5, m6⟩ | ⟨x, -⟩
    · rw [← v1] at t1
      exact ⟨h1, lo1, mn, su, sm, E1, by rw [v1]; exact fr, t1, n1, m0, m1, m2, m3, m4, m5, m6, by rw [v1]; exact I⟩
    · omega
  | succ f ih =>
    intro n lo h mn su sm hf E fr ty l0 l1 l2 l3 l4 l5 l6 I
    have z := ylm_c E rfl ty l0 l1 l2 l3 l4 l5 l6
    rw [lx_i (a := 2 ^ P - 1) (by omega), lx_i (a := n) (by omega)] at z
    rcases z with ⟨x, -⟩ | ⟨-, h1, lo1, E1, v1, n1, t1, m0, m1, m2, m3, m4, m5, m6, m7, m8⟩
    · omega
    · rw [← v1] at t1
      obtain ⟨h2, lo2, E2, f2, t2, n2, q0', q1', q3, q6', q7, q8⟩ := ylm_blk (d := d) hW w8 hN h940 B C hw hs hb q6 ok (n := n) (by omega) M 0 lo1 h1 1 (by omega) E1 (by rw [v1]; exact fr) t1 m0 m1 m2 m3 m4 m5 m6 m7 m8 (Or.inl ⟨rfl, fun j hj => absurd hj (Nat.not_lt_zero j)⟩)
      obtain ⟨I1, I2, I3, I4⟩ := I
      have fo : ∀ s, s ≠ n → eh_i (eh_V h2) 10 s = eh_i (eh_V h) 10 s := fun s e => by
        rw [q7 s e, v1]
      rcases q8 with ⟨x, y, q2, q4, q5⟩ | ⟨x, y, q2, q4, q5⟩
      · obtain ⟨h3, lo3, a, b, c, E3, f3, t3, n3, r⟩ := ih (n + 1) lo2 h2 _ _ _ (by omega) E2 f2 t2 q0' q1' q2 q3 q4 q5 q6' ⟨by rw [I1, lx_a1, cn_t x], bsL_cg (bsL_and (s := n) I2) (fun l => ⟨fun u s hs es => by
          by_cases e : s = n
          · rw [e]
            exact u.2
          · exact u.1 s (by omega) es, fun u => ⟨fun s hs es => u s (by omega) es, u n (by omega) x⟩⟩), boL_cg (boL_or (s := n) I3 (by omega)) (fun l => ⟨fun u => by
          rcases u with ⟨s, s1, s2, s3⟩ | u
          · exact ⟨s, by omega, s2, s3⟩
          · exact ⟨n, by omega, x, u⟩, fun ⟨s, s1, s2, s3⟩ => by
          by_cases e : s = n
          · rw [e] at s3
            exact Or.inr s3
          · exact Or.inl ⟨s, by omega, s2, s3⟩⟩), fun s hs => by
          by_cases e : s = n
          · rw [e, y, if_pos x]
          · rw [fo s e]
            exact I4 s (by omega)⟩
        exact ⟨h3, lo3, a, b, c, E3, f3, t3, n3.trans (n2.trans n1), r⟩
      · obtain ⟨h3, lo3, a, b, c, E3, f3, t3, n3, r⟩ := ih (n + 1) lo2 h2 _ _ _ (by omega) E2 f2 t2 q0' q1' q2 q3 q4 q5 q6' ⟨by rw [I1, cn_f x], bsL_cg I2 (fun l => ⟨fun u s hs es => by
          by_cases e : s = n
          · rw [e, x] at es
            cases es
          · exact u s (by omega) es, fun u s hs es => u s (by omega) es⟩), boL_cg I3 (fun l => ⟨fun ⟨s, s1, s2, s3⟩ => ⟨s, by omega, s2, s3⟩, fun ⟨s, s1, s2, s3⟩ => by
          by_cases e : s = n
          · rw [e, x] at s2
            cases s2
          · exact ⟨s, by omega, s2, s3⟩⟩), fun s hs => by
          by_cases e : s = n
          · rw [e, y, if_neg (by rw [x]; exact Bool.false_ne_true)]
          · rw [fo s e]
            exact I4 s (by omega)⟩
        exact ⟨h3, lo3, a, b, c, E3, f3, t3, n3.trans (n2.trans n1), r⟩
end YT
