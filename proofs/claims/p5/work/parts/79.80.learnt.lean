/-! learnt answers alike, and leaves alike what surely, never, ask answer -/
def pMq (k i : Nat) : Bool := pMa k i || (Nat.beq k 0 && Nat.beq i 30)
theorem pMa_q (k i : Nat) (h : pMq k i = false) : pMa k i = false := by
  unfold pMq at h
  rw [Bool.or_eq_false_iff] at h
  exact h.1
section YE
variable {d P w W N q0 : Nat} {ku sz : Nat → Nat} {ce hi : Nat → Nat → Nat} {ex : Nat → Bool} {h' : ri_H} {rs : List Value} {G0 : eh_W} {ea mn al su sm : Int32}
theorem ylm_cues (B : LDb P ku sz ce hi) (C : LDm P ku sz ce hi G0) (q6 : q0 ≤ 6) (hq : eh_i G0 2 3 = nI q0) (hw : eh_i G0 2 0 = nI w) (w8 : w ≤ 8) (hx : ∀ s, s < 2 ^ P → eh_i G0 10 s = if ex s = true then 1 else 0) : ∀ (f c : Nat) (lo : List (Nat × Value)) (h : ri_H), c + f = q0 → eh_e (ri_calE ri_md (d + 5)) md_219 245 lo [] h rs h' → eh_fr pMq G0 (eh_V h) → eh_ty tM (eh_V h) → ri_lk lo 0 = some (.ref 0) → ri_lk lo 1 = some (.int ea) → ri_lk lo 2 = some (.int mn) → ri_lk lo 3 = some (.int al) → ri_lk lo 4 = some (.int su) → ri_lk lo 5 = some (.int sm) → ri_lk lo 6 = some (.int (nI (bq (duT P w (2 ^ P) ku sz ce hi ex) (-1) c).1)) → ri_lk lo 7 = some (.int (nI c)) → eh_i (eh_V h) 0 30 = (bq (duT P w (2 ^ P) ku sz ce hi ex) (-1) c).2 → rs = [.int mn] ∧ eh_fr pMq G0 (eh_V h') ∧ eh_i (eh_V h') 0 30 = (bq (duT P w (2 ^ P) ku sz ce hi ex) (-1) q0).2 := by
  have p8 := (nI_set B.1).2
  have du8 : ∀ c, duT P w (2 ^ P) ku sz ce hi ex c ≤ 256 := fun c => Nat.le_trans (cn_le (2 ^ P)) p8
  intro f
  induction f with
  | zero =>
    intro c lo h hf E fr ty l0 l1 l2 l3 l4 l5 l6 l7 hb
    have e : c = q0 := by omega
    subst e
    have e3 : eh_i (eh_V h) 2 3 = nI c := (fr.i rfl).trans hq
    have z := ylm_f (d := d) (c := c) (P := P) (w := w) (ku := ku) (sz := sz) (ce := ce) (hi := hi) (N := 2 ^ P) (ex := ex) E rfl ty l0 l1 l2 l3 l4 l5 l6 l7 (fun x => by
      rw [e3] at x
      exact absurd x (Int.lt_irrefl _))
    rw [e3] at z
    rcases z with ⟨-, r1, r2, r3⟩ | ⟨u, G1, x, -⟩ | ⟨u, G1, x, -⟩
    · rw [r2]
      exact ⟨r1, fr, hb⟩
    all_goals exact absurd x (Int.lt_irrefl _)
  | succ f ih =>
    intro c lo h hf E fr ty l0 l1 l2 l3 l4 l5 l6 l7 hb
    have e3 : eh_i (eh_V h) 2 3 = nI q0 := (fr.i rfl).trans hq
    have hm := bq_le (b := (-1 : Int32)) du8 c
    have hd := du8 c
    have z := ylm_f (d := d) (c := c) E rfl ty l0 l1 l2 l3 l4 l5 l6 l7 (fun _ => ⟨rfl, by omega, B, LDm_fr C (fun j => fr.i rfl), (fr.i rfl).trans hw, w8, rfl, fun s hs => (fr.i rfl).trans (hx s hs)⟩)
    rw [e3, lx_i (a := c) (by omega), lx_i (a := q0) (by omega), lx_i (a := (bq (duT P w (2 ^ P) ku sz ce hi ex) (-1) c).1) (by omega), lx_a1] at z
    rcases z with ⟨x, -⟩ | ⟨u, G1, -, rfl, f1, -, x, h1, lo1, E1, v1, n1, t1, m0, m1, m2, m3, m4, m5, m6, m7, -⟩ | ⟨u, G1, -, rfl, f1, -, x, h1, lo1, E1, v1, n1, t1, m0, m1, m2, m3, m4, m5, m6, m7, -⟩
    · omega
    · rw [show (nI (cn (fsT (fun s => ht_M c s P w ku sz ce hi) ex) (2 ^ P))).toInt = (duT P w (2 ^ P) ku sz ce hi ex c : Int) from lx_i (show duT P w (2 ^ P) ku sz ce hi ex c ≤ 100000 by omega)] at x
      rw [← v1] at t1
      have eb := bq_t (du := duT P w (2 ^ P) ku sz ce hi ex) (b0 := (-1 : Int32)) (c := c) (by omega)
      exact ih (c + 1) lo1 h1 (by omega) E1 (by rw [v1]; exact (fr.tr (f1.mo pMa_q)).up rfl) t1 m0 m1 m2 m3 m4 m5 (by rw [eb]; exact m6) m7 (by
        rw [eb, v1]
        exact eh_i_self _ _ _ _)
    · rw [show (nI (cn (fsT (fun s => ht_M c s P w ku sz ce hi) ex) (2 ^ P))).toInt = (duT P w (2 ^ P) ku sz ce hi ex c : Int) from lx_i (show duT P w (2 ^ P) ku sz ce hi ex c ≤ 100000 by omega)] at x
      rw [← v1] at t1 f1
      have eb := bq_f (du := duT P w (2 ^ P) ku sz ce hi ex) (b0 := (-1 : Int32)) (c := c) (by omega)
      exact ih (c + 1) lo1 h1 (by omega) E1 (fr.tr (f1.mo pMa_q)) t1 m0 m1 m2 m3 m4 m5 (by rw [eb]; exact m6) m7 (by
        rw [eb, ← hb]
        exact f1.i rfl)
/-- what the reference's learnt leaves -/
def mlO (P w W N q0 : Nat) (ku sz : Nat → Nat) (ce hi : Nat → Nat → Nat) (G0 : eh_W) (v : Option Value) (G1 : eh_W) : Prop :=
  (¬ lsK G0 N W q0 w ∧ v = some (.int (-1)) ∧ ∀ i, 28 ≤ i → i < 32 → eh_i G1 0 i = eh_i G0 0 i) ∨ (lsK G0 N W q0 w ∧ v = some (.int (nI (cn (exT (cbT G0 W) (hbT G0 W w) (N / W) P w ku sz ce hi) (2 ^ P)))) ∧ ((cn (exT (cbT G0 W) (hbT G0 W w) (N / W) P w ku sz ce hi) (2 ^ P) = 0 ∧ ∀ i, 28 ≤ i → i < 32 → eh_i G1 0 i = eh_i G0 0 i) ∨ (0 < cn (exT (cbT G0 W) (hbT G0 W w) (N / W) P w ku sz ce hi) (2 ^ P) ∧ eh_i G1 0 31 = 1 ∧ bsL P (fun l => ∀ s, s < 2 ^ P → exT (cbT G0 W) (hbT G0 W w) (N / W) P w ku sz ce hi s = true → Nat.testBit s l = true) (eh_i G1 0 28) ∧ bsL P (fun l => ∀ s, s < 2 ^ P → exT (cbT G0 W) (hbT G0 W w) (N / W) P w ku sz ce hi s = true → ¬ Nat.testBit s l = true) (eh_i G1 0 29) ∧ eh_i G1 0 30 = (bq (duT P w (2 ^ P) ku sz ce hi (exT (cbT G0 W) (hbT G0 W w) (N / W) P w ku sz ce hi)) (-1) q0).2)))
theorem slot4 {p : Nat → Prop} (h28 : p 28) (h29 : p 29) (h30 : p 30) (h31 : p 31) : ∀ i, 28 ≤ i → i < 32 → p i := fun i a b => by
  rcases (show i = 28 ∨ i = 29 ∨ i = 30 ∨ i = 31 by omega) with e | e | e | e <;> rw [e] <;> assumption
theorem ylm_219 {h : ri_H} {v : Option Value} (E : ri_calE ri_md (d + 6) 219 [.ref 0] h = some (v, h')) (hV : eh_V h = G0) (ty : eh_ty tM G0) (hW : W = w + 1) (w8 : w ≤ 8) (h940 : N ≤ 940) (B : LDb P ku sz ce hi) (C : LDm P ku sz ce hi G0) (hw : eh_i G0 2 0 = nI w) (hq : eh_i G0 2 3 = nI q0) (q6 : q0 ≤ 6) (hn : eh_i G0 0 2 = nI N) (hb : bRa G0) : mlO P w W N q0 ku sz ce hi G0 v (eh_V h') := by
  obtain ⟨p1, p8⟩ := nI_set B.1
  have h1P : 1 ≤ 2 ^ P := Nat.two_pow_pos P
  obtain ⟨rs, hrs, E⟩ := eh_in E (q := md_219) rfl
  have z := ylm_a (d := d + 4) E hV ty rfl
  rw [hn, hw, show (1 : Int32) + nI w = nI W from (lx_add 1 w).trans (by rw [hW, Nat.add_comm]), nI_rem (by omega) (by omega)] at z
  have n0 : nI N = 0 ↔ N = 0 := ⟨fun e => lx_inj (b := 0) (by omega) (by omega) e, fun e => by rw [e]; rfl⟩
  have m0' : nI (N % W) = 0 ↔ N % W = 0 := ⟨fun e => lx_inj (b := 0) (by have := Nat.mod_lt N (show W > 0 by omega); omega) (by omega) e, fun e => by rw [e]; rfl⟩
  rcases z with ⟨c, r1, r2, r3⟩ | ⟨c0, c, h1, lo1, E1, v1, n1, t1, m0, m1, m2⟩ | ⟨-, c, r1, r2, r3⟩
  · refine Or.inl ⟨fun x => x.1 (n0.mp c), by rw [← hrs, r1]; rfl, ?_⟩
    rw [r2]
    exact slot4 rfl rfl rfl rfl
  · have hNm : N = W * (N / W) := by
      have := Nat.div_add_mod N W
      rw [m0'.mp c, Nat.add_zero] at this
      exact this.symm
    rcases ylm_read (d := d + 3) hW w8 hNm h940 t1 hw hq q6 rfl hb (N / W) 0 lo1 h1 (by omega) E1 v1 m0 m1 m2 (fun j hj => absurd hj (Nat.not_lt_zero j)) with ⟨ok, h2, lo2, E2, v2, n2, q0', q1', q2, q3, q4, q5, q6'⟩ | ⟨bad, r1, r2⟩
    · have al : (((1 : Int32) <<< ((eh_i (eh_u (eh_u (eh_u (eh_u (eh_u G0 0 0 (.int 0)) 0 3 (.int (nI N))) 0 2 (.int 0)) 0 4 (.int 0)) 0 5 (.int 940)) 2 4) &&& 31)) - 1) = nI (2 ^ P - 1) := by
        rw [show eh_i (eh_u (eh_u (eh_u (eh_u (eh_u G0 0 0 (.int 0)) 0 3 (.int (nI N))) 0 2 (.int 0)) 0 4 (.int 0)) 0 5 (.int 940)) 2 4 = nI P from C.1, show (1 : Int32) = nI 1 from rfl, nI_shl (y := 1) (s := P) (by omega) (by have := B.1; omega), Nat.one_mul, lx_sub h1P]
      have sua := bsL_all B.1
      rw [show (((1 : Int32) <<< (nI P &&& 31)) - 1) = nI (2 ^ P - 1) from by
        rw [show (1 : Int32) = nI 1 from rfl, nI_shl (y := 1) (s := P) (by omega) (by have := B.1; omega), Nat.one_mul, lx_sub h1P]] at sua
      rw [al] at q3 q4
      rw [← v2] at t1
      have okG : ∀ j, j < N / W → lsX G0 W q0 w j := ok
      obtain ⟨h3, lo3, mn, su, sm, E3, f3, t3, n3, u0, u1, u2, u3, u4, u5, u6, I1, I2, I3, I4⟩ := ylm_sets (d := d + 1) (G0 := eh_V h2) (M := N / W) hW w8 hNm h940 B (by rw [v2]; exact LDm_fr C (fun j => rfl)) (by rw [v2]; exact hw) (by rw [v2]; rfl) (by rw [v2]; exact hb) q6 (by rw [v2]; exact ok) (2 ^ P) 0 lo2 h2 0 _ 0 (by omega) E2 eh_fr.rf t1 q0' q1' q2 q3 q4 q5 q6' ⟨rfl, bsL_cg sua (fun l => ⟨fun _ s hs => absurd hs (Nat.not_lt_zero s), fun _ => trivial⟩), ⟨0, by decide, rfl, fun l _ => ⟨fun x => (by rw [Nat.zero_testBit] at x; cases x), fun ⟨s, hs, _⟩ => absurd hs (Nat.not_lt_zero s)⟩⟩, fun s hs => absurd hs (Nat.not_lt_zero s)⟩
      have ee : exT (cbT (eh_V h2) W) (hbT (eh_V h2) W w) (N / W) P w ku sz ce hi = exT (cbT G0 W) (hbT G0 W w) (N / W) P w ku sz ce hi := by rw [v2]; rfl
      rw [ee] at I1 I2 I3 I4
      have K : lsK G0 N W q0 w := ⟨fun e => c0 (n0.mpr e), m0'.mp c, okG⟩
      have cl := cn_le (ex := exT (cbT G0 W) (hbT G0 W w) (N / W) P w ku sz ce hi) (2 ^ P)
      have mn0 : mn = 0 ↔ cn (exT (cbT G0 W) (hbT G0 W w) (N / W) P w ku sz ce hi) (2 ^ P) = 0 := by
        rw [I1]
        exact ⟨fun e => lx_inj (b := 0) (by omega) (by omega) e, fun e => by rw [e]; rfl⟩
      have e28 : ∀ i, 28 ≤ i → i < 32 → eh_i (eh_V h3) 0 i = eh_i G0 0 i := by
        refine slot4 ?_ ?_ ?_ ?_ <;> (refine (f3.i rfl).trans ?_; rw [v2]; rfl)
      rcases ylm_e E3 rfl t3 u0 u1 u2 u3 u4 u5 u6 with ⟨x, h4, lo4, E4, v4, n4, t4, w0, w1, w2, w3, w4, w5, w6, w7⟩ | ⟨x, r1, r2, r3⟩
      · rw [← v4] at t4
        have lk : ∀ j, eh_i (eh_V h4) 2 j = eh_i G0 2 j := fun j => by
          rw [v4]
          refine (show _ = eh_i (eh_V h3) 2 j from rfl).trans ((f3.i rfl).trans ?_)
          rw [v2]
          rfl
        obtain ⟨r1, f5, r2⟩ := ylm_cues (d := d) (ex := exT (cbT G0 W) (hbT G0 W w) (N / W) P w ku sz ce hi) (G0 := eh_V h4) B (LDm_fr C lk) q6 ((lk _).trans hq) ((lk _).trans hw) w8 (fun s hs => by
          rw [v4]
          exact I4 s hs) q0 0 lo4 h4 (by omega) E4 eh_fr.rf t4 w0 w1 w2 w3 w4 w5 w6 w7 (by
          rw [v4]
          exact eh_i_self _ _ _ _)
        refine Or.inr ⟨K, by rw [← hrs, r1, I1]; rfl, Or.inr ⟨by
          have : ¬ cn (exT (cbT G0 W) (hbT G0 W w) (N / W) P w ku sz ce hi) (2 ^ P) = 0 := fun e => x (mn0.mpr e)
          omega, ?_, ?_, ?_, r2⟩⟩
        · refine (f5.i rfl).trans ?_
          rw [v4]
          rfl
        · rw [show eh_i (eh_V h') 0 28 = su from (f5.i rfl).trans (by rw [v4]; rfl)]
          exact I2
        · rw [show eh_i (eh_V h') 0 29 = nI (2 ^ P - 1) &&& (sm ^^^ (-1)) from (f5.i rfl).trans (by rw [v4]; rfl)]
          obtain ⟨a, a1, rfl, a3⟩ := I3
          obtain ⟨b, b1, b2, b3⟩ := bsL_no (s := a) sua
          refine ⟨b, b1, b2, fun l hl => ?_⟩
          rw [b3 l hl]
          refine ⟨fun y => ⟨y.1, fun s hs es t => y.2.2 ((a3 l hl).mpr ⟨s, hs, es, t⟩)⟩, fun y => ⟨y.1, trivial, fun t => ?_⟩⟩
          obtain ⟨s, s1, s2, s3⟩ := (a3 l hl).mp t
          exact y.2 s s1 s2 s3
      · refine Or.inr ⟨K, by rw [← hrs, r1, mn0.mp x]; rfl, Or.inl ⟨mn0.mp x, ?_⟩⟩
        rw [r2]
        exact e28
    · refine Or.inl ⟨fun x => bad x.2.2, by rw [← hrs, r1]; rfl, ?_⟩
      rw [r2]
      exact slot4 rfl rfl rfl rfl
  · refine Or.inl ⟨fun x => c (m0'.mpr x.2.1), by rw [← hrs, r1]; rfl, ?_⟩
    rw [r2]
    exact slot4 rfl rfl rfl rfl
end YE
/-- surely, never, ask will answer alike -/
def GQ (Gc Gm : eh_W) : Prop := (eh_i Gm 0 31 = 0 ∧ eh_i Gc 203 0 = -1 ∧ eh_i Gc 203 1 = -1 ∧ eh_i Gc 203 2 = -1) ∨ (¬ eh_i Gm 0 31 = 0 ∧ eh_i Gc 203 0 = eh_i Gm 0 28 ∧ eh_i Gc 203 1 = eh_i Gm 0 29 ∧ eh_i Gc 203 2 = eh_i Gm 0 30)
theorem GQ_kp {Gc Gm Hc Hm : eh_W} (h : GQ Gc Gm) (c : ∀ i, i < 3 → eh_i Hc 203 i = eh_i Gc 203 i) (m : ∀ i, 28 ≤ i → i < 32 → eh_i Hm 0 i = eh_i Gm 0 i) : GQ Hc Hm := by
  unfold GQ
  rw [c 0 (by decide), c 1 (by decide), c 2 (by decide), m 28 (by decide) (by decide), m 29 (by decide) (by decide), m 30 (by decide) (by decide), m 31 (by decide) (by decide)]
  exact h
section TPC
variable {Gc Gm : eh_W} {W w N q0 M P : Nat} {ku sz : Nat → Nat} {ce hi : Nat → Nat → Nat}
theorem lsX_cg {j : Nat} (e : ∀ i, i < 940 → eh_i Gc 1 i = eh_i Gm 1 i) (hW : W = w + 1) (h : W * j + W ≤ 940) : (lsX Gc W q0 w j ↔ lsX Gm W q0 w j) ∧ cbT Gc W j = cbT Gm W j ∧ hbT Gc W w j = hbT Gm W w j := by
  have e0 := e (W * j) (by omega)
  refine ⟨?_, ?_, hNM_cg (fun c hc => e _ (by omega))⟩
  · unfold lsX
    rw [e0, hOK_cg (fun c hc => e _ (by omega))]
  · unfold cbT
    rw [e0]
theorem lsK_cg (e : ∀ i, i < 940 → eh_i Gc 1 i = eh_i Gm 1 i) (hW : W = w + 1) (h940 : N ≤ 940) : (lsK Gc N W q0 w ↔ lsK Gm N W q0 w) ∧ exT (cbT Gc W) (hbT Gc W w) (N / W) P w ku sz ce hi = exT (cbT Gm W) (hbT Gm W w) (N / W) P w ku sz ce hi := by
  have hm : W * (N / W) ≤ N := Nat.mul_div_le N W
  have hj : ∀ j, j < N / W → W * j + W ≤ 940 := fun j hj => by
    have := Nat.mul_le_mul_left W (show j + 1 ≤ N / W from hj)
    rw [Nat.mul_succ] at this
    omega
  constructor
  · unfold lsK
    exact ⟨fun x => ⟨x.1, x.2.1, fun j a => (lsX_cg e hW (hj j a)).1.mp (x.2.2 j a)⟩, fun x => ⟨x.1, x.2.1, fun j a => (lsX_cg e hW (hj j a)).1.mpr (x.2.2 j a)⟩⟩
  · refine funext (fun s => Bool.eq_iff_iff.mpr ?_)
    rw [exT_iff, exT_iff]
    exact ⟨fun x j a => by
      obtain ⟨-, b, c⟩ := lsX_cg (q0 := q0) e hW (hj j a)
      rw [← b, ← c]
      exact x j a, fun x j a => by
      obtain ⟨-, b, c⟩ := lsX_cg (q0 := q0) e hW (hj j a)
      rw [b, c]
      exact x j a⟩
end TPC
section JLE
variable {d e N : Nat} {hc hc' hm hm' : ri_H} {v1 v2 : Option Value}
theorem J_learnt (E1 : ri_calE ri_md (d + 6) 121 [.ref 0] hc = some (v1, hc')) (E2 : ri_calE ri_md (e + 6) 219 [.ref 0] hm = some (v2, hm')) (tc : eh_ty tC (eh_V hc)) (tm : eh_ty tM (eh_V hm)) (hl : (eh_N hc).take 209 = NCl) (Q : LQ (eh_V hc) (eh_V hm)) (h940 : N ≤ 940) (nc : eh_i (eh_V hc) 0 1 = nI N) (nm : eh_i (eh_V hm) 0 2 = nI N) (bt : ∀ i, i < 940 → eh_i (eh_V hc) 1 i = eh_i (eh_V hm) 1 i) (bR : bRa (eh_V hm)) (g : GQ (eh_V hc) (eh_V hm)) : v1 = v2 ∧ GQ (eh_V hc') (eh_V hm') := by
  obtain ⟨⟨q, Q⟩, -⟩ := Q
  obtain ⟨a1, a2, a3, -, -, -⟩ := dw_ck Q
  obtain ⟨ku, sz, ce, hi, B, D2, D3, w, w1, w8, hw1, hw2, D4⟩ := LD_of Q
  obtain ⟨h1, V1, n1, t1, X1⟩ := yle_c (d := d + 5) E1 rfl tc
  rw [nc] at X1
  have z1 := yjd_15 (d := d) X1 V1 t1 (by rw [n1]; exact hl) B (LDc_fr D3 (fun k i a _ => eh_i_ne _ _ (Or.inl (by omega)))) a3 a1 D4 w8 hw1 rfl h940
  have z2 := ylm_219 (d := e) E2 rfl tm (W := w + 1) rfl w8 h940 B D2 hw2 a2 a3 nm bR
  obtain ⟨k1, k2⟩ := lsK_cg (Gc := eh_u (eh_V hc) 0 1 (.int 0)) (Gm := eh_V hm) (q0 := q 0) (P := q 1) (ku := ku) (sz := sz) (ce := ce) (hi := hi) (fun i h => (eh_i_ne _ _ (Or.inl (by decide))).trans (bt i h)) (show w + 1 = w + 1 from rfl) h940
  unfold jdO at z1
  unfold mlO at z2
  rw [k1, k2] at z1
  rcases z1 with ⟨K, r1, g1⟩ | ⟨K, r1, r2⟩
  · rcases z2 with ⟨-, s1, g2⟩ | ⟨K2, -⟩
    · exact ⟨by rw [r1, s1], GQ_kp g g1 g2⟩
    · exact absurd K2 K
  · rcases z2 with ⟨K2, -⟩ | ⟨-, s1, s2⟩
    · exact absurd K K2
    · refine ⟨by rw [r1, s1], ?_⟩
      rcases r2 with ⟨y, g1⟩ | ⟨y, b0, b1, b2⟩
      · rcases s2 with ⟨-, g2⟩ | ⟨y2, -⟩
        · exact GQ_kp g g1 g2
        · omega
      · rcases s2 with ⟨y2, -⟩ | ⟨-, c3, c0, c1, c2⟩
        · omega
        · refine Or.inr ⟨by rw [c3]; decide, bsL_uq b0 c0 (fun _ _ => Iff.rfl), bsL_uq b1 c1 (fun _ _ => Iff.rfl), ?_⟩
          rw [b2, c2]
          have hq : 0 < q 0 := by
            have hd := Nat.div_add_mod N (w + 1)
            rw [K.2.1, Nat.add_zero] at hd
            have hN := K.1
            have hM : 0 < N / (w + 1) := by
              cases x : N / (w + 1) with
              | zero =>
                rw [x, Nat.mul_zero] at hd
                omega
              | succ _ => exact Nat.succ_pos _
            obtain ⟨u1, u2, -⟩ := K.2.2 0 hM
            omega
          obtain ⟨n, hn⟩ : ∃ n, q 0 = n + 1 := ⟨q 0 - 1, by omega⟩
          rw [hn]
          exact congrArg Prod.snd (bq_cg (fsT_1 (2 ^ q 1) y) n)
end JLE
section JSN
variable {d e : Nat} {hc hc' hm hm' : ri_H} {v1 v2 : Option Value}
theorem J_surely (E1 : ri_calE ri_md (d + 1) 122 [.ref 0] hc = some (v1, hc')) (E2 : ri_calE ri_md (e + 1) 220 [.ref 0] hm = some (v2, hm')) (tc : eh_ty tC (eh_V hc)) (tm : eh_ty tM (eh_V hm)) (g : GQ (eh_V hc) (eh_V hm)) : v1 = v2 := by
  obtain ⟨r1, -⟩ := ysu_c E1 rfl tc
  rcases ysu_m E2 rfl tm with ⟨x, r2, -⟩ | ⟨x, r2, -⟩
  · rcases g with ⟨-, y, -⟩ | ⟨y, -⟩
    · rw [r1, r2, y]
    · exact absurd x y
  · rcases g with ⟨y, -⟩ | ⟨-, y, -⟩
    · exact absurd y x
    · rw [r1, r2, y]
theorem J_never (E1 : ri_calE ri_md (d + 1) 123 [.ref 0] hc = some (v1, hc')) (E2 : ri_calE ri_md (e + 1) 221 [.ref 0] hm = some (v2, hm')) (tc : eh_ty tC (eh_V hc)) (tm : eh_ty tM (eh_V hm)) (g : GQ (eh_V hc) (eh_V hm)) : v1 = v2 := by
  obtain ⟨r1, -⟩ := yne_c E1 rfl tc
  rcases yne_m E2 rfl tm with ⟨x, r2, -⟩ | ⟨x, r2, -⟩
  · rcases g with ⟨-, -, y, -⟩ | ⟨y, -⟩
    · rw [r1, r2, y]
    · exact absurd x y
  · rcases g with ⟨y, -⟩ | ⟨-, -, y, -⟩
    · exact absurd y x
    · rw [r1, r2, y]
theorem J_ask (E1 : ri_calE ri_md (d + 1) 124 [.ref 0] hc = some (v1, hc')) (E2 : ri_calE ri_md (e + 1) 222 [.ref 0] hm = some (v2, hm')) (tc : eh_ty tC (eh_V hc)) (tm : eh_ty tM (eh_V hm)) (g : GQ (eh_V hc) (eh_V hm)) : v1 = v2 := by
  obtain ⟨r1, -⟩ := yas_c E1 rfl tc
  rcases yas_m E2 rfl tm with ⟨x, r2, -⟩ | ⟨x, r2, -⟩
  · rcases g with ⟨-, -, -, y⟩ | ⟨y, -⟩
    · rw [r1, r2, y]
    · exact absurd x y
  · rcases g with ⟨y, -⟩ | ⟨-, -, -, y⟩
    · exact absurd y x
    · rw [r1, r2, y]
end JSN
