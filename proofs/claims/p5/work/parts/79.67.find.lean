/-! findSets, judgeLessons (class) -/
def pGs (k i : Nat) : Bool := Nat.beq k 205 || (Nat.beq k 203 && Nat.beq i 6)
theorem pGs_lo {k i : Nat} (h : k < 203) : pGs k i = false := by
  unfold pGs
  rw [eh_bf (show k ≠ 203 by omega), eh_bf (show k ≠ 205 by omega)]
  rfl
theorem LDc_fr {P : Nat} {ku sz : Nat → Nat} {ce hi : Nat → Nat → Nat} {G G1 : eh_W} (h : LDc P ku sz ce hi G) (f : ∀ k i, 25 ≤ k → k ≤ 30 → eh_i G1 k i = eh_i G k i) : LDc P ku sz ce hi G1 := by
  obtain ⟨a, b, c⟩ := h
  refine ⟨by rw [f _ _ (by decide) (by decide)]; exact a, fun l hl => ?_, fun c' hc => ?_⟩
  · obtain ⟨b1, b2, b3, b4⟩ := b l hl
    refine ⟨by rw [f _ _ (by decide) (by decide)]; exact b1, by rw [f _ _ (by decide) (by decide)]; exact b2, fun i hi => by rw [f _ _ (by decide) (by decide)]; exact b3 i hi, ?_⟩
    rw [f _ _ (by decide) (by decide), b4]
    exact lv_cg _ (fun i _ => (f _ _ (by decide) (by decide)).symm)
  · obtain ⟨w, w1, w2, w3⟩ := c c' hc
    exact ⟨w, w1, by rw [f _ _ (by decide) (by decide)]; exact w2, w3⟩
/-- the sets found below n -/
def stS (ex : Nat → Bool) (n : Nat) (G : eh_W) : Prop := eh_i G 203 6 = nI (cn ex n) ∧ ∀ s, s < n → ex s = true → eh_i G 205 (cn ex s) = nI s
section YF
variable {d P w q0 : Nat} {ku sz : Nat → Nat} {ce hi : Nat → Nat → Nat} {h' : ri_H} {rs : List Value} {G0 : eh_W} {ex : Nat → Bool}
theorem yfs_loop (B : LDb P ku sz ce hi) (C : LDc P ku sz ce hi G0) (q6 : q0 ≤ 6) (hq : eh_i G0 25 0 = nI q0) (W : LDw w P sz ce) (w8 : w ≤ 8) (hx : eh_i G0 203 4 = 0 → ∀ s, s < 2 ^ P → (eX s G0 P w ku sz ce hi ↔ ex s = true)) (hx2 : ¬ eh_i G0 203 4 = 0 → ∀ s, s < 2 ^ P → ex s = false) : ∀ (f n : Nat) (lo : List (Nat × Value)) (h : ri_H), n + f = 2 ^ P → eh_e (ri_calE ri_md (d + 3)) md_17 7 lo [] h rs h' → eh_fr pGs G0 (eh_V h) → eh_ty tC (eh_V h) → ri_lk lo 0 = some (.ref 203) → ri_lk lo 1 = some (.ref 23) → ri_lk lo 2 = some (.int (nI n)) → stS ex n (eh_V h) → rs = [] ∧ eh_fr pGs G0 (eh_V h') ∧ eh_ty tC (eh_V h') ∧ eh_N h' = eh_N h ∧ stS ex (2 ^ P) (eh_V h') := by
  obtain ⟨e1, e2⟩ := nI_set B.1
  intro f
  induction f with
  | zero =>
    intro n lo h hn E fr ty l0 l1 l2 I
    have e25 : eh_i (eh_V h) 25 1 = nI P := (fr.i (pGs_lo (by decide))).trans C.1
    have z := yfs_l (d := d) (sw := n) (P := P) (ku := ku) (sz := sz) (ce := ce) (hi := hi) E rfl ty l0 l1 l2 (fun x => by
      rw [e25, e1, lx_i (by omega)] at x
      omega) W w8
    rw [e25, e1, lx_i (a := n) (by omega)] at z
    rcases z with ⟨-, r1, r2, r3⟩ | ⟨x, -⟩ | ⟨x, -⟩ | ⟨x, -⟩ | ⟨x, -⟩
    · have e : n = 2 ^ P := by omega
      rw [r2]
      rw [e] at I
      exact ⟨r1, fr, ty, r3, I⟩
    all_goals omega
  | succ f ih =>
    intro n lo h hn E fr ty l0 l1 l2 I
    have hnP : n < 2 ^ P := by omega
    have e25 : eh_i (eh_V h) 25 1 = nI P := (fr.i (pGs_lo (by decide))).trans C.1
    have eq0 : eh_i (eh_V h) 25 0 = nI q0 := (fr.i (pGs_lo (by decide))).trans hq
    have e4 : eh_i (eh_V h) 203 4 = eh_i G0 203 4 := fr.i rfl
    have eXe : eX n (eh_V h) P w ku sz ce hi ↔ eX n G0 P w ku sz ce hi := by
      unfold eX
      rw [show eh_i (eh_V h) 25 0 = eh_i G0 25 0 from fr.i (pGs_lo (by decide))]
      exact ⟨fun x c hc => by rw [← show eh_i (eh_V h) 204 c = eh_i G0 204 c from fr.i rfl]; exact x c hc, fun x c hc => by rw [show eh_i (eh_V h) 204 c = eh_i G0 204 c from fr.i rfl]; exact x c hc⟩
    have z := yfs_l (d := d) (sw := n) E rfl ty l0 l1 l2 (fun x => ⟨rfl, by omega, B, LDc_fr C (fun k i _ a => fr.i (pGs_lo (by omega))), q0, q6, eq0⟩) W w8
    have hc := cn_le (ex := ex) n
    rw [e25, e1, lx_i (a := n) (by omega), e4, eXe, I.1, lx_i (a := cn ex n) (by omega), lx_cl (a := cn ex n) (by omega), lx_a1, lx_a1] at z
    rcases z with ⟨x, -⟩ | ⟨-, x, r1, r2, r3⟩ | ⟨-, -, -, x, -⟩ | ⟨-, x, y, -, h1, lo1, E1, v1, n1, t1, m0, m1, m2⟩ | ⟨-, x, y, h1, lo1, E1, v1, n1, t1, m0, m1, m2⟩
    · omega
    · have no := hx2 x
      rw [r2]
      refine ⟨r1, fr, ty, r3, ?_, fun s hs y => ?_⟩
      · rw [I.1, cn_z n (fun s hs => no s (by omega)), cn_z (2 ^ P) no]
      · rw [no s hs] at y
        cases y
    · omega
    · have xt := (hx x n hnP).mp y
      rw [← v1] at t1
      obtain ⟨s1, s2, s3, s4, s5⟩ := ih (n + 1) lo1 h1 (by omega) E1 (by rw [v1]; exact (fr.up rfl).up rfl) t1 m0 m1 m2 (by
        rw [v1]
        refine ⟨(eh_i_self _ _ _ _).trans (by rw [cn_t xt]), fun s hs es => ?_⟩
        by_cases e : s = n
        · rw [e]
          exact (eh_i_ne _ _ (Or.inl (by decide))).trans (eh_i_self _ _ _ _)
        · have := cn_lt es (show s < n by omega)
          exact (eh_i_ne _ _ (Or.inl (by decide))).trans ((eh_i_ne _ _ (Or.inr (by omega))).trans (I.2 s (by omega) es)))
      exact ⟨s1, s2, s3, s4.trans n1, s5⟩
    · have xf : ex n = false := lx_no (fun u => y ((hx x n hnP).mpr u))
      rw [← v1] at t1
      obtain ⟨s1, s2, s3, s4, s5⟩ := ih (n + 1) lo1 h1 (by omega) E1 (by rw [v1]; exact fr) t1 m0 m1 m2 (by
        rw [v1]
        refine ⟨by rw [cn_f xf]; exact I.1, fun s hs es => ?_⟩
        by_cases e : s = n
        · rw [e, xf] at es
          cases es
        · exact I.2 s (by omega) es)
      exact ⟨s1, s2, s3, s4.trans n1, s5⟩
theorem yfs_17 {h : ri_H} {v : Option Value} (E : ri_calE ri_md (d + 4) 17 [.ref 203, .ref 23] h = some (v, h')) (hV : eh_V h = G0) (ty : eh_ty tC G0) (B : LDb P ku sz ce hi) (C : LDc P ku sz ce hi G0) (q6 : q0 ≤ 6) (hq : eh_i G0 25 0 = nI q0) (W : LDw w P sz ce) (w8 : w ≤ 8) (hx : eh_i G0 203 4 = 0 → ∀ s, s < 2 ^ P → (eX s G0 P w ku sz ce hi ↔ ex s = true)) (hx2 : ¬ eh_i G0 203 4 = 0 → ∀ s, s < 2 ^ P → ex s = false) : v = none ∧ eh_fr pGs G0 (eh_V h') ∧ eh_ty tC (eh_V h') ∧ eh_N h' = eh_N h ∧ stS ex (2 ^ P) (eh_V h') := by
  obtain ⟨rs, hrs, E⟩ := eh_in E (q := md_17) rfl
  obtain ⟨h1, lo1, E1, v1, n1, t1, m0, m1, m2⟩ := yfs_a E hV ty rfl rfl
  rw [← v1] at t1
  obtain ⟨r1, r2, r3, r4, r5⟩ := yfs_loop (d := d) (ex := ex) B C q6 hq W w8 hx hx2 (2 ^ P) 0 lo1 h1 (by omega) E1 (by rw [v1]; exact eh_fr.rf.up rfl) t1 m0 m1 m2 (by
    rw [v1]
    exact ⟨eh_i_self _ _ _ _, fun s hs => absurd hs (Nat.not_lt_zero s)⟩)
  exact ⟨by rw [← hrs, r1]; rfl, r2, r3, r4.trans n1, r5⟩
/-- a set of lessons told by its bits -/
def bsL (P : Nat) (b : Nat → Prop) (x : Int32) : Prop := ∃ a, a < 256 ∧ x = nI a ∧ ∀ l, l < 8 → (Nat.testBit a l = true ↔ l < P ∧ b l)
theorem bsL_uq {b b' : Nat → Prop} {x y : Int32} (h : bsL P b x) (h2 : bsL P b' y) (e : ∀ l, l < P → (b l ↔ b' l)) : x = y := by
  obtain ⟨a, a1, rfl, a3⟩ := h
  obtain ⟨c, c1, rfl, c3⟩ := h2
  congr 1
  refine Nat.eq_of_testBit_eq (fun l => ?_)
  by_cases hl : l < 8
  · have : Nat.testBit a l = true ↔ Nat.testBit c l = true := by
      rw [a3 l hl, c3 l hl]
      exact ⟨fun x => ⟨x.1, (e l x.1).mp x.2⟩, fun x => ⟨x.1, (e l x.1).mpr x.2⟩⟩
    exact Bool.eq_iff_iff.mpr this
  · rw [tb_lt (by omega) a1, tb_lt (by omega) c1]
theorem bsL_and {b : Nat → Prop} {x : Int32} {s : Nat} (h : bsL P b x) : bsL P (fun l => b l ∧ Nat.testBit s l = true) (x &&& nI s) := by
  obtain ⟨a, a1, rfl, a3⟩ := h
  refine ⟨a &&& s, Nat.lt_of_le_of_lt Nat.and_le_left a1, nI_and a s, fun l hl => ?_⟩
  rw [Nat.testBit_and, Bool.and_eq_true, a3 l hl]
  exact ⟨fun x => ⟨x.1.1, x.1.2, x.2⟩, fun x => ⟨⟨x.1, x.2.1⟩, x.2.2⟩⟩
theorem bsL_no {b : Nat → Prop} {x : Int32} {s : Nat} (h : bsL P b x) : bsL P (fun l => b l ∧ ¬ Nat.testBit s l = true) (x &&& (nI s ^^^ (-1))) := by
  obtain ⟨a, a1, rfl, a3⟩ := h
  refine ⟨a &&& (s ^^^ 4294967295), Nat.lt_of_le_of_lt Nat.and_le_left a1, ?_, fun l hl => ?_⟩
  · rw [show (-1 : Int32) = nI 4294967295 from by decide, nI_xor, nI_and]
  · rw [Nat.testBit_and, Bool.and_eq_true, a3 l hl, Nat.testBit_xor, show (4294967295 : Nat) = 2 ^ 32 - 1 from rfl, Nat.testBit_two_pow_sub_one, decide_eq_true (show l < 32 by omega)]
    dsimp only
    cases Nat.testBit s l
    · exact ⟨fun x => ⟨x.1.1, x.1.2, Bool.false_ne_true⟩, fun x => ⟨⟨x.1, x.2.1⟩, rfl⟩⟩
    · exact ⟨fun x => absurd x.2 (by decide), fun x => absurd rfl x.2.2⟩
theorem bsL_all (hP : P ≤ 8) : bsL P (fun _ => True) (((1 : Int32) <<< (nI P &&& 31)) - 1) := by
  have h8 : 2 ^ P ≤ 2 ^ 8 := Nat.pow_le_pow_right (by decide) hP
  have h8 : 2 ^ P ≤ 256 := h8
  have h1 : 1 ≤ 2 ^ P := Nat.two_pow_pos P
  refine ⟨2 ^ P - 1, by omega, ?_, fun l hl => ?_⟩
  · rw [show (1 : Int32) = nI 1 from rfl, nI_shl (y := 1) (s := P) (by omega) (by omega), Nat.one_mul, lx_sub h1]
  · rw [Nat.testBit_two_pow_sub_one, decide_eq_true_eq]
    exact ⟨fun x => ⟨x, trivial⟩, fun x => x.1⟩
theorem bsL_cg {b b' : Nat → Prop} {x : Int32} (h : bsL P b x) (e : ∀ l, b l ↔ b' l) : bsL P b' x := by
  obtain ⟨a, a1, a2, a3⟩ := h
  exact ⟨a, a1, a2, fun l hl => by rw [a3 l hl, e l]⟩
def pGj (k i : Nat) : Bool := Nat.beq k 203 && Nat.ble i 1
/-- judgeLessons -/
theorem yjl_loop {cal : eh_K} {N : Nat} {al : Int32} (hN : N ≤ 256) (I0 : stS ex N G0) : ∀ (f n : Nat) (lo : List (Nat × Value)) (h : ri_H), n + f = N → eh_e cal md_19 23 lo [] h rs h' → eh_fr pGj G0 (eh_V h) → eh_ty tC (eh_V h) → ri_lk lo 0 = some (.ref 203) → ri_lk lo 1 = some (.ref 23) → ri_lk lo 2 = some (.int al) → ri_lk lo 3 = some (.int (nI (cn ex n))) → bsL P (fun l => ∀ s, s < n → ex s = true → Nat.testBit s l = true) (eh_i (eh_V h) 203 0) → bsL P (fun l => ∀ s, s < n → ex s = true → ¬ Nat.testBit s l = true) (eh_i (eh_V h) 203 1) → rs = [] ∧ eh_fr pGj G0 (eh_V h') ∧ eh_ty tC (eh_V h') ∧ eh_N h' = eh_N h ∧ bsL P (fun l => ∀ s, s < N → ex s = true → Nat.testBit s l = true) (eh_i (eh_V h') 203 0) ∧ bsL P (fun l => ∀ s, s < N → ex s = true → ¬ Nat.testBit s l = true) (eh_i (eh_V h') 203 1) := by
  have cN := cn_le (ex := ex) N
  intro f
  induction f with
  | zero =>
    intro n lo h hn E fr ty l0 l1 l2 l3 b1 b2
    have e : n = N := by omega
    subst e
    have e6 : eh_i (eh_V h) 203 6 = nI (cn ex n) := (fr.i rfl).trans I0.1
    have z := yjl_l E rfl ty l0 l1 l2 l3
    rw [e6, lx_i (a := cn ex n) (by omega)] at z
    rcases z with ⟨-, r1, r2, r3⟩ | ⟨x, -⟩
    · rw [r2]
      exact ⟨r1, fr, ty, r3, b1, b2⟩
    · omega
  | succ f ih =>
    intro n lo h hn E fr ty l0 l1 l2 l3 b1 b2
    cases xn : ex n with
    | false =>
      refine ih (n + 1) lo h (by omega) E fr ty l0 l1 l2 (by rw [cn_f xn]; exact l3) (bsL_cg b1 (fun l => ?_)) (bsL_cg b2 (fun l => ?_))
      · refine ⟨fun x s hs es => x s ?_ es, fun x s hs es => x s (by omega) es⟩
        have : s ≠ n := fun y => by
          rw [y, xn] at es
          cases es
        omega
      · refine ⟨fun x s hs es => x s ?_ es, fun x s hs es => x s (by omega) es⟩
        have : s ≠ n := fun y => by
          rw [y, xn] at es
          cases es
        omega
    | true =>
      have hc := cn_lt xn (show n < N by omega)
      have e6 : eh_i (eh_V h) 203 6 = nI (cn ex N) := (fr.i rfl).trans I0.1
      have e5 : eh_i (eh_V h) 205 (cn ex n) = nI n := (fr.i rfl).trans (I0.2 n (by omega) xn)
      have z := yjl_l E rfl ty l0 l1 l2 l3
      rw [e6, lx_i (a := cn ex n) (by omega), lx_i (a := cn ex N) (by omega), lx_cl (a := cn ex n) (by omega), e5, lx_a1] at z
      rcases z with ⟨x, -⟩ | ⟨-, h1, lo1, E1, v1, n1, t1, m0, m1, m2, m3⟩
      · omega
      · rw [← v1] at t1
        obtain ⟨s1, s2, s3, s4, s5⟩ := ih (n + 1) lo1 h1 (by omega) E1 (by rw [v1]; exact (fr.up rfl).up rfl) t1 m0 m1 m2 (by rw [cn_t xn]; exact m3) (by
          rw [v1]
          refine bsL_cg (bsL_and (s := n) b1 : bsL P _ (eh_i (eh_u (eh_u (eh_V h) 203 0 (.int (eh_i (eh_V h) 203 0 &&& nI n))) 203 1 (.int (eh_i (eh_V h) 203 1 &&& (nI n ^^^ (-1))))) 203 0)) (fun l => ⟨fun x s hs es => ?_, fun x => ⟨fun s hs es => x s (by omega) es, x n (by omega) xn⟩⟩)
          by_cases y : s = n
          · rw [y]
            exact x.2
          · exact x.1 s (by omega) es) (by
          rw [v1]
          refine bsL_cg (bsL_no (s := n) b2 : bsL P _ (eh_i (eh_u (eh_u (eh_V h) 203 0 (.int (eh_i (eh_V h) 203 0 &&& nI n))) 203 1 (.int (eh_i (eh_V h) 203 1 &&& (nI n ^^^ (-1))))) 203 1)) (fun l => ⟨fun x s hs es => ?_, fun x => ⟨fun s hs es => x s (by omega) es, x n (by omega) xn⟩⟩)
          by_cases y : s = n
          · rw [y]
            exact x.2
          · exact x.1 s (by omega) es)
        exact ⟨s1, s2, s3, s4.trans n1, s5⟩
theorem yjl_19 {h : ri_H} {v : Option Value} (E : ri_calE ri_md (d + 1) 19 [.ref 203, .ref 23] h = some (v, h')) (hV : eh_V h = G0) (ty : eh_ty tC G0) (hP : P ≤ 8) (h25 : eh_i G0 25 1 = nI P) (I0 : stS ex (2 ^ P) G0) : v = none ∧ eh_fr pGj G0 (eh_V h') ∧ eh_ty tC (eh_V h') ∧ eh_N h' = eh_N h ∧ bsL P (fun l => ∀ s, s < 2 ^ P → ex s = true → Nat.testBit s l = true) (eh_i (eh_V h') 203 0) ∧ bsL P (fun l => ∀ s, s < 2 ^ P → ex s = true → ¬ Nat.testBit s l = true) (eh_i (eh_V h') 203 1) := by
  obtain ⟨rs, hrs, E⟩ := eh_in E (q := md_19) rfl
  obtain ⟨h1, lo1, E1, v1, n1, t1, m0, m1, m2, m3⟩ := yjl_a E hV ty rfl rfl
  rw [← v1] at t1
  have all := bsL_all hP
  rw [← h25] at all
  obtain ⟨r1, r2, r3, r4, r5⟩ := yjl_loop (P := P) (G0 := G0) (ex := ex) (nI_set hP).2 I0 (2 ^ P) 0 lo1 h1 (by omega) E1 (by rw [v1]; exact (eh_fr.rf.up rfl).up rfl) t1 m0 m1 m2 m3 (by
    rw [v1]
    exact bsL_cg (all : bsL P _ (eh_i (eh_u (eh_u G0 203 0 (.int (((1 : Int32) <<< ((eh_i G0 25 1) &&& 31)) - 1))) 203 1 (.int (((1 : Int32) <<< ((eh_i G0 25 1) &&& 31)) - 1))) 203 0)) (fun l => ⟨fun _ s hs => absurd hs (Nat.not_lt_zero s), fun _ => trivial⟩)) (by
    rw [v1]
    exact bsL_cg (all : bsL P _ (eh_i (eh_u (eh_u G0 203 0 (.int (((1 : Int32) <<< ((eh_i G0 25 1) &&& 31)) - 1))) 203 1 (.int (((1 : Int32) <<< ((eh_i G0 25 1) &&& 31)) - 1))) 203 1)) (fun l => ⟨fun _ s hs => absurd hs (Nat.not_lt_zero s), fun _ => trivial⟩))
  exact ⟨by rw [← hrs, r1]; rfl, r2, r3, r4.trans n1, r5⟩
end YF
