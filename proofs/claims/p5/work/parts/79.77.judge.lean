/-! judgeCues, judge (class) -/
def pGq (k i : Nat) : Bool := Nat.beq k 206 || (Nat.beq k 203 && Nat.beq i 2)
theorem pGq_c (k i : Nat) (h : pGq k i = false) : pGc k i = false := by
  unfold pGq at h
  rw [Bool.or_eq_false_iff] at h
  exact h.1
section YQ
variable {d P w N q0 : Nat} {ku sz : Nat → Nat} {ce hi : Nat → Nat → Nat} {ex : Nat → Bool} {h' : ri_H} {rs : List Value} {G0 : eh_W}
/-- how many ways at a cue -/
def duT (P w N : Nat) (ku sz : Nat → Nat) (ce hi : Nat → Nat → Nat) (ex : Nat → Bool) (c : Nat) : Nat := cn (fsT (fun s => ht_M c s P w ku sz ce hi) ex) N
theorem yjc_loop (B : LDb P ku sz ce hi) (C : LDc P ku sz ce hi G0) (q6 : q0 ≤ 6) (hq : eh_i G0 25 0 = nI q0) (W : LDw w P sz ce) (w8 : w ≤ 8) (I0 : stS ex N G0) (hN : N ≤ 256) : ∀ (f c : Nat) (lo : List (Nat × Value)) (h : ri_H), c + f = q0 → eh_e (ri_calE ri_md (d + 3)) md_20 4 lo [] h rs h' → eh_fr pGq G0 (eh_V h) → eh_ty tC (eh_V h) → ri_lk lo 0 = some (.ref 203) → ri_lk lo 1 = some (.ref 23) → ri_lk lo 2 = some (.int (nI (bq (duT P w N ku sz ce hi ex) (eh_i G0 203 2) c).1)) → ri_lk lo 3 = some (.int (nI c)) → eh_i (eh_V h) 203 2 = (bq (duT P w N ku sz ce hi ex) (eh_i G0 203 2) c).2 → rs = [] ∧ eh_fr pGq G0 (eh_V h') ∧ eh_ty tC (eh_V h') ∧ eh_N h' = eh_N h ∧ eh_i (eh_V h') 203 2 = (bq (duT P w N ku sz ce hi ex) (eh_i G0 203 2) q0).2 := by
  have du8 : ∀ c, duT P w N ku sz ce hi ex c ≤ 256 := fun c => Nat.le_trans (cn_le N) hN
  intro f
  induction f with
  | zero =>
    intro c lo h hf E fr ty l0 l1 l2 l3 hb
    have e : c = q0 := by omega
    subst e
    have e0 : eh_i (eh_V h) 25 0 = nI c := (fr.i rfl).trans hq
    have z := yjc_l (d := d) (c := c) (P := P) (w := w) (ku := ku) (sz := sz) (ce := ce) (hi := hi) (N := N) (ex := ex) E rfl ty l0 l1 l2 l3 (fun x => by
      rw [e0] at x
      exact absurd x (Int.lt_irrefl _))
    rw [e0] at z
    rcases z with ⟨-, r1, r2, r3⟩ | ⟨u, G1, x, -⟩ | ⟨u, G1, x, -⟩
    · rw [r2]
      exact ⟨r1, fr, ty, r3, hb⟩
    all_goals exact absurd x (Int.lt_irrefl _)
  | succ f ih =>
    intro c lo h hf E fr ty l0 l1 l2 l3 hb
    have e0 : eh_i (eh_V h) 25 0 = nI q0 := (fr.i rfl).trans hq
    have I1 : stS ex N (eh_V h) := ⟨(fr.i rfl).trans I0.1, fun s a b => (fr.i rfl).trans (I0.2 s a b)⟩
    have hm := bq_le (b := eh_i G0 203 2) du8 c
    have hd := du8 c
    have z := yjc_l (d := d) (c := c) E rfl ty l0 l1 l2 l3 (fun _ => ⟨rfl, by omega, B, LDc_fr C (fun k i a b => fr.i (by
      unfold pGq
      rw [eh_bf (show k ≠ 206 by omega), eh_bf (show k ≠ 203 by omega)]
      rfl)), W, w8, I1, hN⟩)
    rw [e0, lx_i (a := c) (by omega), lx_i (a := q0) (by omega), lx_i (a := (bq (duT P w N ku sz ce hi ex) (eh_i G0 203 2) c).1) (by omega), lx_a1] at z
    rcases z with ⟨x, -⟩ | ⟨u, G1, -, rfl, f1, -, x, h1, lo1, E1, v1, n1, t1, m0, m1, m2, m3, -⟩ | ⟨u, G1, -, rfl, f1, -, x, h1, lo1, E1, v1, n1, t1, m0, m1, m2, m3, -⟩
    · omega
    · rw [show (nI (cn (fsT (fun s => ht_M c s P w ku sz ce hi) ex) N)).toInt = (duT P w N ku sz ce hi ex c : Int) from lx_i (show duT P w N ku sz ce hi ex c ≤ 100000 by omega)] at x
      rw [← v1] at t1 f1
      have eb := bq_f (du := duT P w N ku sz ce hi ex) (b0 := eh_i G0 203 2) (c := c) (by omega)
      obtain ⟨s1, s2, s3, s4, s5⟩ := ih (c + 1) lo1 h1 (by omega) E1 (fr.tr (f1.mo pGq_c)) t1 m0 m1 (by rw [eb]; exact m2) m3 (by
        rw [eb, ← hb]
        exact f1.i (pGc_ne (by decide)))
      exact ⟨s1, s2, s3, s4.trans n1, s5⟩
    · rw [show (nI (cn (fsT (fun s => ht_M c s P w ku sz ce hi) ex) N)).toInt = (duT P w N ku sz ce hi ex c : Int) from lx_i (show duT P w N ku sz ce hi ex c ≤ 100000 by omega)] at x
      rw [← v1] at t1
      have eb := bq_t (du := duT P w N ku sz ce hi ex) (b0 := eh_i G0 203 2) (c := c) (by omega)
      obtain ⟨s1, s2, s3, s4, s5⟩ := ih (c + 1) lo1 h1 (by omega) E1 (by rw [v1]; exact (fr.tr (f1.mo pGq_c)).up rfl) t1 m0 m1 (by rw [eb]; exact m2) m3 (by
        rw [eb, v1]
        exact eh_i_self _ _ _ _)
      exact ⟨s1, s2, s3, s4.trans n1, s5⟩
theorem yjc_20 {h : ri_H} {v : Option Value} (E : ri_calE ri_md (d + 4) 20 [.ref 203, .ref 23] h = some (v, h')) (hV : eh_V h = G0) (ty : eh_ty tC G0) (B : LDb P ku sz ce hi) (C : LDc P ku sz ce hi G0) (q6 : q0 ≤ 6) (hq : eh_i G0 25 0 = nI q0) (W : LDw w P sz ce) (w8 : w ≤ 8) (I0 : stS ex N G0) (hN : N ≤ 256) : v = none ∧ eh_fr pGq G0 (eh_V h') ∧ eh_ty tC (eh_V h') ∧ eh_N h' = eh_N h ∧ eh_i (eh_V h') 203 2 = (bq (duT P w N ku sz ce hi ex) (eh_i G0 203 2) q0).2 := by
  obtain ⟨rs, hrs, E⟩ := eh_in E (q := md_20) rfl
  obtain ⟨h1, lo1, E1, v1, n1, t1, m0, m1, m2, m3⟩ := yjc_a E hV ty rfl rfl
  rw [← v1] at t1
  obtain ⟨r1, r2, r3, r4, r5⟩ := yjc_loop (d := d) B C q6 hq W w8 I0 hN q0 0 lo1 h1 (by omega) E1 (by rw [v1]; exact eh_fr.rf) t1 m0 m1 m2 m3 (by rw [v1]; rfl)
  exact ⟨by rw [← hrs, r1]; rfl, r2, r3, r4.trans n1, r5⟩
end YQ
