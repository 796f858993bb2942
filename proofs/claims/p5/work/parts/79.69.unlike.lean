/-! countUnlike, judgeCues (class) -/
/-- the first of those that do alike -/
def fsT (H : Nat → Nat) (ex : Nat → Bool) (s : Nat) : Bool := ex s && decide (∀ o, o < s → ex o = true → H o ≠ H s)
theorem fsT_f {H : Nat → Nat} {ex : Nat → Bool} {s : Nat} (h : ex s = false) : fsT H ex s = false := by
  unfold fsT
  rw [h]
  rfl
theorem fsT_t {H : Nat → Nat} {ex : Nat → Bool} {s : Nat} (h : ex s = true) (e : ∀ o, o < s → ex o = true → H o ≠ H s) : fsT H ex s = true := by
  unfold fsT
  rw [h, decide_eq_true e]
  rfl
theorem fsT_n {H : Nat → Nat} {ex : Nat → Bool} {s o : Nat} (ho : o < s) (h : ex o = true) (e : H o = H s) : fsT H ex s = false := by
  unfold fsT
  rw [decide_eq_false (fun x => x o ho h e), Bool.and_false]
/-- some set stands: at least one is the first -/
theorem fsT_1 {H : Nat → Nat} {ex : Nat → Bool} : ∀ N, 0 < cn ex N → 0 < cn (fsT H ex) N
  | 0, h => absurd h (Nat.lt_irrefl 0)
  | n + 1, h => by
    have up : cn (fsT H ex) n ≤ cn (fsT H ex) (n + 1) := cn_mo (n + 1) (Nat.le_succ n)
    by_cases e : 0 < cn ex n
    · have := fsT_1 (H := H) n e
      omega
    · have z : ∀ s, s < n → ex s = false := fun s hs => by
        cases x : ex s with
        | false => rfl
        | true =>
          have := cn_lt x hs
          omega
      cases x : ex n with
      | false =>
        rw [cn_f x] at h
        omega
      | true =>
        have : fsT H ex n = true := fsT_t x (fun o ho y => by
          rw [z o ho] at y
          cases y)
        rw [cn_t this]
        omega
def pGc (k _i : Nat) : Bool := Nat.beq k 206
theorem pGc_ne {k i : Nat} (h : k ≠ 206) : pGc k i = false := eh_bf h
def uS (H : Nat → Nat) (ex : Nat → Bool) (n : Nat) (G : eh_W) : Prop := (∀ j, j < cn (fsT H ex) n → ∃ s, s < n ∧ ex s = true ∧ eh_i G 206 j = nI (H s)) ∧ (∀ s, s < n → ex s = true → ∃ j, j < cn (fsT H ex) n ∧ eh_i G 206 j = nI (H s))
/-- what countUnlike wants -/
def xU (c P w N : Nat) (ku sz : Nat → Nat) (ce hi : Nat → Nat → Nat) (ex : Nat → Bool) (cu : Int32) (G : eh_W) : Prop := cu = nI c ∧ c < 6 ∧ LDb P ku sz ce hi ∧ LDc P ku sz ce hi G ∧ LDw w P sz ce ∧ w ≤ 8 ∧ stS ex N G ∧ N ≤ 256
theorem ht_lt {c sw P w : Nat} {ku sz : Nat → Nat} {ce hi : Nat → Nat → Nat} (w8 : w ≤ 8) : ht_M c sw P w ku sz ce hi < 65536 := Nat.lt_of_lt_of_le (pkd_lt w _) (Nat.pow_le_pow_right (by decide) w8)
section YU
variable {h' : ri_H} {rs : List Value} {cal : eh_K} {cu k : Int32}
theorem ycu_inner {F X : Nat} (hF : F ≤ 256) : ∀ (f t : Nat) (lo : List (Nat × Value)) (h : ri_H) (G : eh_W), t + f = F → eh_e cal md_21 31 lo [] h rs h' → eh_V h = G → eh_ty tC G → ri_lk lo 0 = some (.ref 203) → ri_lk lo 1 = some (.ref 23) → ri_lk lo 2 = some (.int cu) → ri_lk lo 3 = some (.int (nI F)) → ri_lk lo 4 = some (.int k) → ri_lk lo 5 = some (.int (nI X)) → ri_lk lo 6 = some (.int (nI t)) → (∀ j, j < t → ¬ eh_i G 206 j = nI X) → ∃ h1 lo1, eh_e cal md_21 5 lo1 [] h1 rs h' ∧ eh_N h1 = eh_N h ∧ eh_ty tC (eh_V h1) ∧ ri_lk lo1 0 = some (.ref 203) ∧ ri_lk lo1 1 = some (.ref 23) ∧ ri_lk lo1 2 = some (.int cu) ∧ ri_lk lo1 4 = some (.int (k + 1)) ∧ (((∃ j, j < F ∧ eh_i G 206 j = nI X) ∧ ri_lk lo1 3 = some (.int (nI F)) ∧ eh_V h1 = G) ∨ ((∀ j, j < F → ¬ eh_i G 206 j = nI X) ∧ ri_lk lo1 3 = some (.int (nI (F + 1))) ∧ eh_V h1 = eh_u G 206 F (.int (nI X)))) := by
  intro f
  induction f with
  | zero =>
    intro t lo h G hf E hV ty l0 l1 l2 l3 l4 l5 l6 no
    have e : t = F := by omega
    subst e
    have z := ycu_i E hV ty l0 l1 l2 l3 l4 l5 l6
    rw [lx_i (a := t) (by omega), lx_cl (a := t) (by omega), lx_a1] at z
    rcases z with ⟨-, x, -⟩ | ⟨-, -, h1, lo1, E1, v1, n1, t1, m0, m1, m2, m3, m4, -⟩ | ⟨x, -⟩ | ⟨x, -⟩ | ⟨x, -⟩
    · exact absurd rfl x
    · rw [← v1] at t1
      exact ⟨h1, lo1, E1, n1, t1, m0, m1, m2, m4, Or.inr ⟨no, m3, v1⟩⟩
    all_goals omega
  | succ f ih =>
    intro t lo h G hf E hV ty l0 l1 l2 l3 l4 l5 l6 no
    have z := ycu_i E hV ty l0 l1 l2 l3 l4 l5 l6
    rw [lx_i (a := t) (by omega), lx_i (a := F) (by omega), lx_cl (a := t) (by omega), show nI t + 1 = nI (t + 1) from lx_a1 t] at z
    rcases z with ⟨x, -⟩ | ⟨x, -⟩ | ⟨-, y, -, h1, lo1, E1, v1, n1, t1, m0, m1, m2, m3, m4, -⟩ | ⟨-, -, y, -⟩ | ⟨-, y, h1, lo1, E1, v1, n1, t1, m0, m1, m2, m3, m4, m5, m6⟩
    · omega
    · omega
    · rw [← v1] at t1
      exact ⟨h1, lo1, E1, n1, t1, m0, m1, m2, m4, Or.inl ⟨⟨t, by omega, y⟩, m3, v1⟩⟩
    · have := lx_inj (by omega) (by omega) y
      omega
    · obtain ⟨h2, lo2, E2, n2, r⟩ := ih (t + 1) lo1 h1 G (by omega) E1 v1 ty m0 m1 m2 m3 m4 m5 m6 (fun j hj => by
        by_cases e : j = t
        · rw [e]
          exact y
        · exact no j (by omega))
      exact ⟨h2, lo2, E2, n2.trans n1, r⟩
end YU
section YV
variable {d c P w N : Nat} {ku sz : Nat → Nat} {ce hi : Nat → Nat → Nat} {ex : Nat → Bool} {cu : Int32} {h' : ri_H} {rs : List Value} {G0 : eh_W}
theorem ycu_loop (D : xU c P w N ku sz ce hi ex cu G0) : ∀ (f n : Nat) (lo : List (Nat × Value)) (h : ri_H), n + f = N → eh_e (ri_calE ri_md (d + 2)) md_21 5 lo [] h rs h' → eh_fr pGc G0 (eh_V h) → eh_ty tC (eh_V h) → ri_lk lo 0 = some (.ref 203) → ri_lk lo 1 = some (.ref 23) → ri_lk lo 2 = some (.int cu) → ri_lk lo 3 = some (.int (nI (cn (fsT (fun s => ht_M c s P w ku sz ce hi) ex) n))) → ri_lk lo 4 = some (.int (nI (cn ex n))) → uS (fun s => ht_M c s P w ku sz ce hi) ex n (eh_V h) → rs = [.int (nI (cn (fsT (fun s => ht_M c s P w ku sz ce hi) ex) N))] ∧ eh_fr pGc G0 (eh_V h') ∧ eh_ty tC (eh_V h') ∧ eh_N h' = eh_N h := by
  obtain ⟨rfl, c6, B, C, W, w8, I0, hN⟩ := D
  have cN := cn_le (ex := ex) N
  intro f
  induction f with
  | zero =>
    intro n lo h hn E fr ty l0 l1 l2 l3 l4 U
    have e : n = N := by omega
    subst e
    have e6 : eh_i (eh_V h) 203 6 = nI (cn ex n) := (fr.i (pGc_ne (by decide))).trans I0.1
    have z := ycu_o (d := d) (c := c) (sw := 0) (P := P) (ku := ku) (sz := sz) (ce := ce) (hi := hi) E rfl ty l0 l1 l2 l3 l4 (fun x => by
      rw [e6] at x
      exact absurd x (Int.lt_irrefl _)) W w8
    rw [e6] at z
    rcases z with ⟨-, r1, r2, r3⟩ | ⟨u, x, -⟩
    · rw [r2]
      exact ⟨r1, fr, ty, r3⟩
    · exact absurd x (Int.lt_irrefl _)
  | succ f ih =>
    intro n lo h hn E fr ty l0 l1 l2 l3 l4 U
    cases xn : ex n with
    | false =>
      refine ih (n + 1) lo h (by omega) E fr ty l0 l1 l2 (by rw [cn_f (fsT_f xn)]; exact l3) (by rw [cn_f xn]; exact l4) ⟨fun j hj => ?_, fun s hs es => ?_⟩
      · rw [cn_f (fsT_f xn)] at hj
        obtain ⟨s, s1, s2, s3⟩ := U.1 j hj
        exact ⟨s, by omega, s2, s3⟩
      · rw [cn_f (fsT_f xn)]
        refine U.2 s ?_ es
        have : s ≠ n := fun y => by
          rw [y, xn] at es
          cases es
        omega
    | true =>
      have hc := cn_lt xn (show n < N by omega)
      have e6 : eh_i (eh_V h) 203 6 = nI (cn ex N) := (fr.i (pGc_ne (by decide))).trans I0.1
      have e5 : eh_i (eh_V h) 205 (cn ex n) = nI n := (fr.i (pGc_ne (by decide))).trans (I0.2 n (by omega) xn)
      have hF := cn_le (ex := fsT (fun s => ht_M c s P w ku sz ce hi) ex) n
      have z := ycu_o (d := d) (c := c) (sw := n) E rfl ty l0 l1 l2 l3 l4 (fun _ => ⟨rfl, by rw [lx_cl (a := cn ex n) (by omega)]; exact e5, by omega, c6, B, LDc_fr C (fun k i _ a => fr.i (pGc_ne (by omega)))⟩) W w8
      rw [e6, lx_i (a := cn ex n) (by omega), lx_i (a := cn ex N) (by omega)] at z
      rcases z with ⟨x, -⟩ | ⟨u, -, rfl, h1, lo1, E1, v1, n1, -, m0, m1, m2, m3, m4, m5, m6⟩
      · omega
      · obtain ⟨h2, lo2, E2, n2, t2, p0, p1, p2, p4, r⟩ := ycu_inner (F := cn (fsT (fun s => ht_M c s P w ku sz ce hi) ex) n) (by omega) (cn (fsT (fun s => ht_M c s P w ku sz ce hi) ex) n) 0 lo1 h1 _ (by omega) E1 v1 ty m0 m1 m2 m3 m4 m5 m6 (fun j hj => absurd hj (Nat.not_lt_zero j))
        rw [lx_a1, ← cn_t xn] at p4
        have Hn : ∀ s, nI (ht_M c s P w ku sz ce hi) = nI (ht_M c n P w ku sz ce hi) → ht_M c s P w ku sz ce hi = ht_M c n P w ku sz ce hi := fun s e => lx_inj (by have := ht_lt (c := c) (sw := s) (P := P) (ku := ku) (sz := sz) (ce := ce) (hi := hi) w8; omega) (by have := ht_lt (c := c) (sw := n) (P := P) (ku := ku) (sz := sz) (ce := ce) (hi := hi) w8; omega) e
        rcases r with ⟨⟨j, j1, j2⟩, p3, v2⟩ | ⟨no, p3, v2⟩
        · obtain ⟨s, s1, s2, s3⟩ := U.1 j j1
          have nf : fsT (fun s => ht_M c s P w ku sz ce hi) ex n = false := fsT_n s1 s2 (Hn s (s3.symm.trans j2))
          obtain ⟨s1, s2, s3, s4⟩ := ih (n + 1) lo2 h2 (by omega) E2 (by rw [v2]; exact fr) t2 p0 p1 p2 (by rw [cn_f nf]; exact p3) p4 (by
            rw [v2]
            refine ⟨fun i hj => ?_, fun s hs es => ?_⟩
            · rw [cn_f nf] at hj
              obtain ⟨s, s1, s2, s3⟩ := U.1 i hj
              exact ⟨s, by omega, s2, s3⟩
            · rw [cn_f nf]
              by_cases e : s = n
              · rw [e]
                exact ⟨j, j1, j2⟩
              · exact U.2 s (by omega) es)
          exact ⟨s1, s2, s3, s4.trans (n2.trans n1)⟩
        · have nt : fsT (fun s => ht_M c s P w ku sz ce hi) ex n = true := fsT_t xn (fun o ho eo y => by
            obtain ⟨j, j1, j2⟩ := U.2 o ho eo
            refine no j j1 (j2.trans ?_)
            dsimp only
            rw [show ht_M c o P w ku sz ce hi = ht_M c n P w ku sz ce hi from y])
          obtain ⟨s1, s2, s3, s4⟩ := ih (n + 1) lo2 h2 (by omega) E2 (by rw [v2]; exact fr.up rfl) t2 p0 p1 p2 (by rw [cn_t nt]; exact p3) p4 (by
            rw [v2]
            refine ⟨fun i hj => ?_, fun s hs es => ?_⟩
            · rw [cn_t nt] at hj
              by_cases e : i = cn (fsT (fun s => ht_M c s P w ku sz ce hi) ex) n
              · rw [e]
                exact ⟨n, Nat.lt_succ_self n, xn, eh_i_self _ _ _ _⟩
              · obtain ⟨s, s1, s2, s3⟩ := U.1 i (by omega)
                exact ⟨s, by omega, s2, (eh_i_ne _ _ (Or.inr (fun x => e x.symm))).trans s3⟩
            · rw [cn_t nt]
              by_cases e : s = n
              · rw [e]
                exact ⟨_, Nat.lt_succ_self _, eh_i_self _ _ _ _⟩
              · obtain ⟨j, j1, j2⟩ := U.2 s (by omega) es
                exact ⟨j, by omega, (eh_i_ne _ _ (Or.inr (by omega))).trans j2⟩)
          exact ⟨s1, s2, s3, s4.trans (n2.trans n1)⟩
theorem ycu_21 {h : ri_H} {v : Option Value} (E : ri_calE ri_md (d + 3) 21 [.ref 203, .ref 23, .int cu] h = some (v, h')) (hV : eh_V h = G0) (ty : eh_ty tC G0) (D : xU c P w N ku sz ce hi ex cu G0) : ∃ (u : Int32) (G1 : eh_W), u = nI (cn (fsT (fun s => ht_M c s P w ku sz ce hi) ex) N) ∧ eh_fr pGc G0 G1 ∧ eh_ty tC G1 ∧ v = some (.int u) ∧ eh_V h' = G1 ∧ eh_N h' = eh_N h := by
  obtain ⟨rs, hrs, E⟩ := eh_in E (q := md_21) rfl
  obtain ⟨h1, lo1, E1, v1, n1, t1, m0, m1, m2, m3, m4⟩ := ycu_a E hV ty rfl rfl rfl
  rw [← v1] at t1
  obtain ⟨r1, r2, r3, r4⟩ := ycu_loop (d := d) D N 0 lo1 h1 (by omega) E1 (by rw [v1]; exact eh_fr.rf) t1 m0 m1 m2 m3 m4 ⟨fun j hj => absurd hj (Nat.not_lt_zero j), fun s hs => absurd hs (Nat.not_lt_zero s)⟩
  exact ⟨_, _, rfl, r2, r3, by rw [← hrs, r1]; rfl, rfl, r4.trans n1⟩
end YV
/-- the cue that tells most -/
def bq (du : Nat → Nat) (b0 : Int32) : Nat → Nat × Int32
  | 0 => (0, b0)
  | c + 1 => bif Nat.blt (bq du b0 c).1 (du c) then (du c, nI c) else bq du b0 c
theorem bq_t {du : Nat → Nat} {b0 : Int32} {c : Nat} (h : (bq du b0 c).1 < du c) : bq du b0 (c + 1) = (du c, nI c) := by
  show (bif Nat.blt (bq du b0 c).1 (du c) then (du c, nI c) else bq du b0 c) = _
  rw [Nat.blt_eq.mpr h]
  rfl
theorem bq_f {du : Nat → Nat} {b0 : Int32} {c : Nat} (h : ¬ (bq du b0 c).1 < du c) : bq du b0 (c + 1) = bq du b0 c := by
  show (bif Nat.blt (bq du b0 c).1 (du c) then (du c, nI c) else bq du b0 c) = _
  rw [blt_no h]
  rfl
theorem bq_cg {du : Nat → Nat} {b b' : Int32} (h : 0 < du 0) : ∀ n, bq du b (n + 1) = bq du b' (n + 1)
  | 0 => by
    rw [bq_t (show (bq du b 0).1 < du 0 from h), bq_t (show (bq du b' 0).1 < du 0 from h)]
  | n + 1 => by
    show (bif Nat.blt (bq du b (n + 1)).1 (du (n + 1)) then (du (n + 1), nI (n + 1)) else bq du b (n + 1)) = (bif Nat.blt (bq du b' (n + 1)).1 (du (n + 1)) then (du (n + 1), nI (n + 1)) else bq du b' (n + 1))
    rw [bq_cg h n]
theorem bq_le {du : Nat → Nat} {b : Int32} {m : Nat} (h : ∀ c, du c ≤ m) : ∀ n, (bq du b n).1 ≤ m
  | 0 => Nat.zero_le _
  | n + 1 => by
    show (bif Nat.blt (bq du b n).1 (du n) then (du n, nI n) else bq du b n).1 ≤ m
    cases Nat.blt (bq du b n).1 (du n) with
    | true => exact h n
    | false => exact bq_le h n
