/-! answersAt (reference), and the cue that tells most -/
section YZ
variable {cal : eh_K} {h' : ri_H} {rs : List Value} {G : eh_W} {cu mn : Int32} {H : Nat → Nat} {ex : Nat → Bool}
theorem yaa_inner {n : Nat} (n8 : n ≤ 256) (ty : eh_ty tM G) (hH : ∀ s, H s < 65536) (hf : ∀ s, s ≤ n → eh_i G 10 s = if ex s = true then 1 else 0) (ha : ∀ s, s ≤ n → ex s = true → eh_i G 11 s = nI (H s)) (xn : ex n = true) : ∀ (f i : Nat) (lo : List (Nat × Value)) (h : ri_H) (is : Int32), i + f = n → eh_e cal md_218 46 lo [] h rs h' → eh_V h = G → ri_lk lo 0 = some (.ref 0) → ri_lk lo 1 = some (.int cu) → ri_lk lo 2 = some (.int mn) → ri_lk lo 3 = some (.int (nI n)) → ri_lk lo 4 = some (.int is) → ri_lk lo 5 = some (.int (nI i)) → ((is = 1 ∧ ∀ o, o < i → ex o = true → H o ≠ H n) ∨ (is = 0 ∧ fsT H ex n = false)) → ∃ h1 lo1, eh_e cal md_218 4 lo1 [] h1 rs h' ∧ eh_V h1 = G ∧ eh_N h1 = eh_N h ∧ ri_lk lo1 0 = some (.ref 0) ∧ ri_lk lo1 1 = some (.int cu) ∧ ri_lk lo1 3 = some (.int (nI (n + 1))) ∧ ((fsT H ex n = true ∧ ri_lk lo1 2 = some (.int (mn + 1))) ∨ (fsT H ex n = false ∧ ri_lk lo1 2 = some (.int (mn + 0)))) := by
  intro f
  induction f with
  | zero =>
    intro i lo h is hf' E hV l0 l1 l2 l3 l4 l5 I
    have e : i = n := by omega
    subst e
    have z := yaa_i E hV ty l0 l1 l2 l3 l4 l5
    rw [lx_i (a := i) (by omega), show nI i + 1 = nI (i + 1) from lx_a1 i] at z
    rcases z with ⟨-, i1, h1, lo1, E1, v1, n1, -, m0, m1, m2, m3, -⟩ | ⟨-, i1, h1, lo1, E1, v1, n1, -, m0, m1, m2, m3, -⟩ | ⟨x, -⟩ | ⟨x, -⟩ | ⟨x, -⟩ | ⟨x, -⟩
    · refine ⟨h1, lo1, E1, v1, n1, m0, m1, m3, ?_⟩
      rcases I with ⟨i2, -⟩ | ⟨-, i3⟩
      · rw [i1] at i2
        exact absurd i2 (by decide)
      · exact Or.inr ⟨i3, m2⟩
    · refine ⟨h1, lo1, E1, v1, n1, m0, m1, m3, ?_⟩
      rcases I with ⟨-, i3⟩ | ⟨i2, -⟩
      · exact Or.inl ⟨fsT_t xn i3, m2⟩
      · exact absurd i2 i1
    all_goals omega
  | succ f ih =>
    intro i lo h is hf' E hV l0 l1 l2 l3 l4 l5 I
    have hi : i < n := by omega
    have z := yaa_i E hV ty l0 l1 l2 l3 l4 l5
    rw [lx_i (a := i) (by omega), lx_i (a := n) (by omega), lx_cl (a := i) (by omega), lx_cl (a := n) (by omega), hf i (by omega), ha n (Nat.le_refl _) xn, show nI i + 1 = nI (i + 1) from lx_a1 i, show nI n + 1 = nI (n + 1) from lx_a1 n] at z
    rcases z with ⟨x, -⟩ | ⟨x, -⟩ | ⟨-, i1, h1, lo1, E1, v1, n1, -, m0, m1, m2, m3, -⟩ | ⟨-, i1, y, h1, lo1, E1, v1, n1, -, m0, m1, m2, m3, m4, m5⟩ | ⟨-, i1, y, y2, h1, lo1, E1, v1, n1, -, m0, m1, m2, m3, m4, m5⟩ | ⟨-, i1, y, y2, h1, lo1, E1, v1, n1, -, m0, m1, m2, m3, m4, m5⟩
    · omega
    · omega
    · refine ⟨h1, lo1, E1, v1, n1, m0, m1, m3, ?_⟩
      rcases I with ⟨i2, -⟩ | ⟨-, i3⟩
      · rw [i1] at i2
        exact absurd i2 (by decide)
      · exact Or.inr ⟨i3, m2⟩
    · have xf : ex i = false := lx_no (fun e => by
        rw [if_pos e] at y
        exact absurd y (by decide))
      have I2 : ∀ o, o < i → ex o = true → H o ≠ H n := by
        rcases I with ⟨-, i3⟩ | ⟨i2, -⟩
        · exact i3
        · exact absurd i2 i1
      obtain ⟨h2, lo2, E2, v2, n2, p⟩ := ih (i + 1) lo1 h1 1 (by omega) E1 v1 m0 m1 m2 m3 m4 m5 (Or.inl ⟨rfl, fun o ho eo => by
        by_cases e : o = i
        · rw [e, xf] at eo
          cases eo
        · exact I2 o (by omega) eo⟩)
      exact ⟨h2, lo2, E2, v2, n2.trans n1, p⟩
    · have xt : ex i = true := by
        cases e : ex i with
        | true => rfl
        | false =>
          rw [e, if_neg Bool.false_ne_true] at y
          exact absurd rfl y
      rw [ha i (by omega) xt] at y2
      have hh := hH i
      have hh2 := hH n
      obtain ⟨h2, lo2, E2, v2, n2, p⟩ := ih (i + 1) lo1 h1 0 (by omega) E1 v1 m0 m1 m2 m3 m4 m5 (Or.inr ⟨rfl, fsT_n hi xt (lx_inj (by omega) (by omega) y2)⟩)
      exact ⟨h2, lo2, E2, v2, n2.trans n1, p⟩
    · have xt : ex i = true := by
        cases e : ex i with
        | true => rfl
        | false =>
          rw [e, if_neg Bool.false_ne_true] at y
          exact absurd rfl y
      rw [ha i (by omega) xt] at y2
      have I2 : ∀ o, o < i → ex o = true → H o ≠ H n := by
        rcases I with ⟨-, i3⟩ | ⟨i2, -⟩
        · exact i3
        · exact absurd i2 i1
      obtain ⟨h2, lo2, E2, v2, n2, p⟩ := ih (i + 1) lo1 h1 1 (by omega) E1 v1 m0 m1 m2 m3 m4 m5 (Or.inl ⟨rfl, fun o ho eo => by
        by_cases e : o = i
        · rw [e]
          exact fun x => y2 (by rw [x])
        · exact I2 o (by omega) eo⟩)
      exact ⟨h2, lo2, E2, v2, n2.trans n1, p⟩
end YZ
section YA2
variable {d c P w N : Nat} {ku sz : Nat → Nat} {ce hi : Nat → Nat → Nat} {ex : Nat → Bool} {cu : Int32} {h' : ri_H} {rs : List Value} {G0 : eh_W}
theorem yaa_loop (D : xV c P w N ku sz ce hi ex cu G0) : ∀ (f n : Nat) (lo : List (Nat × Value)) (h : ri_H), n + f = N → eh_e (ri_calE ri_md (d + 4)) md_218 4 lo [] h rs h' → eh_fr pMa G0 (eh_V h) → eh_ty tM (eh_V h) → ri_lk lo 0 = some (.ref 0) → ri_lk lo 1 = some (.int cu) → ri_lk lo 2 = some (.int (nI (cn (fsT (fun s => ht_M c s P w ku sz ce hi) ex) n))) → ri_lk lo 3 = some (.int (nI n)) → (∀ s, s < n → ex s = true → eh_i (eh_V h) 11 s = nI (ht_M c s P w ku sz ce hi)) → rs = [.int (nI (cn (fsT (fun s => ht_M c s P w ku sz ce hi) ex) N))] ∧ eh_fr pMa G0 (eh_V h') ∧ eh_ty tM (eh_V h') ∧ eh_N h' = eh_N h := by
  obtain ⟨rfl, c6, B, C, hw, w8, rfl, hx⟩ := D
  obtain ⟨p1, p8⟩ := nI_set B.1
  intro f
  induction f with
  | zero =>
    intro n lo h hf E fr ty l0 l1 l2 l3 A
    have e4 : eh_i (eh_V h) 2 4 = nI P := (fr.i rfl).trans C.1
    have z := yaa_o (d := d) (c := c) (sw := 0) (P := P) (ku := ku) (sz := sz) (ce := ce) (hi := hi) E rfl ty l0 l1 l2 l3 (fun x => by
      rw [e4, p1, lx_i (by omega)] at x
      omega) ((fr.i rfl).trans hw) w8
    rw [e4, p1, lx_i (a := n) (by omega)] at z
    rcases z with ⟨-, r1, r2, r3⟩ | ⟨u, g, x, -⟩ | ⟨x, -⟩
    · rw [r2, r1, show n = 2 ^ P by omega]
      exact ⟨rfl, fr, ty, r3⟩
    all_goals omega
  | succ f ih =>
    intro n lo h hf E fr ty l0 l1 l2 l3 A
    have hn : n < 2 ^ P := by omega
    have e4 : eh_i (eh_V h) 2 4 = nI P := (fr.i rfl).trans C.1
    have e10 : ∀ s, s < 2 ^ P → eh_i (eh_V h) 10 s = if ex s = true then 1 else 0 := fun s hs => (fr.i rfl).trans (hx s hs)
    have z := yaa_o (d := d) (c := c) (sw := n) E rfl ty l0 l1 l2 l3 (fun _ => ⟨rfl, rfl, by omega, c6, B, LDm_fr C (fun j => fr.i rfl)⟩) ((fr.i rfl).trans hw) w8
    rw [e4, p1, lx_i (a := n) (by omega), lx_cl (a := n) (by omega), e10 n hn, lx_a1] at z
    rcases z with ⟨x, -⟩ | ⟨u, g, -, x, y, f1, -, h1, lo1, E1, v1, n1, t1, m0, m1, m2, m3, m4, m5⟩ | ⟨-, x, h1, lo1, E1, v1, n1, t1, m0, m1, m2, m3⟩
    · omega
    · have xn : ex n = true := by
        cases e : ex n with
        | true => rfl
        | false =>
          rw [e, if_neg Bool.false_ne_true] at x
          exact absurd rfl x
      have hH : ∀ s, ht_M c s P w ku sz ce hi < 65536 := fun s => ht_lt w8
      have fr1 : eh_fr pMa (eh_V h) (eh_u g 11 n (.int u)) := (f1.mo pMv_a).up rfl
      obtain ⟨h2, lo2, E2, v2, n2, q0, q1, q3, r⟩ := yaa_inner (H := fun s => ht_M c s P w ku sz ce hi) (ex := ex) (n := n) (by omega) t1 hH (fun s hs => (fr1.i rfl).trans (e10 s (by omega))) (fun s hs es => by
        by_cases e : s = n
        · rw [e, eh_i_self]
          exact y
        · exact (eh_i_ne _ _ (Or.inr (fun x => e x.symm))).trans ((f1.i rfl).trans (A s (by omega) es))) xn n 0 lo1 h1 1 (by omega) E1 v1 m0 m1 m2 m3 m4 m5 (Or.inl ⟨rfl, fun o ho => absurd ho (Nat.not_lt_zero o)⟩)
      have fr2 : eh_fr pMa G0 (eh_V h2) := by
        rw [v2]
        exact fr.tr fr1
      have A2 : ∀ s, s < n + 1 → ex s = true → eh_i (eh_V h2) 11 s = nI (ht_M c s P w ku sz ce hi) := fun s hs es => by
        rw [v2]
        by_cases e : s = n
        · rw [e, eh_i_self]
          exact y
        · exact (eh_i_ne _ _ (Or.inr (fun x => e x.symm))).trans ((f1.i rfl).trans (A s (by omega) es))
      rw [← v2] at t1
      rcases r with ⟨ft, q2⟩ | ⟨ft, q2⟩
      · obtain ⟨s1, s2, s3, s4⟩ := ih (n + 1) lo2 h2 (by omega) E2 fr2 t1 q0 q1 (by rw [cn_t ft, ← lx_a1]; exact q2) q3 A2
        exact ⟨s1, s2, s3, s4.trans (n2.trans n1)⟩
      · obtain ⟨s1, s2, s3, s4⟩ := ih (n + 1) lo2 h2 (by omega) E2 fr2 t1 q0 q1 (by
          rw [show nI (cn (fsT (fun s => ht_M c s P w ku sz ce hi) ex) n) + 0 = nI (cn (fsT (fun s => ht_M c s P w ku sz ce hi) ex) n) from Int32.add_zero _] at q2
          rw [cn_f ft]
          exact q2) q3 A2
        exact ⟨s1, s2, s3, s4.trans (n2.trans n1)⟩
    · have xn : ex n = false := lx_no (fun e => by
        rw [if_pos e] at x
        exact absurd x (by decide))
      rw [← v1] at t1
      obtain ⟨s1, s2, s3, s4⟩ := ih (n + 1) lo1 h1 (by omega) E1 (by rw [v1]; exact fr) t1 m0 m1 (by rw [cn_f (fsT_f xn)]; exact m2) m3 (fun s hs es => by
        rw [v1]
        by_cases e : s = n
        · rw [e, xn] at es
          cases es
        · exact A s (by omega) es)
      exact ⟨s1, s2, s3, s4.trans n1⟩
theorem yaa_218 {h : ri_H} {v : Option Value} (E : ri_calE ri_md (d + 5) 218 [.ref 0, .int cu] h = some (v, h')) (hV : eh_V h = G0) (ty : eh_ty tM G0) (D : xV c P w N ku sz ce hi ex cu G0) : ∃ (u : Int32) (G1 : eh_W), u = nI (cn (fsT (fun s => ht_M c s P w ku sz ce hi) ex) N) ∧ eh_fr pMa G0 G1 ∧ eh_ty tM G1 ∧ v = some (.int u) ∧ eh_V h' = G1 ∧ eh_N h' = eh_N h := by
  obtain ⟨rs, hrs, E⟩ := eh_in E (q := md_218) rfl
  obtain ⟨h1, lo1, E1, v1, n1, t1, m0, m1, m2, m3⟩ := yaa_a E hV ty rfl rfl
  rw [← v1] at t1
  obtain ⟨r1, r2, r3, r4⟩ := yaa_loop (d := d) D N 0 lo1 h1 (by omega) E1 (by rw [v1]; exact eh_fr.rf) t1 m0 m1 m2 m3 (fun s hs => absurd hs (Nat.not_lt_zero s))
  exact ⟨_, _, rfl, r2, r3, by rw [← hrs, r1]; rfl, rfl, r4.trans n1⟩
end YA2
