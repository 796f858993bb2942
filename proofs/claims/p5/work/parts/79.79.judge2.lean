/-! judge (class): the whole of it -/
section YD
variable {d P w W N q0 : Nat} {ku sz : Nat → Nat} {ce hi : Nat → Nat → Nat} {h' : ri_H} {G0 : eh_W}
theorem exT_0 {cb hb : Nat → Nat} {M : Nat} {G : eh_W} (I : lsI cb hb M G) (hc : ∀ j, j < M → cb j < q0) (hH : ∀ j, hb j < 65536) (q6 : q0 ≤ 6) (w8 : w ≤ 8) (hq : eh_i G 25 0 = nI q0) (z : eh_i G 203 4 = 0) (s : Nat) : eX s G P w ku sz ce hi ↔ exT cb hb M P w ku sz ce hi s = true := by
  rw [exT_iff]
  have qi : (eh_i G 25 0).toInt = (q0 : Int) := by rw [hq, lx_i (by omega)]
  have hl : ∀ c, ht_M c s P w ku sz ce hi ≤ 100000 := fun c => by
    have := ht_lt (c := c) (sw := s) (P := P) (ku := ku) (sz := sz) (ce := ce) (hi := hi) w8
    omega
  constructor
  · intro x j hj
    have e := I.2.1 z j hj
    have hh := hH j
    rcases x (cb j) (by rw [qi]; have := hc j hj; omega) with y | y
    · rw [e] at y
      exact absurd y (nI_nm (by omega))
    · rw [e] at y
      exact lx_inj (hl _) (by omega) y
  · intro x c hc'
    rw [qi] at hc'
    rcases I.1 c (by omega) with y | ⟨j, j1, j2, j3⟩
    · exact Or.inl y
    · rw [j3, ← x j j1, j2]
      exact Or.inr rfl
theorem exT_1 {cb hb : Nat → Nat} {M : Nat} {G : eh_W} (I : lsI cb hb M G) (z : ¬ eh_i G 203 4 = 0) (s : Nat) : exT cb hb M P w ku sz ce hi s = false := by
  obtain ⟨j, j', a, b, c, e⟩ := I.2.2.1 z
  refine lx_no (fun x => e ?_)
  rw [exT_iff] at x
  rw [← x j a, ← x j' b, c]
/-- what judge leaves -/
def jdO (P w W N q0 : Nat) (ku sz : Nat → Nat) (ce hi : Nat → Nat → Nat) (G0 : eh_W) (v : Option Value) (G1 : eh_W) : Prop :=
  (¬ lsK G0 N W q0 w ∧ v = some (.int (-1)) ∧ ∀ i, i < 3 → eh_i G1 203 i = eh_i G0 203 i) ∨ (lsK G0 N W q0 w ∧ v = some (.int (nI (cn (exT (cbT G0 W) (hbT G0 W w) (N / W) P w ku sz ce hi) (2 ^ P)))) ∧ ((cn (exT (cbT G0 W) (hbT G0 W w) (N / W) P w ku sz ce hi) (2 ^ P) = 0 ∧ ∀ i, i < 3 → eh_i G1 203 i = eh_i G0 203 i) ∨ (0 < cn (exT (cbT G0 W) (hbT G0 W w) (N / W) P w ku sz ce hi) (2 ^ P) ∧ bsL P (fun l => ∀ s, s < 2 ^ P → exT (cbT G0 W) (hbT G0 W w) (N / W) P w ku sz ce hi s = true → Nat.testBit s l = true) (eh_i G1 203 0) ∧ bsL P (fun l => ∀ s, s < 2 ^ P → exT (cbT G0 W) (hbT G0 W w) (N / W) P w ku sz ce hi s = true → ¬ Nat.testBit s l = true) (eh_i G1 203 1) ∧ eh_i G1 203 2 = (bq (duT P w (2 ^ P) ku sz ce hi (exT (cbT G0 W) (hbT G0 W w) (N / W) P w ku sz ce hi)) (eh_i G0 203 2) q0).2)))
theorem yjd_15 {h : ri_H} {v : Option Value} (E : ri_calE ri_md (d + 5) 15 [.ref 203, .ref 23, .ref 1, .int (nI N)] h = some (v, h')) (hV : eh_V h = G0) (ty : eh_ty tC G0) (hl : (eh_N h).take 209 = NCl) (B : LDb P ku sz ce hi) (C : LDc P ku sz ce hi G0) (q6 : q0 ≤ 6) (hq : eh_i G0 25 0 = nI q0) (LW : LDw w P sz ce) (w8 : w ≤ 8) (hw : eh_i G0 24 0 = nI w) (hW : W = w + 1) (h940 : N ≤ 940) : jdO P w W N q0 ku sz ce hi G0 v (eh_V h') := by
  have p8 := (nI_set B.1).2
  obtain ⟨rs, hrs, E⟩ := eh_in E (q := md_15) rfl
  obtain ⟨h1, lo1, v1, z1, V1, n1, t1, X1, E1, l0, l1, l2, l3⟩ := yjd_a E hV ty rfl rfl rfl rfl
  obtain ⟨y1, f1, t2, n2⟩ := yli_16 X1 V1 t1 (by rw [n1]; exact hl) hW w8 h940 hw hq q6
  rcases y1 with ⟨K, rfl, I⟩ | ⟨K, rfl⟩
  · rcases yjd_b (x := 1) E1 rfl t2 l0 l1 l2 l3 with ⟨-, h2, lo2, v2, z2, V2, n3, t3, X2, E2, m0, m1, m2, m3⟩ | ⟨x, -⟩
    · have fl : ∀ {k i : Nat}, k < 203 → eh_i (eh_V z1) k i = eh_i G0 k i := fun a => f1.i (pGu_lo a)
      have hq1 : eh_i (eh_V z1) 25 0 = nI q0 := (fl (by decide)).trans hq
      have C1 : LDc P ku sz ce hi (eh_V z1) := LDc_fr C (fun k i _ b => fl (by omega))
      have hcb : ∀ j, j < N / W → cbT G0 W j < q0 := fun j hj => by
        obtain ⟨a, b, -⟩ := K.2.2 j hj
        have := (nI_cl a (by omega)).2
        show (eh_i G0 1 (W * j)).toNatClampNeg < q0
        omega
      have hhb : ∀ j, hbT G0 W w j < 65536 := fun j => hNM_lt G0 _ w8
      obtain ⟨e1, f2, t4, n4, S⟩ := yfs_17 (ex := exT (cbT G0 W) (hbT G0 W w) (N / W) P w ku sz ce hi) X2 V2 t3 B C1 q6 hq1 LW w8 (fun z s _ => exT_0 I hcb hhb q6 w8 hq1 z s) (fun z s _ => exT_1 I z s)
      subst e1
      have e6 : eh_i (eh_V z2) 203 6 = nI (cn (exT (cbT G0 W) (hbT G0 W w) (N / W) P w ku sz ce hi) (2 ^ P)) := S.1
      have cl := cn_le (ex := exT (cbT G0 W) (hbT G0 W w) (N / W) P w ku sz ce hi) (2 ^ P)
      have g2 : ∀ i, i < 3 → eh_i (eh_V z2) 203 i = eh_i G0 203 i := fun i hi => by
        match i, hi with
        | 0, _ => exact (f2.i rfl).trans (f1.i rfl)
        | 1, _ => exact (f2.i rfl).trans (f1.i rfl)
        | 2, _ => exact (f2.i rfl).trans (f1.i rfl)
      have z := yjd_c E2 rfl t4 m0 m1 m2 m3
      rw [e6, lx_i (by omega)] at z
      rcases z with ⟨x, r1, r2, r3⟩ | ⟨x, h3, lo3, v3, z3, V3, n5, t5, X3, E3, p0, p1, p2, p3⟩
      · refine Or.inr ⟨K, by rw [← hrs, r1]; rfl, Or.inl ⟨by omega, ?_⟩⟩
        rw [r2]
        exact g2
      · have C2 : LDc P ku sz ce hi (eh_V z2) := LDc_fr C1 (fun k i _ b => f2.i (pGs_lo (by omega)))
        obtain ⟨e3, f3, t6, n6, b0, b1⟩ := yjl_19 X3 V3 t5 B.1 C2.1 S
        subst e3
        obtain ⟨h4, lo4, v4, z4, V4, n7, t7, X4, E4, u0, u1, u2, u3⟩ := yjd_d E3 rfl t6 p0 p1 p2 p3
        have l3' : ∀ {k i : Nat}, k ≠ 203 → eh_i (eh_V z3) k i = eh_i (eh_V z2) k i := fun a => f3.i (by
          unfold pGj
          rw [eh_bf a]
          rfl)
        have S3 : stS (exT (cbT G0 W) (hbT G0 W w) (N / W) P w ku sz ce hi) (2 ^ P) (eh_V z3) := ⟨(f3.i rfl).trans S.1, fun s a b => (l3' (by decide)).trans (S.2 s a b)⟩
        obtain ⟨e4, f4, t8, n8, b2⟩ := yjc_20 X4 V4 t7 B (LDc_fr C2 (fun k i _ b => l3' (by omega))) q6 ((l3' (by decide)).trans ((f2.i (pGs_lo (by decide))).trans hq1)) LW w8 S3 p8
        subst e4
        obtain ⟨r1, r2, r3⟩ := yjd_e E4 rfl t8 u0 u1 u2 u3
        have e203 : eh_i (eh_V z3) 203 2 = eh_i G0 203 2 := (f3.i rfl).trans (g2 2 (by decide))
        refine Or.inr ⟨K, ?_, Or.inr ⟨by omega, ?_, ?_, ?_⟩⟩
        · rw [← hrs, r1, show eh_i (eh_V z4) 203 6 = eh_i (eh_V z3) 203 6 from f4.i rfl, S3.1]
          rfl
        · rw [r2, show eh_i (eh_V z4) 203 0 = eh_i (eh_V z3) 203 0 from f4.i rfl]
          exact b0
        · rw [r2, show eh_i (eh_V z4) 203 1 = eh_i (eh_V z3) 203 1 from f4.i rfl]
          exact b1
        · rw [r2, b2, e203]
    · exact absurd x (by decide)
  · rcases yjd_b (x := 0) E1 rfl t2 l0 l1 l2 l3 with ⟨x, -⟩ | ⟨-, r1, r2, r3⟩
    · exact absurd rfl x
    · refine Or.inl ⟨K, by rw [← hrs, r1]; rfl, fun i hi => ?_⟩
      rw [r2]
      match i, hi with
      | 0, _ => exact f1.i rfl
      | 1, _ => exact f1.i rfl
      | 2, _ => exact f1.i rfl
end YD
