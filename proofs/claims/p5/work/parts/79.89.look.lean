/-! a name of the LAKE, looked up on both sides -/
def NS (q : Nat → Nat) (Gc Gm : eh_W) : Prop := NB q ∧ (∀ t, t < 4 → eh_i Gm 2 (3 + t) = nI (q t)) ∧ NL q 23 Gc (fun j => eh_l Gm 5 j) ∧ eh_i Gc 23 12 = nI (q 0 + q 1 + q 2 + q 3)
theorem NS_mv {q : Nat → Nat} {Gc Gm Hc Hm : eh_W} (h : NS q Gc Gm) (c : ∀ k i, 23 ≤ k → Hc k i = Gc k i) (m : ∀ k i, k = 2 ∨ k = 5 → Hm k i = Gm k i) : NS q Hc Hm := by
  obtain ⟨a, b, n, s⟩ := h
  exact ⟨a, fun t ht => (ei_eq (m 2 (3 + t) (Or.inl rfl))).trans (b t ht), NL_mv a n (fun i _ => el_eq (c _ i (by decide))) (fun i _ => ei_eq (c _ i (by decide))) (fun i _ => ei_eq (c _ i (by decide))) (fun j _ => el_eq (m 5 j (Or.inr rfl))), (ei_eq (c _ _ (by decide))).trans s⟩
theorem b0_le {t : Nat} (ht : t < 4) : b0 t + mx t ≤ 24 := by
  match t, ht with
  | 0, _ => decide
  | 1, _ => decide
  | 2, _ => decide
  | 3, _ => decide
theorem N_M {Gm : eh_W} {u : Int32} {t k : Nat} {fr ma : Int32} (ht : t < 4) (hk : k ≤ mx t) (e1 : fr = nI (b0 t)) (e2 : ma = nI k) (h : fd_M Gm fr ma u) : (∃ r, r < k ∧ eh_l Gm 5 (b0 t + r) = eh_l Gm 0 17 ∧ u = nI r) ∨ ((∀ r, r < k → eh_l Gm 5 (b0 t + r) ≠ eh_l Gm 0 17) ∧ u = -1) := by
  subst e1 e2
  have b1 := b0_le ht
  have b2 := mx_le ht
  have ei : ∀ r : Nat, r ≤ 100 → (nI (b0 t) + nI r).toNatClampNeg = b0 t + r := fun r hr => by
    rw [show nI (b0 t) + nI r = nI (b0 t + r) from (Int32.ofNat_add _ _).symm, lx_cl (by omega)]
  rcases h with ⟨i, h1, h2, h3⟩ | ⟨h1, h2⟩
  · rw [lx_i (by omega)] at h1
    rw [ei i (by omega)] at h2
    exact Or.inl ⟨i, by omega, h2, h3⟩
  · refine Or.inr ⟨fun r hr => ?_, h2⟩
    have := h1 r (by rw [lx_i (by omega)]; omega)
    rw [ei r (by omega)] at this
    exact this
section LOOK
variable {d e n m c : Nat} {b : Nat → Int32} {hc hc' hm hm' : ri_H} {q : Nat → Nat}
theorem J_nm {u v so fr ma : Int32} {t0 : Nat} (ht0 : t0 < 4) (J : JT n c (eh_V hc) (eh_V hm)) (D : NS q (eh_V hc) (eh_V hm)) (is : iS b n m (eh_V hc)) (it : iT b n m (eh_V hm)) (E1 : ri_calE ri_md (d + 3) 84 [.ref 2, .ref 23, .int so] hc = some (some (.int u), hc')) (hso : so = nI t0) (hfr : fr = nI (b0 t0)) (hma : ma = nI (q t0)) (E2 : ri_calE ri_md (e + 2) 168 [.ref 0, .int fr, .int ma] hm = some (some (.int v), hm')) :
    (u = -1 ∧ v = 0 ∧ FL (eh_V hc') (eh_V hm')) ∨ (¬ u = -1 ∧ v = 1 ∧ (∃ x, eh_V hm' = eh_u (eh_V hm) 0 18 (.int x)) ∧ eh_i (eh_V hc) 2 5 = 3 ∧ ∃ g h13 : ri_H, eh_V g = eh_V hc ∧ ri_calE ri_md (d + 2) 74 [.ref 2] g = some (none, h13) ∧ iS b n m (eh_V h13) ∧ eh_V hc' = eh_V h13) := by
  have nz : ∀ i : Nat, i < 100 → ¬ nI i = -1 := fun i hi x => by
    have := congrArg Int32.toInt x
    rw [lx_i (by omega), show (-1 : Int32).toInt = -1 by decide] at this
    omega
  have qm : ∀ t, t < 4 → q t ≤ 8 := fun t ht => Nat.le_trans (D.1 t ht) (mx_le ht)
  have z1 := zs_84 E1 rfl is
  have im := it.M (eh_V hc)
  have z2 := sp_168 E2 rfl im
  rcases nm_iff J im with ⟨a1, a2, a3⟩ | ⟨a1, a2⟩
  · have mk : ∀ {w : Int32}, fd_M (eh_V hm) fr ma w → (∃ r, r < q t0 ∧ eh_l (eh_V hm) 5 (b0 t0 + r) = eh_l (eh_V hm) 0 17 ∧ w = nI r) ∨ ((∀ r, r < q t0 → eh_l (eh_V hm) 5 (b0 t0 + r) ≠ eh_l (eh_V hm) 0 17) ∧ w = -1) := fun h => N_M ht0 (D.1 t0 ht0) hfr hma h
    have fm3 : (∀ r, r < q t0 → eh_l (eh_V hm) 5 (b0 t0 + r) ≠ eh_l (eh_V hm) 0 17) → v = 0 ∧ eh_i (eh_V hm') 0 15 = 3 ∧ eh_i (eh_V hm') 0 16 = eh_i (eh_V hm) 0 12 := fun no => by
      rcases z2 with ⟨w, -, fd, w0, r1, r2, -, -⟩ | ⟨w, -, fd, w0, r1, r2, -, -⟩ | ⟨nm, -⟩
      · rcases mk fd with ⟨r, y1, y2, -⟩ | ⟨-, y2⟩
        · exact absurd y2 (no r y1)
        · rw [y2] at w0
          exact absurd (by decide) w0
      · cases r1
        rw [r2]
        exact ⟨rfl, rfl, rfl⟩
      · exact absurd a2 nm
    have flC : ∀ {w : Int32}, u = w → w = -1 → eh_V hc' = eh_u (eh_u (eh_V hc) 2 9 (.int 3)) 2 10 (.int (eh_i (eh_V hc) 2 6)) → (∀ r, r < q t0 → eh_l (eh_V hm) 5 (b0 t0 + r) ≠ eh_l (eh_V hm) 0 17) → (u = -1 ∧ v = 0 ∧ FL (eh_V hc') (eh_V hm')) := fun e1 e2 e3 no => by
      obtain ⟨y1, y2, y3⟩ := fm3 no
      refine ⟨e1.trans e2, y1, ?_⟩
      rw [e3]
      exact ⟨y2.symm, J.1.trans y3.symm, (show ¬ (3 : Int32) = 0 by decide)⟩
    have fC : ∀ {w : Int32}, fd_C (eh_V hc) 23 32 (eh_l (eh_V hc) 2 8) w → _ := fun fd => N_C (B := 23) (nm := fun j => eh_l (eh_V hm) 5 j) D.1 D.2.2.1 a3 D.2.2.2 fd
    rcases z1 with ⟨w, -, fd, w0, r1, r2, -, -⟩ | ⟨w, g, h13, -, fd, w0, so', vg, X, i13, r1, r2, -, -⟩ | ⟨w, -, fd, w0, so', r1, r2, -, -⟩ | ⟨k0, -⟩
    · cases r1
      rcases fC fd with ⟨t, r, i, -, -, t3, i24, -⟩ | ⟨no, -⟩
      · exact absurd (t3.symm.trans w0) (nz i (by omega))
      · exact Or.inl (flC rfl rfl r2 (fun r hr => no t0 r ht0 hr))
    · rcases fC fd with ⟨t, r, i, t1, t2, t3, i24, t4, t5, t6, t7⟩ | ⟨-, no⟩
      · subst t3
        rw [lx_cl (a := i) (by omega)] at so' r1
        rw [show eh_i (eh_V hc) 33 i = nI t from t4, hso] at so'
        have tz : t = t0 := lx_inj (by omega) (by omega) so'
        subst tz
        have fr13 := adv_fr X (by rw [vg]; exact is.C (eh_V hm))
        rw [vg] at fr13
        have e16 : eh_i (eh_V h13) 34 i = nI r := (fr13.i rfl).trans t5
        rw [e16] at r1
        cases r1
        have r8 : r < 8 := Nat.lt_of_lt_of_le t2 (qm t t1)
        rcases z2 with ⟨w, -, fd2, w1, r1, r3, -, -⟩ | ⟨w, -, fd2, w1, r1, r3, -, -⟩ | ⟨nm, -⟩
        · cases r1
          exact Or.inr ⟨nz r (by omega), rfl, ⟨_, r3⟩, a1, g, h13, vg, X, i13, r2⟩
        · rcases mk fd2 with ⟨r', y1, y2, y3⟩ | ⟨y1, -⟩
          · rw [y3, lx_i (by have := qm t t1; omega)] at w1
            omega
          · exact absurd t6 (y1 r t2)
        · exact absurd a2 nm
      · rw [no] at w0
        exact absurd rfl w0
    · cases r1
      rcases fC fd with ⟨t, r, i, t1, t2, t3, i24, t4, t5, t6, t7⟩ | ⟨-, no⟩
      · subst t3
        rw [lx_cl (a := i) (by omega), show eh_i (eh_V hc) 33 i = nI t from t4, hso] at so'
        refine Or.inl (flC rfl rfl r2 (fun r' hr y => ?_))
        have := (t7 t0 r' ht0 hr y).1
        subst this
        exact so' rfl
      · rw [no] at w0
        exact absurd rfl w0
    · exact absurd a1 k0
  · rcases z2 with ⟨w, nm, -⟩ | ⟨w, nm, -⟩ | ⟨-, r1, r2, -, -⟩
    · exact absurd nm a2
    · exact absurd nm a2
    · rcases z1 with ⟨w, k, -⟩ | ⟨w, g, h13, k, -⟩ | ⟨w, k, -⟩ | ⟨-, r3, r4, -, -⟩
      · exact absurd k a1
      · exact absurd k a1
      · exact absurd k a1
      · cases r1
        cases r3
        obtain ⟨f1, -, -⟩ := J.fl r4 r2 (by decide)
        exact Or.inl ⟨rfl, rfl, f1⟩
end LOOK
