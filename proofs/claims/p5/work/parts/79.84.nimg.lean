/-! names in image and restore -/
def pN (o k i : Nat) : Bool := Nat.beq k 16 && (Nat.ble o i && Nat.blt i (o + 24))
theorem pN_in {o j : Nat} (h : j < 24) : pN o 16 (o + j) = true := by
  unfold pN
  rw [Nat.ble_eq.mpr (by omega), Nat.blt_eq.mpr (by omega)]
  rfl
theorem pN_out {o k i : Nat} (h : k ≠ 16 ∨ i < o ∨ o + 24 ≤ i) : pN o k i = false := by
  cases e : pN o k i with
  | false => rfl
  | true =>
    unfold pN at e
    rw [Bool.and_eq_true, Bool.and_eq_true] at e
    have e1 := Nat.eq_of_beq_eq_true e.1
    have e2 := Nat.ble_eq.mp e.2.1
    have e3 := Nat.blt_eq.mp e.2.2
    omega
section NIL
variable {cal : eh_K} {rs : List Value} {h' : ri_H}
theorem nml_j0 : ∀ (f i : Nat) (lo : List (Nat × Value)) (h : ri_H) (G : eh_W), i + f = 24 → eh_e cal md_252 51 lo [] h rs h' → eh_V h = G → eh_ty tM G → ri_lk lo 0 = some (.ref 0) → ri_lk lo 1 = some (.int 0) → ri_lk lo 2 = some (.int (nI i)) → (∀ j, j < i → eh_l G 16 (0 + j) = eh_l G 5 (j)) → ∃ h1 lo1, eh_e cal md_252 80 lo1 [] h1 rs h' ∧ eh_fr (pN 0) G (eh_V h1) ∧ eh_ty tM (eh_V h1) ∧ eh_N h1 = eh_N h ∧ ri_lk lo1 0 = some (.ref 0) ∧ ri_lk lo1 1 = some (.int 0) ∧ ∀ j, j < 24 → eh_l (eh_V h1) 16 (0 + j) = eh_l G 5 (j) := by
  intro f
  induction f with
  | zero =>
    intro i lo h G hf E hV ty l0 l1 l2 hc
    have z := mi_j0 E hV ty l0 l1 l2
    rw [lx_i (a := i) (by omega)] at z
    rcases z with ⟨-, h1, lo1, E1, v1, n1, t1, m0, m1, -⟩ | ⟨c, -⟩
    · exact ⟨h1, lo1, E1, by rw [v1]; exact eh_fr.rf, by rw [v1]; exact t1, n1, m0, m1, fun j hj => by rw [v1]; exact hc j (by omega)⟩
    · omega
  | succ f ih =>
    intro i lo h G hf E hV ty l0 l1 l2 hc
    have z := mi_j0 E hV ty l0 l1 l2
    rw [lx_i (a := i) (by omega), show (0 : Int32) + nI i = nI (0 + i) from lx_add 0 i, lx_cl (a := 0 + i) (by omega), lx_cl (a := i) (by omega)] at z
    rcases z with ⟨c, -⟩ | ⟨-, h1, lo1, E1, v1, n1, t1, m0, m1, m2⟩
    · omega
    · rw [lx_a1] at m2
      obtain ⟨h2, lo2, E2, f2, t2, n2, p0, p1, p2⟩ := ih (i + 1) lo1 h1 _ (by omega) E1 v1 t1 m0 m1 m2 (fun j hj => by
        by_cases e : j = i
        · rw [e, eh_l_self]
          exact (eh_l_ne G _ (Or.inl (by decide))).symm
        · rw [eh_l_ne G _ (Or.inr (show 0 + i ≠ 0 + j by omega)), eh_l_ne G _ (Or.inl (by decide))]
          exact hc j (by omega))
      exact ⟨h2, lo2, E2, (eh_fr.rf.up (pN_in (show i < 24 by omega))).tr f2, t2, n2.trans n1, p0, p1, fun j hj => (p2 j hj).trans (eh_l_ne G _ (Or.inl (by decide)))⟩
theorem nml_s0 : ∀ (f i : Nat) (lo : List (Nat × Value)) (h : ri_H) (G : eh_W), i + f = 24 → eh_e cal md_253 60 lo [] h rs h' → eh_V h = G → eh_ty tM G → ri_lk lo 0 = some (.ref 0) → ri_lk lo 1 = some (.int 0) → ri_lk lo 2 = some (.int (nI i)) → (∀ j, j < i → eh_l G 5 (j) = eh_l G 16 (0 + j)) → ∃ h1 lo1, eh_e cal md_253 89 lo1 [] h1 rs h' ∧ eh_fr (pK 5) G (eh_V h1) ∧ eh_ty tM (eh_V h1) ∧ eh_N h1 = eh_N h ∧ ri_lk lo1 0 = some (.ref 0) ∧ ri_lk lo1 1 = some (.int 0) ∧ ∀ j, j < 24 → eh_l (eh_V h1) 5 (j) = eh_l G 16 (0 + j) := by
  intro f
  induction f with
  | zero =>
    intro i lo h G hf E hV ty l0 l1 l2 hc
    have z := mr_j0 E hV ty l0 l1 l2
    rw [lx_i (a := i) (by omega)] at z
    rcases z with ⟨-, h1, lo1, E1, v1, n1, t1, m0, m1, -⟩ | ⟨c, -⟩
    · exact ⟨h1, lo1, E1, by rw [v1]; exact eh_fr.rf, by rw [v1]; exact t1, n1, m0, m1, fun j hj => by rw [v1]; exact hc j (by omega)⟩
    · omega
  | succ f ih =>
    intro i lo h G hf E hV ty l0 l1 l2 hc
    have z := mr_j0 E hV ty l0 l1 l2
    rw [lx_i (a := i) (by omega), show (0 : Int32) + nI i = nI (0 + i) from lx_add 0 i, lx_cl (a := 0 + i) (by omega), lx_cl (a := i) (by omega)] at z
    rcases z with ⟨c, -⟩ | ⟨-, h1, lo1, E1, v1, n1, t1, m0, m1, m2⟩
    · omega
    · rw [lx_a1] at m2
      obtain ⟨h2, lo2, E2, f2, t2, n2, p0, p1, p2⟩ := ih (i + 1) lo1 h1 _ (by omega) E1 v1 t1 m0 m1 m2 (fun j hj => by
        by_cases e : j = i
        · rw [e, eh_l_self]
          exact (eh_l_ne G _ (Or.inl (by decide))).symm
        · rw [eh_l_ne G _ (Or.inr (show i ≠ j by omega)), eh_l_ne G _ (Or.inl (by decide))]
          exact hc j (by omega))
      exact ⟨h2, lo2, E2, (eh_fr.rf.up rfl).tr f2, t2, n2.trans n1, p0, p1, fun j hj => (p2 j hj).trans (eh_l_ne G _ (Or.inl (by decide)))⟩
theorem nml_j1 : ∀ (f i : Nat) (lo : List (Nat × Value)) (h : ri_H) (G : eh_W), i + f = 24 → eh_e cal md_252 51 lo [] h rs h' → eh_V h = G → eh_ty tM G → ri_lk lo 0 = some (.ref 0) → ri_lk lo 1 = some (.int 1) → ri_lk lo 2 = some (.int (nI i)) → (∀ j, j < i → eh_l G 16 (24 + j) = eh_l G 5 (j)) → ∃ h1 lo1, eh_e cal md_252 80 lo1 [] h1 rs h' ∧ eh_fr (pN 24) G (eh_V h1) ∧ eh_ty tM (eh_V h1) ∧ eh_N h1 = eh_N h ∧ ri_lk lo1 0 = some (.ref 0) ∧ ri_lk lo1 1 = some (.int 1) ∧ ∀ j, j < 24 → eh_l (eh_V h1) 16 (24 + j) = eh_l G 5 (j) := by
  intro f
  induction f with
  | zero =>
    intro i lo h G hf E hV ty l0 l1 l2 hc
    have z := mi_j1 E hV ty l0 l1 l2
    rw [lx_i (a := i) (by omega)] at z
    rcases z with ⟨-, h1, lo1, E1, v1, n1, t1, m0, m1, -⟩ | ⟨c, -⟩
    · exact ⟨h1, lo1, E1, by rw [v1]; exact eh_fr.rf, by rw [v1]; exact t1, n1, m0, m1, fun j hj => by rw [v1]; exact hc j (by omega)⟩
    · omega
  | succ f ih =>
    intro i lo h G hf E hV ty l0 l1 l2 hc
    have z := mi_j1 E hV ty l0 l1 l2
    rw [lx_i (a := i) (by omega), show (24 : Int32) + nI i = nI (24 + i) from lx_add 24 i, lx_cl (a := 24 + i) (by omega), lx_cl (a := i) (by omega)] at z
    rcases z with ⟨c, -⟩ | ⟨-, h1, lo1, E1, v1, n1, t1, m0, m1, m2⟩
    · omega
    · rw [lx_a1] at m2
      obtain ⟨h2, lo2, E2, f2, t2, n2, p0, p1, p2⟩ := ih (i + 1) lo1 h1 _ (by omega) E1 v1 t1 m0 m1 m2 (fun j hj => by
        by_cases e : j = i
        · rw [e, eh_l_self]
          exact (eh_l_ne G _ (Or.inl (by decide))).symm
        · rw [eh_l_ne G _ (Or.inr (show 24 + i ≠ 24 + j by omega)), eh_l_ne G _ (Or.inl (by decide))]
          exact hc j (by omega))
      exact ⟨h2, lo2, E2, (eh_fr.rf.up (pN_in (show i < 24 by omega))).tr f2, t2, n2.trans n1, p0, p1, fun j hj => (p2 j hj).trans (eh_l_ne G _ (Or.inl (by decide)))⟩
theorem nml_s1 : ∀ (f i : Nat) (lo : List (Nat × Value)) (h : ri_H) (G : eh_W), i + f = 24 → eh_e cal md_253 60 lo [] h rs h' → eh_V h = G → eh_ty tM G → ri_lk lo 0 = some (.ref 0) → ri_lk lo 1 = some (.int 1) → ri_lk lo 2 = some (.int (nI i)) → (∀ j, j < i → eh_l G 5 (j) = eh_l G 16 (24 + j)) → ∃ h1 lo1, eh_e cal md_253 89 lo1 [] h1 rs h' ∧ eh_fr (pK 5) G (eh_V h1) ∧ eh_ty tM (eh_V h1) ∧ eh_N h1 = eh_N h ∧ ri_lk lo1 0 = some (.ref 0) ∧ ri_lk lo1 1 = some (.int 1) ∧ ∀ j, j < 24 → eh_l (eh_V h1) 5 (j) = eh_l G 16 (24 + j) := by
  intro f
  induction f with
  | zero =>
    intro i lo h G hf E hV ty l0 l1 l2 hc
    have z := mr_j1 E hV ty l0 l1 l2
    rw [lx_i (a := i) (by omega)] at z
    rcases z with ⟨-, h1, lo1, E1, v1, n1, t1, m0, m1, -⟩ | ⟨c, -⟩
    · exact ⟨h1, lo1, E1, by rw [v1]; exact eh_fr.rf, by rw [v1]; exact t1, n1, m0, m1, fun j hj => by rw [v1]; exact hc j (by omega)⟩
    · omega
  | succ f ih =>
    intro i lo h G hf E hV ty l0 l1 l2 hc
    have z := mr_j1 E hV ty l0 l1 l2
    rw [lx_i (a := i) (by omega), show (24 : Int32) + nI i = nI (24 + i) from lx_add 24 i, lx_cl (a := 24 + i) (by omega), lx_cl (a := i) (by omega)] at z
    rcases z with ⟨c, -⟩ | ⟨-, h1, lo1, E1, v1, n1, t1, m0, m1, m2⟩
    · omega
    · rw [lx_a1] at m2
      obtain ⟨h2, lo2, E2, f2, t2, n2, p0, p1, p2⟩ := ih (i + 1) lo1 h1 _ (by omega) E1 v1 t1 m0 m1 m2 (fun j hj => by
        by_cases e : j = i
        · rw [e, eh_l_self]
          exact (eh_l_ne G _ (Or.inl (by decide))).symm
        · rw [eh_l_ne G _ (Or.inr (show i ≠ j by omega)), eh_l_ne G _ (Or.inl (by decide))]
          exact hc j (by omega))
      exact ⟨h2, lo2, E2, (eh_fr.rf.up rfl).tr f2, t2, n2.trans n1, p0, p1, fun j hj => (p2 j hj).trans (eh_l_ne G _ (Or.inl (by decide)))⟩
end NIL
/-- image at 0: names -/
theorem n_im0 {d : Nat} {h h' : ri_H} {v : Option Value} {G : eh_W} (E : ri_calE ri_md (d + 2) 252 [.ref 0, .int 0] h = some (v, h')) (hV : eh_V h = G) (ty : eh_ty tM G) : (∀ j, j < 24 → eh_l (eh_V h') 16 (0 + j) = eh_l G 5 j) ∧ (∀ j, (j < 0 ∨ 0 + 24 ≤ j) → eh_l (eh_V h') 16 j = eh_l G 16 j) ∧ (∀ j, eh_l (eh_V h') 5 j = eh_l G 5 j) := by
  obtain ⟨rs, hrs, E⟩ := eh_in E (q := md_252) rfl
  obtain ⟨h1, lo1, E, v1, n1, t1, l0, l1, l2⟩ := mi_a0 E hV ty rfl rfl
  obtain ⟨h2, lo2, E, f2, t2, n2, l0, l1, -⟩ := ml_i0 355 0 lo1 h1 _ (by omega) E v1 t1 l0 l1 l2 (fun j hj => absurd hj (Nat.not_lt_zero j))
  obtain ⟨h3, lo3, E, v3, n3, t3, l0, l1, l2⟩ := mi_b0 E rfl t2 l0 l1
  obtain ⟨h4, lo4, E, f4, t4, n4, l0, l1, c4⟩ := nml_j0 24 0 lo3 h3 _ (by omega) E v3 t3 l0 l1 l2 (fun j hj => absurd hj (Nat.not_lt_zero j))
  obtain ⟨r1, r2, r3⟩ := mi_z0 E rfl t4 l0 l1
  rw [r2]
  refine ⟨fun j hj => ?_, fun j hj => ?_, fun j => ?_⟩
  · exact (show _ = eh_l (eh_V h4) 16 (0 + j) from rfl).trans ((c4 j hj).trans (f2.l (pI_out (Or.inl (by decide)))))
  · exact (show _ = eh_l (eh_V h4) 16 j from rfl).trans ((f4.l (pN_out (Or.inr hj))).trans (f2.l (pI_out (Or.inl (by decide)))))
  · exact (show _ = eh_l (eh_V h4) 5 j from rfl).trans ((f4.l (pN_out (Or.inl (by decide)))).trans (f2.l (pI_out (Or.inl (by decide)))))
/-- restore at 0: names -/
theorem n_re0 {d : Nat} {h h' : ri_H} {v : Option Value} {G : eh_W} (E : ri_calE ri_md (d + 2) 253 [.ref 0, .int 0] h = some (v, h')) (hV : eh_V h = G) (ty : eh_ty tM G) : (∀ j, eh_l (eh_V h') 16 j = eh_l G 16 j) ∧ ((eh_i G 17 0 = 0 ∧ ∀ j, eh_l (eh_V h') 5 j = eh_l G 5 j) ∨ (¬ eh_i G 17 0 = 0 ∧ ∀ j, j < 24 → eh_l (eh_V h') 5 j = eh_l G 16 (0 + j))) := by
  obtain ⟨rs, hrs, E⟩ := eh_in E (q := md_253) rfl
  rcases mr_a0 E hV ty rfl rfl with ⟨c, h1, lo1, E, v1, n1, t1, l0, l1, l2⟩ | ⟨c, r1, r2, r3⟩
  · obtain ⟨h2, lo2, E, f2, t2, n2, l0, l1, -⟩ := ml_r0 355 0 lo1 h1 _ (by omega) E v1 t1 l0 l1 l2 (fun j hj => absurd hj (Nat.not_lt_zero j))
    obtain ⟨h3, lo3, E, v3, n3, t3, l0, l1, l2⟩ := mr_b0 E rfl t2 l0 l1
    obtain ⟨h4, lo4, E, f4, t4, n4, l0, l1, c4⟩ := nml_s0 24 0 lo3 h3 _ (by omega) E v3 t3 l0 l1 l2 (fun j hj => absurd hj (Nat.not_lt_zero j))
    obtain ⟨r1, r2, r3⟩ := mr_z0 E rfl t4 l0 l1
    rw [r2]
    refine ⟨fun j => ?_, Or.inr ⟨c, fun j hj => ?_⟩⟩
    · exact (show _ = eh_l (eh_V h4) 16 j from rfl).trans ((f4.l rfl).trans (f2.l rfl))
    · exact (show _ = eh_l (eh_V h4) 5 j from rfl).trans ((c4 j hj).trans (f2.l rfl))
  · rw [r2]
    exact ⟨fun _ => rfl, Or.inl ⟨c, fun _ => rfl⟩⟩
/-- the class's -/
theorem nc_im0 {d : Nat} {h h' : ri_H} {v : Option Value} {G : eh_W} (E : ri_calE ri_md (d + 2) 141 [.ref 0, .int 0] h = some (v, h')) (hV : eh_V h = G) (ty : eh_ty tC G) (hl : (eh_N h).take 209 = NCl) : ∀ i, i < 24 → eh_V h' 153 i = G 32 i ∧ eh_V h' 154 i = G 33 i ∧ eh_V h' 155 i = G 34 i := by
  obtain ⟨r1, r2, r3⟩ := im_0 E hV ty hl
  intro i hi
  rw [r2]
  exact ⟨(show _ = (bif Nat.blt i 24 then G 32 i else G 153 i) from rfl).trans (cp_b hi), (show _ = (bif Nat.blt i 24 then G 33 i else G 154 i) from rfl).trans (cp_b hi), (show _ = (bif Nat.blt i 24 then G 34 i else G 155 i) from rfl).trans (cp_b hi)⟩
theorem nc_re0 {d : Nat} {h h' : ri_H} {v : Option Value} {G : eh_W} (E : ri_calE ri_md (d + 2) 142 [.ref 0, .int 0] h = some (v, h')) (hV : eh_V h = G) (ty : eh_ty tC G) (hl : (eh_N h).take 209 = NCl) : (eh_i G 143 3 = 0 ∧ eh_V h' = G) ∨ (¬ eh_i G 143 3 = 0 ∧ ∀ i, i < 24 → eh_V h' 32 i = G 153 i ∧ eh_V h' 33 i = G 154 i ∧ eh_V h' 34 i = G 155 i) := by
  rcases re_0 E hV ty hl with ⟨c, r1, r2, r3⟩ | ⟨c, r1, r2, r3⟩
  · refine Or.inr ⟨c, fun i hi => ?_⟩
    rw [r2]
    exact ⟨(show _ = (bif Nat.blt i 24 then G 153 i else G 32 i) from rfl).trans (cp_b hi), (show _ = (bif Nat.blt i 24 then G 154 i else G 33 i) from rfl).trans (cp_b hi), (show _ = (bif Nat.blt i 24 then G 155 i else G 34 i) from rfl).trans (cp_b hi)⟩
  · exact Or.inl ⟨c, r2⟩
/-- image at 1: names -/
theorem n_im1 {d : Nat} {h h' : ri_H} {v : Option Value} {G : eh_W} (E : ri_calE ri_md (d + 2) 252 [.ref 0, .int 1] h = some (v, h')) (hV : eh_V h = G) (ty : eh_ty tM G) : (∀ j, j < 24 → eh_l (eh_V h') 16 (24 + j) = eh_l G 5 j) ∧ (∀ j, (j < 24 ∨ 24 + 24 ≤ j) → eh_l (eh_V h') 16 j = eh_l G 16 j) ∧ (∀ j, eh_l (eh_V h') 5 j = eh_l G 5 j) := by
  obtain ⟨rs, hrs, E⟩ := eh_in E (q := md_252) rfl
  obtain ⟨h1, lo1, E, v1, n1, t1, l0, l1, l2⟩ := mi_a1 E hV ty rfl rfl
  obtain ⟨h2, lo2, E, f2, t2, n2, l0, l1, -⟩ := ml_i1 355 0 lo1 h1 _ (by omega) E v1 t1 l0 l1 l2 (fun j hj => absurd hj (Nat.not_lt_zero j))
  obtain ⟨h3, lo3, E, v3, n3, t3, l0, l1, l2⟩ := mi_b1 E rfl t2 l0 l1
  obtain ⟨h4, lo4, E, f4, t4, n4, l0, l1, c4⟩ := nml_j1 24 0 lo3 h3 _ (by omega) E v3 t3 l0 l1 l2 (fun j hj => absurd hj (Nat.not_lt_zero j))
  obtain ⟨r1, r2, r3⟩ := mi_z1 E rfl t4 l0 l1
  rw [r2]
  refine ⟨fun j hj => ?_, fun j hj => ?_, fun j => ?_⟩
  · exact (show _ = eh_l (eh_V h4) 16 (24 + j) from rfl).trans ((c4 j hj).trans (f2.l (pI_out (Or.inl (by decide)))))
  · exact (show _ = eh_l (eh_V h4) 16 j from rfl).trans ((f4.l (pN_out (Or.inr hj))).trans (f2.l (pI_out (Or.inl (by decide)))))
  · exact (show _ = eh_l (eh_V h4) 5 j from rfl).trans ((f4.l (pN_out (Or.inl (by decide)))).trans (f2.l (pI_out (Or.inl (by decide)))))
/-- restore at 1: names -/
theorem n_re1 {d : Nat} {h h' : ri_H} {v : Option Value} {G : eh_W} (E : ri_calE ri_md (d + 2) 253 [.ref 0, .int 1] h = some (v, h')) (hV : eh_V h = G) (ty : eh_ty tM G) : (∀ j, eh_l (eh_V h') 16 j = eh_l G 16 j) ∧ ((eh_i G 17 1 = 0 ∧ ∀ j, eh_l (eh_V h') 5 j = eh_l G 5 j) ∨ (¬ eh_i G 17 1 = 0 ∧ ∀ j, j < 24 → eh_l (eh_V h') 5 j = eh_l G 16 (24 + j))) := by
  obtain ⟨rs, hrs, E⟩ := eh_in E (q := md_253) rfl
  rcases mr_a1 E hV ty rfl rfl with ⟨c, h1, lo1, E, v1, n1, t1, l0, l1, l2⟩ | ⟨c, r1, r2, r3⟩
  · obtain ⟨h2, lo2, E, f2, t2, n2, l0, l1, -⟩ := ml_r1 355 0 lo1 h1 _ (by omega) E v1 t1 l0 l1 l2 (fun j hj => absurd hj (Nat.not_lt_zero j))
    obtain ⟨h3, lo3, E, v3, n3, t3, l0, l1, l2⟩ := mr_b1 E rfl t2 l0 l1
    obtain ⟨h4, lo4, E, f4, t4, n4, l0, l1, c4⟩ := nml_s1 24 0 lo3 h3 _ (by omega) E v3 t3 l0 l1 l2 (fun j hj => absurd hj (Nat.not_lt_zero j))
    obtain ⟨r1, r2, r3⟩ := mr_z1 E rfl t4 l0 l1
    rw [r2]
    refine ⟨fun j => ?_, Or.inr ⟨c, fun j hj => ?_⟩⟩
    · exact (show _ = eh_l (eh_V h4) 16 j from rfl).trans ((f4.l rfl).trans (f2.l rfl))
    · exact (show _ = eh_l (eh_V h4) 5 j from rfl).trans ((c4 j hj).trans (f2.l rfl))
  · rw [r2]
    exact ⟨fun _ => rfl, Or.inl ⟨c, fun _ => rfl⟩⟩
/-- the class's -/
theorem nc_im1 {d : Nat} {h h' : ri_H} {v : Option Value} {G : eh_W} (E : ri_calE ri_md (d + 2) 141 [.ref 0, .int 1] h = some (v, h')) (hV : eh_V h = G) (ty : eh_ty tC G) (hl : (eh_N h).take 209 = NCl) : ∀ i, i < 24 → eh_V h' 181 i = G 32 i ∧ eh_V h' 182 i = G 33 i ∧ eh_V h' 183 i = G 34 i := by
  obtain ⟨r1, r2, r3⟩ := im_1 E hV ty hl
  intro i hi
  rw [r2]
  exact ⟨(show _ = (bif Nat.blt i 24 then G 32 i else G 181 i) from rfl).trans (cp_b hi), (show _ = (bif Nat.blt i 24 then G 33 i else G 182 i) from rfl).trans (cp_b hi), (show _ = (bif Nat.blt i 24 then G 34 i else G 183 i) from rfl).trans (cp_b hi)⟩
theorem nc_re1 {d : Nat} {h h' : ri_H} {v : Option Value} {G : eh_W} (E : ri_calE ri_md (d + 2) 142 [.ref 0, .int 1] h = some (v, h')) (hV : eh_V h = G) (ty : eh_ty tC G) (hl : (eh_N h).take 209 = NCl) : (eh_i G 171 3 = 0 ∧ eh_V h' = G) ∨ (¬ eh_i G 171 3 = 0 ∧ ∀ i, i < 24 → eh_V h' 32 i = G 181 i ∧ eh_V h' 33 i = G 182 i ∧ eh_V h' 34 i = G 183 i) := by
  rcases re_1 E hV ty hl with ⟨c, r1, r2, r3⟩ | ⟨c, r1, r2, r3⟩
  · refine Or.inr ⟨c, fun i hi => ?_⟩
    rw [r2]
    exact ⟨(show _ = (bif Nat.blt i 24 then G 181 i else G 32 i) from rfl).trans (cp_b hi), (show _ = (bif Nat.blt i 24 then G 182 i else G 33 i) from rfl).trans (cp_b hi), (show _ = (bif Nat.blt i 24 then G 183 i else G 34 i) from rfl).trans (cp_b hi)⟩
  · exact Or.inl ⟨c, r2⟩
