/-! the loops of image and restore (reference) -/
def pI (o k i : Nat) : Bool := Nat.beq k 15 && (Nat.ble o i && Nat.blt i (o + 355))
theorem pI_in {o j : Nat} (h : j < 355) : pI o 15 (o + j) = true := by
  unfold pI
  rw [Nat.ble_eq.mpr (by omega), Nat.blt_eq.mpr (by omega)]
  rfl
theorem pI_out {o k i : Nat} (h : k ≠ 15 ∨ i < o ∨ o + 355 ≤ i) : pI o k i = false := by
  cases e : pI o k i with
  | false => rfl
  | true =>
    unfold pI at e
    rw [Bool.and_eq_true, Bool.and_eq_true] at e
    have e1 := Nat.eq_of_beq_eq_true e.1
    have e2 := Nat.ble_eq.mp e.2.1
    have e3 := Nat.blt_eq.mp e.2.2
    omega
def pK (c k _i : Nat) : Bool := Nat.beq k c
section ILP
variable {cal : eh_K} {rs : List Value} {h' : ri_H}
theorem ml_i0 : ∀ (f i : Nat) (lo : List (Nat × Value)) (h : ri_H) (G : eh_W), i + f = 355 → eh_e cal md_252 18 lo [] h rs h' → eh_V h = G → eh_ty tM G → ri_lk lo 0 = some (.ref 0) → ri_lk lo 1 = some (.int 0) → ri_lk lo 2 = some (.int (nI i)) → (∀ j, j < i → eh_i G 15 (0 + j) = eh_i G 2 (0 + j)) → ∃ h1 lo1, eh_e cal md_252 49 lo1 [] h1 rs h' ∧ eh_fr (pI 0) G (eh_V h1) ∧ eh_ty tM (eh_V h1) ∧ eh_N h1 = eh_N h ∧ ri_lk lo1 0 = some (.ref 0) ∧ ri_lk lo1 1 = some (.int 0) ∧ ∀ j, j < 355 → eh_i (eh_V h1) 15 (0 + j) = eh_i G 2 (0 + j) := by
  intro f
  induction f with
  | zero =>
    intro i lo h G hf E hV ty l0 l1 l2 hc
    have z := mi_i0 E hV ty l0 l1 l2
    rw [lx_i (a := i) (by omega)] at z
    rcases z with ⟨-, h1, lo1, E1, v1, n1, t1, m0, m1, -⟩ | ⟨c, -⟩
    · exact ⟨h1, lo1, E1, by rw [v1]; exact eh_fr.rf, by rw [v1]; exact t1, n1, m0, m1, fun j hj => by rw [v1]; exact hc j (by omega)⟩
    · omega
  | succ f ih =>
    intro i lo h G hf E hV ty l0 l1 l2 hc
    have z := mi_i0 E hV ty l0 l1 l2
    rw [lx_i (a := i) (by omega), show (0 : Int32) + nI i = nI (0 + i) from lx_add 0 i, lx_cl (a := 0 + i) (by omega), lx_cl (a := i) (by omega)] at z
    rcases z with ⟨c, -⟩ | ⟨-, h1, lo1, E1, v1, n1, t1, m0, m1, m2⟩
    · omega
    · rw [lx_a1] at m2
      obtain ⟨h2, lo2, E2, f2, t2, n2, p0, p1, p2⟩ := ih (i + 1) lo1 h1 _ (by omega) E1 v1 t1 m0 m1 m2 (fun j hj => by
        by_cases e : j = i
        · subst e
          rw [eh_i_self]
          show eh_i G 2 j = eh_i G 2 (0 + j)
          rw [Nat.zero_add]
        · rw [eh_i_ne G _ (Or.inr (show 0 + i ≠ 0 + j by omega))]
          exact hc j (by omega))
      exact ⟨h2, lo2, E2, (eh_fr.rf.up (pI_in (show i < 355 by omega))).tr f2, t2, n2.trans n1, p0, p1, fun j hj => (p2 j hj).trans rfl⟩
theorem ml_j0 : ∀ (f i : Nat) (lo : List (Nat × Value)) (h : ri_H) (G : eh_W), i + f = 24 → eh_e cal md_252 51 lo [] h rs h' → eh_V h = G → eh_ty tM G → ri_lk lo 0 = some (.ref 0) → ri_lk lo 1 = some (.int 0) → ri_lk lo 2 = some (.int (nI i)) → ∃ h1 lo1, eh_e cal md_252 80 lo1 [] h1 rs h' ∧ eh_fr (pK 16) G (eh_V h1) ∧ eh_ty tM (eh_V h1) ∧ eh_N h1 = eh_N h ∧ ri_lk lo1 0 = some (.ref 0) ∧ ri_lk lo1 1 = some (.int 0) := by
  intro f
  induction f with
  | zero =>
    intro i lo h G hf E hV ty l0 l1 l2
    have z := mi_j0 E hV ty l0 l1 l2
    rw [lx_i (a := i) (by omega)] at z
    rcases z with ⟨-, h1, lo1, E1, v1, n1, t1, m0, m1, -⟩ | ⟨c, -⟩
    · exact ⟨h1, lo1, E1, by rw [v1]; exact eh_fr.rf, by rw [v1]; exact t1, n1, m0, m1⟩
    · omega
  | succ f ih =>
    intro i lo h G hf E hV ty l0 l1 l2
    have z := mi_j0 E hV ty l0 l1 l2
    rw [lx_i (a := i) (by omega), show (0 : Int32) + nI i = nI (0 + i) from lx_add 0 i, lx_cl (a := 0 + i) (by omega), lx_cl (a := i) (by omega)] at z
    rcases z with ⟨c, -⟩ | ⟨-, h1, lo1, E1, v1, n1, t1, m0, m1, m2⟩
    · omega
    · rw [lx_a1] at m2
      obtain ⟨h2, lo2, E2, f2, t2, n2, p0, p1⟩ := ih (i + 1) lo1 h1 _ (by omega) E1 v1 t1 m0 m1 m2
      exact ⟨h2, lo2, E2, (eh_fr.rf.up rfl).tr f2, t2, n2.trans n1, p0, p1⟩
theorem ml_r0 : ∀ (f i : Nat) (lo : List (Nat × Value)) (h : ri_H) (G : eh_W), i + f = 355 → eh_e cal md_253 27 lo [] h rs h' → eh_V h = G → eh_ty tM G → ri_lk lo 0 = some (.ref 0) → ri_lk lo 1 = some (.int 0) → ri_lk lo 2 = some (.int (nI i)) → (∀ j, j < i → eh_i G 2 (0 + j) = eh_i G 15 (0 + j)) → ∃ h1 lo1, eh_e cal md_253 58 lo1 [] h1 rs h' ∧ eh_fr (pK 2) G (eh_V h1) ∧ eh_ty tM (eh_V h1) ∧ eh_N h1 = eh_N h ∧ ri_lk lo1 0 = some (.ref 0) ∧ ri_lk lo1 1 = some (.int 0) ∧ ∀ j, j < 355 → eh_i (eh_V h1) 2 (0 + j) = eh_i G 15 (0 + j) := by
  intro f
  induction f with
  | zero =>
    intro i lo h G hf E hV ty l0 l1 l2 hc
    have z := mr_i0 E hV ty l0 l1 l2
    rw [lx_i (a := i) (by omega)] at z
    rcases z with ⟨-, h1, lo1, E1, v1, n1, t1, m0, m1, -⟩ | ⟨c, -⟩
    · exact ⟨h1, lo1, E1, by rw [v1]; exact eh_fr.rf, by rw [v1]; exact t1, n1, m0, m1, fun j hj => by rw [v1]; exact hc j (by omega)⟩
    · omega
  | succ f ih =>
    intro i lo h G hf E hV ty l0 l1 l2 hc
    have z := mr_i0 E hV ty l0 l1 l2
    rw [lx_i (a := i) (by omega), show (0 : Int32) + nI i = nI (0 + i) from lx_add 0 i, lx_cl (a := 0 + i) (by omega), lx_cl (a := i) (by omega)] at z
    rcases z with ⟨c, -⟩ | ⟨-, h1, lo1, E1, v1, n1, t1, m0, m1, m2⟩
    · omega
    · rw [lx_a1] at m2
      obtain ⟨h2, lo2, E2, f2, t2, n2, p0, p1, p2⟩ := ih (i + 1) lo1 h1 _ (by omega) E1 v1 t1 m0 m1 m2 (fun j hj => by
        by_cases e : j = i
        · subst e
          rw [Nat.zero_add, eh_i_self]
          rfl
        · rw [eh_i_ne G _ (Or.inr (show i ≠ 0 + j by omega))]
          exact hc j (by omega))
      exact ⟨h2, lo2, E2, (eh_fr.rf.up rfl).tr f2, t2, n2.trans n1, p0, p1, fun j hj => (p2 j hj).trans rfl⟩
theorem ml_s0 : ∀ (f i : Nat) (lo : List (Nat × Value)) (h : ri_H) (G : eh_W), i + f = 24 → eh_e cal md_253 60 lo [] h rs h' → eh_V h = G → eh_ty tM G → ri_lk lo 0 = some (.ref 0) → ri_lk lo 1 = some (.int 0) → ri_lk lo 2 = some (.int (nI i)) → ∃ h1 lo1, eh_e cal md_253 89 lo1 [] h1 rs h' ∧ eh_fr (pK 5) G (eh_V h1) ∧ eh_ty tM (eh_V h1) ∧ eh_N h1 = eh_N h ∧ ri_lk lo1 0 = some (.ref 0) ∧ ri_lk lo1 1 = some (.int 0) := by
  intro f
  induction f with
  | zero =>
    intro i lo h G hf E hV ty l0 l1 l2
    have z := mr_j0 E hV ty l0 l1 l2
    rw [lx_i (a := i) (by omega)] at z
    rcases z with ⟨-, h1, lo1, E1, v1, n1, t1, m0, m1, -⟩ | ⟨c, -⟩
    · exact ⟨h1, lo1, E1, by rw [v1]; exact eh_fr.rf, by rw [v1]; exact t1, n1, m0, m1⟩
    · omega
  | succ f ih =>
    intro i lo h G hf E hV ty l0 l1 l2
    have z := mr_j0 E hV ty l0 l1 l2
    rw [lx_i (a := i) (by omega), show (0 : Int32) + nI i = nI (0 + i) from lx_add 0 i, lx_cl (a := 0 + i) (by omega), lx_cl (a := i) (by omega)] at z
    rcases z with ⟨c, -⟩ | ⟨-, h1, lo1, E1, v1, n1, t1, m0, m1, m2⟩
    · omega
    · rw [lx_a1] at m2
      obtain ⟨h2, lo2, E2, f2, t2, n2, p0, p1⟩ := ih (i + 1) lo1 h1 _ (by omega) E1 v1 t1 m0 m1 m2
      exact ⟨h2, lo2, E2, (eh_fr.rf.up rfl).tr f2, t2, n2.trans n1, p0, p1⟩
theorem ml_i1 : ∀ (f i : Nat) (lo : List (Nat × Value)) (h : ri_H) (G : eh_W), i + f = 355 → eh_e cal md_252 18 lo [] h rs h' → eh_V h = G → eh_ty tM G → ri_lk lo 0 = some (.ref 0) → ri_lk lo 1 = some (.int 1) → ri_lk lo 2 = some (.int (nI i)) → (∀ j, j < i → eh_i G 15 (355 + j) = eh_i G 2 (0 + j)) → ∃ h1 lo1, eh_e cal md_252 49 lo1 [] h1 rs h' ∧ eh_fr (pI 355) G (eh_V h1) ∧ eh_ty tM (eh_V h1) ∧ eh_N h1 = eh_N h ∧ ri_lk lo1 0 = some (.ref 0) ∧ ri_lk lo1 1 = some (.int 1) ∧ ∀ j, j < 355 → eh_i (eh_V h1) 15 (355 + j) = eh_i G 2 (0 + j) := by
  intro f
  induction f with
  | zero =>
    intro i lo h G hf E hV ty l0 l1 l2 hc
    have z := mi_i1 E hV ty l0 l1 l2
    rw [lx_i (a := i) (by omega)] at z
    rcases z with ⟨-, h1, lo1, E1, v1, n1, t1, m0, m1, -⟩ | ⟨c, -⟩
    · exact ⟨h1, lo1, E1, by rw [v1]; exact eh_fr.rf, by rw [v1]; exact t1, n1, m0, m1, fun j hj => by rw [v1]; exact hc j (by omega)⟩
    · omega
  | succ f ih =>
    intro i lo h G hf E hV ty l0 l1 l2 hc
    have z := mi_i1 E hV ty l0 l1 l2
    rw [lx_i (a := i) (by omega), show (355 : Int32) + nI i = nI (355 + i) from lx_add 355 i, lx_cl (a := 355 + i) (by omega), lx_cl (a := i) (by omega)] at z
    rcases z with ⟨c, -⟩ | ⟨-, h1, lo1, E1, v1, n1, t1, m0, m1, m2⟩
    · omega
    · rw [lx_a1] at m2
      obtain ⟨h2, lo2, E2, f2, t2, n2, p0, p1, p2⟩ := ih (i + 1) lo1 h1 _ (by omega) E1 v1 t1 m0 m1 m2 (fun j hj => by
        by_cases e : j = i
        · subst e
          rw [eh_i_self]
          show eh_i G 2 j = eh_i G 2 (0 + j)
          rw [Nat.zero_add]
        · rw [eh_i_ne G _ (Or.inr (show 355 + i ≠ 355 + j by omega))]
          exact hc j (by omega))
      exact ⟨h2, lo2, E2, (eh_fr.rf.up (pI_in (show i < 355 by omega))).tr f2, t2, n2.trans n1, p0, p1, fun j hj => (p2 j hj).trans rfl⟩
theorem ml_j1 : ∀ (f i : Nat) (lo : List (Nat × Value)) (h : ri_H) (G : eh_W), i + f = 24 → eh_e cal md_252 51 lo [] h rs h' → eh_V h = G → eh_ty tM G → ri_lk lo 0 = some (.ref 0) → ri_lk lo 1 = some (.int 1) → ri_lk lo 2 = some (.int (nI i)) → ∃ h1 lo1, eh_e cal md_252 80 lo1 [] h1 rs h' ∧ eh_fr (pK 16) G (eh_V h1) ∧ eh_ty tM (eh_V h1) ∧ eh_N h1 = eh_N h ∧ ri_lk lo1 0 = some (.ref 0) ∧ ri_lk lo1 1 = some (.int 1) := by
  intro f
  induction f with
  | zero =>
    intro i lo h G hf E hV ty l0 l1 l2
    have z := mi_j1 E hV ty l0 l1 l2
    rw [lx_i (a := i) (by omega)] at z
    rcases z with ⟨-, h1, lo1, E1, v1, n1, t1, m0, m1, -⟩ | ⟨c, -⟩
    · exact ⟨h1, lo1, E1, by rw [v1]; exact eh_fr.rf, by rw [v1]; exact t1, n1, m0, m1⟩
    · omega
  | succ f ih =>
    intro i lo h G hf E hV ty l0 l1 l2
    have z := mi_j1 E hV ty l0 l1 l2
    rw [lx_i (a := i) (by omega), show (24 : Int32) + nI i = nI (24 + i) from lx_add 24 i, lx_cl (a := 24 + i) (by omega), lx_cl (a := i) (by omega)] at z
    rcases z with ⟨c, -⟩ | ⟨-, h1, lo1, E1, v1, n1, t1, m0, m1, m2⟩
    · omega
    · rw [lx_a1] at m2
      obtain ⟨h2, lo2, E2, f2, t2, n2, p0, p1⟩ := ih (i + 1) lo1 h1 _ (by omega) E1 v1 t1 m0 m1 m2
      exact ⟨h2, lo2, E2, (eh_fr.rf.up rfl).tr f2, t2, n2.trans n1, p0, p1⟩
theorem ml_r1 : ∀ (f i : Nat) (lo : List (Nat × Value)) (h : ri_H) (G : eh_W), i + f = 355 → eh_e cal md_253 27 lo [] h rs h' → eh_V h = G → eh_ty tM G → ri_lk lo 0 = some (.ref 0) → ri_lk lo 1 = some (.int 1) → ri_lk lo 2 = some (.int (nI i)) → (∀ j, j < i → eh_i G 2 (0 + j) = eh_i G 15 (355 + j)) → ∃ h1 lo1, eh_e cal md_253 58 lo1 [] h1 rs h' ∧ eh_fr (pK 2) G (eh_V h1) ∧ eh_ty tM (eh_V h1) ∧ eh_N h1 = eh_N h ∧ ri_lk lo1 0 = some (.ref 0) ∧ ri_lk lo1 1 = some (.int 1) ∧ ∀ j, j < 355 → eh_i (eh_V h1) 2 (0 + j) = eh_i G 15 (355 + j) := by
  intro f
  induction f with
  | zero =>
    intro i lo h G hf E hV ty l0 l1 l2 hc
    have z := mr_i1 E hV ty l0 l1 l2
    rw [lx_i (a := i) (by omega)] at z
    rcases z with ⟨-, h1, lo1, E1, v1, n1, t1, m0, m1, -⟩ | ⟨c, -⟩
    · exact ⟨h1, lo1, E1, by rw [v1]; exact eh_fr.rf, by rw [v1]; exact t1, n1, m0, m1, fun j hj => by rw [v1]; exact hc j (by omega)⟩
    · omega
  | succ f ih =>
    intro i lo h G hf E hV ty l0 l1 l2 hc
    have z := mr_i1 E hV ty l0 l1 l2
    rw [lx_i (a := i) (by omega), show (355 : Int32) + nI i = nI (355 + i) from lx_add 355 i, lx_cl (a := 355 + i) (by omega), lx_cl (a := i) (by omega)] at z
    rcases z with ⟨c, -⟩ | ⟨-, h1, lo1, E1, v1, n1, t1, m0, m1, m2⟩
    · omega
    · rw [lx_a1] at m2
      obtain ⟨h2, lo2, E2, f2, t2, n2, p0, p1, p2⟩ := ih (i + 1) lo1 h1 _ (by omega) E1 v1 t1 m0 m1 m2 (fun j hj => by
        by_cases e : j = i
        · subst e
          rw [Nat.zero_add, eh_i_self]
          rfl
        · rw [eh_i_ne G _ (Or.inr (show i ≠ 0 + j by omega))]
          exact hc j (by omega))
      exact ⟨h2, lo2, E2, (eh_fr.rf.up rfl).tr f2, t2, n2.trans n1, p0, p1, fun j hj => (p2 j hj).trans rfl⟩
theorem ml_s1 : ∀ (f i : Nat) (lo : List (Nat × Value)) (h : ri_H) (G : eh_W), i + f = 24 → eh_e cal md_253 60 lo [] h rs h' → eh_V h = G → eh_ty tM G → ri_lk lo 0 = some (.ref 0) → ri_lk lo 1 = some (.int 1) → ri_lk lo 2 = some (.int (nI i)) → ∃ h1 lo1, eh_e cal md_253 89 lo1 [] h1 rs h' ∧ eh_fr (pK 5) G (eh_V h1) ∧ eh_ty tM (eh_V h1) ∧ eh_N h1 = eh_N h ∧ ri_lk lo1 0 = some (.ref 0) ∧ ri_lk lo1 1 = some (.int 1) := by
  intro f
  induction f with
  | zero =>
    intro i lo h G hf E hV ty l0 l1 l2
    have z := mr_j1 E hV ty l0 l1 l2
    rw [lx_i (a := i) (by omega)] at z
    rcases z with ⟨-, h1, lo1, E1, v1, n1, t1, m0, m1, -⟩ | ⟨c, -⟩
    · exact ⟨h1, lo1, E1, by rw [v1]; exact eh_fr.rf, by rw [v1]; exact t1, n1, m0, m1⟩
    · omega
  | succ f ih =>
    intro i lo h G hf E hV ty l0 l1 l2
    have z := mr_j1 E hV ty l0 l1 l2
    rw [lx_i (a := i) (by omega), show (24 : Int32) + nI i = nI (24 + i) from lx_add 24 i, lx_cl (a := 24 + i) (by omega), lx_cl (a := i) (by omega)] at z
    rcases z with ⟨c, -⟩ | ⟨-, h1, lo1, E1, v1, n1, t1, m0, m1, m2⟩
    · omega
    · rw [lx_a1] at m2
      obtain ⟨h2, lo2, E2, f2, t2, n2, p0, p1⟩ := ih (i + 1) lo1 h1 _ (by omega) E1 v1 t1 m0 m1 m2
      exact ⟨h2, lo2, E2, (eh_fr.rf.up rfl).tr f2, t2, n2.trans n1, p0, p1⟩
end ILP
/-- image at 0 (reference) -/
theorem m_im0 {d : Nat} {h h' : ri_H} {v : Option Value} {G : eh_W} (E : ri_calE ri_md (d + 2) 252 [.ref 0, .int 0] h = some (v, h')) (hV : eh_V h = G) (ty : eh_ty tM G) : (∀ j, j < 355 → eh_i (eh_V h') 15 (0 + j) = eh_i G 2 j) ∧ (∀ i, i < 0 ∨ 0 + 355 ≤ i → eh_i (eh_V h') 15 i = eh_i G 15 i) ∧ (∀ i, eh_i (eh_V h') 2 i = eh_i G 2 i) ∧ eh_i (eh_V h') 17 0 = 1 ∧ (∀ i, i ≠ 0 → eh_i (eh_V h') 17 i = eh_i G 17 i) := by
  obtain ⟨rs, hrs, E⟩ := eh_in E (q := md_252) rfl
  obtain ⟨h1, lo1, E, v1, n1, t1, l0, l1, l2⟩ := mi_a0 E hV ty rfl rfl
  obtain ⟨h2, lo2, E, f2, t2, n2, l0, l1, c2⟩ := ml_i0 355 0 lo1 h1 _ (by omega) E v1 t1 l0 l1 l2 (fun j hj => absurd hj (Nat.not_lt_zero j))
  obtain ⟨h3, lo3, E, v3, n3, t3, l0, l1, l2⟩ := mi_b0 E rfl t2 l0 l1
  obtain ⟨h4, lo4, E, f4, t4, n4, l0, l1⟩ := ml_j0 24 0 lo3 h3 _ (by omega) E v3 t3 l0 l1 l2
  obtain ⟨r1, r2, r3⟩ := mi_z0 E rfl t4 l0 l1
  rw [r2]
  refine ⟨fun j hj => ?_, fun i hi => ?_, fun i => ?_, eh_i_self _ _ _ _, fun i hi => ?_⟩
  · refine (show _ = eh_i (eh_V h4) 15 (0 + j) from rfl).trans ((f4.i rfl).trans ((c2 j hj).trans ?_))
    show eh_i G 2 (0 + j) = _
    rw [Nat.zero_add]
  · exact (show _ = eh_i (eh_V h4) 15 i from rfl).trans ((f4.i rfl).trans ((f2.i (pI_out (Or.inr hi))).trans rfl))
  · exact (show _ = eh_i (eh_V h4) 2 i from rfl).trans ((f4.i rfl).trans ((f2.i (pI_out (Or.inl (by decide)))).trans rfl))
  · refine (eh_i_ne _ _ (Or.inr (fun x => hi x.symm))).trans ((f4.i rfl).trans ((f2.i (pI_out (Or.inl (by decide)))).trans rfl))
/-- restore at 0 (reference) -/
theorem m_re0 {d : Nat} {h h' : ri_H} {v : Option Value} {G : eh_W} (E : ri_calE ri_md (d + 2) 253 [.ref 0, .int 0] h = some (v, h')) (hV : eh_V h = G) (ty : eh_ty tM G) : (∀ i, eh_i (eh_V h') 15 i = eh_i G 15 i) ∧ (∀ i, eh_i (eh_V h') 17 i = eh_i G 17 i) ∧ ((eh_i G 17 0 = 0 ∧ ∀ i, eh_i (eh_V h') 2 i = eh_i G 2 i) ∨ (¬ eh_i G 17 0 = 0 ∧ ∀ j, j < 355 → eh_i (eh_V h') 2 j = eh_i G 15 (0 + j))) := by
  obtain ⟨rs, hrs, E⟩ := eh_in E (q := md_253) rfl
  rcases mr_a0 E hV ty rfl rfl with ⟨c, h1, lo1, E, v1, n1, t1, l0, l1, l2⟩ | ⟨c, r1, r2, r3⟩
  · obtain ⟨h2, lo2, E, f2, t2, n2, l0, l1, c2⟩ := ml_r0 355 0 lo1 h1 _ (by omega) E v1 t1 l0 l1 l2 (fun j hj => absurd hj (Nat.not_lt_zero j))
    obtain ⟨h3, lo3, E, v3, n3, t3, l0, l1, l2⟩ := mr_b0 E rfl t2 l0 l1
    obtain ⟨h4, lo4, E, f4, t4, n4, l0, l1⟩ := ml_s0 24 0 lo3 h3 _ (by omega) E v3 t3 l0 l1 l2
    obtain ⟨r1, r2, r3⟩ := mr_z0 E rfl t4 l0 l1
    rw [r2]
    refine ⟨fun i => ?_, fun i => ?_, Or.inr ⟨c, fun j hj => ?_⟩⟩
    · exact (show _ = eh_i (eh_V h4) 15 i from rfl).trans ((f4.i rfl).trans ((f2.i rfl).trans rfl))
    · exact (show _ = eh_i (eh_V h4) 17 i from rfl).trans ((f4.i rfl).trans ((f2.i rfl).trans rfl))
    · have := c2 j hj
      rw [show eh_i (eh_V h2) 2 (0 + j) = eh_i (eh_V h2) 2 j from by rw [Nat.zero_add]] at this
      exact (show _ = eh_i (eh_V h4) 2 j from rfl).trans ((f4.i rfl).trans (this.trans rfl))
  · rw [r2]
    exact ⟨fun _ => rfl, fun _ => rfl, Or.inl ⟨c, fun _ => rfl⟩⟩
/-- image at 1 (reference) -/
theorem m_im1 {d : Nat} {h h' : ri_H} {v : Option Value} {G : eh_W} (E : ri_calE ri_md (d + 2) 252 [.ref 0, .int 1] h = some (v, h')) (hV : eh_V h = G) (ty : eh_ty tM G) : (∀ j, j < 355 → eh_i (eh_V h') 15 (355 + j) = eh_i G 2 j) ∧ (∀ i, i < 355 ∨ 355 + 355 ≤ i → eh_i (eh_V h') 15 i = eh_i G 15 i) ∧ (∀ i, eh_i (eh_V h') 2 i = eh_i G 2 i) ∧ eh_i (eh_V h') 17 1 = 1 ∧ (∀ i, i ≠ 1 → eh_i (eh_V h') 17 i = eh_i G 17 i) := by
  obtain ⟨rs, hrs, E⟩ := eh_in E (q := md_252) rfl
  obtain ⟨h1, lo1, E, v1, n1, t1, l0, l1, l2⟩ := mi_a1 E hV ty rfl rfl
  obtain ⟨h2, lo2, E, f2, t2, n2, l0, l1, c2⟩ := ml_i1 355 0 lo1 h1 _ (by omega) E v1 t1 l0 l1 l2 (fun j hj => absurd hj (Nat.not_lt_zero j))
  obtain ⟨h3, lo3, E, v3, n3, t3, l0, l1, l2⟩ := mi_b1 E rfl t2 l0 l1
  obtain ⟨h4, lo4, E, f4, t4, n4, l0, l1⟩ := ml_j1 24 0 lo3 h3 _ (by omega) E v3 t3 l0 l1 l2
  obtain ⟨r1, r2, r3⟩ := mi_z1 E rfl t4 l0 l1
  rw [r2]
  refine ⟨fun j hj => ?_, fun i hi => ?_, fun i => ?_, eh_i_self _ _ _ _, fun i hi => ?_⟩
  · refine (show _ = eh_i (eh_V h4) 15 (355 + j) from rfl).trans ((f4.i rfl).trans ((c2 j hj).trans ?_))
    show eh_i G 2 (0 + j) = _
    rw [Nat.zero_add]
  · exact (show _ = eh_i (eh_V h4) 15 i from rfl).trans ((f4.i rfl).trans ((f2.i (pI_out (Or.inr hi))).trans rfl))
  · exact (show _ = eh_i (eh_V h4) 2 i from rfl).trans ((f4.i rfl).trans ((f2.i (pI_out (Or.inl (by decide)))).trans rfl))
  · refine (eh_i_ne _ _ (Or.inr (fun x => hi x.symm))).trans ((f4.i rfl).trans ((f2.i (pI_out (Or.inl (by decide)))).trans rfl))
/-- restore at 1 (reference) -/
theorem m_re1 {d : Nat} {h h' : ri_H} {v : Option Value} {G : eh_W} (E : ri_calE ri_md (d + 2) 253 [.ref 0, .int 1] h = some (v, h')) (hV : eh_V h = G) (ty : eh_ty tM G) : (∀ i, eh_i (eh_V h') 15 i = eh_i G 15 i) ∧ (∀ i, eh_i (eh_V h') 17 i = eh_i G 17 i) ∧ ((eh_i G 17 1 = 0 ∧ ∀ i, eh_i (eh_V h') 2 i = eh_i G 2 i) ∨ (¬ eh_i G 17 1 = 0 ∧ ∀ j, j < 355 → eh_i (eh_V h') 2 j = eh_i G 15 (355 + j))) := by
  obtain ⟨rs, hrs, E⟩ := eh_in E (q := md_253) rfl
  rcases mr_a1 E hV ty rfl rfl with ⟨c, h1, lo1, E, v1, n1, t1, l0, l1, l2⟩ | ⟨c, r1, r2, r3⟩
  · obtain ⟨h2, lo2, E, f2, t2, n2, l0, l1, c2⟩ := ml_r1 355 0 lo1 h1 _ (by omega) E v1 t1 l0 l1 l2 (fun j hj => absurd hj (Nat.not_lt_zero j))
    obtain ⟨h3, lo3, E, v3, n3, t3, l0, l1, l2⟩ := mr_b1 E rfl t2 l0 l1
    obtain ⟨h4, lo4, E, f4, t4, n4, l0, l1⟩ := ml_s1 24 0 lo3 h3 _ (by omega) E v3 t3 l0 l1 l2
    obtain ⟨r1, r2, r3⟩ := mr_z1 E rfl t4 l0 l1
    rw [r2]
    refine ⟨fun i => ?_, fun i => ?_, Or.inr ⟨c, fun j hj => ?_⟩⟩
    · exact (show _ = eh_i (eh_V h4) 15 i from rfl).trans ((f4.i rfl).trans ((f2.i rfl).trans rfl))
    · exact (show _ = eh_i (eh_V h4) 17 i from rfl).trans ((f4.i rfl).trans ((f2.i rfl).trans rfl))
    · have := c2 j hj
      rw [show eh_i (eh_V h2) 2 (0 + j) = eh_i (eh_V h2) 2 j from by rw [Nat.zero_add]] at this
      exact (show _ = eh_i (eh_V h4) 2 j from rfl).trans ((f4.i rfl).trans (this.trans rfl))
  · rw [r2]
    exact ⟨fun _ => rfl, fun _ => rfl, Or.inl ⟨c, fun _ => rfl⟩⟩
