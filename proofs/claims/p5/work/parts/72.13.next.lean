/-! next: what it leaves (TM) -/
def iM (b : Nat → Int32) (n m : Nat) (G : eh_W) : Prop := eh_ty tM G ∧ (eh_i G 0 3 = nI n ∧ eh_i G 0 5 = nI m ∧ n ≤ 940 ∧ m ≤ 940 ∧ (∀ i, i < n → eh_i G 1 i = b i) ∧ (∀ k, k < 24 → eh_l G 6 k = lx_Wd k) ∧ (∀ i, i < n → -128 ≤ (b i).toInt ∧ (b i).toInt ≤ 127) ∧ eh_i G 0 19 = b 940 ∧ (∀ k i, k = 2 ∨ (7 ≤ k ∧ k < 100) → i < 1000 → eh_i G k i = b (1000 * k + i))) ∧ ∃ x, x ≤ n ∧ eh_i G 0 4 = nI x
def pMi (k i : Nat) : Bool := !((Nat.beq k 2 || Nat.ble 7 k) || (Nat.beq k 1 || (Nat.beq k 6 || (Nat.beq k 0 && ((Nat.ble 3 i && Nat.ble i 5) || Nat.beq i 19)))))
theorem iM_u {b : Nat → Int32} {n m k i : Nat} {v : Value} {G : eh_W} (H : iM b n m G) (ht : eh_ty tM (eh_u G k i v)) (hp : pMi k i = true) : iM b n m (eh_u G k i v) := by
  obtain ⟨-, ⟨a1, a2, a3, a4, a5, a6, a7, a8, a9⟩, x, x1, x2⟩ := H
  unfold pMi at hp
  simp only [Bool.not_eq_true', Bool.or_eq_false_iff] at hp
  obtain ⟨⟨p4, p5⟩, p1, p3, p2⟩ := hp
  have n4 : k ≠ 2 := fun e => by rw [e] at p4; cases p4
  have n5 : k < 7 := by
    apply Nat.lt_of_not_le
    intro e
    rw [Nat.ble_eq.mpr e] at p5
    cases p5
  have n1 : k ≠ 1 := fun e => by rw [e] at p1; cases p1
  have n3 : k ≠ 6 := fun e => by rw [e] at p3; cases p3
  have n2 : ∀ j, (3 ≤ j ∧ j ≤ 5) ∨ j = 19 → k ≠ 0 ∨ i ≠ j := fun j h1 => by
    by_cases e : k = 0
    · refine Or.inr (fun e2 => ?_)
      subst e e2
      have p2 : ((Nat.ble 3 i && Nat.ble i 5) || Nat.beq i 19) = false := by
        rw [eh_bt] at p2
        exact p2
      rcases h1 with ⟨h1, h2⟩ | h1
      · rw [Nat.ble_eq.mpr h1, Nat.ble_eq.mpr h2] at p2
        cases p2
      · rw [h1] at p2
        cases p2
    · exact Or.inl e
  refine ⟨ht, ⟨?_, ?_, a3, a4, fun j hj => ?_, fun j hj => ?_, a7, ?_, fun k' i' h1 h2 => ?_⟩, x, x1, ?_⟩
  · rw [eh_i_ne G v (n2 3 (by omega))]
    exact a1
  · rw [eh_i_ne G v (n2 5 (by omega))]
    exact a2
  · rw [eh_i_ne G v (Or.inl n1)]
    exact a5 j hj
  · rw [eh_l_ne G v (Or.inl n3)]
    exact a6 j hj
  · rw [eh_i_ne G v (n2 19 (by omega))]
    exact a8
  · rw [eh_i_ne G v (Or.inl (by omega))]
    exact a9 k' i' h1 h2
  · rw [eh_i_ne G v (n2 4 (by omega))]
    exact x2
theorem iM_fr {b : Nat → Int32} {n m x : Nat} {G G' : eh_W} (H : iM b n m G) (f : eh_fr pMf G G') (ht : eh_ty tM G') (hx : x ≤ n) (h4 : eh_i G' 0 4 = nI x) : iM b n m G' := by
  obtain ⟨-, ⟨a1, a2, a3, a4, a5, a6, a7, a8, a9⟩, -⟩ := H
  exact ⟨ht, ⟨(f.i rfl).trans a1, (f.i rfl).trans a2, a3, a4, fun i hi => (f.i rfl).trans (a5 i hi), fun k hk => (f.l rfl).trans (a6 k hk), a7, (f.i rfl).trans a8, fun k i h1 h2 => (f.i (by
    unfold pMf
    rw [eh_bf (show k ≠ 0 by omega)]
    rfl)).trans (a9 k i h1 h2)⟩, x, hx, h4⟩
/-- another count of LINES -/
def bc (b : Nat → Int32) (x : Int32) (j : Nat) : Int32 := if j = 940 then x else b j
theorem bc_lt {b : Nat → Int32} {x : Int32} {j : Nat} (h : j < 940) : bc b x j = b j := if_neg (by omega)
theorem bc_gt {b : Nat → Int32} {x : Int32} {j : Nat} (h : 940 < j) : bc b x j = b j := if_neg (by omega)
theorem bc_at {b : Nat → Int32} {x : Int32} : bc b x 940 = x := if_pos rfl
theorem iM_c {b : Nat → Int32} {n m : Nat} {x : Int32} {G : eh_W} (H : iM b n m G) : iM (bc b x) n m (eh_u G 0 19 (.int x)) := by
  obtain ⟨ty, ⟨a1, a2, a3, a4, a5, a6, a7, -, a9⟩, y, y1, y2⟩ := H
  refine ⟨ty.ui rfl, ⟨a1, a2, a3, a4, fun i hi => (a5 i hi).trans (bc_lt (by omega)).symm, a6, fun i hi => ?_, (eh_i_self _ _ _ _).trans bc_at.symm, fun k i h1 h2 => ?_⟩, y, y1, y2⟩
  rotate_left
  · rw [bc_gt (by omega), ← a9 k i h1 h2]
    exact eh_i_ne _ _ (Or.inl (by omega))
  rw [bc_lt (by omega)]
  exact a7 i hi
theorem iC_c {b : Nat → Int32} {n m : Nat} {x : Int32} {G : eh_W} (H : iC b n m G) : iC (bc b x) n m G := by
  obtain ⟨ty, ⟨a1, a2, a3, a4, a5, a6, a7⟩, y, y1, y2⟩ := H
  exact ⟨ty, ⟨a1, a2, a3, a4, fun i hi => (a5 i hi).trans (bc_lt (by omega)).symm, a6, fun k i h1 h2 => (a7 k i h1 h2).trans (bc_gt (by omega)).symm⟩, y, y1, y2⟩
def lx_y (b : Nat → Int32) (n a : Nat) : Nat := lx_sk b (n - a) a
def bI (x : Bool) : Int32 := bif x then 1 else 0
def TMr (b : Nat → Int32) (n y : Nat) (G : eh_W) : Prop := eh_i G 0 4 = nI (y + lx_L b n y) ∧ ((lx_al b y (lx_L b n y) = false ∧ eh_i G 0 11 = 4) ∨ (lx_al b y (lx_L b n y) = true ∧ lx_lt (b y) = false ∧ ((lx_L b n y ≤ 3 ∧ eh_i G 0 11 = 2 ∧ eh_i G 0 14 = lx_q b y (lx_L b n y)) ∨ (3 < lx_L b n y ∧ eh_i G 0 11 = 4))) ∨ (lx_al b y (lx_L b n y) = true ∧ lx_lt (b y) = true ∧ ((lx_L b n y ≤ 7 ∧ eh_i G 0 11 = 1 ∧ eh_l G 0 17 = lx_w b y (lx_L b n y)) ∨ (7 < lx_L b n y ∧ eh_i G 0 11 = 4))))
def TMs (b : Nat → Int32) (y : Nat) (G : eh_W) : Prop := (lx_sg (b y) ∧ eh_i G 0 11 = 3 ∧ eh_i G 0 14 = b y ∧ eh_i G 0 4 = nI (y + 1)) ∨ (¬ lx_sg (b y) ∧ eh_i G 0 11 = 4)
def TM (b : Nat → Int32) (n m a : Nat) (G : eh_W) : Prop := ((m < n ∧ m ≤ lx_y b n a) ∧ eh_i G 0 11 = 4 ∧ eh_i G 0 12 = nI m) ∨ (¬ (m < n ∧ m ≤ lx_y b n a) ∧ eh_i G 0 12 = nI (lx_y b n a) ∧ ((¬ lx_y b n a < n ∧ eh_i G 0 11 = 0) ∨ (lx_y b n a < n ∧ (lx_lt (b (lx_y b n a)) || lx_dg (b (lx_y b n a))) = false ∧ TMs b (lx_y b n a) G) ∨ (lx_y b n a < n ∧ (lx_lt (b (lx_y b n a)) || lx_dg (b (lx_y b n a))) = true ∧ TMr b n (lx_y b n a) G)))
abbrev nx_P (d : Nat) (rs : List Value) (h' : ri_H) (b : Nat → Int32) (f a : Nat) (h : ri_H) (G : eh_W) : Prop := ∃ h1 lo1, eh_e (ri_calE ri_md (d + 1)) md_158 31 lo1 [] h1 rs h' ∧ eh_fr pMp G (eh_V h1) ∧ eh_ty tM (eh_V h1) ∧ eh_N h1 = eh_N h ∧ eh_i (eh_V h1) 0 4 = nI (lx_sk b f a) ∧ ri_lk lo1 0 = some (.ref 0)
abbrev nr_P (d : Nat) (rs : List Value) (h' : ri_H) (b : Nat → Int32) (s : Nat) (cc : Int32) (f k : Nat) (h : ri_H) (G : eh_W) : Prop := ∃ h1 lo1, eh_e (ri_calE ri_md (d + 1)) md_158 298 lo1 [] h1 rs h' ∧ eh_fr pMr G (eh_V h1) ∧ eh_ty tM (eh_V h1) ∧ eh_N h1 = eh_N h ∧ eh_i (eh_V h1) 0 4 = nI (s + (k + lx_rl b f (s + k))) ∧ eh_i (eh_V h1) 0 13 = nI (k + lx_rl b f (s + k)) ∧ eh_i (eh_V h1) 0 14 = lx_q b s (k + lx_rl b f (s + k)) ∧ eh_l (eh_V h1) 0 17 = lx_w b s (k + lx_rl b f (s + k)) ∧ ri_lk lo1 0 = some (.ref 0) ∧ ri_lk lo1 1 = some (.int cc) ∧ ri_lk lo1 2 = some (.int (bI (lx_lt (b s)))) ∧ ri_lk lo1 3 = some (.int (bI (lx_al b s (k + lx_rl b f (s + k)))))
section NXL
variable {d : Nat} {rs : List Value} {h' : ri_H} {b : Nat → Int32} {n s : Nat} {cc : Int32}
theorem nx_lp (hn : n ≤ 940) (hr : ∀ i, i < n → -128 ≤ (b i).toInt ∧ (b i).toInt ≤ 127) : ∀ (f a : Nat) (lo : List (Nat × Value)) (h : ri_H) (G : eh_W), a + f = n → eh_e (ri_calE ri_md (d + 1)) md_158 0 lo [] h rs h' → eh_V h = G → eh_ty tM G → eh_i G 0 3 = nI n → eh_i G 0 4 = nI a → (∀ i, i < n → eh_i G 1 i = b i) → ri_lk lo 0 = some (.ref 0) →
    nx_P d rs h' b f a h G := by
  intro f
  induction f with
  | zero =>
    intro a lo h G hf E hV ty h3 h4 hb l0
    have z := nx_i E hV ty l0
    rw [h4, h3, lx_i (a := a) (by omega), lx_i (a := n) (by omega)] at z
    rcases z with ⟨-, h1, lo1, E1, a1, a2, a3, a4⟩ | ⟨c, -⟩ | ⟨c, -⟩ | ⟨c, -⟩
    · exact ⟨h1, lo1, E1, by rw [a1]; exact eh_fr.rf, by rw [a1]; exact a3, a2, by rw [a1]; exact h4, a4⟩
    all_goals omega
  | succ f ih =>
    intro a lo h G hf E hV ty h3 h4 hb l0
    have z := nx_i E hV ty l0
    have hra := hr a (by omega)
    rw [h4, h3, lx_i (a := a) (by omega), lx_i (a := n) (by omega), lx_cl (a := a) (by omega), hb a (by omega), lx_ue (c := 32) hra.1 hra.2 (by decide) (by decide), lx_ue (c := 10) hra.1 hra.2 (by decide) (by decide)] at z
    have nxt : ∀ (h1 : ri_H) (lo1 : List (Nat × Value)), lx_bl (b a) = true → eh_e (ri_calE ri_md (d + 1)) md_158 0 lo1 [] h1 rs h' → eh_V h1 = eh_u G 0 4 (.int (nI a + 1)) → eh_N h1 = eh_N h → eh_ty tM (eh_u G 0 4 (.int (nI a + 1))) → ri_lk lo1 0 = some (.ref 0) → nx_P d rs h' b (f + 1) a h G := fun h1 lo1 e E1 v1 n1 t1 m0 => by
      have fr : eh_fr pMp G (eh_u G 0 4 (.int (nI a + 1))) := eh_fr.rf.up rfl
      obtain ⟨h5, lo3, r1, r2, r3, r4, r5⟩ := ih (a + 1) lo1 h1 _ (by omega) E1 v1 t1 h3 (lx_a1 a) (fun i hi => (fr.i rfl).trans (hb i hi)) m0
      rw [show lx_sk b f (a + 1) = lx_sk b (f + 1) a by
        show _ = bif lx_bl (b a) then lx_sk b f (a + 1) else a
        rw [e]
        rfl] at r5
      exact ⟨h5, lo3, r1, fr.tr r2, r3, r4.trans n1, r5⟩
    rcases z with ⟨c, -⟩ | ⟨c, c1, h1, lo1, E1, a1, a2, a3, a4⟩ | ⟨c, c1, c2, h1, lo1, E1, a1, a2, a3, a4⟩ | ⟨c, c1, c2, h1, lo1, E1, a1, a2, a3, a4⟩
    · omega
    · exact nxt h1 lo1 (lx_bl_iff.mpr (Or.inl c1)) E1 a1 a2 a3 a4
    · unfold nx_P
      rw [show lx_sk b (f + 1) a = a by
        show (bif lx_bl (b a) then lx_sk b f (a + 1) else a) = _
        rw [lx_no (fun e => (lx_bl_iff.mp e).elim c1 c2)]
        rfl]
      exact ⟨h1, lo1, E1, by rw [a1]; exact eh_fr.rf, by rw [a1]; exact a3, a2, by rw [a1]; exact h4, a4⟩
    · exact nxt h1 lo1 (lx_bl_iff.mpr (Or.inr c2)) E1 a1 a2 a3 a4
theorem nr_lp (hn : n ≤ 940) (hr : ∀ i, i < n → -128 ≤ (b i).toInt ∧ (b i).toInt ≤ 127) : ∀ (f k : Nat) (lo : List (Nat × Value)) (h : ri_H) (G : eh_W), s + k + f = n → eh_e (ri_calE ri_md (d + 1)) md_158 181 lo [] h rs h' → eh_V h = G → eh_ty tM G → eh_i G 0 3 = nI n → eh_i G 0 4 = nI (s + k) → eh_i G 0 13 = nI k → eh_i G 0 14 = lx_q b s k → eh_l G 0 17 = lx_w b s k → (∀ i, i < n → eh_i G 1 i = b i) → ri_lk lo 0 = some (.ref 0) → ri_lk lo 1 = some (.int cc) → ri_lk lo 2 = some (.int (bI (lx_lt (b s)))) → ri_lk lo 3 = some (.int (bI (lx_al b s k))) →
    nr_P d rs h' b s cc f k h G := by
  intro f
  induction f with
  | zero =>
    intro k lo h G hf E hV ty h3 h4 h13 h14 h17 hb l0 l1 l2 l3
    have z := nx_r E hV ty l0 l1 l2 l3
    rw [h4, h3, lx_i (a := s + k) (by omega), lx_i (a := n) (by omega)] at z
    rcases z with ⟨-, c, -⟩ | ⟨-, c, -⟩ | ⟨-, c, -⟩ | ⟨-, -, c, -⟩ | ⟨-, -, c, -⟩ | ⟨-, -, c, -⟩ | ⟨-, -, -, h1, lo1, E1, a1, a2, a3, a4, a5, a6, a7⟩ | ⟨c, -⟩ | ⟨c, -⟩ | ⟨c, -⟩ | ⟨c, -⟩ | ⟨c, -⟩ | ⟨c, -⟩ | ⟨c, -⟩
    · exact absurd c (by decide)
    · exact absurd c (by decide)
    · exact absurd c (by decide)
    · exact absurd c (by decide)
    · exact absurd c (by decide)
    · exact absurd c (by decide)
    · exact ⟨h1, lo1, E1, by rw [a1]; exact eh_fr.rf, by rw [a1]; exact a3, a2, by rw [a1]; exact h4, by rw [a1]; exact h13, by rw [a1]; exact h14, by rw [a1]; exact h17, a4, a5, a6, a7⟩
    all_goals omega
  | succ f ih =>
    intro k lo h G hf E hV ty h3 h4 h13 h14 h17 hb l0 l1 l2 l3
    have hrk := hr (s + k) (by omega)
    have hs : (lx_lt (b (s + k)) || lx_dg (b (s + k))) = true → lx_rl b (f + 1) (s + k) = lx_rl b f (s + (k + 1)) + 1 := fun e => by
      show (bif (lx_lt (b (s + k)) || lx_dg (b (s + k))) then lx_rl b f (s + k + 1) + 1 else 0) = _
      rw [e]
      rfl
    have ht : (lx_lt (b (s + k)) || lx_dg (b (s + k))) = false → lx_rl b (f + 1) (s + k) = 0 := fun e => by
      show (bif (lx_lt (b (s + k)) || lx_dg (b (s + k))) then lx_rl b f (s + k + 1) + 1 else 0) = _
      rw [e]
      rfl
    have b3 : ∀ j : Nat, ¬ k < j → Nat.blt k j = false := fun j hj => by
      cases e : Nat.blt k j with
      | false => rfl
      | true => exact absurd (Nat.blt_eq.mp e) hj
    have q1 : ¬ k < 3 → lx_q b s (k + 1) = lx_q b s k := fun hj => by
      show (bif Nat.blt k 3 then _ else _) = _
      rw [b3 3 hj]
      rfl
    have q2 : k < 3 → lx_q b s (k + 1) = 10 * lx_q b s k + b (s + k) - 48 := fun hj => by
      show (bif Nat.blt k 3 then _ else _) = _
      rw [Nat.blt_eq.mpr hj]
      rfl
    have w1 : ¬ k < 7 → lx_w b s (k + 1) = lx_w b s k := fun hj => by
      show (bif Nat.blt k 7 then _ else _) = _
      rw [b3 7 hj]
      rfl
    have w2 : k < 7 → lx_w b s (k + 1) = (lx_w b s k <<< (Int32.toInt64 8 &&& 63)) ||| Int32.toInt64 (b (s + k)) := fun hj => by
      show (bif Nat.blt k 7 then _ else _) = _
      rw [Nat.blt_eq.mpr hj]
      rfl
    have nxt : ∀ (h1 : ri_H) (lo1 : List (Nat × Value)) (G1 : eh_W), (lx_lt (b (s + k)) || lx_dg (b (s + k))) = true → eh_e (ri_calE ri_md (d + 1)) md_158 181 lo1 [] h1 rs h' → eh_V h1 = G1 → eh_fr pMr G G1 → eh_N h1 = eh_N h → eh_ty tM G1 → eh_i G1 0 4 = nI (s + k) + 1 → eh_i G1 0 13 = nI k + 1 → eh_i G1 0 14 = lx_q b s (k + 1) → eh_l G1 0 17 = lx_w b s (k + 1) → ri_lk lo1 0 = some (.ref 0) → ri_lk lo1 1 = some (.int cc) → ri_lk lo1 2 = some (.int (bI (lx_lt (b s)))) → ri_lk lo1 3 = some (.int (bI (lx_al b s (k + 1)))) → nr_P d rs h' b s cc (f + 1) k h G := fun h1 lo1 G1 e E1 v1 fr n1 t1 g4 g13 g14 g17 m0 m1 m2 m3 => by
      rw [lx_a1] at g4 g13
      obtain ⟨h5, lo3, r1, r2, r3, r4, r5⟩ := ih (k + 1) lo1 h1 G1 (by omega) E1 v1 t1 ((fr.i rfl).trans h3) g4 g13 g14 g17 (fun i hi => (fr.i rfl).trans (hb i hi)) m0 m1 m2 m3
      rw [show k + 1 + lx_rl b f (s + (k + 1)) = k + lx_rl b (f + 1) (s + k) by rw [hs e]; omega] at r5
      exact ⟨h5, lo3, r1, fr.tr r2, r3, r4.trans n1, r5⟩
    have mid : ∀ (h1 : ri_H) (lo1 : List (Nat × Value)) (al : Int32), (lx_lt (b (s + k)) || lx_dg (b (s + k))) = true → eh_e (ri_calE ri_md (d + 1)) md_158 222 lo1 [] h1 rs h' → eh_V h1 = G → eh_N h1 = eh_N h → eh_ty tM G → ri_lk lo1 0 = some (.ref 0) → ri_lk lo1 1 = some (.int cc) → ri_lk lo1 2 = some (.int (bI (lx_lt (b s)))) → ri_lk lo1 3 = some (.int al) → al = bI (lx_al b s (k + 1)) → nr_P d rs h' b s cc (f + 1) k h G := fun h1 lo1 al e E1 v1 n1 t1 m0 m1 m2 m3 ea => by
      subst ea
      have hpos : 0 ≤ (b (s + k)).toInt := by
        rcases (Bool.or_eq_true _ _).mp e with e | e
        · have := lx_lt_iff.mp e
          omega
        · have := lx_dg_iff.mp e
          omega
      have z := nx_w E1 v1 t1 m0 m1 m2 m3
      rw [h13, h4, h3, lx_i (a := k) (by omega), lx_i (a := s + k) (by omega), lx_i (a := n) (by omega), lx_cl (a := s + k) (by omega), hb (s + k) (by omega), lx_uq hpos hrk.2, h14, h17] at z
      rcases z with ⟨c1, c2, h5, lo5, E5, a1, a2, a3, a4, a5, a6, a7⟩ | ⟨c1, c2, c3, -⟩ | ⟨c1, c2, c3, h5, lo5, E5, a1, a2, a3, a4, a5, a6, a7⟩ | ⟨c1, c2, c3, -⟩ | ⟨c1, c2, c3, -⟩ | ⟨c1, c2, c3, h5, lo5, E5, a1, a2, a3, a4, a5, a6, a7⟩ | ⟨c1, c2, c3, h5, lo5, E5, a1, a2, a3, a4, a5, a6, a7⟩
      · exact nxt h5 lo5 _ e E5 a1 ((eh_fr.rf.up rfl).up rfl) (a2.trans n1) a3 rfl rfl (by rw [q1 (by omega)]; exact h14) (by rw [w1 (by omega)]; exact h17) a4 a5 a6 a7
      · omega
      · omega
      · omega
      · omega
      · exact nxt h5 lo5 _ e E5 a1 (((eh_fr.rf.up rfl).up rfl).up rfl) (a2.trans n1) a3 rfl rfl (by rw [q1 (by omega)]; exact h14) (by rw [w2 (by omega)]; rfl) a4 a5 a6 a7
      · exact nxt h5 lo5 _ e E5 a1 ((((eh_fr.rf.up rfl).up rfl).up rfl).up rfl) (a2.trans n1) a3 rfl rfl (by rw [q2 (by omega)]; rfl) (by rw [w2 (by omega)]; rfl) a4 a5 a6 a7
    have al1 : ∀ x, lx_lt (b (s + k)) = x → lx_al b s (k + 1) = (lx_al b s k && (x == lx_lt (b s))) := fun x e => by
      show (lx_al b s k && (lx_lt (b (s + k)) == lx_lt (b s))) = _
      rw [e]
    have z := nx_r E hV ty l0 l1 l2 l3
    rw [h4, h3, lx_i (a := s + k) (by omega), lx_i (a := n) (by omega), lx_cl (a := s + k) (by omega), hb (s + k) (by omega), lx_ult hrk.1 hrk.2, lx_udg hrk.1 hrk.2] at z
    rcases z with ⟨c, -⟩ | ⟨c, -⟩ | ⟨c, -⟩ | ⟨c, -⟩ | ⟨c, -⟩ | ⟨c, -⟩ | ⟨c, -⟩ | ⟨c, c1, c2, h1, lo1, E1, a1, a2, a3, a4, a5, a6, a7⟩ | ⟨c, c1, c2, c3, h1, lo1, E1, a1, a2, a3, a4, a5, a6, a7⟩ | ⟨c, c1, c2, c3, h1, lo1, E1, a1, a2, a3, a4, a5, a6, a7⟩ | ⟨c, c1, c2, c3, h1, lo1, E1, a1, a2, a3, a4, a5, a6, a7⟩ | ⟨c, c1, c2, c3, c4, h1, lo1, E1, a1, a2, a3, a4, a5, a6, a7⟩ | ⟨c, c1, c2, c3, c4, h1, lo1, E1, a1, a2, a3, a4, a5, a6, a7⟩ | ⟨c, c1, c2, h1, lo1, E1, a1, a2, a3, a4, a5, a6, a7⟩
    · omega
    · omega
    · omega
    · omega
    · omega
    · omega
    · omega
    · refine mid h1 lo1 _ (by rw [c1]; rfl) E1 a1 a2 ty a4 a5 a6 a7 ?_
      rw [al1 _ c1]
      cases e : lx_al b s k with
      | false => rfl
      | true => rw [e] at c2; exact absurd c2 (by decide)
    · refine mid h1 lo1 _ (by rw [c1]; rfl) E1 a1 a2 ty a4 a5 a6 a7 ?_
      rw [al1 _ c1]
      cases e : lx_lt (b s) with
      | false => cases lx_al b s k <;> rfl
      | true => rw [e] at c3; exact absurd rfl c3
    · refine mid h1 lo1 _ (by rw [c1]; rfl) E1 a1 a2 ty a4 a5 a6 a7 ?_
      rw [al1 _ c1]
      cases e : lx_lt (b s) with
      | false => rw [e] at c3; exact absurd c3 (by decide)
      | true =>
        cases e2 : lx_al b s k with
        | false => rw [e2] at c2; exact absurd rfl c2
        | true => rfl
    · refine mid h1 lo1 _ (by rw [c2, Bool.or_true]) E1 a1 a2 ty a4 a5 a6 a7 ?_
      rw [al1 _ (lx_no c1)]
      cases e : lx_al b s k with
      | false => rfl
      | true => rw [e] at c3; exact absurd c3 (by decide)
    · refine mid h1 lo1 _ (by rw [c2, Bool.or_true]) E1 a1 a2 ty a4 a5 a6 a7 ?_
      rw [al1 _ (lx_no c1)]
      cases e : lx_lt (b s) with
      | false => rw [e] at c4; exact absurd rfl c4
      | true => cases lx_al b s k <;> rfl
    · refine mid h1 lo1 _ (by rw [c2, Bool.or_true]) E1 a1 a2 ty a4 a5 a6 a7 ?_
      rw [al1 _ (lx_no c1)]
      cases e : lx_lt (b s) with
      | false =>
        cases e2 : lx_al b s k with
        | false => rw [e2] at c3; exact absurd rfl c3
        | true => rfl
      | true => rw [e] at c4; exact absurd c4 (by decide)
    · unfold nr_P
      rw [ht (by rw [lx_no c1, lx_no c2]; rfl)]
      exact ⟨h1, lo1, E1, by rw [a1]; exact eh_fr.rf, by rw [a1]; exact a3, a2, by rw [a1]; exact h4, by rw [a1]; exact h13, by rw [a1]; exact h14, by rw [a1]; exact h17, a4, a5, a6, a7⟩
end NXL
theorem lx_L_pos {b : Nat → Int32} {n y : Nat} (hy : y < n) (e : (lx_lt (b y) || lx_dg (b y)) = true) : lx_L b n y ≠ 0 := by
  unfold lx_L
  rw [show n - y = (n - y - 1) + 1 by omega]
  show (bif lx_lt (b y) || lx_dg (b y) then lx_rl b (n - y - 1) (y + 1) + 1 else 0) ≠ 0
  rw [e]
  exact Nat.succ_ne_zero _
theorem lx_L_zero {b : Nat → Int32} {n y : Nat} (e : (lx_lt (b y) || lx_dg (b y)) = false) : lx_L b n y = 0 := by
  unfold lx_L
  cases n - y with
  | zero => rfl
  | succ f =>
    show (bif lx_lt (b y) || lx_dg (b y) then lx_rl b f (y + 1) + 1 else 0) = 0
    rw [e]
    rfl
abbrev P_158 (b : Nat → Int32) (n m a : Nat) (G : eh_W) (h h' : ri_H) (v : Option Value) : Prop := v = none ∧ eh_fr pMt G (eh_V h') ∧ iM b n m (eh_V h') ∧ eh_N h' = eh_N h ∧ TM b n m a (eh_V h')
theorem sp_158 {d : Nat} {h h' : ri_H} {v : Option Value} {G : eh_W} {b : Nat → Int32} {n m a : Nat} (E : ri_calE ri_md (d + 2) 158 [.ref 0] h = some (v, h')) (hV : eh_V h = G) (iv : iM b n m G) (h4 : eh_i G 0 4 = nI a) (an : a ≤ n) : P_158 b n m a G h h' v := by
  have iv0 := iv
  obtain ⟨ty, ⟨k3, k5, hn, hm, hb, hk, hr, -, -⟩, -⟩ := iv
  obtain ⟨rs, hrs, E⟩ := eh_in E (q := md_158) rfl
  obtain ⟨h1, lo1, E, fr, t1, n1, g4, l0⟩ := nx_lp hn hr (n - a) a _ h G (by omega) E hV ty k3 h4 hb rfl
  have g4 : eh_i (eh_V h1) 0 4 = nI (lx_y b n a) := g4
  have hy : a ≤ lx_y b n a ∧ lx_y b n a ≤ a + (n - a) := lx_sk_le b (n - a) a
  have yn : lx_y b n a ≤ n := by omega
  have c3 : eh_i (eh_V h1) 0 3 = nI n := (fr.i rfl).trans k3
  have c5 : eh_i (eh_V h1) 0 5 = nI m := (fr.i rfl).trans k5
  have hb1 : ∀ i, i < n → eh_i (eh_V h1) 1 i = b i := fun i hi => (fr.i rfl).trans (hb i hi)
  have fr2 : eh_fr pMt G (eh_V h1) := fr.mo (fun k i e => pM_pr k i (pM_rt k i e))
  have fin : ∀ {G1 : eh_W}, rs = [] → eh_V h' = G1 → eh_N h' = eh_N h1 → eh_fr pMt (eh_V h1) G1 → eh_ty tM G1 → (∃ y, y ≤ n ∧ eh_i G1 0 4 = nI y) → TM b n m a G1 → P_158 b n m a G h h' v := fun {G1} r1 r2 r3 f1 t3 ⟨y, y1, y2⟩ q => by
    subst r2
    exact ⟨by rw [← hrs, r1]; rfl, fr2.tr f1, iM_fr iv0 ((fr2.tr f1).mo pM_tf) t3 y1 y2, by rw [r3, n1], q⟩
  have run : ∀ (h3 : ri_H) (lo3 : List (Nat × Value)) (cc : Int32), lx_y b n a < n → ¬ (m < n ∧ m ≤ lx_y b n a) → (lx_lt (b (lx_y b n a)) || lx_dg (b (lx_y b n a))) = true → eh_e (ri_calE ri_md (d + 1)) md_158 181 lo3 [] h3 rs h' → eh_V h3 = eh_u (eh_u (eh_u (eh_u (eh_V h1) 0 12 (.int (nI (lx_y b n a)))) 0 13 (.int 0)) 0 17 (.long 0)) 0 14 (.int 0) → eh_N h3 = eh_N h1 → eh_ty tM (eh_u (eh_u (eh_u (eh_u (eh_V h1) 0 12 (.int (nI (lx_y b n a)))) 0 13 (.int 0)) 0 17 (.long 0)) 0 14 (.int 0)) → ri_lk lo3 0 = some (.ref 0) → ri_lk lo3 1 = some (.int cc) → ri_lk lo3 2 = some (.int (bI (lx_lt (b (lx_y b n a))))) → ri_lk lo3 3 = some (.int 1) → P_158 b n m a G h h' v := fun h3 lo3 cc hyn hnm e E3 v3 n3 t3 m0 m1 m2 m3 => by
    have f3 : eh_fr pMt (eh_V h1) (eh_u (eh_u (eh_u (eh_u (eh_V h1) 0 12 (.int (nI (lx_y b n a)))) 0 13 (.int 0)) 0 17 (.long 0)) 0 14 (.int 0)) := (((eh_fr.rf.up rfl).up rfl).up rfl).up rfl
    obtain ⟨h5, lo5, E5, f5, t5, n5, p4, p13, p14, p17, m0, m1, m2, m3⟩ := nr_lp (s := lx_y b n a) (cc := cc) hn hr (n - lx_y b n a) 0 lo3 h3 _ (by omega) E3 v3 t3 c3 g4 rfl rfl rfl (fun i hi => (f3.i rfl).trans (hb1 i hi)) m0 m1 m2 m3
    rw [Nat.zero_add, Nat.add_zero] at p4 p13 p14 p17 m3
    have eL : lx_rl b (n - lx_y b n a) (lx_y b n a) = lx_L b n (lx_y b n a) := rfl
    rw [eL] at p4 p13 p14 p17 m3
    have hL : lx_L b n (lx_y b n a) ≤ n - lx_y b n a := lx_rl_le _ _ _
    have p12 : eh_i (eh_V h5) 0 12 = nI (lx_y b n a) := f5.i rfl
    have f6 : eh_fr pMt (eh_V h1) (eh_V h5) := f3.tr (f5.mo pM_rt)
    have z := nx_z E5 rfl t5 m0 m1 m2 m3
    rw [p13, lx_i (a := lx_L b n (lx_y b n a)) (by omega)] at z
    have b0 : ∀ x : Bool, bI x = 0 → x = false := fun x e => by
      cases x with
      | false => rfl
      | true => exact absurd e (by decide)
    have b1 : ∀ x : Bool, ¬ bI x = 0 → x = true := fun x e => by
      cases x with
      | false => exact absurd rfl e
      | true => rfl
    have fin2 : ∀ {w : Int32}, rs = [] → eh_V h' = eh_u (eh_V h5) 0 11 (.int w) → eh_N h' = eh_N h5 → TMr b n (lx_y b n a) (eh_u (eh_V h5) 0 11 (.int w)) → P_158 b n m a G h h' v := fun {w} r1 r2 r3 q => fin r1 r2 (by rw [r3, n5, n3]) (f6.up rfl) (t5.ui rfl) ⟨_, by omega, p4⟩ (Or.inr ⟨hnm, p12, Or.inr (Or.inr ⟨hyn, e, q⟩)⟩)
    rcases z with ⟨c1, r1, r2, r3⟩ | ⟨c1, c2, c3, r1, r2, r3⟩ | ⟨c1, c2, c3, r1, r2, r3⟩ | ⟨c1, c2, c3, r1, r2, r3⟩ | ⟨c1, c2, c3, r1, r2, r3⟩
    · exact fin2 r1 r2 r3 ⟨p4, Or.inl ⟨b0 _ c1, rfl⟩⟩
    · exact fin2 r1 r2 r3 ⟨p4, Or.inr (Or.inl ⟨b1 _ c1, b0 _ c2, Or.inl ⟨by omega, rfl, p14⟩⟩)⟩
    · exact fin2 r1 r2 r3 ⟨p4, Or.inr (Or.inl ⟨b1 _ c1, b0 _ c2, Or.inr ⟨by omega, rfl⟩⟩)⟩
    · exact fin2 r1 r2 r3 ⟨p4, Or.inr (Or.inr ⟨b1 _ c1, b1 _ c2, Or.inl ⟨by omega, rfl, p17⟩⟩)⟩
    · exact fin2 r1 r2 r3 ⟨p4, Or.inr (Or.inr ⟨b1 _ c1, b1 _ c2, Or.inr ⟨by omega, rfl⟩⟩)⟩
  have z := nx_b E rfl t1 l0
  rw [g4, c3, c5, lx_i (a := lx_y b n a) (by omega), lx_i (a := n) (by omega), lx_i (a := m) (by omega), lx_cl (a := lx_y b n a) (by omega)] at z
  by_cases hyn : lx_y b n a < n
  · have hra := hr _ hyn
    have hu := lx_u hra.1 hra.2
    have une : ∀ {c : Int32}, 0 ≤ c.toInt → c.toInt ≤ 127 → (b (lx_y b n a) &&& 255 = c ↔ b (lx_y b n a) = c) := fun h1 h2 => lx_ue hra.1 hra.2 h1 h2
    rw [hb1 _ hyn, lx_ult hra.1 hra.2, lx_udg hra.1 hra.2] at z
    have ex0 : ∀ {P : Prop}, (b (lx_y b n a) &&& 255).toInt < 0 → P := fun h => by
      rw [hu] at h
      exfalso
      split at h <;> omega
    have sgt : ∀ {w : Int32}, (lx_lt (b (lx_y b n a)) || lx_dg (b (lx_y b n a))) = false → ¬ (m < n ∧ m ≤ lx_y b n a) → lx_sg (b (lx_y b n a)) → w = 3 → rs = [] → eh_V h' = eh_u (eh_u (eh_u (eh_u (eh_u (eh_V h1) 0 12 (.int (nI (lx_y b n a)))) 0 13 (.int 0)) 0 11 (.int w)) 0 14 (.int (b (lx_y b n a) &&& 255))) 0 4 (.int (nI (lx_y b n a) + 1)) → eh_N h' = eh_N h1 → P_158 b n m a G h h' v := fun {w} e hnm hsg hw r1 r2 r3 => by
      have hge : 0 ≤ (b (lx_y b n a)).toInt := by
        rcases hsg with q | q | q | q | q | q <;> rw [q] <;> decide
      subst hw
      exact fin r1 r2 r3 (((((eh_fr.rf.up rfl).up rfl).up rfl).up rfl).up rfl) (((((t1.ui rfl).ui rfl).ui rfl).ui rfl).ui rfl) ⟨lx_y b n a + 1, by omega, lx_a1 _⟩ (Or.inr ⟨hnm, rfl, Or.inr (Or.inl ⟨hyn, e, Or.inl ⟨hsg, rfl, lx_uq hge hra.2, lx_a1 _⟩⟩)⟩)
    have sgf : ∀ {w : Int32}, (lx_lt (b (lx_y b n a)) || lx_dg (b (lx_y b n a))) = false → ¬ (m < n ∧ m ≤ lx_y b n a) → ¬ lx_sg (b (lx_y b n a)) → w = 4 → rs = [] → eh_V h' = eh_u (eh_u (eh_u (eh_u (eh_u (eh_V h1) 0 12 (.int (nI (lx_y b n a)))) 0 13 (.int 0)) 0 11 (.int w)) 0 14 (.int (b (lx_y b n a) &&& 255))) 0 4 (.int (nI (lx_y b n a) + 1)) → eh_N h' = eh_N h1 → P_158 b n m a G h h' v := fun {w} e hnm hsg hw r1 r2 r3 => by
      subst hw
      exact fin r1 r2 r3 (((((eh_fr.rf.up rfl).up rfl).up rfl).up rfl).up rfl) (((((t1.ui rfl).ui rfl).ui rfl).ui rfl).ui rfl) ⟨lx_y b n a + 1, by omega, lx_a1 _⟩ (Or.inr ⟨hnm, rfl, Or.inr (Or.inl ⟨hyn, e, Or.inr ⟨hsg, rfl⟩⟩)⟩)
    have or2 : ∀ {x y : Bool}, ¬ x = true → ¬ y = true → (x || y) = false := fun h1 h2 => by rw [lx_no h1, lx_no h2]; rfl
    have nsg : ¬ (b (lx_y b n a) &&& 255 = 59) → ¬ (b (lx_y b n a) &&& 255 = 40) → ¬ (b (lx_y b n a) &&& 255 = 41) → ((b (lx_y b n a) &&& 255).toInt < 60 ∨ 62 < (b (lx_y b n a) &&& 255).toInt) → ¬ lx_sg (b (lx_y b n a)) := fun e1 e2 e3 e4 e => by
      rcases e with q | q | q | q | q | q
      · exact e1 ((une (by decide) (by decide)).mpr q)
      · rw [(une (by decide) (by decide)).mpr q] at e4
        exact absurd e4 (by decide)
      · rw [(une (by decide) (by decide)).mpr q] at e4
        exact absurd e4 (by decide)
      · rw [(une (by decide) (by decide)).mpr q] at e4
        exact absurd e4 (by decide)
      · exact e2 ((une (by decide) (by decide)).mpr q)
      · exact e3 ((une (by decide) (by decide)).mpr q)
    have ysg : ¬ (b (lx_y b n a) &&& 255).toInt < 60 → ¬ 62 < (b (lx_y b n a) &&& 255).toInt → lx_sg (b (lx_y b n a)) := fun e1 e2 => by
      rw [hu] at e1 e2
      have k60 : (60 : Int32).toInt = 60 := by decide
      have k61 : (61 : Int32).toInt = 61 := by decide
      have k62 : (62 : Int32).toInt = 62 := by decide
      have : (b (lx_y b n a)).toInt = 60 ∨ (b (lx_y b n a)).toInt = 61 ∨ (b (lx_y b n a)).toInt = 62 := by
        split at e1 <;> omega
      rcases this with q | q | q
      · exact Or.inr (Or.inl (Int32.toInt_inj.mp (q.trans k60.symm)))
      · exact Or.inr (Or.inr (Or.inl (Int32.toInt_inj.mp (q.trans k61.symm))))
      · exact Or.inr (Or.inr (Or.inr (Or.inl (Int32.toInt_inj.mp (q.trans k62.symm)))))
    have s1 : b (lx_y b n a) &&& 255 = 59 → lx_sg (b (lx_y b n a)) := fun q => Or.inl ((une (by decide) (by decide)).mp q)
    have s2 : b (lx_y b n a) &&& 255 = 40 → lx_sg (b (lx_y b n a)) := fun q => Or.inr (Or.inr (Or.inr (Or.inr (Or.inl ((une (by decide) (by decide)).mp q)))))
    have s3 : b (lx_y b n a) &&& 255 = 41 → lx_sg (b (lx_y b n a)) := fun q => Or.inr (Or.inr (Or.inr (Or.inr (Or.inr ((une (by decide) (by decide)).mp q)))))
    have lt2 : ∀ {x : Bool} {w : Int32} {lo : List (Nat × Value)}, x = true → w = 1 → ri_lk lo 2 = some (.int w) → ri_lk lo 2 = some (.int (bI x)) := fun e1 e2 e3 => by rw [e1, e3, e2]; rfl
    have lt0 : ∀ {x : Bool} {w : Int32} {lo : List (Nat × Value)}, ¬ x = true → w = 0 → ri_lk lo 2 = some (.int w) → ri_lk lo 2 = some (.int (bI x)) := fun e1 e2 e3 => by rw [lx_no e1, e3, e2]; rfl
    rcases z with ⟨c1, c2, -⟩ | ⟨c1, c2, c3, c4, h3, lo3, E3, v3, n3, t3, m0, m1, m2, m3⟩ | ⟨c1, c2, c3, c4, c5, h3, lo3, E3, v3, n3, t3, m0, m1, m2, m3⟩ | ⟨c1, c2, c3, c4, c5, c6, r1, r2, r3⟩ | ⟨c1, c2, c3, c4, c5, c6, c7, r1, r2, r3⟩ | ⟨c1, c2, c3, c4, c5, c6, c7, c8, r1, r2, r3⟩ | ⟨c1, c2, c3, c4, c5, c6, c7, c8, c9, r1, r2, r3⟩ | ⟨c1, c2, c3, c4, c5, c6, c7, c8, c9, c10, r1, r2, r3⟩ | ⟨c1, c2, c3, c4, c5, c6, c7, c8, c9, c10, r1, r2, r3⟩ | ⟨c1, c2, c3, -⟩ | ⟨c1, c2, c3, -⟩ | ⟨c0, c1, c2, c3, c4, h3, lo3, E3, v3, n3, t3, m0, m1, m2, m3⟩ | ⟨c0, c1, c2, c3, c4, c5, h3, lo3, E3, v3, n3, t3, m0, m1, m2, m3⟩ | ⟨c0, c1, c2, c3, c4, c5, c6, r1, r2, r3⟩ | ⟨c0, c1, c2, c3, c4, c5, c6, c7, r1, r2, r3⟩ | ⟨c0, c1, c2, c3, c4, c5, c6, c7, c8, r1, r2, r3⟩ | ⟨c0, c1, c2, c3, c4, c5, c6, c7, c8, c9, r1, r2, r3⟩ | ⟨c0, c1, c2, c3, c4, c5, c6, c7, c8, c9, c10, r1, r2, r3⟩ | ⟨c0, c1, c2, c3, c4, c5, c6, c7, c8, c9, c10, r1, r2, r3⟩ | ⟨c0, c1, c2, c3, -⟩ | ⟨c0, c1, r1, r2, r3⟩
    · omega
    · exact run h3 lo3 _ hyn (by omega) (by rw [c4]; rfl) E3 v3 n3 t3 m0 m1 (lt2 c4 rfl m2) m3
    · exact run h3 lo3 _ hyn (by omega) (by rw [c5, Bool.or_true]) E3 v3 n3 t3 m0 m1 (lt0 c4 rfl m2) m3
    · exact sgt (or2 c4 c5) (by omega) (s1 c6) rfl r1 r2 r3
    · exact sgt (or2 c4 c5) (by omega) (s2 c7) rfl r1 r2 r3
    · exact sgt (or2 c4 c5) (by omega) (s3 c8) rfl r1 r2 r3
    · exact sgf (or2 c4 c5) (by omega) (nsg c6 c7 c8 (Or.inl c9)) rfl r1 r2 r3
    · exact sgf (or2 c4 c5) (by omega) (nsg c6 c7 c8 (Or.inr c10)) rfl r1 r2 r3
    · exact sgt (or2 c4 c5) (by omega) (ysg c9 c10) rfl r1 r2 r3
    · exact ex0 c3
    · omega
    · exact run h3 lo3 _ hyn (by omega) (by rw [c4]; rfl) E3 v3 n3 t3 m0 m1 (lt2 c4 rfl m2) m3
    · exact run h3 lo3 _ hyn (by omega) (by rw [c5, Bool.or_true]) E3 v3 n3 t3 m0 m1 (lt0 c4 rfl m2) m3
    · exact sgt (or2 c4 c5) (by omega) (s1 c6) rfl r1 r2 r3
    · exact sgt (or2 c4 c5) (by omega) (s2 c7) rfl r1 r2 r3
    · exact sgt (or2 c4 c5) (by omega) (s3 c8) rfl r1 r2 r3
    · exact sgf (or2 c4 c5) (by omega) (nsg c6 c7 c8 (Or.inl c9)) rfl r1 r2 r3
    · exact sgf (or2 c4 c5) (by omega) (nsg c6 c7 c8 (Or.inr c10)) rfl r1 r2 r3
    · exact sgt (or2 c4 c5) (by omega) (ysg c9 c10) rfl r1 r2 r3
    · exact ex0 c3
    · exact fin r1 r2 r3 ((((eh_fr.rf.up rfl).up rfl).up rfl).up rfl) ((((t1.ui rfl).ui rfl).ui rfl).ui rfl) ⟨_, yn, g4⟩ (Or.inl ⟨by omega, rfl, rfl⟩)
  · rcases z with ⟨c1, c2, r1, r2, r3⟩ | ⟨c1, c2, -⟩ | ⟨c1, c2, -⟩ | ⟨c1, c2, -⟩ | ⟨c1, c2, -⟩ | ⟨c1, c2, -⟩ | ⟨c1, c2, -⟩ | ⟨c1, c2, -⟩ | ⟨c1, c2, -⟩ | ⟨c1, c2, -⟩ | ⟨c1, c2, c3, r1, r2, r3⟩ | ⟨c0, c1, c2, -⟩ | ⟨c0, c1, c2, -⟩ | ⟨c0, c1, c2, -⟩ | ⟨c0, c1, c2, -⟩ | ⟨c0, c1, c2, -⟩ | ⟨c0, c1, c2, -⟩ | ⟨c0, c1, c2, -⟩ | ⟨c0, c1, c2, -⟩ | ⟨c0, c1, c2, -⟩ | ⟨c0, c1, r1, r2, r3⟩
    · exact fin r1 r2 r3 (((eh_fr.rf.up rfl).up rfl).up rfl) (((t1.ui rfl).ui rfl).ui rfl) ⟨_, yn, g4⟩ (Or.inr ⟨by omega, rfl, Or.inl ⟨hyn, rfl⟩⟩)
    · omega
    · omega
    · omega
    · omega
    · omega
    · omega
    · omega
    · omega
    · omega
    · omega
    · omega
    · omega
    · omega
    · omega
    · omega
    · omega
    · omega
    · omega
    · omega
    · exact fin r1 r2 r3 ((((eh_fr.rf.up rfl).up rfl).up rfl).up rfl) ((((t1.ui rfl).ui rfl).ui rfl).ui rfl) ⟨_, yn, g4⟩ (Or.inl ⟨by omega, rfl, rfl⟩)
theorem tp_158 {d : Nat} {h h' : ri_H} {v : Option Value} {b : Nat → Int32} {n m : Nat} (E : ri_calE ri_md (d + 2) 158 [.ref 0] h = some (v, h')) (iv : iM b n m (eh_V h)) : v = none ∧ iM b n m (eh_V h') ∧ eh_N h' = eh_N h := by
  obtain ⟨x, x1, x2⟩ := iv.2.2
  obtain ⟨a1, a2, a3, a4, -⟩ := sp_158 E rfl iv x2 x1
  exact ⟨a1, a3, a4⟩
