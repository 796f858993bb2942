/-! the class's draft and the reference's rows are alike (DR) -/
def pCd (k _i : Nat) : Bool := !(Nat.ble 4 k && Nat.ble k 16)
def pMd (k i : Nat) : Bool := !(Nat.beq k 3 || (Nat.beq k 5 || (Nat.beq k 0 && Nat.beq i 20)))
theorem pC_fd (k i : Nat) (h : pCd k i = false) : pCf k i = false := by
  unfold pCd at h
  rw [Bool.not_eq_false'] at h
  have h := ((Bool.and_eq_true _ _).mp h).1
  have := Nat.ble_eq.mp h
  unfold pCf
  rw [eh_bf (show k ≠ 2 by omega)]
  rfl
theorem pM_fd (k i : Nat) (h : pMd k i = false) : pMf k i = false := by
  unfold pMd at h
  rw [Bool.not_eq_false'] at h
  simp only [Bool.or_eq_true, Bool.and_eq_true] at h
  unfold pMf
  rcases h with h | h | h
  · rw [Nat.eq_of_beq_eq_true h]
    rfl
  · rw [Nat.eq_of_beq_eq_true h]
    rfl
  · rw [Nat.eq_of_beq_eq_true h.2, Nat.eq_of_beq_eq_true h.1]
    rfl
def cC (G : eh_W) : eh_W := fun k i => bif pCd k i then none else G k i
def cM (G : eh_W) : eh_W := fun k i => bif pMd k i then none else G k i
theorem cC_eq {G G' : eh_W} (f : eh_fr pCd G G') : cC G = cC G' := by
  funext k i
  unfold cC
  cases e : pCd k i with
  | true => rfl
  | false => exact (f k i e).symm
theorem cM_eq {G G' : eh_W} (f : eh_fr pMd G G') : cM G = cM G' := by
  funext k i
  unfold cM
  cases e : pMd k i with
  | true => rfl
  | false => exact (f k i e).symm
def mx (t : Nat) : Nat := [6, 8, 4, 6].getD t 0
def bs (t : Nat) : Nat := [24, 30, 38, 42].getD t 0
/-- settings -/
def DRs (Gc Gm : eh_W) : Prop := eh_i Gc 6 0 = eh_i Gm 3 0 ∧ 1 ≤ (eh_i Gc 6 0).toInt ∧ (eh_i Gc 6 0).toInt ≤ 8 ∧ eh_i Gc 6 1 = eh_i Gm 3 1 ∧ eh_i Gc 6 2 = eh_i Gm 3 2 ∧ eh_i Gc 6 3 = eh_i Gm 3 7 ∧ ((eh_i Gm 3 8 = -1 ∧ eh_i Gm 3 9 = 0 ∧ eh_i Gc 6 4 = 0 ∧ eh_i Gc 5 1 = 0) ∨ (0 ≤ (eh_i Gm 3 8).toInt ∧ eh_i Gc 6 4 = eh_i Gm 3 8 ∧ eh_i Gc 5 1 = eh_i Gm 3 9))
/-- how many of each sort: q in the class, p in the reference -/
def DRq (q p : Nat → Nat) (Gc Gm : eh_W) : Prop := (∀ t, t < 4 → eh_i Gc 7 t = nI (q t) ∧ eh_i Gm 3 (3 + t) = nI (p t) ∧ q t ≤ mx t) ∧ eh_i Gc 5 12 = nI (q 0 + q 1 + q 2 + q 3)
/-- names -/
def NR (q : Nat → Nat) (Gc Gm : eh_W) : Prop := (∀ i, i < q 0 + q 1 + q 2 + q 3 → ∃ t r, t < 4 ∧ r < q t ∧ eh_i Gc 15 i = nI t ∧ eh_i Gc 16 i = nI r ∧ VW (eh_l Gc 14 i) (eh_l Gm 5 (bs t + r))) ∧ (∀ t r, t < 4 → r < q t → ∃ i, i < q 0 + q 1 + q 2 + q 3 ∧ eh_i Gc 15 i = nI t ∧ eh_i Gc 16 i = nI r) ∧ (∀ i j, i < q 0 + q 1 + q 2 + q 3 → j < q 0 + q 1 + q 2 + q 3 → eh_l Gc 14 i = eh_l Gc 14 j → i = j)
def add2 (x y : Int32) : Int32 := ((x &&& 21845) + (y &&& 21845)) ^^^ ((x ^^^ y) &&& 43690)
def wv (t : Int32) : Int32 := (t - t / 10 * 10) <<< ((2 * (t / 10)) &&& 31)
def lv (f : Nat → Int32) : Nat → Int32
  | 0 => 0
  | k + 1 => add2 (lv f k) (wv (f k))
/-- a step: its cell lies among the w cells -/
abbrev stp (x w : Int32) : Prop := ∃ ce hi, ce < 8 ∧ 1 ≤ hi ∧ hi ≤ 3 ∧ x = nI (10 * ce + hi) ∧ (ce : Int) < w.toInt
/-- lessons: P in the class, P' in the reference -/
def DRl (P P' : Nat) (Gc Gm : eh_W) : Prop := (∀ l, l < P → eh_i Gc 8 l = eh_i Gm 3 (10 + l) ∧ (∃ c, c < 6 ∧ eh_i Gc 8 l = nI c) ∧ ∃ s, s ≤ 8 ∧ eh_i Gc 10 l = nI s ∧ (l < P' → eh_i Gm 3 (18 + l) = nI s) ∧ (∀ i, i < s → eh_i Gc 11 (8 * l + i) = eh_i Gm 3 (26 + 8 * l + i) ∧ stp (eh_i Gc 11 (8 * l + i)) (eh_i Gm 3 0)) ∧ eh_i Gc 12 l = lv (fun i => eh_i Gc 11 (8 * l + i)) s) ∧ (∀ l, P ≤ l → l < 8 → eh_i Gc 10 l = 0 ∧ eh_i Gc 12 l = 0) ∧ (∀ c, c < 6 → ∃ w, w < 256 ∧ eh_i Gc 9 c = nI w ∧ ∀ l, l < 8 → (Nat.testBit w l = true ↔ l < P ∧ eh_i Gc 8 l = nI c))
def DRb (P : Nat) (Gc Gm : eh_W) : Prop := ∀ k, k < P → eh_i Gc 13 k = eh_i Gm 3 (90 + k)
def DRo (o e : Nat) (Gc Gm : eh_W) : Prop := o < 32 ∧ e < 2 ∧ eh_i Gc 4 2 = nI o ∧ eh_i Gm 0 20 = nI (o ||| e)
def DR (q p : Nat → Nat) (o e : Nat) (Gc Gm : eh_W) : Prop := DRs Gc Gm ∧ DRq q p Gc Gm ∧ NR q Gc Gm ∧ DRl (p 1) (p 1) Gc Gm ∧ DRb (p 3) Gc Gm ∧ DRo o e Gc Gm
section DRF
variable {q p : Nat → Nat} {o e P P' : Nat} {Gc Gm Hc Hm : eh_W}
theorem DR_fr (h : DR q p o e Gc Gm) (f : eh_fr pCd Gc Hc) (g : eh_fr pMd Gm Hm) : DR q p o e Hc Hm := by
  have h1 : DR q p o e (cC Gc) (cM Gm) := h
  rw [cC_eq f, cM_eq g] at h1
  exact h1
theorem DRl_fd (h : DRl P P' Gc Gm) (f : eh_fr pCd Gc Hc) (g : eh_fr pMd Gm Hm) : DRl P P' Hc Hm := by
  have h1 : DRl P P' (cC Gc) (cM Gm) := h
  rw [cC_eq f, cM_eq g] at h1
  exact h1
theorem DRs_fr (h : DRs Gc Gm) (h6 : ∀ i, i < 5 → eh_i Hc 6 i = eh_i Gc 6 i) (h5 : eh_i Hc 5 1 = eh_i Gc 5 1) (hm : ∀ j, j < 3 ∨ (7 ≤ j ∧ j < 10) → eh_i Hm 3 j = eh_i Gm 3 j) : DRs Hc Hm := by
  unfold DRs at h ⊢
  rw [h6 0 (by omega), h6 1 (by omega), h6 2 (by omega), h6 3 (by omega), h6 4 (by omega), h5, hm 0 (by omega), hm 1 (by omega), hm 2 (by omega), hm 7 (by omega), hm 8 (by omega), hm 9 (by omega)]
  exact h
theorem DRq_fr (h : DRq q p Gc Gm) (h7 : ∀ t, t < 4 → eh_i Hc 7 t = eh_i Gc 7 t) (h5 : eh_i Hc 5 12 = eh_i Gc 5 12) (hm : ∀ t, t < 4 → eh_i Hm 3 (3 + t) = eh_i Gm 3 (3 + t)) : DRq q p Hc Hm :=
  ⟨fun t ht => ⟨(h7 t ht).trans (h.1 t ht).1, (hm t ht).trans (h.1 t ht).2.1, (h.1 t ht).2.2⟩, h5.trans h.2⟩
theorem NR_fr (h : NR q Gc Gm) (h14 : ∀ i, eh_l Hc 14 i = eh_l Gc 14 i) (h15 : ∀ i, eh_i Hc 15 i = eh_i Gc 15 i) (h16 : ∀ i, eh_i Hc 16 i = eh_i Gc 16 i) (hm : ∀ i, eh_l Hm 5 i = eh_l Gm 5 i) : NR q Hc Hm := by
  obtain ⟨a, b, c⟩ := h
  refine ⟨fun i hi => ?_, fun t r ht hr => ?_, fun i j hi hj e => ?_⟩
  · obtain ⟨t, r, a1, a2, a3, a4, a5⟩ := a i hi
    exact ⟨t, r, a1, a2, by rw [h15]; exact a3, by rw [h16]; exact a4, by rw [h14, hm]; exact a5⟩
  · obtain ⟨i, a1, a2, a3⟩ := b t r ht hr
    exact ⟨i, a1, by rw [h15]; exact a2, by rw [h16]; exact a3⟩
  · rw [h14, h14] at e
    exact c i j hi hj e
theorem lv_cg {f g : Nat → Int32} : ∀ k, (∀ i, i < k → f i = g i) → lv f k = lv g k
  | 0, _ => rfl
  | k + 1, h => by
    show add2 (lv f k) (wv (f k)) = add2 (lv g k) (wv (g k))
    rw [lv_cg k (fun i hi => h i (by omega)), h k (by omega)]
theorem DRb_fr (h : DRb P Gc Gm) (h13 : ∀ i, eh_i Hc 13 i = eh_i Gc 13 i) (hP : P ≤ 6) (hm : ∀ j, 90 ≤ j → j < 96 → eh_i Hm 3 j = eh_i Gm 3 j) : DRb P Hc Hm := fun k hk => by
  rw [h13, hm _ (by omega) (by omega)]
  exact h k hk
theorem DRo_fr (h : DRo o e Gc Gm) (h4 : eh_i Hc 4 2 = eh_i Gc 4 2) (hm : eh_i Hm 0 20 = eh_i Gm 0 20) : DRo o e Hc Hm := ⟨h.1, h.2.1, h4.trans h.2.2.1, hm.trans h.2.2.2⟩
end DRF
theorem mx_le {t : Nat} (ht : t < 4) : mx t ≤ 8 := by
  match t, ht with
  | 0, _ => decide
  | 1, _ => decide
  | 2, _ => decide
  | 3, _ => decide
theorem bs_le {t : Nat} (ht : t < 4) : 24 ≤ bs t ∧ bs t + mx t ≤ 48 := by
  match t, ht with
  | 0, _ => decide
  | 1, _ => decide
  | 2, _ => decide
  | 3, _ => decide
/-! looking a name up -/
section FIND
variable {q p : Nat → Nat} {Gc Gm : eh_W} {co : Int64} {u : Int32}
theorem F_C (hq : DRq q p Gc Gm) (hn : NR q Gc Gm) {wd : Int64} (vw : VW co wd) (h : fd_C Gc 5 14 co u) : (∃ t r i, t < 4 ∧ r < q t ∧ u = nI i ∧ i < 24 ∧ eh_i Gc 15 i = nI t ∧ eh_i Gc 16 i = nI r ∧ eh_l Gm 5 (bs t + r) = wd ∧ ∀ t' r', t' < 4 → r' < q t' → eh_l Gm 5 (bs t' + r') = wd → t' = t ∧ r' = r) ∨ ((∀ t r, t < 4 → r < q t → eh_l Gm 5 (bs t + r) ≠ wd) ∧ u = -1) := by
  have q0 := (hq.1 0 (by decide)).2.2
  have q1 := (hq.1 1 (by decide)).2.2
  have q2 := (hq.1 2 (by decide)).2.2
  have q3 := (hq.1 3 (by decide)).2.2
  have m0 : mx 0 = 6 := rfl
  have m1 : mx 1 = 8 := rfl
  have m2 : mx 2 = 4 := rfl
  have m3 : mx 3 = 6 := rfl
  have qm : ∀ t, t < 4 → q t ≤ 8 := fun t ht => Nat.le_trans (hq.1 t ht).2.2 (mx_le ht)
  have eN : (eh_i Gc 5 12).toInt = ((q 0 + q 1 + q 2 + q 3 : Nat) : Int) := by rw [hq.2, lx_i (by omega)]
  obtain ⟨na, nb, nc⟩ := hn
  have key : ∀ t r, t < 4 → r < q t → ∃ i, i < q 0 + q 1 + q 2 + q 3 ∧ eh_i Gc 15 i = nI t ∧ eh_i Gc 16 i = nI r ∧ VW (eh_l Gc 14 i) (eh_l Gm 5 (bs t + r)) := fun t r ht hr => by
    obtain ⟨i, i1, i2, i3⟩ := nb t r ht hr
    obtain ⟨t', r', t1, t2, t3, t4, t5⟩ := na i i1
    have := qm t' t1
    have := qm t ht
    have e1 : t' = t := lx_inj (by omega) (by omega) (t3.symm.trans i2)
    have e2 : r' = r := lx_inj (by omega) (by omega) (t4.symm.trans i3)
    subst e1 e2
    exact ⟨i, i1, i2, i3, t5⟩
  rcases h with ⟨i, h1, h2, h3⟩ | ⟨h1, h2⟩
  · rw [eN] at h1
    obtain ⟨t, r, t1, t2, t3, t4, t5⟩ := na i (by omega)
    rw [h2] at t5
    refine Or.inl ⟨t, r, i, t1, t2, h3, by omega, t3, t4, ((VW_iff vw t5).mp rfl).symm, fun t' r' ht hr e => ?_⟩
    obtain ⟨j, j1, j2, j3, j4⟩ := key t' r' ht hr
    rw [e] at j4
    have e1 : eh_l Gc 14 j = eh_l Gc 14 i := by rw [h2]; exact (VW_iff j4 vw).mpr rfl
    have e2 := nc j i j1 (by omega) e1
    subst e2
    have := qm t' ht
    have := qm t t1
    exact ⟨lx_inj (by omega) (by omega) (j2.symm.trans t3), lx_inj (by omega) (by omega) (j3.symm.trans t4)⟩
  · refine Or.inr ⟨fun t r ht hr e => ?_, h2⟩
    obtain ⟨j, j1, j2, j3, j4⟩ := key t r ht hr
    rw [e] at j4
    exact h1 j (by rw [eN]; omega) ((VW_iff j4 vw).mpr rfl)
theorem F_M {t k : Nat} {fr ma : Int32} (ht : t < 4) (hk : k ≤ mx t) (e1 : fr = nI (bs t)) (e2 : ma = nI k) (h : fd_M Gm fr ma u) : (∃ r, r < k ∧ eh_l Gm 5 (bs t + r) = eh_l Gm 0 17 ∧ u = nI r) ∨ ((∀ r, r < k → eh_l Gm 5 (bs t + r) ≠ eh_l Gm 0 17) ∧ u = -1) := by
  subst e1 e2
  have b1 := bs_le ht
  have b2 := mx_le ht
  have ei : ∀ r : Nat, r ≤ 100 → (nI (bs t) + nI r).toNatClampNeg = bs t + r := fun r hr => by
    rw [show nI (bs t) + nI r = nI (bs t + r) from (Int32.ofNat_add _ _).symm, lx_cl (by omega)]
  rcases h with ⟨i, h1, h2, h3⟩ | ⟨h1, h2⟩
  · rw [lx_i (by omega)] at h1
    rw [ei i (by omega)] at h2
    exact Or.inl ⟨i, by omega, h2, h3⟩
  · refine Or.inr ⟨fun r hr => ?_, h2⟩
    have := h1 r (by rw [lx_i (by omega)]; omega)
    rw [ei r (by omega)] at this
    exact this
end FIND
/-! one change each -/
section STEP
variable {q p : Nat → Nat} {o e : Nat} {Gc Gm : eh_W}
theorem once_bit : ∀ (o : Fin 32) (e : Fin 2) (k : Fin 5), (((nI (o.val ||| e.val)) >>> (nI k.val &&& 31)) &&& 1 = 1 ↔ ((k.val = 0 ∧ e.val = 1) ∨ ((nI o.val) >>> (nI k.val &&& 31)) &&& 1 = 1)) ∧ (o.val ||| 1 <<< k.val) < 32 ∧ nI o.val ||| (1 <<< (nI k.val &&& 31)) = nI (o.val ||| 1 <<< k.val) ∧ nI (o.val ||| e.val) ||| (1 <<< (nI k.val &&& 31)) = nI ((o.val ||| 1 <<< k.val) ||| e.val) := by decide +kernel
theorem once_one : ∀ (o : Fin 32) (e : Fin 2), nI (o.val ||| e.val) ||| 1 = nI (o.val ||| 1) := by decide +kernel
/-- a setting is told: its bit -/
theorem D_once {k : Nat} (hk : k < 5) (h : DR q p o e Gc Gm) : DR q p (o ||| 1 <<< k) e (eh_u Gc 4 2 (.int (eh_i Gc 4 2 ||| (1 <<< (nI k &&& 31))))) (eh_u Gm 0 20 (.int (eh_i Gm 0 20 ||| (1 <<< (nI k &&& 31))))) := by
  obtain ⟨a1, a2, a3, a4, a5, o1, o2, o3, o4⟩ := h
  have z := once_bit ⟨o, o1⟩ ⟨e, o2⟩ ⟨k, hk⟩
  dsimp only at z
  refine ⟨a1, a2, a3, a4, a5, z.2.1, o2, ?_, ?_⟩
  · rw [eh_i_self, o3]
    exact z.2.2.1
  · rw [eh_i_self, o4]
    exact z.2.2.2
theorem D_one (h : DR q p o e Gc Gm) : DR q p o 1 Gc (eh_u Gm 0 20 (.int (eh_i Gm 0 20 ||| 1))) := by
  obtain ⟨a1, a2, a3, a4, a5, o1, o2, o3, o4⟩ := h
  have z := once_one ⟨o, o1⟩ ⟨e, o2⟩
  dsimp only at z
  refine ⟨a1, a2, a3, a4, a5, o1, by decide, o3, ?_⟩
  rw [eh_i_self, o4]
  exact z
/-- its number: cells, shown, keeps, nights -/
def ms (k : Nat) : Nat := [0, 1, 2, 7, 8].getD k 0
theorem D_set {k : Nat} {x : Int32} (hk : k < 5) (h : DR q p o e Gc Gm) (h0 : 0 ≤ x.toInt) (hc : k = 0 → 1 ≤ x.toInt ∧ x.toInt ≤ 8) (hi : k = 4 → eh_i Gc 5 1 = eh_i Gm 3 9) (hz : k = 0 → p 1 = 0) : DR q p o e (eh_u Gc 6 k (.int x)) (eh_u Gm 3 (ms k) (.int x)) := by
  obtain ⟨⟨s1, s2, s3, s4, s5, s6, s7⟩, a2, a3, a4, a5, a6⟩ := h
  have hms : ms k < 10 ∧ (ms k < 3 ∨ 7 ≤ ms k) := by
    match k, hk with
    | 0, _ => decide
    | 1, _ => decide
    | 2, _ => decide
    | 3, _ => decide
    | 4, _ => decide
  have ne : ∀ j, (3 ≤ j ∧ j < 7) ∨ 10 ≤ j → eh_i (eh_u Gm 3 (ms k) (.int x)) 3 j = eh_i Gm 3 j := fun j hj => eh_i_ne _ _ (Or.inr (by omega))
  refine ⟨?_, DRq_fr a2 (fun _ _ => rfl) rfl (fun t ht => ne _ (by omega)), NR_fr a3 (fun _ => rfl) (fun _ => rfl) (fun _ => rfl) (fun _ => rfl), ?_, ?_, a6⟩
  · match k, hk with
    | 0, _ => exact ⟨rfl, (hc rfl).1, (hc rfl).2, s4, s5, s6, s7⟩
    | 1, _ => exact ⟨s1, s2, s3, rfl, s5, s6, s7⟩
    | 2, _ => exact ⟨s1, s2, s3, s4, rfl, s6, s7⟩
    | 3, _ => exact ⟨s1, s2, s3, s4, s5, rfl, s7⟩
    | 4, _ => exact ⟨s1, s2, s3, s4, s5, s6, Or.inr ⟨h0, rfl, hi rfl⟩⟩
  · obtain ⟨b1, b2, b3⟩ := a4
    refine ⟨fun l hl => ?_, b2, b3⟩
    obtain ⟨c1, c2, s, c3, c4, c5, c6, c7⟩ := b1 l hl
    have k0 : k ≠ 0 := fun x => by
      have := hz x
      omega
    have m0 : ms k ≠ 0 := by
      match k, hk, k0 with
      | 0, _, k0 => exact absurd rfl k0
      | 1, _, _ => decide
      | 2, _, _ => decide
      | 3, _, _ => decide
      | 4, _, _ => decide
    have n0 : eh_i (eh_u Gm 3 (ms k) (.int x)) 3 0 = eh_i Gm 3 0 := eh_i_ne _ _ (Or.inr m0)
    exact ⟨c1.trans (ne _ (by omega)).symm, c2, s, c3, c4, fun hl2 => (ne _ (by omega)).trans (c5 hl2), fun i hi => ⟨(c6 i hi).1.trans (ne _ (by omega)).symm, by rw [n0]; exact (c6 i hi).2⟩, c7⟩
  · exact fun j hj => (a5 j hj).trans (ne _ (by omega)).symm
theorem D_long {x : Int32} (h : DR q p o e Gc Gm) (h8 : 0 ≤ (eh_i Gm 3 8).toInt) (h84 : eh_i Gc 6 4 = eh_i Gm 3 8) : DR q p o e (eh_u Gc 5 1 (.int x)) (eh_u Gm 3 9 (.int x)) := by
  obtain ⟨⟨s1, s2, s3, s4, s5, s6, s7⟩, a2, a3, a4, a5, a6⟩ := h
  have ne : ∀ j, j < 9 ∨ 10 ≤ j → eh_i (eh_u Gm 3 9 (.int x)) 3 j = eh_i Gm 3 j := fun j hj => eh_i_ne _ _ (Or.inr (by omega))
  refine ⟨⟨s1, s2, s3, s4, s5, s6, Or.inr ⟨h8, h84, rfl⟩⟩, DRq_fr a2 (fun _ _ => rfl) rfl (fun t ht => ne _ (by omega)), NR_fr a3 (fun _ => rfl) (fun _ => rfl) (fun _ => rfl) (fun _ => rfl), ?_, ?_, a6⟩
  · obtain ⟨b1, b2, b3⟩ := a4
    refine ⟨fun l hl => ?_, b2, b3⟩
    obtain ⟨c1, c2, s, c3, c4, c5, c6, c7⟩ := b1 l hl
    exact ⟨c1.trans (ne _ (by omega)).symm, c2, s, c3, c4, fun hl2 => (ne _ (by omega)).trans (c5 hl2), fun i hi => ⟨(c6 i hi).1.trans (ne _ (by omega)).symm, by rw [ne 0 (by omega)]; exact (c6 i hi).2⟩, c7⟩
  · exact fun j hj => (a5 j hj).trans (ne _ (by omega)).symm
/-- one more of sort t -/
def up (q : Nat → Nat) (t : Nat) : Nat → Nat := fun s => if s = t then q s + 1 else q s
theorem up_self (q : Nat → Nat) (t : Nat) : up q t t = q t + 1 := if_pos rfl
theorem up_ne (q : Nat → Nat) {t s : Nat} (h : s ≠ t) : up q t s = q s := if_neg h
theorem up_sum (q : Nat → Nat) {t : Nat} (ht : t < 4) : up q t 0 + up q t 1 + up q t 2 + up q t 3 = q 0 + q 1 + q 2 + q 3 + 1 := by
  match t, ht with
  | 0, _ => show q 0 + 1 + q 1 + q 2 + q 3 = _; omega
  | 1, _ => show q 0 + (q 1 + 1) + q 2 + q 3 = _; omega
  | 2, _ => show q 0 + q 1 + (q 2 + 1) + q 3 = _; omega
  | 3, _ => show q 0 + q 1 + q 2 + (q 3 + 1) = _; omega
theorem D_name {t N : Nat} {co wd : Int64} (ht : t < 4) (h : DR q p o e Gc Gm) (hlt : q t < mx t) (hN : N = q 0 + q 1 + q 2 + q 3) (vw : VW co wd) (hno : ∀ t r, t < 4 → r < q t → eh_l Gm 5 (bs t + r) ≠ wd) : DR (up q t) p o e (eh_u (eh_u (eh_u (eh_u (eh_u Gc 14 N (.long co)) 15 N (.int (nI t))) 16 N (.int (nI (q t)))) 5 12 (.int (nI N + 1))) 7 t (.int (nI (q t) + 1))) (eh_u Gm 5 (bs t + q t) (.long wd)) := by
  obtain ⟨a1, a2, a3, a4, a5, a6⟩ := h
  have m0 : mx 0 = 6 := rfl
  have m1 : mx 1 = 8 := rfl
  have m2 : mx 2 = 4 := rfl
  have m3 : mx 3 = 6 := rfl
  have qm : ∀ s, s < 4 → q s ≤ mx s := fun s hs => (a2.1 s hs).2.2
  have q0 := qm 0 (by decide)
  have q1 := qm 1 (by decide)
  have q2 := qm 2 (by decide)
  have q3 := qm 3 (by decide)
  have bne : ∀ s r, s < 4 → r < q s → bs t + q t ≠ bs s + r := fun s r hs hr => by
    have := qm s hs
    have b0 : bs 0 = 24 := rfl
    have b1 : bs 1 = 30 := rfl
    have b2 : bs 2 = 38 := rfl
    have b3 : bs 3 = 42 := rfl
    match t, ht, s, hs with
    | 0, _, 0, _ => omega
    | 0, _, 1, _ => omega
    | 0, _, 2, _ => omega
    | 0, _, 3, _ => omega
    | 1, _, 0, _ => omega
    | 1, _, 1, _ => omega
    | 1, _, 2, _ => omega
    | 1, _, 3, _ => omega
    | 2, _, 0, _ => omega
    | 2, _, 1, _ => omega
    | 2, _, 2, _ => omega
    | 2, _, 3, _ => omega
    | 3, _, 0, _ => omega
    | 3, _, 1, _ => omega
    | 3, _, 2, _ => omega
    | 3, _, 3, _ => omega
  have us := up_sum q ht
  refine ⟨a1, ⟨fun s hs => ?_, ?_⟩, ?_, a4, a5, a6⟩
  · by_cases es : s = t
    · subst es
      refine ⟨?_, (a2.1 s hs).2.1, by rw [up_self]; omega⟩
      rw [eh_i_self, lx_a1, up_self]
    · refine ⟨?_, (a2.1 s hs).2.1, by rw [up_ne q es]; exact qm s hs⟩
      rw [eh_i_ne _ _ (Or.inr (fun x => es x.symm)), up_ne q es]
      exact (a2.1 s hs).1
  · show nI N + 1 = _
    rw [lx_a1, us, hN]
  · obtain ⟨na, nb, nc⟩ := a3
    have l14 : ∀ i, i ≠ N → eh_l (eh_u (eh_u (eh_u (eh_u (eh_u Gc 14 N (.long co)) 15 N (.int (nI t))) 16 N (.int (nI (q t)))) 5 12 (.int (nI N + 1))) 7 t (.int (nI (q t) + 1))) 14 i = eh_l Gc 14 i := fun i hi => eh_l_ne Gc (.long co) (Or.inr (fun x => hi x.symm))
    have l14N : eh_l (eh_u (eh_u (eh_u (eh_u (eh_u Gc 14 N (.long co)) 15 N (.int (nI t))) 16 N (.int (nI (q t)))) 5 12 (.int (nI N + 1))) 7 t (.int (nI (q t) + 1))) 14 N = co := eh_l_self Gc 14 N co
    have l15 : ∀ i, i ≠ N → eh_i (eh_u (eh_u (eh_u (eh_u (eh_u Gc 14 N (.long co)) 15 N (.int (nI t))) 16 N (.int (nI (q t)))) 5 12 (.int (nI N + 1))) 7 t (.int (nI (q t) + 1))) 15 i = eh_i Gc 15 i := fun i hi => eh_i_ne (eh_u Gc 14 N (.long co)) (.int (nI t)) (Or.inr (fun x => hi x.symm))
    have l15N : eh_i (eh_u (eh_u (eh_u (eh_u (eh_u Gc 14 N (.long co)) 15 N (.int (nI t))) 16 N (.int (nI (q t)))) 5 12 (.int (nI N + 1))) 7 t (.int (nI (q t) + 1))) 15 N = nI t := eh_i_self (eh_u Gc 14 N (.long co)) 15 N (nI t)
    have l16 : ∀ i, i ≠ N → eh_i (eh_u (eh_u (eh_u (eh_u (eh_u Gc 14 N (.long co)) 15 N (.int (nI t))) 16 N (.int (nI (q t)))) 5 12 (.int (nI N + 1))) 7 t (.int (nI (q t) + 1))) 16 i = eh_i Gc 16 i := fun i hi => eh_i_ne (eh_u (eh_u Gc 14 N (.long co)) 15 N (.int (nI t))) (.int (nI (q t))) (Or.inr (fun x => hi x.symm))
    have l16N : eh_i (eh_u (eh_u (eh_u (eh_u (eh_u Gc 14 N (.long co)) 15 N (.int (nI t))) 16 N (.int (nI (q t)))) 5 12 (.int (nI N + 1))) 7 t (.int (nI (q t) + 1))) 16 N = nI (q t) := eh_i_self (eh_u (eh_u Gc 14 N (.long co)) 15 N (.int (nI t))) 16 N (nI (q t))
    have nocode : ∀ i, i < N → eh_l Gc 14 i ≠ co := fun i hi e1 => by
      obtain ⟨t', r', t1, t2, -, -, t5⟩ := na i (by omega)
      rw [e1] at t5
      exact hno t' r' t1 t2 ((VW_iff vw t5).mp rfl).symm
    refine ⟨fun i hi => ?_, fun s r hs hr => ?_, fun i j hi hj ee => ?_⟩
    · rw [us] at hi
      by_cases ei : i = N
      · subst ei
        refine ⟨t, q t, ht, by rw [up_self]; omega, l15N, l16N, ?_⟩
        rw [l14N, eh_l_self]
        exact vw
      · obtain ⟨t', r', t1, t2, t3, t4, t5⟩ := na i (by omega)
        refine ⟨t', r', t1, ?_, by rw [l15 i ei]; exact t3, by rw [l16 i ei]; exact t4, ?_⟩
        · unfold up
          split <;> omega
        · rw [l14 i ei, eh_l_ne Gm _ (Or.inr (bne t' r' t1 t2))]
          exact t5
    · rw [us]
      by_cases es : s = t ∧ r = q t
      · obtain ⟨rfl, rfl⟩ := es
        exact ⟨N, by omega, l15N, l16N⟩
      · have hr2 : r < q s := by
          unfold up at hr
          split at hr
          · next e1 =>
            subst e1
            have : r ≠ q s := fun x => es ⟨rfl, x⟩
            omega
          · exact hr
        obtain ⟨i, i1, i2, i3⟩ := nb s r hs hr2
        exact ⟨i, by omega, by rw [l15 i (by omega)]; exact i2, by rw [l16 i (by omega)]; exact i3⟩
    · rw [us] at hi hj
      by_cases ei : i = N
      · by_cases ej : j = N
        · omega
        · subst ei
          rw [l14N, l14 j ej] at ee
          exact absurd ee.symm (nocode j (by omega))
      · by_cases ej : j = N
        · subst ej
          rw [l14N, l14 i ei] at ee
          exact absurd ee (nocode i (by omega))
        · rw [l14 i ei, l14 j ej] at ee
          exact nc i j (by omega) (by omega) ee
/-- the reference counts it: cues, teachers -/
theorem D_cnt {t : Nat} (ht : t < 4) (h1 : t ≠ 1) (h3 : t ≠ 3) {x : Int32} (h : DR q p o e Gc Gm) (hx : x = nI (p t + 1)) : DR q (up p t) o e Gc (eh_u Gm 3 (3 + t) (.int x)) := by
  obtain ⟨a1, a2, a3, a4, a5, a6⟩ := h
  subst hx
  have ne : ∀ j, j ≠ 3 + t → eh_i (eh_u Gm 3 (3 + t) (.int (nI (p t + 1)))) 3 j = eh_i Gm 3 j := fun j hj => eh_i_ne _ _ (Or.inr (fun x => hj x.symm))
  refine ⟨DRs_fr a1 (fun _ _ => rfl) rfl (fun j hj => ne j (by omega)), ⟨fun s hs => ⟨(a2.1 s hs).1, ?_, (a2.1 s hs).2.2⟩, a2.2⟩, a3, ?_, ?_, a6⟩
  · by_cases es : s = t
    · subst es
      rw [eh_i_self, up_self]
    · rw [ne _ (by omega), up_ne p es]
      exact (a2.1 s hs).2.1
  · rw [up_ne p (fun x => h1 x.symm)]
    obtain ⟨b1, b2, b3⟩ := a4
    refine ⟨fun l hl => ?_, b2, b3⟩
    obtain ⟨c1, c2, s, c3, c4, c5, c6, c7⟩ := b1 l hl
    exact ⟨c1.trans (ne _ (by omega)).symm, c2, s, c3, c4, fun hl2 => (ne _ (by omega)).trans (c5 hl2), fun i hi => ⟨(c6 i hi).1.trans (ne _ (by omega)).symm, by rw [ne 0 (by omega)]; exact (c6 i hi).2⟩, c7⟩
  · rw [up_ne p (fun x => h3 x.symm)]
    exact fun j hj => (a5 j hj).trans (ne _ (by omega)).symm
/-- a boat: its cell, and it counts -/
theorem D_boat {k : Nat} {x : Int32} (h : DR q p o e Gc Gm) (hk : k = p 3) (hp : k < 6) (hp1 : p 1 ≤ 8) : DR q (up p 3) o e (eh_u Gc 13 k (.int x)) (eh_u (eh_u Gm 3 (90 + k) (.int x)) 3 6 (.int (nI (p 3) + 1))) := by
  obtain ⟨a1, a2, a3, a4, a5, a6⟩ := h
  subst hk
  have ne : ∀ j, j ≠ 90 + p 3 → j ≠ 6 → eh_i (eh_u (eh_u Gm 3 (90 + p 3) (.int x)) 3 6 (.int (nI (p 3) + 1))) 3 j = eh_i Gm 3 j := fun j h1 h2 => (eh_i_ne _ _ (Or.inr (fun x => h2 x.symm))).trans (eh_i_ne _ _ (Or.inr (fun x => h1 x.symm)))
  refine ⟨DRs_fr a1 (fun _ _ => rfl) rfl (fun j hj => ne j (by omega) (by omega)), ⟨fun s hs => ⟨(a2.1 s hs).1, ?_, (a2.1 s hs).2.2⟩, a2.2⟩, a3, ?_, ?_, a6⟩
  · by_cases es : s = 3
    · subst es
      rw [up_self]
      exact (eh_i_self _ 3 6 _).trans (lx_a1 _)
    · rw [ne _ (by omega) (by omega), up_ne p es]
      exact (a2.1 s hs).2.1
  · rw [up_ne p (by decide)]
    obtain ⟨b1, b2, b3⟩ := a4
    refine ⟨fun l hl => ?_, b2, b3⟩
    obtain ⟨c1, c2, s, c3, c4, c5, c6, c7⟩ := b1 l hl
    exact ⟨c1.trans (ne _ (by omega) (by omega)).symm, c2, s, c3, c4, fun hl2 => (ne _ (by omega) (by omega)).trans (c5 hl2), fun i hi => ⟨(c6 i hi).1.trans (ne _ (by omega) (by omega)).symm, by rw [ne 0 (by omega) (by omega)]; exact (c6 i hi).2⟩, c7⟩
  · rw [up_self]
    intro j hj
    by_cases ej : j = p 3
    · subst ej
      rw [eh_i_self, eh_i_ne _ _ (Or.inr (by omega)), eh_i_self]
    · rw [ne _ (by omega) (by omega), eh_i_ne _ _ (Or.inr (fun x => ej x.symm))]
      exact a5 j (by omega)
end STEP
