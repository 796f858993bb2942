/-! invariants of the reference's rows: the sentence in postfix (s, kept, read), the lines of a diary (read), copies under way -/
def mj_int (h : ri_H) (k : Nat) (i : Int) : Option Int := match sx_at h k i with
  | some (.int x) => some x.toInt
  | _ => none
theorem mj_int_of {h : ri_H} {k : Nat} {i : Int} {x : Int32} (e : sx_at h k i = some (.int x)) : mj_int h k i = some x.toInt := by
  unfold mj_int
  rw [e]
theorem mj_int_cg {h h' : ri_H} {k k' : Nat} {i i' : Int} (e : sx_at h' k' i' = sx_at h k i) : mj_int h' k' i' = mj_int h k i := by
  unfold mj_int
  rw [e]
/-- how many truths a row of codes leaves: a leaf adds one, 20 (not) wants one, 21, 22 (and, or) want two and leave one -/
def mj_pf (f : Nat → Option Int) : Nat → Option Nat
  | 0 => some 0
  | n + 1 => match mj_pf f n, f n with
    | some D, some v => if v = 20 then (if 1 ≤ D then some D else none) else if v = 21 ∨ v = 22 then (if 2 ≤ D then some (D - 1) else none) else some (D + 1)
    | _, _ => none
def mj_jn (f : Nat → Option Int) : Nat → Nat
  | 0 => 0
  | n + 1 => mj_jn f n + (match f n with
    | some v => if v = 21 ∨ v = 22 then 1 else 0
    | none => 0)
theorem mj_pf_cg {f g : Nat → Option Int} : ∀ {n : Nat}, (∀ i, i < n → f i = g i) → mj_pf f n = mj_pf g n
  | 0, _ => rfl
  | n + 1, h => by
    unfold mj_pf
    rw [mj_pf_cg (n := n) (fun i hi => h i (by omega)), h n (by omega)]
theorem mj_jn_cg {f g : Nat → Option Int} : ∀ {n : Nat}, (∀ i, i < n → f i = g i) → mj_jn f n = mj_jn g n
  | 0, _ => rfl
  | n + 1, h => by
    unfold mj_jn
    rw [mj_jn_cg (n := n) (fun i hi => h i (by omega)), h n (by omega)]
def mj_P (h : ri_H) : Prop := ∃ c : Int, mj_int h 2 174 = some c ∧ c ≤ 60 ∧ ∃ D, mj_pf (fun i => mj_int h 2 (175 + 3 * (i : Int))) c.toNat = some D
def mj_Kk (k : Int) (h : ri_H) : Prop := ∀ a, mj_int h 17 k = some a → 1 ≤ a → ∃ c : Int, mj_int h 15 (355 * k + 174) = some c ∧ c ≤ 60 ∧ ∃ D, mj_pf (fun i => mj_int h 15 (355 * k + 175 + 3 * (i : Int))) c.toNat = some D
def mj_row (h : ri_H) (i x : Int) : Prop := (x = 0 → ∀ z, mj_int h 4 (3 * i + 2) = some z → 0 ≤ z ∧ z ≤ 7) ∧ (x = 2 → ∀ y, mj_int h 4 (3 * i + 1) = some y → 0 ≤ y ∧ y ≤ 5)
def mj_A (h : ri_H) : Prop := ∀ c i x : Int, mj_int h 0 35 = some c → 0 ≤ i → i < c → mj_int h 4 (3 * i) = some x → mj_row h i x
def mj_Bp (h : ri_H) : Prop := ∀ c x : Int, mj_int h 0 35 = some c → mj_int h 4 (3 * c) = some x → mj_row h c x
def mj_T (h : ri_H) : Prop := ∀ t v : Int, mj_int h 0 41 = some t → 1 ≤ t → mj_int h 13 (t - 1) = some v → v ≠ 21 ∧ v ≠ 22
def mj_S (x d : Nat) (h : ri_H) : Prop := ∃ c t o : Int, mj_int h 0 39 = some c ∧ mj_int h 0 41 = some t ∧ mj_int h 0 40 = some o ∧ 0 ≤ c ∧ 0 ≤ t ∧ o ≤ 20 ∧ c + t + (d : Int) ≤ 2 * o ∧ mj_pf (fun i => mj_int h 4 (3 * (i : Int))) c.toNat = some (mj_jn (fun i => mj_int h 13 (i : Int)) t.toNat + x)
def mj_R (k i : Int) (h : ri_H) : Prop := ∀ j : Int, 174 ≤ j → j < i → sx_at h 2 j = sx_at h 15 (355 * k + j)
def mj_C (i : Int) (h : ri_H) : Prop := ∀ j : Int, 0 ≤ j → j < i → sx_at h 2 (175 + j) = sx_at h 4 j
def mj_Q (c : Nat) (o i : Int) (h : ri_H) : Prop := ∀ j : Int, 0 ≤ j → j < i → sx_at h 2 j = sx_at h c (o + j)
def mj_J (gd : List sx_T) (j : Nat) (h : ri_H) : Prop :=
  if j < 8 then sx_Jg gd j h else if j = 8 then mj_P h else if j = 9 then mj_Kk 0 h else if j = 10 then mj_Kk 1 h else if j = 11 then mj_A h else if j = 12 then mj_Bp h else if j = 13 then mj_T h else if 20 ≤ j ∧ j < 32 then mj_S ((j - 20) / 4) ((j - 20) % 4) h else if 100 ≤ j ∧ j < 300 then mj_R 0 (74 + (j : Int)) h else if 300 ≤ j ∧ j < 500 then mj_R 1 ((j : Int) - 126) h else if 500 ≤ j then mj_C ((j : Int) - 500) h else if 40 ≤ j ∧ j < 60 then mj_Q 15 0 ((j : Int) - 40) h else if 60 ≤ j ∧ j < 80 then mj_Q 15 355 ((j : Int) - 60) h else if 80 ≤ j ∧ j < 100 then mj_Q 3 0 ((j : Int) - 80) h else True
def mj_big : Int := 100000000000
def mj_d1 (gd : List sx_T) (j : Nat) : List (Nat × Int × Int) :=
  bif Nat.blt j 8 then (sx_dpg gd).1 j else bif Nat.beq j 8 then [(2, 174, 354)] else bif Nat.beq j 9 then [(17, 0, 0), (15, 174, 354)] else bif Nat.beq j 10 then [(17, 1, 1), (15, 529, 709)] else bif Nat.beq j 11 || Nat.beq j 12 then [(0, 35, 35), (4, -1, mj_big)] else bif Nat.beq j 13 then [(0, 41, 41), (13, -1, mj_big)] else bif Nat.ble 20 j && Nat.blt j 32 then [(0, 39, 39), (0, 40, 40), (0, 41, 41), (4, -1, mj_big), (13, -1, mj_big)] else bif Nat.ble 100 j && Nat.blt j 300 then [(2, 174, 73 + (j : Int)), (15, 174, 73 + (j : Int))] else bif Nat.ble 300 j && Nat.blt j 500 then [(2, 174, (j : Int) - 127), (15, 529, (j : Int) + 228)] else bif Nat.ble 500 j then [(2, 175, (j : Int) - 326), (4, 0, (j : Int) - 501)] else bif Nat.ble 40 j && Nat.blt j 60 then [(2, 0, (j : Int) - 41), (15, 0, (j : Int) - 41)] else bif Nat.ble 60 j && Nat.blt j 80 then [(2, 0, (j : Int) - 61), (15, 355, (j : Int) + 294)] else bif Nat.ble 80 j && Nat.blt j 100 then [(2, 0, (j : Int) - 81), (3, 0, (j : Int) - 81)] else []
theorem mj_int_bd {h : ri_H} {k : Nat} {i y : Int} (e : mj_int h k i = some y) : -2147483648 ≤ y ∧ y ≤ 2147483647 := by
  unfold mj_int at e
  split at e
  · next x _ =>
    have := sx_bd x
    have := Option.some.inj e
    omega
  · cases e
theorem mj_neg (h : ri_H) (k n : Nat) : sx_at h k (.negSucc n) = none := by
  unfold sx_at
  cases h[k]? <;> rfl
section MJA
variable {gd : List sx_T}
theorem mj_fr {j : Nat} {h h' : ri_H} (hf : ∀ d ∈ mj_d1 gd j, ∀ i : Int, d.2.1 ≤ i → i ≤ d.2.2 → sx_at h' d.1 i = sx_at h d.1 i) (H : mj_J gd j h) : mj_J gd j h' := by
  unfold mj_J at H ⊢
  unfold mj_d1 at hf
  by_cases ee : j < 8
  · have e := ee
    rw [if_pos ee] at H
    rw [if_pos e]
    rw [Nat.blt_eq.mpr e] at hf
    dsimp only [cond_true] at hf
    exact (sx_HJg [] gd).1 j h h' hf H
  · have e8 := ee
    rw [if_neg ee] at H
    rw [if_neg e8]
    rw [show Nat.blt j 8 = false by
      cases hb : Nat.blt j 8 with
      | false => rfl
      | true => exact absurd (Nat.blt_eq.mp hb) e8] at hf
    dsimp only [cond_false] at hf
    by_cases ee : j = 8
    · have e := ee
      rw [if_pos ee] at H
      subst e
      rw [if_pos rfl]
      have hf : ∀ i : Int, 174 ≤ i → i ≤ 354 → sx_at h' 2 i = sx_at h 2 i := fun i h1 h2 => hf (2, 174, 354) (by decide) i h1 h2
      obtain ⟨c, c1, c2, D, c3⟩ := H
      refine ⟨c, (mj_int_cg (hf _ (by omega) (by omega))).trans c1, c2, D, ?_⟩
      rw [← c3]
      exact mj_pf_cg (fun i hi => mj_int_cg (hf _ (by omega) (by omega)))
    · have e9 := ee
      rw [if_neg ee] at H
      rw [if_neg e9]
      by_cases ee : j = 9
      · have e := ee
        rw [if_pos ee] at H
        subst e
        rw [if_pos rfl]
        intro a ha h1
        have hf1 : ∀ i : Int, 174 ≤ i → i ≤ 354 → sx_at h' 15 i = sx_at h 15 i := fun i h1 h2 => hf (15, 174, 354) (by decide) i h1 h2
        rw [mj_int_cg (hf (17, 0, 0) (by decide) 0 (by decide) (by decide))] at ha
        obtain ⟨c, c1, c2, D, c3⟩ := H a ha h1
        refine ⟨c, (mj_int_cg (hf1 _ (by omega) (by omega))).trans c1, c2, D, ?_⟩
        rw [← c3]
        exact mj_pf_cg (fun i hi => mj_int_cg (hf1 _ (by omega) (by omega)))
      · have e10 := ee
        rw [if_neg ee] at H
        rw [if_neg e10]
        by_cases ee : j = 10
        · have e := ee
          rw [if_pos ee] at H
          subst e
          rw [if_pos rfl]
          intro a ha h1
          have hf1 : ∀ i : Int, 529 ≤ i → i ≤ 709 → sx_at h' 15 i = sx_at h 15 i := fun i h1 h2 => hf (15, 529, 709) (by decide) i h1 h2
          rw [mj_int_cg (hf (17, 1, 1) (by decide) 1 (by decide) (by decide))] at ha
          obtain ⟨c, c1, c2, D, c3⟩ := H a ha h1
          refine ⟨c, (mj_int_cg (hf1 _ (by omega) (by omega))).trans c1, c2, D, ?_⟩
          rw [← c3]
          exact mj_pf_cg (fun i hi => mj_int_cg (hf1 _ (by omega) (by omega)))
        · have e11 := ee
          rw [if_neg ee] at H
          rw [if_neg e11]
          by_cases ee : j = 11
          · have e := ee
            rw [if_pos ee] at H
            subst e
            rw [if_pos rfl]
            have f0 := hf (0, 35, 35) (by decide) 35 (by decide) (by decide)
            have f4 : ∀ i : Int, -1 ≤ i → i ≤ mj_big → sx_at h' 4 i = sx_at h 4 i := fun i h1 h2 => hf (4, -1, mj_big) (by decide) i h1 h2
            unfold mj_big at f4
            intro c i x hc h0 hi hx
            rw [mj_int_cg f0] at hc
            have := mj_int_bd hc
            rw [mj_int_cg (f4 _ (by omega) (by omega))] at hx
            obtain ⟨r1, r2⟩ := H c i x hc h0 hi hx
            refine ⟨fun e z hz => r1 e z ?_, fun e y hy => r2 e y ?_⟩
            · rw [← hz]; exact (mj_int_cg (f4 _ (by omega) (by omega))).symm
            · rw [← hy]; exact (mj_int_cg (f4 _ (by omega) (by omega))).symm
          · have e12 := ee
            rw [if_neg ee] at H
            rw [if_neg e12]
            by_cases ee : j = 12
            · have e := ee
              rw [if_pos ee] at H
              subst e
              rw [if_pos rfl]
              have f0 := hf (0, 35, 35) (by decide) 35 (by decide) (by decide)
              have f4 : ∀ i : Int, i ≤ mj_big → sx_at h' 4 i = sx_at h 4 i := fun i h2 => by
                by_cases h1 : -1 ≤ i
                · exact hf (4, -1, mj_big) (by decide) i h1 h2
                · match i, h1 with
                  | .ofNat n, h1 => exact absurd (show (-1 : Int) ≤ (n : Int) by omega) h1
                  | .negSucc n, h1 => rw [mj_neg, mj_neg]
              unfold mj_big at f4
              intro c x hc hx
              rw [mj_int_cg f0] at hc
              have := mj_int_bd hc
              rw [mj_int_cg (f4 _ (by omega))] at hx
              obtain ⟨r1, r2⟩ := H c x hc hx
              refine ⟨fun e z hz => r1 e z ?_, fun e y hy => r2 e y ?_⟩
              · rw [← hz]; exact (mj_int_cg (f4 _ (by omega))).symm
              · rw [← hy]; exact (mj_int_cg (f4 _ (by omega))).symm
            · have e13 := ee
              rw [if_neg ee] at H
              rw [if_neg e13]
              by_cases ee : j = 13
              · have e := ee
                rw [if_pos ee] at H
                subst e
                rw [if_pos rfl]
                have f0 := hf (0, 41, 41) (by decide) 41 (by decide) (by decide)
                have f4 : ∀ i : Int, -1 ≤ i → i ≤ mj_big → sx_at h' 13 i = sx_at h 13 i := fun i h1 h2 => hf (13, -1, mj_big) (by decide) i h1 h2
                unfold mj_big at f4
                intro t v ht h1 hv
                rw [mj_int_cg f0] at ht
                have := mj_int_bd ht
                rw [mj_int_cg (f4 _ (by omega) (by omega))] at hv
                exact H t v ht h1 hv
              · have e14 := ee
                rw [if_neg ee] at H
                rw [if_neg e14]
                by_cases ee : 20 ≤ j ∧ j < 32
                · have e := ee
                  rw [if_pos ee] at H
                  rw [if_pos e]
                  have hb : (Nat.ble 20 j && Nat.blt j 32) = true := by
                    rw [Nat.ble_eq.mpr e.1, Nat.blt_eq.mpr e.2]; rfl
                  have b8 : Nat.beq j 8 = false := Bool.eq_false_iff.mpr (fun q => e9 (Nat.eq_of_beq_eq_true q))
                  have b9 : Nat.beq j 9 = false := Bool.eq_false_iff.mpr (fun q => e10 (Nat.eq_of_beq_eq_true q))
                  have b10 : Nat.beq j 10 = false := Bool.eq_false_iff.mpr (fun q => e11 (Nat.eq_of_beq_eq_true q))
                  have b11 : Nat.beq j 11 = false := Bool.eq_false_iff.mpr (fun q => e12 (Nat.eq_of_beq_eq_true q))
                  have b12 : Nat.beq j 12 = false := Bool.eq_false_iff.mpr (fun q => e13 (Nat.eq_of_beq_eq_true q))
                  have b13 : Nat.beq j 13 = false := Bool.eq_false_iff.mpr (fun q => e14 (Nat.eq_of_beq_eq_true q))
                  rw [b8, b9, b10, b11, b12, b13, hb] at hf
                  have hf : ∀ d ∈ [((0 : Nat), (39 : Int), (39 : Int)), (0, 40, 40), (0, 41, 41), (4, -1, mj_big), (13, -1, mj_big)], ∀ i : Int, d.2.1 ≤ i → i ≤ d.2.2 → sx_at h' d.1 i = sx_at h d.1 i := hf
                  have g1 := hf (0, 39, 39) (by decide) 39 (by decide) (by decide)
                  have g2 := hf (0, 40, 40) (by decide) 40 (by decide) (by decide)
                  have g3 := hf (0, 41, 41) (by decide) 41 (by decide) (by decide)
                  have g4 : ∀ i : Int, -1 ≤ i → i ≤ mj_big → sx_at h' 4 i = sx_at h 4 i := fun i h1 h2 => hf (4, -1, mj_big) (by decide) i h1 h2
                  have g5 : ∀ i : Int, -1 ≤ i → i ≤ mj_big → sx_at h' 13 i = sx_at h 13 i := fun i h1 h2 => hf (13, -1, mj_big) (by decide) i h1 h2
                  unfold mj_big at g4 g5
                  obtain ⟨c, t, o, c1, c2, c3, c4, c5, c6, c7, c8⟩ := H
                  have := mj_int_bd c1
                  have := mj_int_bd c2
                  refine ⟨c, t, o, (mj_int_cg g1).trans c1, (mj_int_cg g3).trans c2, (mj_int_cg g2).trans c3, c4, c5, c6, c7, ?_⟩
                  rw [mj_pf_cg (g := fun i => mj_int h 4 (3 * (i : Int))) (fun i hi => mj_int_cg (g4 _ (by omega) (by omega))), mj_jn_cg (g := fun i => mj_int h 13 (i : Int)) (fun i hi => mj_int_cg (g5 _ (by omega) (by omega)))]
                  exact c8
                · have e15 := ee
                  rw [if_neg ee] at H
                  rw [if_neg e15]
                  have hb : (Nat.ble 20 j && Nat.blt j 32) = false := Bool.eq_false_iff.mpr (fun q => e15 (by
                    simp only [Bool.and_eq_true, Nat.ble_eq, Nat.blt_eq] at q
                    exact q))
                  have b8 : Nat.beq j 8 = false := Bool.eq_false_iff.mpr (fun q => e9 (Nat.eq_of_beq_eq_true q))
                  have b9 : Nat.beq j 9 = false := Bool.eq_false_iff.mpr (fun q => e10 (Nat.eq_of_beq_eq_true q))
                  have b10 : Nat.beq j 10 = false := Bool.eq_false_iff.mpr (fun q => e11 (Nat.eq_of_beq_eq_true q))
                  have b11 : Nat.beq j 11 = false := Bool.eq_false_iff.mpr (fun q => e12 (Nat.eq_of_beq_eq_true q))
                  have b12 : Nat.beq j 12 = false := Bool.eq_false_iff.mpr (fun q => e13 (Nat.eq_of_beq_eq_true q))
                  have b13 : Nat.beq j 13 = false := Bool.eq_false_iff.mpr (fun q => e14 (Nat.eq_of_beq_eq_true q))
                  rw [b8, b9, b10, b11, b12, b13, hb] at hf
                  dsimp only [cond_false, Bool.false_or] at hf
                  by_cases ee : 100 ≤ j ∧ j < 300
                  · have e := ee
                    rw [if_pos ee] at H
                    rw [if_pos e]
                    rw [show (Nat.ble 100 j && Nat.blt j 300) = true by rw [Nat.ble_eq.mpr e.1, Nat.blt_eq.mpr e.2]; rfl] at hf
                    intro i h1 h2
                    have g1 := hf (2, 174, 73 + (j : Int)) List.mem_cons_self i h1 (by dsimp only; omega)
                    have g2 := hf (15, 174, 73 + (j : Int)) (List.mem_cons_of_mem _ List.mem_cons_self) (355 * 0 + i) (by dsimp only; omega) (by dsimp only; omega)
                    rw [g1, g2]
                    exact H i h1 h2
                  · have e16 := ee
                    rw [if_neg ee] at H
                    rw [if_neg e16]
                    rw [show (Nat.ble 100 j && Nat.blt j 300) = false from Bool.eq_false_iff.mpr (fun q => e16 (by
                      simp only [Bool.and_eq_true, Nat.ble_eq, Nat.blt_eq] at q
                      exact q))] at hf
                    dsimp only [cond_false] at hf
                    by_cases ee : 300 ≤ j ∧ j < 500
                    · have e := ee
                      rw [if_pos ee] at H
                      rw [if_pos e]
                      rw [show (Nat.ble 300 j && Nat.blt j 500) = true by rw [Nat.ble_eq.mpr e.1, Nat.blt_eq.mpr e.2]; rfl] at hf
                      intro i h1 h2
                      have g1 := hf (2, 174, (j : Int) - 127) List.mem_cons_self i h1 (by dsimp only; omega)
                      have g2 := hf (15, 529, (j : Int) + 228) (List.mem_cons_of_mem _ List.mem_cons_self) (355 * 1 + i) (by dsimp only; omega) (by dsimp only; omega)
                      rw [g1, g2]
                      exact H i h1 h2
                    · have e17 := ee
                      rw [if_neg ee] at H
                      rw [if_neg e17]
                      rw [show (Nat.ble 300 j && Nat.blt j 500) = false from Bool.eq_false_iff.mpr (fun q => e17 (by
                        simp only [Bool.and_eq_true, Nat.ble_eq, Nat.blt_eq] at q
                        exact q))] at hf
                      dsimp only [cond_false] at hf
                      by_cases ee : 500 ≤ j
                      · have e := ee
                        rw [if_pos ee] at H
                        rw [if_pos e]
                        rw [show Nat.ble 500 j = true from Nat.ble_eq.mpr e] at hf
                        intro i h1 h2
                        have g1 := hf (2, 175, (j : Int) - 326) List.mem_cons_self (175 + i) (by dsimp only; omega) (by dsimp only; omega)
                        have g2 := hf (4, 0, (j : Int) - 501) (List.mem_cons_of_mem _ List.mem_cons_self) i h1 (by dsimp only; omega)
                        rw [g1, g2]
                        exact H i h1 h2
                      · have e18 := ee
                        rw [if_neg ee] at H
                        rw [if_neg e18]
                        rw [show Nat.ble 500 j = false from Bool.eq_false_iff.mpr (fun q => e18 (Nat.ble_eq.mp q))] at hf
                        dsimp only [cond_false] at hf
                        by_cases ee : 40 ≤ j ∧ j < 60
                        · have e := ee
                          rw [if_pos ee] at H
                          rw [if_pos e]
                          rw [show (Nat.ble 40 j && Nat.blt j 60) = true by rw [Nat.ble_eq.mpr e.1, Nat.blt_eq.mpr e.2]; rfl] at hf
                          intro i h1 h2
                          have g1 := hf (2, 0, (j : Int) - 41) List.mem_cons_self i h1 (by dsimp only; omega)
                          have g2 := hf (15, 0, (j : Int) - 41) (List.mem_cons_of_mem _ List.mem_cons_self) (0 + i) (by dsimp only; omega) (by dsimp only; omega)
                          rw [g1, g2]
                          exact H i h1 h2
                        · have e19 := ee
                          rw [if_neg ee] at H
                          rw [if_neg e19]
                          rw [show (Nat.ble 40 j && Nat.blt j 60) = false from Bool.eq_false_iff.mpr (fun q => e19 (by
                            simp only [Bool.and_eq_true, Nat.ble_eq, Nat.blt_eq] at q
                            exact q))] at hf
                          dsimp only [cond_false] at hf
                          by_cases ee : 60 ≤ j ∧ j < 80
                          · have e := ee
                            rw [if_pos ee] at H
                            rw [if_pos e]
                            rw [show (Nat.ble 60 j && Nat.blt j 80) = true by rw [Nat.ble_eq.mpr e.1, Nat.blt_eq.mpr e.2]; rfl] at hf
                            intro i h1 h2
                            have g1 := hf (2, 0, (j : Int) - 61) List.mem_cons_self i h1 (by dsimp only; omega)
                            have g2 := hf (15, 355, (j : Int) + 294) (List.mem_cons_of_mem _ List.mem_cons_self) (355 + i) (by dsimp only; omega) (by dsimp only; omega)
                            rw [g1, g2]
                            exact H i h1 h2
                          · have e20 := ee
                            rw [if_neg ee] at H
                            rw [if_neg e20]
                            rw [show (Nat.ble 60 j && Nat.blt j 80) = false from Bool.eq_false_iff.mpr (fun q => e20 (by
                              simp only [Bool.and_eq_true, Nat.ble_eq, Nat.blt_eq] at q
                              exact q))] at hf
                            dsimp only [cond_false] at hf
                            by_cases ee : 80 ≤ j ∧ j < 100
                            · have e := ee
                              rw [if_pos ee] at H
                              rw [if_pos e]
                              rw [show (Nat.ble 80 j && Nat.blt j 100) = true by rw [Nat.ble_eq.mpr e.1, Nat.blt_eq.mpr e.2]; rfl] at hf
                              intro i h1 h2
                              have g1 := hf (2, 0, (j : Int) - 81) List.mem_cons_self i h1 (by dsimp only; omega)
                              have g2 := hf (3, 0, (j : Int) - 81) (List.mem_cons_of_mem _ List.mem_cons_self) (0 + i) (by dsimp only; omega) (by dsimp only; omega)
                              rw [g1, g2]
                              exact H i h1 h2
                            · have e21 := ee
                              rw [if_neg ee] at H
                              rw [if_neg e21]
                              trivial
end MJA
