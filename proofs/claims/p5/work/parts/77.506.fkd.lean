/-! what follows a DIARY's reading leaves the FAULT, on both sides -/
def fk_LA : List Nat := [4, 5, 6, 7, 8, 9, 27, 32, 33, 34, 35, 39, 41, 52, 53, 54, 55, 57, 58, 59, 60, 61, 62, 63, 64, 65, 66, 67, 70]
def fk_LB : List Nat := [149, 150, 151, 174, 180, 181, 183, 184, 190, 191, 194, 195, 196, 197, 198, 199, 200, 201, 202, 203, 204, 209, 211, 212, 239]
def fk_in (l : List Nat) (j : Nat) : Bool := l.any (Nat.beq j)
theorem fk_all {T I : Nat} {l : List Nat} (h : l.all (fun j => match ri_md[j]? with
  | some q => fk_m T I (fk_in l) 0 q
  | none => true) = true) (j : Nat) (hj : fk_in l j = true) (q : ri_M × ri_T) (hq : ri_md[j]? = some q) : fk_m T I (fk_in l) 0 q = true := by
  obtain ⟨a, a1, a2⟩ := List.any_eq_true.mp hj
  have := List.all_eq_true.mp h a a1
  rw [← Nat.eq_of_beq_eq_true a2, hq] at this
  exact this
set_option maxRecDepth 100000 in
theorem fk_okA : fk_LA.all (fun j => match ri_md[j]? with
  | some q => fk_m 11 15 (fk_in fk_LA) 0 q
  | none => true) = true := by decide +kernel
set_option maxRecDepth 100000 in
theorem fk_okB : fk_LB.all (fun j => match ri_md[j]? with
  | some q => fk_m 12 15 (fk_in fk_LB) 0 q
  | none => true) = true := by decide +kernel
set_option maxRecDepth 100000 in
theorem fk_137 : fk_m 11 15 (fk_in fk_LA) 62 md_137 = true := by decide +kernel
set_option maxRecDepth 100000 in
theorem fk_240 : fk_m 12 15 (fk_in fk_LB) 83 md_240 = true := by decide +kernel
theorem fk_V {T I : Nat} {h h' : ri_H} (f : fk_R T I h h') {r : Nat} {c : ri_C} (hc : h[r]? = some c) (ht : c.1 = T) : eh_V h' r I = eh_V h r I := by
  obtain ⟨c', h1, -, h3⟩ := f r c hc ht
  unfold eh_V
  rw [hc, h1]
  exact h3
/-- behind 62 / 83 -/
theorem fk_C {d : Nat} {lo : List (Nat × Value)} {st rs : List Value} {h h' : ri_H} {c : ri_C} (E : eh_e (ri_calE ri_md d) md_137 62 lo st h rs h') (hc : h[0]? = some c) (ht : c.1 = 11) : eh_i (eh_V h') 0 15 = eh_i (eh_V h) 0 15 := by
  have e := fk_V (fk_run (by decide) (fk_all fk_okA) fk_137 (Nat.le_refl _) (by decide) E) hc ht
  unfold eh_i
  rw [e]
theorem fk_M {d : Nat} {lo : List (Nat × Value)} {st rs : List Value} {h h' : ri_H} {c : ri_C} (E : eh_e (ri_calE ri_md d) md_240 83 lo st h rs h') (hc : h[0]? = some c) (ht : c.1 = 12) : eh_i (eh_V h') 0 15 = eh_i (eh_V h) 0 15 := by
  have e := fk_V (fk_run (by decide) (fk_all fk_okB) fk_240 (Nat.le_refl _) (by decide) E) hc ht
  unfold eh_i
  rw [e]
/-- a cell's kind, at a place on the way -/
theorem kd_mid {cal : eh_K} (hcal : ri_HL cal) {q : ri_M × ri_T} {pc : Nat} {lo : List (Nat × Value)} {st rs : List Value} {h g h' : ri_H} {c : ri_C} {k k' i : Nat} {v : Value} (E : ln_R h h') (E2 : eh_e cal q pc lo st g rs h') (hc : h[k]? = some c) (hk : k ≤ k') (hg : eh_V g k' i = some v) : ∃ c', g[k]? = some c' ∧ c'.1 = c.1 := by
  obtain ⟨c1, a1, a2⟩ := ln_kd E hc
  have hl : k' < g.length := by
    cases hx : g[k']? with
    | none =>
      unfold eh_V at hg
      rw [hx] at hg
      cases hg
    | some c' => exact (List.getElem?_eq_some_iff.mp hx).1
  have hx : g[k]? = some (g[k]'(by omega)) := List.getElem?_eq_getElem (by omega)
  obtain ⟨c2, b1, b2⟩ := ln_kd (ln_run hcal E2) hx
  rw [a1] at b1
  cases b1
  exact ⟨_, hx, b2.symm.trans a2⟩
