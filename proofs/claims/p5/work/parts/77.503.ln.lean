/-! a call keeps every cell's length -/
def eh_S (h : ri_H) : List (Nat × Nat) := h.map (fun c => (c.1, c.2.length))
def ln_R (h h' : ri_H) : Prop := ∃ t, eh_S h' = eh_S h ++ t
theorem ln_rf (h : ri_H) : ln_R h h := ⟨[], (List.append_nil _).symm⟩
theorem ln_tr {a b c : ri_H} (x : ln_R a b) (y : ln_R b c) : ln_R a c := by
  obtain ⟨s, hs⟩ := x
  obtain ⟨t, ht⟩ := y
  exact ⟨s ++ t, by rw [ht, hs, List.append_assoc]⟩
theorem ln_set {h : ri_H} {r : Nat} {q : ri_C} {x : List Value} (hq : h[r]? = some q) (hx : x.length = q.2.length) : ln_R h (h.set r (q.1, x)) := by
  refine ⟨[], ?_⟩
  rw [List.append_nil]
  unfold eh_S
  rw [List.map_set]
  apply List.ext_getElem?
  intro i
  by_cases e : r = i
  · subst e
    have hl : r < (h.map (fun c : ri_C => (c.1, c.2.length))).length := by
      rw [List.length_map]
      exact (List.getElem?_eq_some_iff.mp hq).1
    rw [List.getElem?_set_self hl, List.getElem?_map, hq]
    show some (q.1, x.length) = some (q.1, q.2.length)
    rw [hx]
  · rw [List.getElem?_set_ne e]
theorem ln_sl {q : ri_C} {i : Nat} {v : Value} : (q.2.set i v).length = q.2.length := List.length_set
def ri_LN (h : ri_H) (o : Option ri_F) : Prop := ∀ f', o = some f' → ln_R h f'.2.2.2.1
section LNS
variable {k z pc : Nat} {h h' : ri_H} {lo : List (Nat × Value)} {st : List Value} {dc : ri_O} {cal : Nat → List Value → ri_H → Option (Option Value × ri_H)} {bud : Nat → Option (Nat × Nat)} {M : ri_M} {md : List (ri_M × ri_T)}
theorem ln_no : ri_LN h none := fun _ e => by cases e
theorem ln_h (e : ln_R h h') : ri_LN h (some (pc, lo, st, h', k, z)) := fun f' e1 => by
  cases e1
  exact e
theorem ln_s : ri_LN h (some (pc, lo, st, h, k, z)) := ln_h (ln_rf h)
theorem ln_c {b : Bool} {x y : Option ri_F} (hx : ri_LN h x) (hy : ri_LN h y) : ri_LN h (bif b then x else y) := by
  cases b
  · exact hy
  · exact hx
theorem ln_c1 {b : Bool} {x : Option ri_F} (hx : ri_LN h x) : ri_LN h (bif b then x else none) := ln_c hx ln_no
theorem ln_pf {r i : Nat} {q : ri_C} {v : Value} (hq : h[r]? = some q) : ri_LN h (some (pc, lo, st, h.set r (q.1, q.2.set i v), k, z)) := ln_h (ln_set hq ln_sl)
theorem ln_new {t nx : Nat} {fs : List Value} : ri_LN h (ri_new M t nx fs lo st h k z) := fun f' e1 => by
  unfold ri_new at e1
  cases hb : (Nat.ble (k + 1) M.2.2.2.2.2.1 && Nat.ble (z + fs.length) M.2.2.2.2.2.2) with
  | false => rw [hb] at e1; cases e1
  | true =>
    rw [hb] at e1
    cases e1
    exact ⟨[(t, fs.length)], by unfold eh_S; rw [List.map_append]; rfl⟩
theorem ln_i2 {op : Int32 → Int32 → Int32} : ri_LN h (ri_i2 op pc lo st h k z) := by
  unfold ri_i2
  split
  · exact ln_s
  · exact ln_no
theorem ln_dd2 {op : Int32 → Int32 → Int32} : ri_LN h (ri_d2 op pc lo st h k z) := by
  unfold ri_d2
  split
  · exact ln_c ln_no ln_s
  · exact ln_no
theorem ln_s2 {op : Int32 → Int32 → Int32} {q : Nat} : ri_LN h (ri_s2 op q pc lo st h k z) := by
  unfold ri_s2
  split
  · exact ln_s
  · exact ln_c1 ln_s
  · exact ln_no
theorem ln_l2 {op : Int64 → Int64 → Int64} : ri_LN h (ri_l2 op pc lo st h k z) := by
  unfold ri_l2
  split
  · exact ln_s
  · exact ln_no
theorem ln_ld {t : Value → Bool} {i n : Nat} : ri_LN h (ri_ld t i n pc lo st h k z) := by
  unfold ri_ld
  split
  · exact ln_c1 ln_s
  · exact ln_no
theorem ln_sto {t : Value → Bool} {i n : Nat} : ri_LN h (ri_sto t M i n pc lo st h k z) := by
  unfold ri_sto
  split
  · exact ln_c1 ln_s
  · exact ln_no
theorem ln_br {c : Nat} {x y : Value} {tgt nx : Nat} : ri_LN h (ri_br dc c x y tgt nx lo st h k z) := by
  unfold ri_br
  split
  · exact ln_s
  · exact ln_s
  · exact ln_no
theorem ri_ast_ln {g : Nat → Bool} {a v : Value} {i : Int32} (e : ri_ast g a i v h = some h') : ln_R h h' := by
  unfold ri_ast at e
  split at e
  · split at e
    · next q hq =>
      cases hb : (g q.1 && (!decide (i < 0) && Nat.blt i.toNatClampNeg q.2.length)) with
      | false => rw [hb] at e; cases e
      | true =>
        rw [hb] at e
        cases e
        exact ln_set hq ln_sl
    · cases e
  · cases e
theorem ln_cpy {f g : List Value} {s d n : Nat} {x a b c : Bool} (hb : (x && (a && (b && (c && Nat.ble (d + n) g.length)))) = true) (hf : s + n ≤ f.length) : (ri_cpy f g s d n).length = g.length := by
  have hb := Nat.ble_eq.mp ((Bool.and_eq_true _ _).mp ((Bool.and_eq_true _ _).mp ((Bool.and_eq_true _ _).mp ((Bool.and_eq_true _ _).mp hb).2).2).2).2
  unfold ri_cpy
  rw [List.length_append, List.length_append, List.length_take, List.length_take, List.length_drop, List.length_drop]
  omega
theorem ri_copy_ln {a b : Value} {sp dp n : Int32} (e : ri_copy a b sp dp n h = some h') : ln_R h h' := by
  unfold ri_copy at e
  split at e
  · split at e
    · next qb hqb =>
      cases hb : ((Nat.beq qb.1 13 || Nat.beq qb.1 15) && (!decide (sp < 0) && (!decide (dp < 0) && (!decide (n < 0) && Nat.ble (dp.toNatClampNeg + n.toNatClampNeg) qb.2.length)))) with
      | false => rw [hb] at e; cases e
      | true =>
        rw [hb] at e
        dsimp only [cond_true] at e
        split at e
        · split at e
          · next qa hqa =>
            cases hb2 : (Nat.beq qa.1 qb.1 && (Nat.ble (sp.toNatClampNeg + n.toNatClampNeg) qa.2.length && ((qa.2.drop sp.toNatClampNeg).take n.toNatClampNeg).all (fun v => bif Nat.beq qb.1 13 then ri_isI v else ri_isL v))) with
            | false => rw [hb2] at e; cases e
            | true =>
              rw [hb2] at e
              cases e
              exact ln_set hqb (ln_cpy hb (Nat.ble_eq.mp ((Bool.and_eq_true _ _).mp ((Bool.and_eq_true _ _).mp hb2).2).1))
          · cases e
        · next x =>
          cases hb2 : (Nat.beq qb.1 13 && (Nat.ble 1 x && Nat.ble x 4 && Nat.ble (sp.toNatClampNeg + n.toNatClampNeg) (ri_xl x).length)) with
          | false => rw [hb2] at e; cases e
          | true =>
            rw [hb2] at e
            cases e
            exact ln_set hqb (ln_cpy hb (by rw [List.length_map]; exact Nat.ble_eq.mp ((Bool.and_eq_true _ _).mp ((Bool.and_eq_true _ _).mp hb2).2).2))
        · cases e
    · cases e
  · cases e
def ri_HL (cal : Nat → List Value → ri_H → Option (Option Value × ri_H)) : Prop := ∀ (j : Nat) (as : List Value) (h : ri_H) (v : Option Value) (h' : ri_H), cal j as h = some (v, h') → ln_R h h'
theorem ln_call {j : Nat} {as r : List Value} (hc : ri_HL cal) : ri_LN h (match bud j, cal j as h with
        | some (mc, ms), some (v, h') => bif Nat.ble (k + mc) M.2.2.2.2.2.1 && Nat.ble (z + ms) M.2.2.2.2.2.2 then some (pc + 3, lo, v.toList ++ r, h', k + mc, z + ms) else none
        | _, _ => none) := by
  split
  · next mc ms v h' e1 e2 =>
    apply ln_c1
    intro f' e3
    cases e3
    exact hc j as h v h' e2
  · exact ln_no
theorem ln_inv {aux : List Nat} (hc : ri_HL cal) : ri_LN h (ri_inv dc cal bud M pc aux lo st h k z) := by
  unfold ri_inv
  split
  · split
    · exact ln_c1 ln_s
    · exact ln_no
  · split
    · apply ln_c1
      split
      · next h' e => exact ln_h (ri_copy_ln e)
      · exact ln_no
    · exact ln_no
  · split
    · exact ln_c1 ln_new
    · exact ln_no
  · split
    · apply ln_c1
      split
      · exact ln_s
      · exact ln_no
    · exact ln_no
  · split
    · apply ln_c1
      split
      · exact ln_s
      · exact ln_no
    · exact ln_no
  · split
    · split
      · exact ln_c1 (ln_call hc)
      · exact ln_no
    · exact ln_no
  · exact ln_no
theorem ln_step {en : ri_En} (hc : ri_HL cal) : ri_LN h (ri_step dc cal bud M en pc lo st h k z) := by
  unfold ri_step
  split
  all_goals first
    | exact ln_ld
    | exact ln_sto
    | exact ln_i2
    | exact ln_dd2
    | exact ln_s2
    | exact ln_l2
    | exact ln_s
    | exact ln_no
    | exact ln_inv hc
    | skip
  all_goals repeat' first
    | exact ln_s
    | exact ln_no
    | exact ln_br
    | exact ln_new
    | exact ln_pf (by assumption)
    | exact ln_h (ri_ast_ln (by assumption))
    | apply ln_c
    | split
theorem ln_st {q : ri_M × ri_T} {f : ri_F} (hc : ri_HL cal) : ri_LN f.2.2.2.1 (ri_st dc cal bud q f) := by
  unfold ri_st
  apply ln_c
  · exact ln_s
  · split
    · apply ln_c
      · split
        · exact ln_s
        · exact ln_no
      · split
        · next f1 e1 =>
          apply ln_c
          · exact ln_no
          · intro f2 e2
            cases e2
            exact ln_step hc _ e1
        · exact ln_no
    · exact ln_no
theorem ln_go {stp : ri_F → Option ri_F} (hs : ∀ f, ri_LN f.2.2.2.1 (stp f)) : ∀ (n : Nat) (f : ri_F), ri_LN f.2.2.2.1 (ri_go stp n f)
  | 0, f => ln_s
  | n + 1, f => by
    unfold ri_go
    apply ln_c
    · exact ln_s
    · split
      · next f1 e1 =>
        intro f2 e2
        exact ln_tr (hs f f1 e1) (ln_go hs n f1 f2 e2)
      · exact ln_no
theorem ln_calE : ∀ d, ri_HL (ri_calE md d)
  | 0 => fun j as h v h' e => by cases e
  | d + 1 => fun j as h v h' e => by
    cases hq : md[j]? with
    | none =>
      unfold ri_calE at e
      rw [hq] at e
      cases e
    | some q =>
      obtain ⟨-, f', ⟨⟨n, g1⟩, -⟩, -, g5⟩ := ri_calE_inv hq e
      have b2 := ln_go (fun f => ln_st (ln_calE d)) n _ f' g1
      rw [← g5]
      exact b2
end LNS
/-- a cell's kind -/
theorem ln_kd {h h' : ri_H} (e : ln_R h h') {r : Nat} {c : ri_C} (hc : h[r]? = some c) : ∃ c', h'[r]? = some c' ∧ c'.1 = c.1 := by
  obtain ⟨t, ht⟩ := e
  have h1 : (eh_S h)[r]? = some (c.1, c.2.length) := by
    unfold eh_S
    rw [List.getElem?_map, hc]
    rfl
  have h2 : (eh_S h')[r]? = some (c.1, c.2.length) := by
    rw [ht, List.getElem?_append_left (List.getElem?_eq_some_iff.mp h1).1, h1]
  unfold eh_S at h2
  rw [List.getElem?_map] at h2
  cases hx : h'[r]? with
  | none => rw [hx] at h2; cases h2
  | some c' =>
    rw [hx] at h2
    have h3 : (c'.1, c'.2.length) = (c.1, c.2.length) := Option.some.inj h2
    exact ⟨c', rfl, (Prod.mk.inj h3).1⟩
theorem ln_run {cal : eh_K} (hc : ri_HL cal) {q : ri_M × ri_T} {pc : Nat} {lo : List (Nat × Value)} {st rs : List Value} {h h' : ri_H} (E : eh_e cal q pc lo st h rs h') : ln_R h h' := by
  obtain ⟨k, z, n, lo', k', z', g⟩ := E
  exact ln_go (fun f => ln_st hc) n _ _ g
