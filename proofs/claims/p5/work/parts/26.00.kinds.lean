/-! a call that makes no cell keeps every cell's kind -/
def ri_kd (h : ri_H) : List Nat := h.map (fun c => c.1)
theorem ri_kd_set {h : ri_H} {r : Nat} {q : ri_C} {x : List Value} (hq : h[r]? = some q) : ri_kd (h.set r (q.1, x)) = ri_kd h := by
  unfold ri_kd
  rw [List.map_set]
  apply List.ext_getElem?
  intro i
  by_cases e : r = i
  · subst e
    have hl : r < (h.map (fun c => c.1)).length := by
      rw [List.length_map]
      exact (List.getElem?_eq_some_iff.mp hq).1
    rw [List.getElem?_set_self hl, List.getElem?_map, hq]
    rfl
  · rw [List.getElem?_set_ne e]
def ri_KD (k : Nat) (h : ri_H) (o : Option ri_F) : Prop := ∀ f', o = some f' → k ≤ f'.2.2.2.2.1 ∧ (f'.2.2.2.2.1 = k → ri_kd f'.2.2.2.1 = ri_kd h)
section KDS
variable {k z pc : Nat} {h h' : ri_H} {lo : List (Nat × Value)} {st : List Value} {dc : ri_O} {cal : Nat → List Value → ri_H → Option (Option Value × ri_H)} {bud : Nat → Option (Nat × Nat)} {M : ri_M} {md : List (ri_M × ri_T)}
theorem kd_no : ri_KD k h none := fun _ e => by cases e
theorem kd_h (e : ri_kd h' = ri_kd h) : ri_KD k h (some (pc, lo, st, h', k, z)) := fun f' e1 => by
  cases e1
  exact ⟨Nat.le_refl _, fun _ => e⟩
theorem kd_s : ri_KD k h (some (pc, lo, st, h, k, z)) := kd_h rfl
theorem kd_c {b : Bool} {x y : Option ri_F} (hx : ri_KD k h x) (hy : ri_KD k h y) : ri_KD k h (bif b then x else y) := by
  cases b
  · exact hy
  · exact hx
theorem kd_c1 {b : Bool} {x : Option ri_F} (hx : ri_KD k h x) : ri_KD k h (bif b then x else none) := kd_c hx kd_no
theorem kd_set {r : Nat} {q : ri_C} {x : List Value} (hq : h[r]? = some q) : ri_KD k h (some (pc, lo, st, h.set r (q.1, x), k, z)) := kd_h (ri_kd_set hq)
theorem kd_new {t nx : Nat} {fs : List Value} : ri_KD k h (ri_new M t nx fs lo st h k z) := fun f' e1 => by
  unfold ri_new at e1
  cases hb : (Nat.ble (k + 1) M.2.2.2.2.2.1 && Nat.ble (z + fs.length) M.2.2.2.2.2.2) with
  | false => rw [hb] at e1; cases e1
  | true =>
    rw [hb] at e1
    cases e1
    exact ⟨Nat.le_succ _, fun e => absurd e (Nat.succ_ne_self _)⟩
theorem kd_i2 {op : Int32 → Int32 → Int32} : ri_KD k h (ri_i2 op pc lo st h k z) := by
  unfold ri_i2
  split
  · exact kd_s
  · exact kd_no
theorem kd_d2 {op : Int32 → Int32 → Int32} : ri_KD k h (ri_d2 op pc lo st h k z) := by
  unfold ri_d2
  split
  · exact kd_c kd_no kd_s
  · exact kd_no
theorem kd_s2 {op : Int32 → Int32 → Int32} {q : Nat} : ri_KD k h (ri_s2 op q pc lo st h k z) := by
  unfold ri_s2
  split
  · exact kd_s
  · exact kd_c1 kd_s
  · exact kd_no
theorem kd_l2 {op : Int64 → Int64 → Int64} : ri_KD k h (ri_l2 op pc lo st h k z) := by
  unfold ri_l2
  split
  · exact kd_s
  · exact kd_no
theorem kd_ld {t : Value → Bool} {i n : Nat} : ri_KD k h (ri_ld t i n pc lo st h k z) := by
  unfold ri_ld
  split
  · exact kd_c1 kd_s
  · exact kd_no
theorem kd_sto {t : Value → Bool} {i n : Nat} : ri_KD k h (ri_sto t M i n pc lo st h k z) := by
  unfold ri_sto
  split
  · exact kd_c1 kd_s
  · exact kd_no
theorem kd_br {c : Nat} {x y : Value} {tgt nx : Nat} : ri_KD k h (ri_br dc c x y tgt nx lo st h k z) := by
  unfold ri_br
  split
  · exact kd_s
  · exact kd_s
  · exact kd_no
theorem ri_ast_kd {g : Nat → Bool} {a v : Value} {i : Int32} (e : ri_ast g a i v h = some h') : ri_kd h' = ri_kd h := by
  unfold ri_ast at e
  split at e
  · split at e
    · next q hq =>
      cases hb : (g q.1 && (!decide (i < 0) && Nat.blt i.toNatClampNeg q.2.length)) with
      | false => rw [hb] at e; cases e
      | true =>
        rw [hb] at e
        cases e
        exact ri_kd_set hq
    · cases e
  · cases e
theorem ri_copy_kd {a b : Value} {sp dp n : Int32} (e : ri_copy a b sp dp n h = some h') : ri_kd h' = ri_kd h := by
  unfold ri_copy at e
  split at e
  · split at e
    · next qb hqb =>
      cases hb : ((Nat.beq qb.1 13 || Nat.beq qb.1 15) && (!decide (sp < 0) && (!decide (dp < 0) && (!decide (n < 0) && Nat.ble (dp.toNatClampNeg + n.toNatClampNeg) qb.2.length)))) with
      | false => rw [hb] at e; cases e
      | true =>
        rw [hb] at e
        dsimp only [cond_true] at e
        split at e
        · split at e
          · next qa hqa =>
            cases hb2 : (Nat.beq qa.1 qb.1 && (Nat.ble (sp.toNatClampNeg + n.toNatClampNeg) qa.2.length && ((qa.2.drop sp.toNatClampNeg).take n.toNatClampNeg).all (fun v => bif Nat.beq qb.1 13 then ri_isI v else ri_isL v))) with
            | false => rw [hb2] at e; cases e
            | true =>
              rw [hb2] at e
              cases e
              exact ri_kd_set hqb
          · cases e
        · next x =>
          cases hb2 : (Nat.beq qb.1 13 && (Nat.ble 1 x && Nat.ble x 4 && Nat.ble (sp.toNatClampNeg + n.toNatClampNeg) (ri_xl x).length)) with
          | false => rw [hb2] at e; cases e
          | true =>
            rw [hb2] at e
            cases e
            exact ri_kd_set hqb
        · cases e
    · cases e
  · cases e
def ri_HK (cal : Nat → List Value → ri_H → Option (Option Value × ri_H)) (bud : Nat → Option (Nat × Nat)) : Prop := ∀ (j : Nat) (as : List Value) (h : ri_H) (v : Option Value) (h' : ri_H), cal j as h = some (v, h') → ∀ ms, bud j = some (0, ms) → ri_kd h' = ri_kd h
theorem kd_call {j : Nat} {as r : List Value} (hc : ri_HK cal bud) : ri_KD k h (match bud j, cal j as h with
        | some (mc, ms), some (v, h') => bif Nat.ble (k + mc) M.2.2.2.2.2.1 && Nat.ble (z + ms) M.2.2.2.2.2.2 then some (pc + 3, lo, v.toList ++ r, h', k + mc, z + ms) else none
        | _, _ => none) := by
  split
  · next mc ms v h' e1 e2 =>
    apply kd_c1
    intro f' e3
    cases e3
    refine ⟨Nat.le_add_right _ _, fun e4 => ?_⟩
    have e5 : k + mc = k := e4
    have e6 : mc = 0 := by omega
    subst e6
    exact hc j as h v h' e2 ms e1
  · exact kd_no
theorem kd_inv {aux : List Nat} (hc : ri_HK cal bud) : ri_KD k h (ri_inv dc cal bud M pc aux lo st h k z) := by
  unfold ri_inv
  split
  · split
    · exact kd_c1 kd_s
    · exact kd_no
  · split
    · apply kd_c1
      split
      · next h' e => exact kd_h (ri_copy_kd e)
      · exact kd_no
    · exact kd_no
  · split
    · exact kd_c1 kd_new
    · exact kd_no
  · split
    · apply kd_c1
      split
      · exact kd_s
      · exact kd_no
    · exact kd_no
  · split
    · apply kd_c1
      split
      · exact kd_s
      · exact kd_no
    · exact kd_no
  · split
    · split
      · exact kd_c1 (kd_call hc)
      · exact kd_no
    · exact kd_no
  · exact kd_no
theorem kd_step {en : ri_En} (hc : ri_HK cal bud) : ri_KD k h (ri_step dc cal bud M en pc lo st h k z) := by
  unfold ri_step
  split
  all_goals first
    | exact kd_ld
    | exact kd_sto
    | exact kd_i2
    | exact kd_d2
    | exact kd_s2
    | exact kd_l2
    | exact kd_s
    | exact kd_no
    | exact kd_inv hc
    | skip
  all_goals repeat' first
    | exact kd_s
    | exact kd_no
    | exact kd_br
    | exact kd_new
    | exact kd_set (by assumption)
    | exact kd_h (ri_ast_kd (by assumption))
    | apply kd_c
    | split
theorem kd_st {q : ri_M × ri_T} {f : ri_F} (hc : ri_HK cal bud) : ri_KD f.2.2.2.2.1 f.2.2.2.1 (ri_st dc cal bud q f) := by
  unfold ri_st
  apply kd_c
  · exact kd_s
  · split
    · apply kd_c
      · split
        · exact kd_s
        · exact kd_no
      · split
        · next f1 e1 =>
          apply kd_c
          · exact kd_no
          · intro f2 e2
            cases e2
            exact kd_step hc _ e1
        · exact kd_no
    · exact kd_no
theorem kd_go {stp : ri_F → Option ri_F} (hs : ∀ f, ri_KD f.2.2.2.2.1 f.2.2.2.1 (stp f)) : ∀ (n : Nat) (f : ri_F), ri_KD f.2.2.2.2.1 f.2.2.2.1 (ri_go stp n f)
  | 0, f => kd_s
  | n + 1, f => by
    unfold ri_go
    apply kd_c
    · exact kd_s
    · split
      · next f1 e1 =>
        intro f2 e2
        obtain ⟨a1, a2⟩ := hs f f1 e1
        obtain ⟨b1, b2⟩ := kd_go hs n f1 f2 e2
        refine ⟨Nat.le_trans a1 b1, fun e => ?_⟩
        have e3 : f1.2.2.2.2.1 = f.2.2.2.2.1 := by omega
        rw [b2 (by omega), a2 e3]
      · exact kd_no
theorem kd_calE : ∀ d, ri_HK (ri_calE md d) (ri_bud md)
  | 0 => fun j as h v h' e => by cases e
  | d + 1 => fun j as h v h' e ms hb => by
    unfold ri_bud at hb
    split at hb
    · next q hq =>
      obtain ⟨-, f', ⟨⟨n, g1⟩, -, g3, -⟩, -, g5⟩ := ri_calE_inv hq e
      obtain ⟨-, b2⟩ := kd_go (fun f => kd_st (kd_calE d)) n _ f' g1
      have hb1 : q.1.2.2.2.2.2.1 = 0 := congrArg Prod.fst (Option.some.inj hb)
      rw [hb1] at g3
      rw [← g5]
      exact b2 (Nat.le_zero.mp g3)
    · cases hb
end KDS
/-- cells that no slot of changed, and whose kind stayed, are as they were -/
theorem kd_cell {h h' : ri_H} {k : Nat} (hk : ri_kd h' = ri_kd h) (ha : ∀ i : Int, sx_at h' k i = sx_at h k i) : h'[k]? = h[k]? := by
  have hk : (h'.map (fun c : ri_C => c.1))[k]? = (h.map (fun c : ri_C => c.1))[k]? := congrArg (fun l => l[k]?) hk
  rw [List.getElem?_map, List.getElem?_map] at hk
  cases e1 : h'[k]? with
  | none =>
    rw [e1] at hk
    cases e2 : h[k]? with
    | none => rfl
    | some q => rw [e2] at hk; cases hk
  | some q' =>
    rw [e1] at hk
    cases e2 : h[k]? with
    | none => rw [e2] at hk; cases hk
    | some q =>
      rw [e2] at hk
      have hk : q'.1 = q.1 := Option.some.inj hk
      have hl : q'.2 = q.2 := by
        apply List.ext_getElem?
        intro i
        have := ha (i : Int)
        rw [sx_at_of e1, sx_at_of e2] at this
        exact this
      obtain ⟨a, b⟩ := q'
      obtain ⟨c, d⟩ := q
      dsimp only at hk hl
      rw [hk, hl]
