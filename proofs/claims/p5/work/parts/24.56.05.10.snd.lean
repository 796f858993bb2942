section RIH
variable {p : Program} {l : Launch} {e : Env} {R : Room} {s : State} {m : MethodId} {args : Array Value} {below : List Frame} {meth : Method} {c : Code} {Q : State → Prop} {E : ri_V} {D : va_G} {cA : Nat → ClassId} {M : ri_M} {pc k z nL d : Nat} {lo : List (Nat × Value)} {st r : List Value} {h : ri_H} {f' : ri_F} {dc : ri_O} {md : List (ri_M × ri_T)} {cal : Nat → List Value → ri_H → Option (Option Value × ri_H)}
/-- what the step of a call rests on -/
def ri_Ca (l : Launch) (E : ri_V) (D : va_G) (cA : Nat → ClassId) (md : List (ri_M × ri_T)) (cal : Nat → List Value → ri_H → Option (Option Value × ri_H)) (d : Nat) (M : ri_M) (R : Room) : Prop :=
  (∀ (j : Nat) (q : ri_M × ri_T), md[j]? = some q → ∃ n, ri_Mk q.1 n) ∧ (∀ (j : Nat) (q : ri_M × ri_T) (as : List Value) (h : ri_H) (v : Option Value) (h' : ri_H), md[j]? = some q → cal j as h = some (v, h') → ri_Met l E D cA d q.1 as h (fun a b => a = v ∧ b = h')) ∧ M.2.2.2.2.2.1 ≤ R.cells ∧ M.2.2.2.2.2.2 ≤ R.slots ∧ d + 1 ≤ R.frames ∧ 64 * d + 64 ≤ R.locals
theorem ri_mkn {N : ri_M} {n n' : Nat} (h : ri_Mk N n') (hn : (parseMethodDescriptor N.1.desc).map (fun d => d.parameters.length) = some n) : ri_Mk N n := by
  have := h.2.2.2.2.1
  rw [hn] at this
  cases this
  exact h
/-- the common part of a call: the callee, its arguments, what comes back -/
theorem ri_inv_c {kd j n t : Nat} {rest : List Nat} (h0 : kd = 1 ∨ kd = 2 ∨ kd = 3 ∨ kd = 6 ∨ kd = 7) (hs : ri_inv dc cal (ri_bud md) M pc (kd :: j :: n :: t :: rest) lo st h k z = some f') :
    ∃ (ys as' r : List Value) (q : ri_M × ri_T) (v : Option Value) (h' : ri_H), ys.length = n ∧ md[j]? = some q ∧ cal j as' h = some (v, h') ∧ ri_wt r ≤ 8 ∧ k + q.1.2.2.2.2.2.1 ≤ M.2.2.2.2.2.1 ∧ z + q.1.2.2.2.2.2.2 ≤ M.2.2.2.2.2.2 ∧ f' = (pc + 3, lo, v.toList ++ r, h', k + q.1.2.2.2.2.2.1, z + q.1.2.2.2.2.2.2) ∧
      ((kd = 3 ∧ st = ys ++ r ∧ as' = ys.reverse) ∨ (kd ≠ 3 ∧ kd ≠ 6 ∧ ∃ b q0, st = ys ++ .ref b :: r ∧ as' = .ref b :: ys.reverse ∧ h[b]? = some q0 ∧ q0.1 = t) ∨ (kd = 6 ∧ st = ys ++ .retAddr 5 :: r ∧ as' = .retAddr 5 :: ys.reverse)) := by
  have hs : (match ri_take n [] st with
    | some (as, r0) => match (bif Nat.beq kd 3 then some (as, r0) else match r0 with
        | .ref b :: r => bif Nat.beq kd 1 || (Nat.beq kd 2 || Nat.beq kd 7) then (match h[b]? with
          | some q => bif Nat.beq q.1 t then some (.ref b :: as, r) else none
          | none => none) else none
        | .retAddr 5 :: r => bif Nat.beq kd 6 then some (.retAddr 5 :: as, r) else none
        | _ => none) with
      | some (as', r) => bif Nat.ble (ri_wt r) 8 then (match ri_bud md j, cal j as' h with
        | some (mc, ms), some (v, h') => bif Nat.ble (k + mc) M.2.2.2.2.2.1 && Nat.ble (z + ms) M.2.2.2.2.2.2 then some (pc + 3, lo, v.toList ++ r, h', k + mc, z + ms) else none
        | _, _ => none) else none
      | none => none
    | none => none) = some f' := by
    rcases h0 with rfl | rfl | rfl | rfl | rfl <;> exact hs
  split at hs
  · next as r0 ht =>
    obtain ⟨ys, y1, y2, y3⟩ := ri_take_inv _ _ _ _ _ ht
    rw [List.append_nil] at y2
    subst y2
    split at hs
    · next as' r hr =>
      cases hw : Nat.ble (ri_wt r) 8 with
      | false => rw [hw] at hs; cases hs
      | true =>
        rw [hw] at hs
        dsimp only [cond_true] at hs
        split at hs
        · next mc ms v h' hb hc =>
          unfold ri_bud at hb
          split at hb
          · next q hq =>
            cases hb
            cases hg : (Nat.ble (k + q.1.2.2.2.2.2.1) M.2.2.2.2.2.1 && Nat.ble (z + q.1.2.2.2.2.2.2) M.2.2.2.2.2.2) with
            | false => rw [hg] at hs; cases hs
            | true =>
              rw [hg] at hs
              simp only [Bool.and_eq_true, Nat.ble_eq] at hg
              refine ⟨ys, as', r, q, v, h', y1, hq, hc, Nat.ble_eq.mp hw, hg.1, hg.2, (Option.some.inj hs).symm, ?_⟩
              cases h3 : Nat.beq kd 3 with
              | true =>
                rw [h3] at hr
                cases hr
                exact Or.inl ⟨Nat.eq_of_beq_eq_true h3, y3, rfl⟩
              | false =>
                rw [h3] at hr
                have n3 : kd ≠ 3 := fun e => by rw [e] at h3; cases h3
                dsimp only [cond_false] at hr
                split at hr
                · next b r1 =>
                  cases h1 : (Nat.beq kd 1 || (Nat.beq kd 2 || Nat.beq kd 7)) with
                  | false => rw [h1] at hr; cases hr
                  | true =>
                    rw [h1] at hr
                    dsimp only [cond_true] at hr
                    split at hr
                    · next q0 hq0 =>
                      cases h2 : Nat.beq q0.1 t with
                      | false => rw [h2] at hr; cases hr
                      | true =>
                        rw [h2] at hr
                        cases hr
                        simp only [Bool.or_eq_true, Nat.beq_eq] at h1
                        exact Or.inr (Or.inl ⟨n3, by omega, b, q0, y3, rfl, hq0, Nat.eq_of_beq_eq_true h2⟩)
                    · cases hr
                · next r1 =>
                  cases h1 : Nat.beq kd 6 with
                  | false => rw [h1] at hr; cases hr
                  | true =>
                    rw [h1] at hr
                    cases hr
                    exact Or.inr (Or.inr ⟨Nat.eq_of_beq_eq_true h1, y3, rfl⟩)
                · cases hr
          · cases hb
        · cases hs
    · cases hs
  · cases hs
end RIH
