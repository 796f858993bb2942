/-! a call of any length is a contract of the machine -/
theorem ri_go_snd {stp : ri_F → Option ri_F} {A B : ri_F → Prop} (hstep : ∀ f f', f.1 ≠ 70000 → stp f = some f' → ((f'.1 = 70000 ∧ B f') ∨ (f'.1 ≠ 70000 ∧ A f')) → A f) :
    ∀ (n : Nat) (f f' : ri_F), f.1 ≠ 70000 → ri_go stp n f = some f' → ((f'.1 = 70000 ∧ B f') ∨ (f'.1 ≠ 70000 ∧ A f')) → A f
  | 0, f, f', hf, hs, kk => by
    have hs := Option.some.inj (show some f = some f' from hs)
    subst hs
    rcases kk with ⟨k0, -⟩ | ⟨-, k1⟩
    · exact absurd k0 hf
    · exact k1
  | n + 1, f, f', hf, hs, kk => by
    unfold ri_go at hs
    rw [show Nat.beq f.1 70000 = false by
      cases hh : Nat.beq f.1 70000 with
      | false => rfl
      | true => exact absurd (Nat.eq_of_beq_eq_true hh) hf] at hs
    dsimp only [cond_false] at hs
    split at hs
    · next f1 h1 =>
      by_cases h7 : f1.1 = 70000
      · have e : f1 = f' := by
          cases n with
          | zero => exact Option.some.inj (show some f1 = some f' from hs)
          | succ n =>
            unfold ri_go at hs
            rw [h7] at hs
            exact Option.some.inj hs
        subst e
        exact hstep f f1 hf h1 kk
      · exact hstep f f1 hf h1 (Or.inr ⟨h7, ri_go_snd hstep n f1 f' h7 hs kk⟩)
    · cases hs
theorem ri_metE {md : List (ri_M × ri_T)} (l : Launch) (E : ri_V) (D : va_G) (cA : Nat → ClassId) (hmk : ∀ (j : Nat) (q : ri_M × ri_T), md[j]? = some q → ∃ n, ri_Mk q.1 n) (hT : ∀ (j : Nat) (q : ri_M × ri_T), md[j]? = some q → ri_okT md q = true) :
    ∀ (d j : Nat) (q : ri_M × ri_T) (as : List Value) (h : ri_H) (v : Option Value) (h' : ri_H), md[j]? = some q → ri_calE md d j as h = some (v, h') → ri_Met l E D cA d q.1 as h (fun a b => a = v ∧ b = h')
  | 0, j, q, as, h, v, h', hq, hs => by cases hs
  | d + 1, j, q, as, h, v, h', hq, hs => by
    obtain ⟨hw, f, ⟨⟨n, g1⟩, g2, g3, g4⟩, hs1, hs2⟩ := ri_calE_inv hq hs
    obtain ⟨n', hMk⟩ := hmk j q hq
    have hdc : ∀ q ∈ ([] : ri_O), ri_hd q.1 (ri_ic E q.2.1) (ri_ic E q.2.2.1) = q.2.2.2 := fun _ h => absurd h List.not_mem_nil
    refine ri_met_of hMk hw (fun p e s m args below meth c X hrt hlk => ?_)
    have C : ri_Ca l E D cA md (ri_calE md d) d q.1 (ri_rm (d + 1) q.1) := ⟨hmk, fun j' q' as' h1 v' h2 => ri_metE l E D cA hmk hT d j' q' as' h1 v' h2, Nat.le_refl _, Nat.le_refl _, Nat.le_refl _, by show 64 * d + 64 ≤ 64 * (d + 1); omega⟩
    exact ri_go_snd (A := ri_Ab p l e (ri_rm (d + 1) q.1) s m args below meth c (MQ below (ri_Qc E D cA (fun a b => a = v ∧ b = h')) args s q.1.2.2.2.2.2.1 q.1.2.2.2.2.2.2 (ri_A E)) E D cA q.1.2.2.1) (B := fun f => (f.2.2.1.head? = v ∧ f.2.2.2.1 = h') ∧ f.2.2.2.2.1 ≤ q.1.2.2.2.2.2.1 ∧ f.2.2.2.2.2 ≤ q.1.2.2.2.2.2.2)
      (fun f1 f2 hf1 hst kk => ri_st_snd X C hdc (hT j q hq) hrt hlk hf1 hst kk) n _ f (show (0 : Nat) ≠ 70000 by decide) g1 (Or.inl ⟨g2, ⟨hs1, hs2⟩, g3, g4⟩)
/-- of the class and the reference -/
theorem ri_runE (l : Launch) (E : ri_V) (D : va_G) (cA : Nat → ClassId) {d j : Nat} {q : ri_M × ri_T} {as : List Value} {h : ri_H} {v : Option Value} {h' : ri_H} (hq : ri_md[j]? = some q) (hs : ri_calE ri_md d j as h = some (v, h')) : ri_Met l E D cA d q.1 as h (fun a b => a = v ∧ b = h') :=
  ri_metE l E D cA ri_mk_all ri_ot_all d j q as h v h' hq hs
