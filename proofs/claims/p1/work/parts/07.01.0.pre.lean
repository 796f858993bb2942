def ri_eqC (a b : ri_C) : Bool := Nat.beq a.1 b.1 && decide (a.2 = b.2)
def ri_eqH : ri_H → ri_H → Bool
  | [], [] => true
  | a :: s, b :: t => ri_eqC a b && ri_eqH s t
  | _, _ => false
theorem ri_eqH_ok : ∀ (s t : ri_H), ri_eqH s t = true → s = t
  | [], [], _ => rfl
  | a :: s, b :: t, h => by
    have h : (ri_eqC a b && ri_eqH s t) = true := h
    obtain ⟨h1, h2⟩ := (Bool.and_eq_true _ _).mp h
    obtain ⟨h3, h4⟩ := (Bool.and_eq_true _ _).mp h1
    rw [ri_eqH_ok s t h2, show a = b from Prod.ext (Nat.eq_of_beq_eq_true h3) (of_decide_eq_true h4)]
  | [], _ :: _, h => by cases h
  | _ :: _, [], h => by cases h
def ri_eqF (f g : ri_F) : Bool := Nat.beq f.1 g.1 && (decide (f.2.1 = g.2.1) && (decide (f.2.2.1 = g.2.2.1) && (ri_eqH f.2.2.2.1 g.2.2.2.1 && (Nat.beq f.2.2.2.2.1 g.2.2.2.2.1 && Nat.beq f.2.2.2.2.2 g.2.2.2.2.2))))
theorem ri_eqF_ok {f g : ri_F} (h : ri_eqF f g = true) : f = g := by
  unfold ri_eqF at h
  simp only [Bool.and_eq_true, decide_eq_true_eq, Nat.beq_eq] at h
  obtain ⟨h1, h2, h3, h4, h5, h6⟩ := h
  have h4 := ri_eqH_ok _ _ h4
  obtain ⟨a1, a2, a3, a4, a5, a6⟩ := f
  obtain ⟨b1, b2, b3, b4, b5, b6⟩ := g
  dsimp only at h1 h2 h3 h4 h5 h6
  rw [h1, h2, h3, h4, h5, h6]
def ri_is (o : Option ri_F) (g : ri_F) : Bool := match o with
  | some f => ri_eqF f g
  | none => false
theorem ri_is_ok {o : Option ri_F} {g : ri_F} (h : ri_is o g = true) : o = some g := by
  cases o with
  | none => cases h
  | some f => rw [ri_eqF_ok (show ri_eqF f g = true from h)]
/-- a call that is known by a contract of its own, beside the others -/
noncomputable def ri_kn1 (cal : Nat → List Value → ri_H → Option (Option Value × ri_H)) (j0 : Nat) (as0 : List Value) (h0 h1 : ri_H) : Nat → List Value → ri_H → Option (Option Value × ri_H) := fun j as h => bif Nat.beq j j0 && (decide (as = as0) && ri_eqH h h0) then some (none, h1) else cal j as h
theorem ri_kn1_ok {l : Launch} {E : ri_V} {D : va_G} {cA : Nat → ClassId} {md : List (ri_M × ri_T)} {d : Nat} {cal : Nat → List Value → ri_H → Option (Option Value × ri_H)} {j0 : Nat} {as0 : List Value} {h0 h1 : ri_H} {q0 : ri_M × ri_T} (hc : ∀ (j : Nat) (q : ri_M × ri_T) (as : List Value) (h : ri_H) (v : Option Value) (h' : ri_H), md[j]? = some q → cal j as h = some (v, h') → ri_Met l E D cA d q.1 as h (fun a b => a = v ∧ b = h')) (hq0 : md[j0]? = some q0) (hM : ri_Met l E D cA d q0.1 as0 h0 (fun a b => a = none ∧ b = h1)) :
    ∀ (j : Nat) (q : ri_M × ri_T) (as : List Value) (h : ri_H) (v : Option Value) (h' : ri_H), md[j]? = some q → ri_kn1 cal j0 as0 h0 h1 j as h = some (v, h') → ri_Met l E D cA d q.1 as h (fun a b => a = v ∧ b = h') := by
  intro j q as h v h' hq hs
  unfold ri_kn1 at hs
  cases hg : (Nat.beq j j0 && (decide (as = as0) && ri_eqH h h0)) with
  | true =>
    rw [hg] at hs
    simp only [Bool.and_eq_true, Nat.beq_eq, decide_eq_true_eq] at hg
    obtain ⟨rfl, rfl, hh⟩ := hg
    have hh := ri_eqH_ok _ _ hh
    subst hh
    cases hq0.symm.trans hq
    have hs := Option.some.inj (show some (none, h1) = some (v, h') from hs)
    cases hs
    exact hM
  | false =>
    rw [hg] at hs
    exact hc j q as h v h' hq hs
theorem ri_sn_done {stp : ri_F → Option ri_F} (hst : ∀ f : ri_F, f.1 = 70000 → stp f = some f) : ∀ (n : Nat) (f : ri_F), f.1 = 70000 → ri_sn stp n f = some f
  | 0, _, _ => rfl
  | n + 1, f, hf => by
    show (match stp f with
      | some f' => ri_sn stp n f'
      | none => none) = some f
    rw [hst f hf]
    exact ri_sn_done hst n f hf
theorem ri_st_done {dc : ri_O} {cal : Nat → List Value → ri_H → Option (Option Value × ri_H)} {bud : Nat → Option (Nat × Nat)} {q : ri_M × ri_T} (f : ri_F) (hf : f.1 = 70000) : ri_st dc cal bud q f = some f := by
  unfold ri_st
  rw [hf]
  rfl
section RIL
variable {p : Program} {l : Launch} {e : Env} {R : Room} {s : State} {m : MethodId} {args : Array Value} {below : List Frame} {meth : Method} {c : Code} {Q : State → Prop} {E : ri_V} {D : va_G} {cA : Nat → ClassId} {d : Nat} {dc : ri_O} {md : List (ri_M × ri_T)} {cal : Nat → List Value → ri_H → Option (Option Value × ri_H)}
theorem ri_sn_snd {q : ri_M × ri_T} (X : ri_Cx p s m args meth c E D cA q.1) (C : ri_Ca l E D cA md cal d q.1 R) (hdc : ∀ q ∈ dc, ri_hd q.1 (ri_ic E q.2.1) (ri_ic E q.2.2.1) = q.2.2.2) (hT : ri_okT md q = true) (hrt : meth.sig.returnType = q.1.2.2.2.1) (hlocks : meth.locks = false) {P : Option Value → ri_H → Prop} {mc ms : Nat} :
    ∀ (n : Nat) (f f' : ri_F), ri_sn (ri_st dc cal (ri_bud md) q) n f = some f' → f.1 ≠ 70000 → ri_Gd p l e R s m args below meth c (MQ below (ri_Qc E D cA P) args s mc ms (ri_A E)) E D cA q.1.2.2.1 P mc ms f' → ri_Ab p l e R s m args below meth c (MQ below (ri_Qc E D cA P) args s mc ms (ri_A E)) E D cA q.1.2.2.1 f
  | 0, f, f', hs, hf, kk => by
    have hs := Option.some.inj (show some f = some f' from hs)
    subst hs
    rcases kk with ⟨k0, -⟩ | ⟨-, kk⟩
    · exact absurd k0 hf
    · exact kk
  | n + 1, f, f', hs, hf, kk => by
    have hs : (match ri_st dc cal (ri_bud md) q f with
      | some f' => ri_sn (ri_st dc cal (ri_bud md) q) n f'
      | none => none) = some f' := hs
    split at hs
    · next f1 h1 =>
      by_cases hf1 : f1.1 = 70000
      · rw [ri_sn_done (fun f hf => ri_st_done f hf) n f1 hf1] at hs
        have hs := Option.some.inj hs
        subst hs
        exact ri_st_snd X C hdc hT hrt hlocks hf h1 kk
      · exact ri_st_snd X C hdc hT hrt hlocks hf h1 (Or.inr ⟨hf1, ri_sn_snd X C hdc hT hrt hlocks n f1 f' hs hf1 kk⟩)
    · cases hs
theorem ri_gd_sn {q : ri_M × ri_T} (X : ri_Cx p s m args meth c E D cA q.1) (C : ri_Ca l E D cA md cal d q.1 R) (hdc : ∀ q ∈ dc, ri_hd q.1 (ri_ic E q.2.1) (ri_ic E q.2.2.1) = q.2.2.2) (hT : ri_okT md q = true) (hrt : meth.sig.returnType = q.1.2.2.2.1) (hlocks : meth.locks = false) {P : Option Value → ri_H → Prop} {mc ms n : Nat} {f f' : ri_F} (hs : ri_sn (ri_st dc cal (ri_bud md) q) n f = some f') (hf : f.1 ≠ 70000)
    (kk : ri_Gd p l e R s m args below meth c (MQ below (ri_Qc E D cA P) args s mc ms (ri_A E)) E D cA q.1.2.2.1 P mc ms f') : ri_Gd p l e R s m args below meth c (MQ below (ri_Qc E D cA P) args s mc ms (ri_A E)) E D cA q.1.2.2.1 P mc ms f :=
  Or.inr ⟨hf, ri_sn_snd X C hdc hT hrt hlocks n f f' hs hf kk⟩
end RIL
