def ri_eqC (a b : ri_C) : Bool := Nat.beq a.1 b.1 && decide (a.2 = b.2)
def ri_eqH : ri_H → ri_H → Bool
  | [], [] => true
  | a :: s, b :: t => ri_eqC a b && ri_eqH s t
  | _, _ => false
theorem ri_eqH_ok : ∀ (s t : ri_H), ri_eqH s t = true → s = t
  | [], [], _ => rfl
  | a :: s, b :: t, h => by
    have h : (ri_eqC a b && ri_eqH s t) = true := h
    obtain ⟨h1, h2⟩ := (Bool.and_eq_true _ _).mp h
    obtain ⟨h3, h4⟩ := (Bool.and_eq_true _ _).mp h1
    rw [ri_eqH_ok s t h2, show a = b from Prod.ext (Nat.eq_of_beq_eq_true h3) (of_decide_eq_true h4)]
  | [], _ :: _, h => by cases h
  | _ :: _, [], h => by cases h
def ri_eqF (f g : ri_F) : Bool := Nat.beq f.1 g.1 && (decide (f.2.1 = g.2.1) && (decide (f.2.2.1 = g.2.2.1) && (ri_eqH f.2.2.2.1 g.2.2.2.1 && (Nat.beq f.2.2.2.2.1 g.2.2.2.2.1 && Nat.beq f.2.2.2.2.2 g.2.2.2.2.2))))
theorem ri_eqF_ok {f g : ri_F} (h : ri_eqF f g = true) : f = g := by
  unfold ri_eqF at h
  simp only [Bool.and_eq_true, decide_eq_true_eq, Nat.beq_eq] at h
  obtain ⟨h1, h2, h3, h4, h5, h6⟩ := h
  have h4 := ri_eqH_ok _ _ h4
  obtain ⟨a1, a2, a3, a4, a5, a6⟩ := f
  obtain ⟨b1, b2, b3, b4, b5, b6⟩ := g
  dsimp only at h1 h2 h3 h4 h5 h6
  rw [h1, h2, h3, h4, h5, h6]
def ri_is (o : Option ri_F) (g : ri_F) : Bool := match o with
  | some f => ri_eqF f g
  | none => false
theorem ri_is_ok {o : Option ri_F} {g : ri_F} (h : ri_is o g = true) : o = some g := by
  cases o with
  | none => cases h
  | some f => rw [ri_eqF_ok (show ri_eqF f g = true from h)]
/-- a call that is known by a contract of its own, beside the others -/
noncomputable def ri_kn1 (cal : Nat → List Value → ri_H → Option (Option Value × ri_H)) (j0 : Nat) (as0 : List Value) (h0 h1 : ri_H) : Nat → List Value → ri_H → Option (Option Value × ri_H) := fun j as h => bif Nat.beq j j0 && (decide (as = as0) && ri_eqH h h0) then some (none, h1) else cal j as h
theorem ri_kn1_ok {l : Launch} {E : ri_V} {D : va_G} {cA : Nat → ClassId} {md : List (ri_M × ri_T)} {d : Nat} {cal : Nat → List Value → ri_H → Option (Option Value × ri_H)} {j0 : Nat} {as0 : List Value} {h0 h1 : ri_H} {q0 : ri_M × ri_T} (hc : ∀ (j : Nat) (q : ri_M × ri_T) (as : List Value) (h : ri_H) (v : Option Value) (h' : ri_H), md[j]? = some q → cal j as h = some (v, h') → ri_Met l E D cA d q.1 as h (fun a b => a = v ∧ b = h')) (hq0 : md[j0]? = some q0) (hM : ri_Met l E D cA d q0.1 as0 h0 (fun a b => a = none ∧ b = h1)) :
    ∀ (j : Nat) (q : ri_M × ri_T) (as : List Value) (h : ri_H) (v : Option Value) (h' : ri_H), md[j]? = some q → ri_kn1 cal j0 as0 h0 h1 j as h = some (v, h') → ri_Met l E D cA d q.1 as h (fun a b => a = v ∧ b = h') := by
  intro j q as h v h' hq hs
  unfold ri_kn1 at hs
  cases hg : (Nat.beq j j0 && (decide (as = as0) && ri_eqH h h0)) with
  | true =>
    rw [hg] at hs
    simp only [Bool.and_eq_true, Nat.beq_eq, decide_eq_true_eq] at hg
    obtain ⟨rfl, rfl, hh⟩ := hg
    have hh := ri_eqH_ok _ _ hh
    subst hh
    cases hq0.symm.trans hq
    have hs := Option.some.inj (show some (none, h1) = some (v, h') from hs)
    cases hs
    exact hM
  | false =>
    rw [hg] at hs
    exact hc j q as h v h' hq hs
theorem ri_sn_done {stp : ri_F → Option ri_F} (hst : ∀ f : ri_F, f.1 = 70000 → stp f = some f) : ∀ (n : Nat) (f : ri_F), f.1 = 70000 → ri_sn stp n f = some f
  | 0, _, _ => rfl
  | n + 1, f, hf => by
    show (match stp f with
      | some f' => ri_sn stp n f'
      | none => none) = some f
    rw [hst f hf]
    exact ri_sn_done hst n f hf
theorem ri_st_done {dc : ri_O} {cal : Nat → List Value → ri_H → Option (Option Value × ri_H)} {bud : Nat → Option (Nat × Nat)} {q : ri_M × ri_T} (f : ri_F) (hf : f.1 = 70000) : ri_st dc cal bud q f = some f := by
  unfold ri_st
  rw [hf]
  rfl
section RIL
variable {p : Program} {l : Launch} {e : Env} {R : Room} {s : State} {m : MethodId} {args : Array Value} {below : List Frame} {meth : Method} {c : Code} {Q : State → Prop} {E : ri_V} {D : va_G} {cA : Nat → ClassId} {d : Nat} {dc : ri_O} {md : List (ri_M × ri_T)} {cal : Nat → List Value → ri_H → Option (Option Value × ri_H)}
theorem ri_sn_snd {q : ri_M × ri_T} (X : ri_Cx p s m args meth c E D cA q.1) (C : ri_Ca l E D cA md cal d q.1 R) (hdc : ∀ q ∈ dc, ri_hd q.1 (ri_ic E q.2.1) (ri_ic E q.2.2.1) = q.2.2.2) (hT : ri_okT md q = true) (hrt : meth.sig.returnType = q.1.2.2.2.1) (hlocks : meth.locks = false) {P : Option Value → ri_H → Prop} {mc ms : Nat} :
    ∀ (n : Nat) (f f' : ri_F), ri_sn (ri_st dc cal (ri_bud md) q) n f = some f' → f.1 ≠ 70000 → ri_Gd p l e R s m args below meth c (MQ below (ri_Qc E D cA P) args s mc ms (ri_A E)) E D cA q.1.2.2.1 P mc ms f' → ri_Ab p l e R s m args below meth c (MQ below (ri_Qc E D cA P) args s mc ms (ri_A E)) E D cA q.1.2.2.1 f
  | 0, f, f', hs, hf, kk => by
    have hs := Option.some.inj (show some f = some f' from hs)
    subst hs
    rcases kk with ⟨k0, -⟩ | ⟨-, kk⟩
    · exact absurd k0 hf
    · exact kk
  | n + 1, f, f', hs, hf, kk => by
    have hs : (match ri_st dc cal (ri_bud md) q f with
      | some f' => ri_sn (ri_st dc cal (ri_bud md) q) n f'
      | none => none) = some f' := hs
    split at hs
    · next f1 h1 =>
      by_cases hf1 : f1.1 = 70000
      · rw [ri_sn_done (fun f hf => ri_st_done f hf) n f1 hf1] at hs
        have hs := Option.some.inj hs
        subst hs
        exact ri_st_snd X C hdc hT hrt hlocks hf h1 kk
      · exact ri_st_snd X C hdc hT hrt hlocks hf h1 (Or.inr ⟨hf1, ri_sn_snd X C hdc hT hrt hlocks n f1 f' hs hf1 kk⟩)
    · cases hs
theorem ri_gd_sn {q : ri_M × ri_T} (X : ri_Cx p s m args meth c E D cA q.1) (C : ri_Ca l E D cA md cal d q.1 R) (hdc : ∀ q ∈ dc, ri_hd q.1 (ri_ic E q.2.1) (ri_ic E q.2.2.1) = q.2.2.2) (hT : ri_okT md q = true) (hrt : meth.sig.returnType = q.1.2.2.2.1) (hlocks : meth.locks = false) {P : Option Value → ri_H → Prop} {mc ms n : Nat} {f f' : ri_F} (hs : ri_sn (ri_st dc cal (ri_bud md) q) n f = some f') (hf : f.1 ≠ 70000)
    (kk : ri_Gd p l e R s m args below meth c (MQ below (ri_Qc E D cA P) args s mc ms (ri_A E)) E D cA q.1.2.2.1 P mc ms f') : ri_Gd p l e R s m args below meth c (MQ below (ri_Qc E D cA P) args s mc ms (ri_A E)) E D cA q.1.2.2.1 P mc ms f :=
  Or.inr ⟨hf, ri_sn_snd X C hdc hT hrt hlocks n f f' hs hf kk⟩
end RIL
/-! The cells behind the first n: a world of their own -/
def ri_sh (n : Nat) (v : Value) : Value := match v with
  | .ref k => .ref (n + k)
  | v => v
def ri_shC (n : Nat) (c : ri_C) : ri_C := (c.1, c.2.map (ri_sh n))
theorem ri_sh_cv (E : ri_V) (n : Nat) (v : Value) : ri_cv E (ri_sh n v) = ri_cv (E.1 + n, E.2) v := by
  cases v with
  | ref k => show Value.ref (E.1 + (n + k)) = Value.ref (E.1 + n + k); rw [Nat.add_assoc]
  | _ => rfl
theorem ri_sh_map (E : ri_V) (n : Nat) (vs : List Value) : (vs.map (ri_sh n)).map (ri_cv E) = vs.map (ri_cv (E.1 + n, E.2)) := by
  rw [List.map_map]
  apply List.map_congr_left
  intro v _
  exact ri_sh_cv E n v
theorem ri_sh_getD (E : ri_V) (n : Nat) (vs : List Value) (j : Nat) : ri_cv E ((vs.map (ri_sh n)).getD j .null) = ri_cv (E.1 + n, E.2) (vs.getD j .null) := by
  rw [ri_gD, ri_gD, ri_sh_map]
theorem ri_X.narrow {E : ri_V} {n : Nat} {U : State} {H : Heap} (h : ri_X E U H) : ri_X (E.1 + n, E.2) U H := by
  have hAB : ∀ q, ri_A (E.1 + n, E.2) q → ri_A E q := fun q hq => Nat.le_trans (Nat.le_add_right _ _) hq
  obtain ⟨h1, h2, ⟨t5, t6, g1, g2, g3, g4, g5, g6, g7⟩, h4⟩ := h
  refine ⟨fun k a b => ?_, h2.narrow hAB, ⟨t5, t6, g1, g2, g3, g4.narrow hAB, g5.narrow hAB, g6.narrow hAB, g7.narrow hAB⟩, h4.narrow hAB⟩
  obtain ⟨t, e1, e2, cell, c1, c2, c3, c4, c5, c6, c7⟩ := h1 k a b
  exact ⟨t, e1, e2.narrow hAB, cell, c1, c2, c3, c4, c5, c6, fun hh => c7 (hAB _ hh)⟩
theorem ri_cell_sh {E : ri_V} {D : va_G} {cA : Nat → ClassId} {n k : Nat} {c : ri_C} {H : Heap} : ri_cell E D cA (n + k) (ri_shC n c) H ↔ ri_cell (E.1 + n, E.2) D cA k c H := by
  have e1 : E.1 + (n + k) = E.1 + n + k := by omega
  have e2 : (fun j => ri_cv E ((c.2.map (ri_sh n)).getD j .null)) = (fun j => ri_cv (E.1 + n, E.2) (c.2.getD j .null)) := by
    funext j
    exact ri_sh_getD E n c.2 j
  unfold ri_cell ri_shC
  dsimp only
  rw [e1, e2, List.length_map]
theorem ri_Met.mono {l : Launch} {E : ri_V} {D : va_G} {cA : Nat → ClassId} {d : Nat} {M : ri_M} {as : List Value} {h : ri_H} {P P' : Option Value → ri_H → Prop} (hM : ri_Met l E D cA d M as h P) (hP : ∀ v h', P v h' → P' v h') : ri_Met l E D cA d M as h P' := by
  intro p e ha hc hk s m args below hf happ hp hK
  obtain ⟨k, o, h1, h2, h3, ⟨v, h', hv, ho, hR, hF⟩, hL⟩ := hM p e ha hc hk s m args below hf happ hp hK
  exact ⟨k, o, h1, h2, h3, ⟨v, h', hP v h' hv, ho, hR, hF⟩, hL⟩
/-- a contract of the cells behind the first n holds where those stand ahead -/
theorem ri_shift {l : Launch} {E : ri_V} {D : va_G} {cA : Nat → ClassId} {d n : Nat} {M : ri_M} {as : List Value} {hc hm : ri_H} {P : Option Value → ri_H → Prop} (hn : hc.length = n) (hM : ri_Met l (E.1 + n, E.2) D cA d M as hm P) :
    ri_Met l E D cA d M (as.map (ri_sh n)) (hc ++ hm.map (ri_shC n)) (fun v h' => ∃ v' hm', P v' hm' ∧ v = v'.map (ri_sh n) ∧ h' = hc ++ hm'.map (ri_shC n)) := by
  have hAB : ∀ q, ri_A (E.1 + n, E.2) q → ri_A E q := fun q hq => Nat.le_trans (Nat.le_add_right _ _) hq
  intro p e ha hcc hk s m args below hf happ hp hK
  obtain ⟨p1, p2, p3, p4⟩ := hp
  have hpre : ri_Pc (E.1 + n, E.2) D cA as hm args s := by
    refine ⟨by rw [p1, ri_sh_map], p2, p3.narrow, ?_, fun k c hk => ?_⟩
    · rw [p4.1, List.length_append, List.length_map, hn]
      show _ = E.1 + n + hm.length
      omega
    · refine ri_cell_sh.mp (p4.2 (n + k) (ri_shC n c) ?_)
      rw [List.getElem?_append_right (by omega), hn, Nat.add_sub_cancel_left, List.getElem?_map, hk]
      rfl
  obtain ⟨k, o, h1, h2, h3, ⟨v, h', hv, ho, hR, hF⟩, L, hL1, hL2⟩ := hM p e ha hcc hk s m args below hf happ hpre hK
  refine ⟨k, o, h1, h2, h3, ⟨v.map (ri_sh n), hc ++ h'.map (ri_shC n), ⟨v, h', hv, rfl, rfl⟩, ?_, ⟨?_, fun j c hj => ?_⟩, hF.1, fun q q1 q2 => hF.2 q q1 (fun hh => q2 (hAB q hh))⟩, L, hL1, fun q hq => hAB _ (hL2 q hq)⟩
  · rw [ho]
    cases v with
    | none => rfl
    | some w => exact congrArg (fun z => Outcome.returned (some z)) (ri_sh_cv E n w).symm
  · rw [hR.1, List.length_append, List.length_map, hn]
    show E.1 + n + h'.length = _
    omega
  · by_cases hj2 : j < n
    · have hold : (hc ++ hm.map (ri_shC n))[j]? = some c := by
        rw [List.getElem?_append_left (by omega)] at hj ⊢
        exact hj
      refine (p4.2 j c hold).kept (hF.2 _ ?_ ?_)
      · rw [p4.1, List.length_append, hn]
        omega
      · show ¬ E.1 + n ≤ E.1 + j
        omega
    · rw [List.getElem?_append_right (by omega), hn, List.getElem?_map] at hj
      obtain ⟨c0, hc0, rfl⟩ := Option.map_eq_some_iff.mp hj
      have e1 : j = n + (j - n) := by omega
      rw [e1]
      exact ri_cell_sh.mpr (hR.2 (j - n) c0 hc0)
