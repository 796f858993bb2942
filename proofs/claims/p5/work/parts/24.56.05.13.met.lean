section RIK
variable {p : Program} {l : Launch} {e : Env} {R : Room} {s : State} {m : MethodId} {args : Array Value} {below : List Frame} {meth : Method} {c : Code} {Q : State → Prop} {E : ri_V} {D : va_G} {cA : Nat → ClassId} {M : ri_M} {pc k z nL d : Nat} {lo : List (Nat × Value)} {st r : List Value} {h : ri_H} {f' : ri_F} {dc : ri_O} {md : List (ri_M × ri_T)} {cal : Nat → List Value → ri_H → Option (Option Value × ri_H)}
theorem ri_snd_ret (X : ri_Cx p s m args meth c E D cA M) (hrt : meth.sig.returnType = M.2.2.2.1) (hlocks : meth.locks = false) {P : Option Value → ri_H → Prop} {mc ms : Nat} {ins : Instr} {rs : List Value} (hd : decode M.2.1 pc = .ok (ins, 1)) (hr : ri_ret M.2.2.2.1 ins st = some rs) (hP : P rs.head? h) (hk : k ≤ mc) (hz : z ≤ ms) :
    ri_Ab p l e R s m args below meth c (MQ below (ri_Qc E D cA P) args s mc ms (ri_A E)) E D cA M.2.2.1 (pc, lo, st, h, k, z) := by
  obtain ⟨hx, hb, -⟩ := X
  intro H ls locs hl hR hS
  refine W.widen (k := mc) (n := ms) hk hz ?_
  have fin : ∀ (o : Option Value), rs.head? = o → ∀ t : State, t.heap = H → s.WarmedH t.vm → ri_Qc E D cA P args s (.returned (o.map (ri_cv E))) t := by
    rintro o rfl t ht -
    exact ⟨_, h, hP, rfl, by rw [ht]; exact hR, hS.F ht⟩
  unfold ri_ret at hr
  split at hr
  · split at hr
    · next v =>
      cases hg : ri_rok M.2.2.2.1 v with
      | false => rw [hg] at hr; cases hr
      | true =>
        rw [hg] at hr
        cases hr
        unfold ri_rok at hg
        split at hg
        · next e1 => exact W.iret hx hb (hrt.trans e1) (fin _ rfl) hS.2.2 hd
        · next t e1 => exact W.iret hx hb (hrt.trans e1) (fin (some (.float t)) rfl) hS.2.2 hd
        · next x e1 =>
          simp only [Bool.or_eq_true, decide_eq_true_eq] at hg
          exact W.zret hx hb (hrt.trans e1) (by rcases hg with rfl | rfl <;> rfl) (fin _ rfl) hS.2.2 hd
        · next x e1 =>
          simp only [Bool.or_eq_true, decide_eq_true_eq] at hg
          exact W.zret hx hb (hrt.trans e1) (by rcases hg with rfl | rfl <;> rfl) (fin _ rfl) hS.2.2 hd
        · next x e1 =>
          have hg := of_decide_eq_true hg
          exact W.zret hx hb (hrt.trans e1) (by have := pk_nc x; rw [hg] at this; exact this) (fin _ rfl) hS.2.2 hd
        · cases hg
    · cases hr
  · split at hr
    · next e1 =>
      cases hr
      exact W.vret hx hb (hrt.trans e1) (fin none rfl) hS.2.2 hd
    · cases hr
  · cases hr
theorem ri_look_ok : ∀ (t : List (Nat × ri_En)) (pc : Nat) (en : ri_En), ri_look t pc = some en → (pc, en) ∈ t
  | [], _, _, hs => by cases hs
  | q :: t, pc, en, hs => by
    unfold ri_look at hs
    cases hb : Nat.beq q.1 pc with
    | true =>
      rw [hb] at hs
      have h1 : q.1 = pc := Nat.eq_of_beq_eq_true hb
      have h2 : q.2 = en := Option.some.inj hs
      rw [← h1, ← h2]
      exact List.mem_cons_self
    | false =>
      rw [hb] at hs
      exact List.mem_cons_of_mem _ (ri_look_ok t pc en hs)
theorem ri_look2_ok : ∀ (t : ri_T) (pc : Nat) (en : ri_En), ri_look2 t pc = some en → ∃ b ∈ t, (pc, en) ∈ b.2
  | [], _, _, hs => by cases hs
  | q :: t, pc, en, hs => by
    unfold ri_look2 at hs
    cases hb : Nat.blt pc q.1 with
    | true =>
      rw [hb] at hs
      exact ⟨q, List.mem_cons_self, ri_look_ok _ _ _ hs⟩
    | false =>
      rw [hb] at hs
      obtain ⟨b, h1, h2⟩ := ri_look2_ok t pc en hs
      exact ⟨b, List.mem_cons_of_mem _ h1, h2⟩
def ri_okT (md : List (ri_M × ri_T)) (q : ri_M × ri_T) : Bool := q.2.all (fun b => b.2.all (fun x => ri_ok md q.1 x.1 x.2))
theorem ri_okT_at {q : ri_M × ri_T} (hq : ri_okT md q = true) {pc : Nat} {en : ri_En} (hl : ri_look2 q.2 pc = some en) : ri_ok md q.1 pc en = true := by
  obtain ⟨b, h1, h2⟩ := ri_look2_ok _ _ _ hl
  exact List.all_eq_true.mp (List.all_eq_true.mp hq b h1) (pc, en) h2
/-- where a frame is done its result stands, else the machine goes on from it -/
def ri_Gd (p : Program) (l : Launch) (e : Env) (R : Room) (s : State) (m : MethodId) (args : Array Value) (below : List Frame) (meth : Method) (c : Code) (Q : State → Prop) (E : ri_V) (D : va_G) (cA : Nat → ClassId) (nL : Nat) (P : Option Value → ri_H → Prop) (mc ms : Nat) (f : ri_F) : Prop :=
  (f.1 = 70000 ∧ P f.2.2.1.head? f.2.2.2.1 ∧ f.2.2.2.2.1 ≤ mc ∧ f.2.2.2.2.2 ≤ ms) ∨ (f.1 ≠ 70000 ∧ ri_Ab p l e R s m args below meth c Q E D cA nL f)
theorem ri_st_snd {q : ri_M × ri_T} (X : ri_Cx p s m args meth c E D cA q.1) (C : ri_Ca l E D cA md cal d q.1 R) (hdc : ∀ q ∈ dc, ri_hd q.1 (ri_ic E q.2.1) (ri_ic E q.2.2.1) = q.2.2.2) (hT : ri_okT md q = true) (hrt : meth.sig.returnType = q.1.2.2.2.1) (hlocks : meth.locks = false) {P : Option Value → ri_H → Prop} {mc ms : Nat} {f : ri_F} (hf : f.1 ≠ 70000)
    (hs : ri_st dc cal (ri_bud md) q f = some f') (kk : ri_Gd p l e R s m args below meth c (MQ below (ri_Qc E D cA P) args s mc ms (ri_A E)) E D cA q.1.2.2.1 P mc ms f') : ri_Ab p l e R s m args below meth c (MQ below (ri_Qc E D cA P) args s mc ms (ri_A E)) E D cA q.1.2.2.1 f := by
  unfold ri_st at hs
  rw [show Nat.beq f.1 70000 = false by
    cases hh : Nat.beq f.1 70000 with
    | false => rfl
    | true => exact absurd (Nat.eq_of_beq_eq_true hh) hf] at hs
  dsimp only [cond_false] at hs
  split at hs
  · next en hl =>
    have hok := ri_okT_at hT hl
    cases hi : ri_isR en.1 with
    | true =>
      rw [hi] at hs
      dsimp only [cond_true] at hs
      split at hs
      · next rs hr =>
        have hs := Option.some.inj hs
        subst hs
        rcases kk with ⟨-, kP, k1, k2⟩ | ⟨k0, -⟩
        · obtain ⟨hd0, hp0⟩ := (Bool.and_eq_true _ _).mp hok
          have hd := of_decide_eq_true hd0
          obtain ⟨i, ln, aux, cv⟩ := en
          dsimp only at hd hr hi
          have e1 : ln = 1 := by
            cases i with
            | ireturn => exact Nat.eq_of_beq_eq_true hp0
            | return_ => exact Nat.eq_of_beq_eq_true hp0
            | _ => cases hi
          subst e1
          exact ri_snd_ret X hrt hlocks hd hr kP k1 k2
        · exact absurd rfl k0
      · cases hs
    | false =>
      rw [hi] at hs
      dsimp only [cond_false] at hs
      split at hs
      · next f1 hst =>
        cases h7 : Nat.beq f1.1 70000 with
        | true => rw [h7] at hs; cases hs
        | false =>
          rw [h7] at hs
          have hs := Option.some.inj hs
          subst hs
          rcases kk with ⟨k0, -⟩ | ⟨-, kk⟩
          · rw [k0] at h7; cases h7
          · exact ri_snd X C hdc hok hst kk
      · cases hs
  · cases hs
theorem ri_it_snd {stp : ri_F → Option ri_F} {A B : ri_F → Prop} (hstep : ∀ f f', f.1 ≠ 70000 → stp f = some f' → ((f'.1 = 70000 ∧ B f') ∨ (f'.1 ≠ 70000 ∧ A f')) → A f) :
    ∀ (n : Nat) (f f' : ri_F), f.1 ≠ 70000 → ri_it stp n f = some f' → ((f'.1 = 70000 ∧ B f') ∨ (f'.1 ≠ 70000 ∧ A f')) → A f
  | 0, f, f', hf, hs, kk => hstep f f' hf hs kk
  | n + 1, f, f', hf, hs, kk => by
    have hs : (match ri_it stp n f with
      | some f1 => bif Nat.beq f1.1 70000 then some f1 else ri_it stp n f1
      | none => none) = some f' := hs
    split at hs
    · next f1 h1 =>
      cases h7 : Nat.beq f1.1 70000 with
      | true =>
        rw [h7] at hs
        have hs := Option.some.inj hs
        subst hs
        exact ri_it_snd hstep n f _ hf h1 kk
      | false =>
        rw [h7] at hs
        have n7 : f1.1 ≠ 70000 := fun e => by rw [e] at h7; cases h7
        exact ri_it_snd hstep n f f1 hf h1 (Or.inr ⟨n7, ri_it_snd hstep n f1 f' n7 hs kk⟩)
    · cases hs
theorem ri_lgsl (vs : List Value) : (lg_sl (vs.map (ri_cv E))).length = ri_wt vs := by
  induction vs with
  | nil => rfl
  | cons v vs ih =>
    have e1 : lg_sl ((v :: vs).map (ri_cv E)) = lg_sl [ri_cv E v] ++ lg_sl (vs.map (ri_cv E)) := by simp [lg_sl]
    rw [e1, List.length_append, ih]
    show _ = v.category + ri_wt vs
    congr 1
    rw [← ri_cat E v]
    cases ri_cv E v <;> rfl
/-- A METHOD: if its body, from its entry, goes well for every surroundings, its contract holds -/
theorem ri_met_of {q : ri_M × ri_T} {n : Nat} (hMk : ri_Mk q.1 n) {as : List Value} {P : Option Value → ri_H → Prop} (hw : ri_wt as ≤ q.1.2.2.1)
    (body : ∀ (p : Program) (e : Env) (s : State) (m : MethodId) (args : Array Value) (below : List Frame) (meth : Method) (c : Code), ri_Cx p s m args meth c E D cA q.1 → meth.sig.returnType = q.1.2.2.2.1 → meth.locks = false →
      ri_Ab p l e (ri_rm d q.1) s m args below meth c (MQ below (ri_Qc E D cA P) args s q.1.2.2.2.2.2.1 q.1.2.2.2.2.2.2 (ri_A E)) E D cA q.1.2.2.1 (0, ri_as 0 as, [], h, 0, 0)) : ri_Met l E D cA d q.1 as h P := by
  refine Met.ofW (cc := q.1.2.1) (maxL := q.1.2.2.1) (ret := q.1.2.2.2.1) hMk.2.2.2.2.2.2.1 rfl ?_
  intro p e s m args below meth c s₁ B hml hv
  obtain ⟨rfl, hK, hX, hR⟩ := hv
  have hts := atoms_spec (ws := ri_ws q.1) B.pre
  have hown : s.vm.findClass q.1.1.cls = some m.cls := findClass_of_methodNamed B.named
  have Cx : ri_Cx p s m (as.map (ri_cv E)).toArray meth c E D cA q.1 := ⟨B.exec, B.bytes, hml, by rw [hMk.2.2.2.2.2.2.2]; exact hown, fun w h1 h2 => hts w (List.mem_cons_of_mem _ (List.mem_filter.mpr ⟨h1, h2⟩)), hK, hX, (name_of_methodNamed B.named B.method).1, by rw [hR.1]; omega⟩
  have hl := lv_entry (as.map (ri_cv E)) (n := q.1.2.2.1) (by rw [ri_lgsl]; exact hw)
  rw [lg_entry_eq]
  rw [ri_mp_as] at hl
  exact body p e s m _ below meth c Cx B.returns B.notSynchronized s.heap _ [] hl hR va_S.rf
/-- A CALL of the abstract machine is a contract -/
theorem ri_met (l : Launch) (E : ri_V) (D : va_G) (cA : Nat → ClassId) (hmk : ∀ (j : Nat) (q : ri_M × ri_T), md[j]? = some q → ∃ n, ri_Mk q.1 n) (hT : ∀ (j : Nat) (q : ri_M × ri_T), md[j]? = some q → ri_okT md q = true) (hdc : ∀ q ∈ dc, ri_hd q.1 (ri_ic E q.2.1) (ri_ic E q.2.2.1) = q.2.2.2) :
    ∀ (d j : Nat) (q : ri_M × ri_T) (as : List Value) (h : ri_H) (v : Option Value) (h' : ri_H), md[j]? = some q → ri_call dc md d j as h = some (v, h') → ri_Met l E D cA d q.1 as h (fun a b => a = v ∧ b = h')
  | 0, j, q, as, h, v, h', hq, hs => by cases hs
  | d + 1, j, q, as, h, v, h', hq, hs => by
    have hs : (match md[j]? with
      | some q => bif Nat.ble (ri_wt as) q.1.2.2.1 then (match ri_it (ri_st dc (ri_call dc md d) (ri_bud md) q) 14 (0, ri_as 0 as, [], h, 0, 0) with
        | some f => bif Nat.beq f.1 70000 && (Nat.ble f.2.2.2.2.1 q.1.2.2.2.2.2.1 && Nat.ble f.2.2.2.2.2 q.1.2.2.2.2.2.2) then some (f.2.2.1.head?, f.2.2.2.1) else none
        | none => none) else none
      | none => none) = some (v, h') := hs
    rw [hq] at hs
    dsimp only at hs
    cases hw : Nat.ble (ri_wt as) q.1.2.2.1 with
    | false => rw [hw] at hs; cases hs
    | true =>
      rw [hw] at hs
      dsimp only [cond_true] at hs
      split at hs
      · next f hf =>
        cases h7 : (Nat.beq f.1 70000 && (Nat.ble f.2.2.2.2.1 q.1.2.2.2.2.2.1 && Nat.ble f.2.2.2.2.2 q.1.2.2.2.2.2.2)) with
        | false => rw [h7] at hs; cases hs
        | true =>
          rw [h7] at hs
          have hs := Option.some.inj hs
          have hs1 : f.2.2.1.head? = v := congrArg Prod.fst hs
          have hs2 : f.2.2.2.1 = h' := congrArg Prod.snd hs
          simp only [Bool.and_eq_true, Nat.beq_eq, Nat.ble_eq] at h7
          obtain ⟨n, hMk⟩ := hmk j q hq
          refine ri_met_of hMk (Nat.ble_eq.mp hw) (fun p e s m args below meth c X hrt hlk => ?_)
          have C : ri_Ca l E D cA md (ri_call dc md d) d q.1 (ri_rm (d + 1) q.1) := ⟨hmk, fun j' q' as' h1 v' h2 => ri_met l E D cA hmk hT hdc d j' q' as' h1 v' h2, Nat.le_refl _, Nat.le_refl _, Nat.le_refl _, by show 64 * d + 64 ≤ 64 * (d + 1); omega⟩
          exact ri_it_snd (A := ri_Ab p l e (ri_rm (d + 1) q.1) s m args below meth c (MQ below (ri_Qc E D cA (fun a b => a = v ∧ b = h')) args s q.1.2.2.2.2.2.1 q.1.2.2.2.2.2.2 (ri_A E)) E D cA q.1.2.2.1) (B := fun f => (f.2.2.1.head? = v ∧ f.2.2.2.1 = h') ∧ f.2.2.2.2.1 ≤ q.1.2.2.2.2.2.1 ∧ f.2.2.2.2.2 ≤ q.1.2.2.2.2.2.2)
            (fun f1 f2 hf1 hst kk => ri_st_snd X C hdc (hT j q hq) hrt hlk hf1 hst kk) 14 _ f (show (0 : Nat) ≠ 70000 by decide) hf (Or.inl ⟨h7.1, ⟨hs1, hs2⟩, h7.2⟩)
      · cases hs
end RIK
