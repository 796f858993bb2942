/-! a walk in pieces: the states that stand after n steps, each walked on its own -/
def sx_cc {α : Type} : List (Option (List α)) → Option (List α)
  | [] => some []
  | x :: t => match x, sx_cc t with
    | some a, some b => some (a ++ b)
    | _, _ => none
def sx_fr (G : sx_G) (dp : sx_D) (n : Nat) (sps : Nat → List sx_Y) (look : Nat → Option ri_En) (ret : Option FieldType) (xs : List sx_A) (ks : List sx_K) (kp : List Nat) (r0 : List sx_v) (stp : ri_En → Nat → sx_A → Option (List (Nat × sx_A))) (m : Nat) : Bool → Nat → sx_A → Option (List (Bool × Nat × sx_A)) :=
  Nat.rec (motive := fun _ => Bool → Nat → sx_A → Option (List (Bool × Nat × sx_A))) (fun first pc A => some [(first, pc, A)]) (fun _ ih first pc A => match sx_sp G (sps pc) A with
    | some L => sx_cc (L.map (fun A' => ih first pc A'))
    | none => bif !first && kp.any (Nat.beq pc) then (bif sx_cut G dp n r0 pc A ks then some [] else none) else match look pc with
    | some en => bif ri_isR en.1 then (bif sx_fin G dp n ret en.1 A xs then some [] else none) else (match stp en pc A with
      | some L => sx_cc (L.map (fun q => ih false q.1 q.2))
      | none => none)
    | none => none) m
theorem sx_cc_ok {α : Type} {P : α → Prop} : ∀ {l : List (Option (List α))} {F : List α}, sx_cc l = some F → (∀ a ∈ F, P a) → ∀ x ∈ l, ∃ f, x = some f ∧ ∀ a ∈ f, P a
  | [], _, _, _, x, hx => by simp at hx
  | y :: t, F, h, hp, x, hx => by
    unfold sx_cc at h
    split at h
    · next a b h2 =>
      have h := Option.some.inj h
      subst h
      rcases List.mem_cons.mp hx with e | e
      · exact ⟨a, e, fun u hu => hp u (List.mem_append_left _ hu)⟩
      · exact sx_cc_ok h2 (fun u hu => hp u (List.mem_append_right _ hu)) x e
    · cases h
theorem sx_fr_ok {G : sx_G} {dp : sx_D} {n : Nat} {sps : Nat → List sx_Y} {look : Nat → Option ri_En} {ret : Option FieldType} {xs : List sx_A} {ks : List sx_K} {kp : List Nat} {r0 : List sx_v} {stp : ri_En → Nat → sx_A → Option (List (Nat × sx_A))} {fuel : Nat} :
    ∀ (m : Nat) (first : Bool) (pc : Nat) (A : sx_A) (F : List (Bool × Nat × sx_A)), sx_fr G dp n sps look ret xs ks kp r0 stp m first pc A = some F → (∀ t ∈ F, sx_wk G dp n sps look ret xs ks kp r0 stp fuel t.1 t.2.1 t.2.2 = true) → sx_wk G dp n sps look ret xs ks kp r0 stp (fuel + m) first pc A = true
  | 0, first, pc, A, F, h, hF => by
    have h : some [(first, pc, A)] = some F := h
    have h := Option.some.inj h
    subst h
    exact hF _ List.mem_cons_self
  | m + 1, first, pc, A, F, h, hF => by
    have h : (match sx_sp G (sps pc) A with
      | some L => sx_cc (L.map (fun A' => sx_fr G dp n sps look ret xs ks kp r0 stp m first pc A'))
      | none => bif !first && kp.any (Nat.beq pc) then (bif sx_cut G dp n r0 pc A ks then some [] else none) else match look pc with
      | some en => bif ri_isR en.1 then (bif sx_fin G dp n ret en.1 A xs then some [] else none) else (match stp en pc A with
        | some L => sx_cc (L.map (fun q => sx_fr G dp n sps look ret xs ks kp r0 stp m false q.1 q.2))
        | none => none)
      | none => none) = some F := h
    show (match sx_sp G (sps pc) A with
      | some L => L.all (fun A' => sx_wk G dp n sps look ret xs ks kp r0 stp (fuel + m) first pc A')
      | none => bif !first && kp.any (Nat.beq pc) then sx_cut G dp n r0 pc A ks else match look pc with
      | some en => bif ri_isR en.1 then sx_fin G dp n ret en.1 A xs else (match stp en pc A with
        | some L => L.all (fun q => sx_wk G dp n sps look ret xs ks kp r0 stp (fuel + m) false q.1 q.2)
        | none => false)
      | none => false) = true
    split at h
    · next L hL =>
      apply List.all_eq_true.mpr
      intro A' hA
      obtain ⟨f, f1, f2⟩ := sx_cc_ok h hF _ (List.mem_map.mpr ⟨A', hA, rfl⟩)
      exact sx_fr_ok m first pc A' f f1 f2
    · cases hb : (!first && kp.any (Nat.beq pc)) with
      | true =>
        rw [hb] at h
        dsimp only [cond_true] at h ⊢
        cases hc : sx_cut G dp n r0 pc A ks with
        | true => rfl
        | false => rw [hc] at h; cases h
      | false =>
        rw [hb] at h
        dsimp only [cond_false] at h ⊢
        split at h
        · next en hen =>
          cases hr : ri_isR en.1 with
          | true =>
            rw [hr] at h
            dsimp only [cond_true] at h ⊢
            cases hc : sx_fin G dp n ret en.1 A xs with
            | true => rfl
            | false => rw [hc] at h; cases h
          | false =>
            rw [hr] at h
            dsimp only [cond_false] at h ⊢
            split at h
            · next L hL =>
              apply List.all_eq_true.mpr
              intro q hq
              obtain ⟨f, f1, f2⟩ := sx_cc_ok h hF _ (List.mem_map.mpr ⟨q, hq, rfl⟩)
              exact sx_fr_ok m false q.1 q.2 f f1 f2
            · cases h
        · cases h
def sx_sl {α : Type} (l : List α) (a n : Nat) : List α := bif Nat.beq n 0 then l.drop a else (l.drop a).take n
theorem sx_sl_in {α : Type} {l : List α} {a n i : Nat} {t : α} (hi : l[i]? = some t) (h1 : a ≤ i) (h2 : n = 0 ∨ i < a + n) : t ∈ sx_sl l a n := by
  have e1 : (l.drop a)[i - a]? = some t := by
    rw [List.getElem?_drop, show a + (i - a) = i by omega]
    exact hi
  unfold sx_sl
  cases hb : Nat.beq n 0 with
  | true => exact List.mem_of_getElem? e1
  | false =>
    have hn : n ≠ 0 := fun e => by rw [e] at hb; cases hb
    refine List.mem_of_getElem? (i := i - a) ?_
    show ((l.drop a).take n)[i - a]? = some t
    rw [List.getElem?_take, if_pos (by omega)]
    exact e1
/-- a context's check but for the walks -/
def sx_c_h (md : List (ri_M × ri_T)) (CT : List sx_X) (X : sx_X) : Bool := match md[X.1.1.1]? with
  | some q => Nat.ble X.1.1.2 q.1.2.2.1 && (Nat.blt 0 X.2.2.2.1 && (X.2.2.2.2.all (fun y => !Nat.beq y.1 70000) && (X.2.2.1.all (fun hh => hh.2.all (fun k => match CT[k]? with
      | some Y => Nat.blt Y.2.2.2.1 X.2.2.2.1
      | none => false)) && (q.2.all (fun b => b.2.all (fun x => Nat.blt x.1 70000)) && X.2.1.all (fun c => !Nat.beq c.1 70000 && sx_rkb c.2.1.2.2.2.1 c.2.2)))))
  | none => false
/-- the entry's walk in pieces: m steps, then the places a .. of what stands -/
def sx_c_e (G : sx_G) (dp : sx_D) (md : List (ri_M × ri_T)) (CT : List sx_X) (X : sx_X) (m fuel a n : Nat) : Bool := match md[X.1.1.1]? with
  | some q => match sx_fr G dp X.1.2.1.2.2.2.1.length (sx_yh X.2.2.2.2) (ri_look2 q.2) q.1.2.2.2.1 X.1.2.2.1 X.2.1 (X.2.1.map (fun c => c.1)) sx_r00 (fun en pc A => sx_step G dp X.1.2.1.2.2.2.1.length X.1.2.2.2 (sx_cts1 CT (sx_hl X.2.2.1 pc)) (ri_bud md) q.1 en pc A) m true 0 X.1.2.1 with
    | some F => (sx_sl F a n).all (fun t => sx_wk G dp X.1.2.1.2.2.2.1.length (sx_yh X.2.2.2.2) (ri_look2 q.2) q.1.2.2.2.1 X.1.2.2.1 X.2.1 (X.2.1.map (fun c => c.1)) sx_r00 (fun en pc A => sx_step G dp X.1.2.1.2.2.2.1.length X.1.2.2.2 (sx_cts1 CT (sx_hl X.2.2.1 pc)) (ri_bud md) q.1 en pc A) fuel t.1 t.2.1 t.2.2)
    | none => false
  | none => false
/-- the cuts' walks in pieces -/
def sx_c_c (G : sx_G) (dp : sx_D) (md : List (ri_M × ri_T)) (CT : List sx_X) (X : sx_X) (fuel a n : Nat) : Bool := match md[X.1.1.1]? with
  | some q => (sx_sl X.2.1 a n).all (fun c => sx_wx G dp md CT X q c.2.2 fuel c.1 c.2.1)
  | none => false
theorem sx_c_ok {G : sx_G} {dp : sx_D} {md : List (ri_M × ri_T)} {CT : List sx_X} {X : sx_X} {m fuel : Nat} (h0 : sx_c_h md CT X = true) (hp : ∀ i : Nat, ∃ a n, a ≤ i ∧ (n = 0 ∨ i < a + n) ∧ sx_c_e G dp md CT X m fuel a n = true) (hq : ∀ i : Nat, ∃ a n, a ≤ i ∧ (n = 0 ∨ i < a + n) ∧ sx_c_c G dp md CT X (fuel + m) a n = true) : sx_ck G dp md CT (fuel + m) X = true := by
  unfold sx_c_h at h0
  unfold sx_ck
  split at h0
  · next q hmd =>
    rw [hmd]
    dsimp only
    simp only [Bool.and_eq_true] at h0 ⊢
    obtain ⟨c1, c2, c0, c3, c4, c5⟩ := h0
    refine ⟨c1, c2, c0, c3, c4, c5, ?_, ?_⟩
    · unfold sx_wx
      obtain ⟨a0, n0, -, -, p0⟩ := hp 0
      unfold sx_c_e at p0
      rw [hmd] at p0
      dsimp only at p0
      split at p0
      · next F hF =>
        refine sx_fr_ok m true 0 X.1.2.1 F hF (fun t ht => ?_)
        obtain ⟨i, hi⟩ := List.getElem?_of_mem ht
        obtain ⟨a, n, h1, h2, h3⟩ := hp i
        unfold sx_c_e at h3
        rw [hmd] at h3
        dsimp only at h3
        rw [hF] at h3
        exact List.all_eq_true.mp h3 t (sx_sl_in hi h1 h2)
      · cases p0
    · apply List.all_eq_true.mpr
      intro c hc
      obtain ⟨i, hi⟩ := List.getElem?_of_mem hc
      obtain ⟨a, n, h1, h2, h3⟩ := hq i
      unfold sx_c_c at h3
      rw [hmd] at h3
      exact List.all_eq_true.mp h3 c (sx_sl_in hi h1 h2)
  · cases h0
