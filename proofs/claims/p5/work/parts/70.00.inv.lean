/-! what a run that ends has done, an instruction at a time (eh_): the heap is seen through its slots -/
abbrev eh_A : Type := List (Nat × Nat × Value)
abbrev eh_W : Type := Nat → Nat → Option Value
abbrev eh_K : Type := Nat → List Value → ri_H → Option (Option Value × ri_H)
def eh_V (h : ri_H) : eh_W := fun k i => match h[k]? with
  | some q => q.2[i]?
  | none => none
def eh_N (h : ri_H) : List Nat := h.map (fun c => c.2.length)
/-- slots told ahead of the others -/
def eh_o : eh_A → eh_W → eh_W
  | [], g, k, i => g k i
  | e :: t, g, k, i => bif Nat.beq e.1 k && Nat.beq e.2.1 i then some e.2.2 else eh_o t g k i
def eh_u (g : eh_W) (k i : Nat) (v : Value) : eh_W := fun a b => bif Nat.beq k a && Nat.beq i b then some v else g a b
def eh_s : eh_A → Nat → Nat → Value → Option eh_A
  | [], _, _, _ => none
  | e :: t, k, i, v => bif Nat.beq e.1 k && Nat.beq e.2.1 i then some ((k, i, v) :: t) else match eh_s t k i v with
    | some t' => some (e :: t')
    | none => none
def eh_n (al : eh_A) (k i : Nat) : Bool := al.all (fun e => !(Nat.beq e.1 k && Nat.beq e.2.1 i))
theorem eh_bf {a b : Nat} (h : a ≠ b) : Nat.beq a b = false := by
  cases e : Nat.beq a b with
  | false => rfl
  | true => exact absurd (Nat.eq_of_beq_eq_true e) h
theorem eh_bt (a : Nat) : Nat.beq a a = true := Nat.beq_eq.mpr rfl
theorem eh_u_self (g : eh_W) (k i : Nat) (v : Value) : eh_u g k i v k i = some v := by
  unfold eh_u
  rw [eh_bt, eh_bt]
  rfl
theorem eh_u_ne (g : eh_W) {k i a b : Nat} (v : Value) (h : k ≠ a ∨ i ≠ b) : eh_u g k i v a b = g a b := by
  unfold eh_u
  rcases h with h | h
  · rw [eh_bf h]
    rfl
  · rw [eh_bf h, Bool.and_false]
    rfl
theorem eh_s_ok {g : eh_W} {k i : Nat} {v : Value} : ∀ {al al' : eh_A}, eh_s al k i v = some al' → eh_o al' g = eh_u (eh_o al g) k i v
  | [], _, e => by cases e
  | e :: t, al', hs => by
    unfold eh_s at hs
    cases hb : (Nat.beq e.1 k && Nat.beq e.2.1 i) with
    | true =>
      rw [hb] at hs
      have hs := Option.some.inj hs
      subst hs
      simp only [Bool.and_eq_true] at hb
      have e1 := Nat.eq_of_beq_eq_true hb.1
      have e2 := Nat.eq_of_beq_eq_true hb.2
      funext a b
      unfold eh_u
      show (bif Nat.beq k a && Nat.beq i b then some v else eh_o t g a b) = (bif Nat.beq k a && Nat.beq i b then some v else (bif Nat.beq e.1 a && Nat.beq e.2.1 b then some e.2.2 else eh_o t g a b))
      rw [e1, e2]
      cases (Nat.beq k a && Nat.beq i b) <;> rfl
    | false =>
      rw [hb] at hs
      dsimp only [cond_false] at hs
      split at hs
      · next t' ht =>
        have hs := Option.some.inj hs
        subst hs
        have ih := eh_s_ok (g := g) ht
        funext a b
        show (bif Nat.beq e.1 a && Nat.beq e.2.1 b then some e.2.2 else eh_o t' g a b) = (bif Nat.beq k a && Nat.beq i b then some v else (bif Nat.beq e.1 a && Nat.beq e.2.1 b then some e.2.2 else eh_o t g a b))
        rw [ih]
        show (bif Nat.beq e.1 a && Nat.beq e.2.1 b then some e.2.2 else (bif Nat.beq k a && Nat.beq i b then some v else eh_o t g a b)) = _
        cases h1 : (Nat.beq e.1 a && Nat.beq e.2.1 b) with
        | false => rfl
        | true =>
          cases h2 : (Nat.beq k a && Nat.beq i b) with
          | false => rfl
          | true =>
            simp only [Bool.and_eq_true] at h1 h2
            rw [Nat.eq_of_beq_eq_true h1.1, Nat.eq_of_beq_eq_true h1.2, ← Nat.eq_of_beq_eq_true h2.1, ← Nat.eq_of_beq_eq_true h2.2, eh_bt, eh_bt] at hb
            cases hb
      · cases hs
theorem eh_n_ok {g : eh_W} {k i : Nat} {v : Value} : ∀ {al : eh_A}, eh_n al k i = true → eh_o al (eh_u g k i v) = eh_u (eh_o al g) k i v
  | [], _ => rfl
  | e :: t, hn => by
    have h1 : (!(Nat.beq e.1 k && Nat.beq e.2.1 i)) = true ∧ eh_n t k i = true := by
      have hn : ((!(Nat.beq e.1 k && Nat.beq e.2.1 i)) && eh_n t k i) = true := hn
      exact (Bool.and_eq_true _ _).mp hn
    have ih := eh_n_ok (g := g) (v := v) h1.2
    funext a b
    show (bif Nat.beq e.1 a && Nat.beq e.2.1 b then some e.2.2 else eh_o t (eh_u g k i v) a b) = (bif Nat.beq k a && Nat.beq i b then some v else (bif Nat.beq e.1 a && Nat.beq e.2.1 b then some e.2.2 else eh_o t g a b))
    rw [ih]
    show (bif Nat.beq e.1 a && Nat.beq e.2.1 b then some e.2.2 else (bif Nat.beq k a && Nat.beq i b then some v else eh_o t g a b)) = _
    cases g1 : (Nat.beq e.1 a && Nat.beq e.2.1 b) with
    | false => rfl
    | true =>
      cases g2 : (Nat.beq k a && Nat.beq i b) with
      | false => rfl
      | true =>
        have h3 := h1.1
        simp only [Bool.and_eq_true] at g1 g2
        rw [Nat.eq_of_beq_eq_true g1.1, Nat.eq_of_beq_eq_true g1.2, ← Nat.eq_of_beq_eq_true g2.1, ← Nat.eq_of_beq_eq_true g2.2, eh_bt, eh_bt] at h3
        cases h3
def eh_nb (al : eh_A) (k m : Nat) : Bool := al.all (fun e => !Nat.beq e.1 k || Nat.blt e.2.1 m)
theorem eh_nb_ok {k m i : Nat} {al : eh_A} (h : eh_nb al k m = true) (hi : m ≤ i) : eh_n al k i = true := List.all_eq_true.mpr (fun e he => by
  have q := List.all_eq_true.mp h e he
  rcases (Bool.or_eq_true _ _).mp q with q | q
  · rw [Bool.not_eq_true'] at q
    rw [q]
    rfl
  · rw [eh_bf (show e.2.1 ≠ i by have := Nat.blt_eq.mp q; omega), Bool.and_false]
    rfl)
theorem eh_set {h : ri_H} {r i : Nat} {c : ri_C} {v : Value} (hc : h[r]? = some c) (hi : i < c.2.length) : eh_V (h.set r (c.1, c.2.set i v)) = eh_u (eh_V h) r i v ∧ eh_N (h.set r (c.1, c.2.set i v)) = eh_N h := by
  have hl : r < h.length := (List.getElem?_eq_some_iff.mp hc).1
  constructor
  · funext a b
    unfold eh_u eh_V
    by_cases e : r = a
    · subst e
      rw [List.getElem?_set_self hl, eh_bt, hc]
      dsimp only
      by_cases e1 : i = b
      · subst e1
        rw [List.getElem?_set_self hi, eh_bt]
        rfl
      · rw [List.getElem?_set_ne e1, eh_bf e1]
        rfl
    · rw [List.getElem?_set_ne e, eh_bf e]
      rfl
  · unfold eh_N
    rw [List.map_set]
    apply List.ext_getElem?
    intro k
    by_cases e : r = k
    · subst e
      rw [List.getElem?_set_self (by rw [List.length_map]; exact hl), List.getElem?_map, hc]
      show some (c.2.set i v).length = some c.2.length
      rw [List.length_set]
    · rw [List.getElem?_set_ne e]
/-- the run from a frame ends with rs and h' -/
def eh_F (cal : eh_K) (q : ri_M × ri_T) (f : ri_F) (rs : List Value) (h' : ri_H) : Prop := ∃ n lo' k' z', ri_go (ri_st [] cal (ri_bud ri_md) q) n f = some (70000, lo', rs, h', k', z')
def eh_e (cal : eh_K) (q : ri_M × ri_T) (pc : Nat) (lo : List (Nat × Value)) (st : List Value) (h : ri_H) (rs : List Value) (h' : ri_H) : Prop := ∃ k z, eh_F cal q (pc, lo, st, h, k, z) rs h'
theorem eh_in {d j : Nat} {q : ri_M × ri_T} {as : List Value} {h h' : ri_H} {v : Option Value} (hs : ri_calE ri_md (d + 1) j as h = some (v, h')) (hq : ri_md[j]? = some q) : ∃ rs, rs.head? = v ∧ eh_e (ri_calE ri_md d) q 0 (ri_as 0 as) [] h rs h' := by
  obtain ⟨-, f', ⟨⟨n, g⟩, g1, -⟩, g2, g3⟩ := ri_calE_inv hq hs
  obtain ⟨a1, a2, a3, a4, a5, a6⟩ := f'
  dsimp only at g1 g2 g3
  subst g1 g2 g3
  exact ⟨a3, rfl, 0, 0, n, a2, a5, a6, g⟩
section EH
variable {cal : eh_K} {q : ri_M × ri_T} {pc p : Nat} {lo lo' : List (Nat × Value)} {st st' rs : List Value} {h h' : ri_H} {e : ri_En} {al al' : eh_A} {g : eh_W}
theorem eh_e.inv (E : eh_e cal q pc lo st h rs h') (hp : Nat.beq pc 70000 = false) (hl : ri_look2 q.2 pc = some e) (hr : ri_isR e.1 = false) : ∃ k z f1, ri_step [] cal (ri_bud ri_md) q.1 e pc lo st h k z = some f1 ∧ eh_F cal q f1 rs h' := by
  obtain ⟨k, z, n, lo', k', z', g⟩ := E
  cases n with
  | zero =>
    have g := congrArg Prod.fst (Option.some.inj g)
    dsimp only at g
    rw [g] at hp
    exact absurd hp (by decide)
  | succ n =>
    unfold ri_go at g
    dsimp only at g
    rw [hp] at g
    dsimp only [cond_false] at g
    split at g
    · next f1 hf =>
      unfold ri_st at hf
      dsimp only at hf
      rw [hp, hl] at hf
      dsimp only [cond_false] at hf
      rw [hr] at hf
      dsimp only [cond_false] at hf
      split at hf
      · next f2 hs =>
        cases hb : Nat.beq f2.1 70000 with
        | true =>
          rw [hb] at hf
          cases hf
        | false =>
          rw [hb] at hf
          have hf := Option.some.inj hf
          subst hf
          exact ⟨k, z, f2, hs, n, lo', k', z', g⟩
      · cases hf
    · cases g
theorem eh_e.rt (E : eh_e cal q pc lo st h rs h') (hp : Nat.beq pc 70000 = false) (hl : ri_look2 q.2 pc = some e) (hr : ri_isR e.1 = true) : ∃ r, ri_ret q.1.2.2.2.1 e.1 st = some r ∧ rs = r ∧ h' = h := by
  obtain ⟨k, z, n, lo', k', z', g⟩ := E
  cases n with
  | zero =>
    have g := congrArg Prod.fst (Option.some.inj g)
    dsimp only at g
    rw [g] at hp
    exact absurd hp (by decide)
  | succ n =>
    unfold ri_go at g
    dsimp only at g
    rw [hp] at g
    dsimp only [cond_false] at g
    split at g
    · next f1 hf =>
      unfold ri_st at hf
      dsimp only at hf
      rw [hp, hl] at hf
      dsimp only [cond_false] at hf
      rw [hr] at hf
      dsimp only [cond_true] at hf
      split at hf
      · next r hs =>
        have hf := Option.some.inj hf
        subst hf
        have g2 : ri_go (ri_st [] cal (ri_bud ri_md) q) (0 + n) (70000, [], r, h, k, z) = some (70000, [], r, h, k, z) := ri_go_more (n := 0) rfl rfl
        rw [Nat.zero_add, g] at g2
        have g2 := Option.some.inj g2
        refine ⟨r, hs, ?_, ?_⟩
        · exact congrArg (fun f : ri_F => f.2.2.1) g2
        · exact congrArg (fun f : ri_F => f.2.2.2.1) g2
      · cases hf
    · cases g
theorem eh_e.reti {v : Value} {m : Nat} {ax : List Nat} {w : Value} (E : eh_e cal q pc lo [v] h rs h') (hp : Nat.beq pc 70000 = false) (hl : ri_look2 q.2 pc = some (.ireturn, m, ax, w)) : rs = [v] ∧ h' = h := by
  obtain ⟨r, h1, h2, h3⟩ := E.rt hp hl rfl
  refine ⟨?_, h3⟩
  have h1 : (bif ri_rok q.1.2.2.2.1 v then some [v] else none) = some r := h1
  cases hb : ri_rok q.1.2.2.2.1 v with
  | false => rw [hb] at h1; cases h1
  | true =>
    rw [hb] at h1
    rw [h2]
    exact (Option.some.inj h1).symm
theorem eh_e.retv {m : Nat} {ax : List Nat} {w : Value} (E : eh_e cal q pc lo [] h rs h') (hp : Nat.beq pc 70000 = false) (hl : ri_look2 q.2 pc = some (.return_, m, ax, w)) : rs = [] ∧ h' = h := by
  obtain ⟨r, h1, h2, h3⟩ := E.rt hp hl rfl
  refine ⟨?_, h3⟩
  rw [h2]
  cases hq : q.1.2.2.2.1 with
  | none =>
    rw [hq] at h1
    exact (Option.some.inj h1).symm
  | some y =>
    rw [hq] at h1
    cases h1
/-- an instruction that leaves the heap -/
theorem eh_e.pu (E : eh_e cal q pc lo st h rs h') (hp : Nat.beq pc 70000 = false) (hl : ri_look2 q.2 pc = some e) (hr : ri_isR e.1 = false) (hs : ∀ k z, ri_step [] cal (ri_bud ri_md) q.1 e pc lo st h k z = some (p, lo', st', h, k, z)) : eh_e cal q p lo' st' h rs h' := by
  obtain ⟨k, z, f1, s1, E1⟩ := E.inv hp hl hr
  rw [hs] at s1
  have s1 := Option.some.inj s1
  subst s1
  exact ⟨k, z, E1⟩
theorem eh_e.ld {t : Value → Bool} {i n : Nat} {v : Value} (E : eh_e cal q pc lo st h rs h') (hp : Nat.beq pc 70000 = false) (hl : ri_look2 q.2 pc = some e) (hr : ri_isR e.1 = false) (hs : ∀ k z, ri_step [] cal (ri_bud ri_md) q.1 e pc lo st h k z = ri_ld t i n pc lo st h k z) (hv : ri_lk lo i = some v) (hn : pc + n = p) : eh_e cal q p lo (v :: st) h rs h' := by
  obtain ⟨k, z, f1, s1, E1⟩ := E.inv hp hl hr
  rw [hs] at s1
  unfold ri_ld at s1
  rw [hv] at s1
  dsimp only at s1
  cases hb : t v with
  | false => rw [hb] at s1; cases s1
  | true =>
    rw [hb] at s1
    have s1 := Option.some.inj s1
    subst s1 hn
    exact ⟨k, z, E1⟩
theorem eh_e.so {t : Value → Bool} {i n : Nat} {v : Value} (E : eh_e cal q pc lo (v :: st) h rs h') (hp : Nat.beq pc 70000 = false) (hl : ri_look2 q.2 pc = some e) (hr : ri_isR e.1 = false) (hs : ∀ k z, ri_step [] cal (ri_bud ri_md) q.1 e pc lo (v :: st) h k z = ri_sto t q.1 i n pc lo (v :: st) h k z) (hn : pc + n = p) : eh_e cal q p (ri_st1 lo i v) st h rs h' := by
  obtain ⟨k, z, f1, s1, E1⟩ := E.inv hp hl hr
  rw [hs] at s1
  have s1 : (bif t v && Nat.blt i q.1.2.2.1 then some (pc + n, ri_st1 lo i v, st, h, k, z) else none) = some f1 := s1
  cases hb : (t v && Nat.blt i q.1.2.2.1) with
  | false => rw [hb] at s1; cases s1
  | true =>
    rw [hb] at s1
    have s1 := Option.some.inj s1
    subst s1 hn
    exact ⟨k, z, E1⟩
theorem eh_e.ii {i : Nat} {n : Int} {x y : Int32} {m : Nat} {ax : List Nat} {w : Value} (E : eh_e cal q pc lo st h rs h') (hp : Nat.beq pc 70000 = false) (hl : ri_look2 q.2 pc = some (.iinc i n, m, ax, w)) (hv : ri_lk lo i = some (.int x)) (hy : x + Int32.ofInt n = y) (hn : pc + 3 = p) : eh_e cal q p (ri_st1 lo i (.int y)) st h rs h' := by
  obtain ⟨k, z, f1, s1, E1⟩ := E.inv hp hl rfl
  have s1 : (match ri_lk lo i with
    | some (.int x) => bif Nat.blt i q.1.2.2.1 then some (pc + 3, ri_st1 lo i (.int (x + Int32.ofInt n)), st, h, k, z) else none
    | _ => none) = some f1 := s1
  rw [hv] at s1
  dsimp only at s1
  cases hb : Nat.blt i q.1.2.2.1 with
  | false => rw [hb] at s1; cases s1
  | true =>
    rw [hb] at s1
    have s1 := Option.some.inj s1
    subst s1 hn hy
    exact ⟨k, z, E1⟩
theorem eh_at {k i : Nat} {v : Value} (hV : eh_V h = eh_o al g) (hx : eh_o al g k i = some v) : eh_V h k i = some v := by
  rw [hV]
  exact hx
theorem eh_e.gf {x r t i u m : Nat} {w v : Value} (E : eh_e cal q pc lo (.ref r :: st) h rs h') (hp : Nat.beq pc 70000 = false) (hl : ri_look2 q.2 pc = some (.getfield x, m, [t, i, u], w)) (hV : eh_V h = eh_o al g) (hx : eh_o al g r i = some v) (hn : pc + 3 = p) : eh_e cal q p lo (v :: st) h rs h' := by
  obtain ⟨k, z, f1, s1, E1⟩ := E.inv hp hl rfl
  have s1 : (match h[r]? with
      | some c => bif Nat.beq c.1 t && Nat.blt t 13 then (match c.2[i]? with
        | some v => some (pc + 3, lo, v :: st, h, k, z)
        | none => none) else none
      | none => none) = some f1 := s1
  have hx : (match h[r]? with
    | some c => c.2[i]?
    | none => none) = some v := eh_at hV hx
  cases hq : h[r]? with
  | none => rw [hq] at s1; cases s1
  | some c =>
    rw [hq] at s1 hx
    dsimp only at s1 hx
    cases hb : (Nat.beq c.1 t && Nat.blt t 13) with
    | false => rw [hb] at s1; cases s1
    | true =>
      rw [hb, hx] at s1
      have s1 := Option.some.inj s1
      subst s1 hn
      exact ⟨k, z, E1⟩
theorem eh_e.pf0 {x r t i u y m : Nat} {w v : Value} (E : eh_e cal q pc lo (v :: .ref r :: st) h rs h') (hp : Nat.beq pc 70000 = false) (hl : ri_look2 q.2 pc = some (.putfield x, m, [t, i, u, y], w)) (hn : pc + 3 = p) : ∃ h1, eh_V h1 = eh_u (eh_V h) r i v ∧ eh_N h1 = eh_N h ∧ eh_e cal q p lo st h1 rs h' := by
  obtain ⟨k, z, f1, s1, E1⟩ := E.inv hp hl rfl
  have s1 : (match h[r]? with
      | some c => bif (Nat.beq c.1 t && Nat.blt t 13) && (Nat.blt i c.2.length && ri_fit y v) then some (pc + 3, lo, st, h.set r (c.1, c.2.set i v), k, z) else none
      | none => none) = some f1 := s1
  cases hq : h[r]? with
  | none => rw [hq] at s1; cases s1
  | some c =>
    rw [hq] at s1
    dsimp only at s1
    cases hb : ((Nat.beq c.1 t && Nat.blt t 13) && (Nat.blt i c.2.length && ri_fit y v)) with
    | false => rw [hb] at s1; cases s1
    | true =>
      rw [hb] at s1
      have s1 := Option.some.inj s1
      subst s1 hn
      simp only [Bool.and_eq_true] at hb
      obtain ⟨a1, a2⟩ := eh_set (v := v) hq (Nat.blt_eq.mp hb.2.1)
      exact ⟨_, a1, a2, k, z, E1⟩
theorem eh_e.pf {x r t i u y m : Nat} {w v : Value} (E : eh_e cal q pc lo (v :: .ref r :: st) h rs h') (hp : Nat.beq pc 70000 = false) (hl : ri_look2 q.2 pc = some (.putfield x, m, [t, i, u, y], w)) (hV : eh_V h = eh_o al g) (ha : eh_s al r i v = some al') (hn : pc + 3 = p) : ∃ h1, eh_V h1 = eh_o al' g ∧ eh_N h1 = eh_N h ∧ eh_e cal q p lo st h1 rs h' := by
  obtain ⟨h1, a1, a2, a3⟩ := E.pf0 hp hl hn
  exact ⟨h1, by rw [a1, hV]; exact (eh_s_ok ha).symm, a2, a3⟩
theorem eh_ald {gg : Nat → Bool} {y r : Nat} {x : Int32} {v : Value} (s : ri_ald gg y (.ref r) x h = some v) : eh_V h r x.toNatClampNeg = some v ∧ ¬ x < 0 := by
  have s : (match h[r]? with
    | some c => bif gg c.1 && !decide (x < 0) then c.2[x.toNatClampNeg]? else none
    | none => none) = some v := s
  unfold eh_V
  cases hq : h[r]? with
  | none => rw [hq] at s; cases s
  | some c =>
    rw [hq] at s
    dsimp only at s ⊢
    cases hb : (gg c.1 && !decide (x < 0)) with
    | false => rw [hb] at s; cases s
    | true =>
      rw [hb] at s
      simp only [Bool.and_eq_true, Bool.not_eq_true', decide_eq_false_iff_not] at hb
      exact ⟨s, hb.2⟩
/-- an array's read -/
theorem eh_e.ax {gg : Nat → Bool} {y r n : Nat} {x : Int32} (E : eh_e cal q pc lo (.int x :: .ref r :: st) h rs h') (hp : Nat.beq pc 70000 = false) (hl : ri_look2 q.2 pc = some e) (hr : ri_isR e.1 = false) (hs : ∀ k z, ri_step [] cal (ri_bud ri_md) q.1 e pc lo (.int x :: .ref r :: st) h k z = (match ri_ald gg y (.ref r) x h with
      | some v => some (pc + 1, lo, v :: st, h, k, z)
      | none => none)) (hx : x.toNatClampNeg = n) (hn : pc + 1 = p) : ∃ v, eh_V h r n = some v ∧ ¬ x < 0 ∧ eh_e cal q p lo (v :: st) h rs h' := by
  obtain ⟨k, z, f1, s1, E1⟩ := E.inv hp hl hr
  rw [hs] at s1
  cases ha : ri_ald gg y (.ref r) x h with
  | none => rw [ha] at s1; cases s1
  | some v =>
    rw [ha] at s1
    have s1 := Option.some.inj s1
    subst s1 hn hx
    obtain ⟨a1, a2⟩ := eh_ald ha
    exact ⟨v, a1, a2, k, z, E1⟩
theorem eh_e.av {gg : Nat → Bool} {y r n : Nat} {x : Int32} {v : Value} (E : eh_e cal q pc lo (.int x :: .ref r :: st) h rs h') (hp : Nat.beq pc 70000 = false) (hl : ri_look2 q.2 pc = some e) (hr : ri_isR e.1 = false) (hs : ∀ k z, ri_step [] cal (ri_bud ri_md) q.1 e pc lo (.int x :: .ref r :: st) h k z = (match ri_ald gg y (.ref r) x h with
      | some v => some (pc + 1, lo, v :: st, h, k, z)
      | none => none)) (hx : x.toNatClampNeg = n) (hV : eh_V h = eh_o al g) (hv : eh_o al g r n = some v) (hn : pc + 1 = p) : eh_e cal q p lo (v :: st) h rs h' := by
  obtain ⟨w, a1, -, a3⟩ := E.ax hp hl hr hs hx hn
  rw [eh_at hV hv] at a1
  cases a1
  exact a3
theorem eh_ast {gg : Nat → Bool} {r : Nat} {x : Int32} {v : Value} {h1 : ri_H} (s : ri_ast gg (.ref r) x v h = some h1) : eh_V h1 = eh_u (eh_V h) r x.toNatClampNeg v ∧ eh_N h1 = eh_N h := by
  have s : (match h[r]? with
    | some c => bif gg c.1 && (!decide (x < 0) && Nat.blt x.toNatClampNeg c.2.length) then some (h.set r (c.1, c.2.set x.toNatClampNeg v)) else none
    | none => none) = some h1 := s
  cases hq : h[r]? with
  | none => rw [hq] at s; cases s
  | some c =>
    rw [hq] at s
    dsimp only at s
    cases hb : (gg c.1 && (!decide (x < 0) && Nat.blt x.toNatClampNeg c.2.length)) with
    | false => rw [hb] at s; cases s
    | true =>
      rw [hb] at s
      have s := Option.some.inj s
      subst s
      simp only [Bool.and_eq_true] at hb
      exact eh_set hq (Nat.blt_eq.mp hb.2.2)
/-- an array's write (ints, longs) -/
theorem eh_e.as0 {gg : Nat → Bool} {b : Bool} {r n : Nat} {x : Int32} {v : Value} (E : eh_e cal q pc lo (v :: .int x :: .ref r :: st) h rs h') (hp : Nat.beq pc 70000 = false) (hl : ri_look2 q.2 pc = some e) (hr : ri_isR e.1 = false) (hs : ∀ k z, ri_step [] cal (ri_bud ri_md) q.1 e pc lo (v :: .int x :: .ref r :: st) h k z = bif b then (match ri_ast gg (.ref r) x v h with
      | some h' => some (pc + 1, lo, st, h', k, z)
      | none => none) else none) (hx : x.toNatClampNeg = n) (hn : pc + 1 = p) : ∃ h1, eh_V h1 = eh_u (eh_V h) r n v ∧ eh_N h1 = eh_N h ∧ eh_e cal q p lo st h1 rs h' := by
  obtain ⟨k, z, f1, s1, E1⟩ := E.inv hp hl hr
  rw [hs] at s1
  cases b with
  | false => cases s1
  | true =>
    dsimp only [cond_true] at s1
    cases ha : ri_ast gg (.ref r) x v h with
    | none => rw [ha] at s1; cases s1
    | some h1 =>
      rw [ha] at s1
      have s1 := Option.some.inj s1
      subst s1 hn hx
      obtain ⟨a1, a2⟩ := eh_ast ha
      exact ⟨h1, a1, a2, k, z, E1⟩
theorem eh_e.as {gg : Nat → Bool} {b : Bool} {r n : Nat} {x : Int32} {v : Value} (E : eh_e cal q pc lo (v :: .int x :: .ref r :: st) h rs h') (hp : Nat.beq pc 70000 = false) (hl : ri_look2 q.2 pc = some e) (hr : ri_isR e.1 = false) (hs : ∀ k z, ri_step [] cal (ri_bud ri_md) q.1 e pc lo (v :: .int x :: .ref r :: st) h k z = bif b then (match ri_ast gg (.ref r) x v h with
      | some h' => some (pc + 1, lo, st, h', k, z)
      | none => none) else none) (hx : x.toNatClampNeg = n) (hV : eh_V h = eh_o al g) (ha : eh_s al r n v = some al') (hn : pc + 1 = p) : ∃ h1, eh_V h1 = eh_o al' g ∧ eh_N h1 = eh_N h ∧ eh_e cal q p lo st h1 rs h' := by
  obtain ⟨h1, a1, a2, a3⟩ := E.as0 hp hl hr hs hx hn
  exact ⟨h1, by rw [a1, hV]; exact (eh_s_ok ha).symm, a2, a3⟩
theorem eh_e.ag {gg : Nat → Bool} {b : Bool} {r n : Nat} {x : Int32} {v : Value} (E : eh_e cal q pc lo (v :: .int x :: .ref r :: st) h rs h') (hp : Nat.beq pc 70000 = false) (hl : ri_look2 q.2 pc = some e) (hr : ri_isR e.1 = false) (hs : ∀ k z, ri_step [] cal (ri_bud ri_md) q.1 e pc lo (v :: .int x :: .ref r :: st) h k z = bif b then (match ri_ast gg (.ref r) x v h with
      | some h' => some (pc + 1, lo, st, h', k, z)
      | none => none) else none) (hx : x.toNatClampNeg = n) (hV : eh_V h = eh_o al g) (ha : eh_n al r n = true) (hn : pc + 1 = p) : ∃ h1, eh_V h1 = eh_o al (eh_u g r n v) ∧ eh_N h1 = eh_N h ∧ eh_e cal q p lo st h1 rs h' := by
  obtain ⟨h1, a1, a2, a3⟩ := E.as0 hp hl hr hs hx hn
  exact ⟨h1, by rw [a1, hV]; exact (eh_n_ok ha).symm, a2, a3⟩
/-- branches -/
theorem eh_e.br {c tgt : Nat} {a b : Int32} (E : eh_e cal q pc lo st h rs h') (hp : Nat.beq pc 70000 = false) (hl : ri_look2 q.2 pc = some e) (hr : ri_isR e.1 = false) (hs : ∀ k z, ri_step [] cal (ri_bud ri_md) q.1 e pc lo st h k z = ri_br [] c (.int a) (.int b) tgt (pc + 3) lo st' h k z) (hn : pc + 3 = p) : (ri_hd c a b = true ∧ eh_e cal q tgt lo st' h rs h') ∨ (ri_hd c a b = false ∧ eh_e cal q p lo st' h rs h') := by
  obtain ⟨k, z, f1, s1, E1⟩ := E.inv hp hl hr
  rw [hs] at s1
  unfold ri_br at s1
  rw [show ri_cmp [] c (.int a) (.int b) = some (ri_hd c a b) from rfl] at s1
  subst hn
  cases hb : ri_hd c a b with
  | true =>
    rw [hb] at s1
    have s1 := Option.some.inj s1
    subst s1
    exact Or.inl ⟨rfl, k, z, E1⟩
  | false =>
    rw [hb] at s1
    have s1 := Option.some.inj s1
    subst s1
    exact Or.inr ⟨rfl, k, z, E1⟩
theorem eh_e.brt {c tgt : Nat} {a b : Int32} (E : eh_e cal q pc lo st h rs h') (hp : Nat.beq pc 70000 = false) (hl : ri_look2 q.2 pc = some e) (hr : ri_isR e.1 = false) (hs : ∀ k z, ri_step [] cal (ri_bud ri_md) q.1 e pc lo st h k z = ri_br [] c (.int a) (.int b) tgt (pc + 3) lo st' h k z) (hx : ri_hd c a b = true) : eh_e cal q tgt lo st' h rs h' := by
  rcases E.br hp hl hr hs rfl with ⟨-, E⟩ | ⟨e, -⟩
  · exact E
  · rw [hx] at e
    cases e
theorem eh_e.brf {c tgt : Nat} {a b : Int32} (E : eh_e cal q pc lo st h rs h') (hp : Nat.beq pc 70000 = false) (hl : ri_look2 q.2 pc = some e) (hr : ri_isR e.1 = false) (hs : ∀ k z, ri_step [] cal (ri_bud ri_md) q.1 e pc lo st h k z = ri_br [] c (.int a) (.int b) tgt (pc + 3) lo st' h k z) (hx : ri_hd c a b = false) (hn : pc + 3 = p) : eh_e cal q p lo st' h rs h' := by
  rcases E.br hp hl hr hs hn with ⟨e, -⟩ | ⟨-, E⟩
  · rw [hx] at e
    cases e
  · exact E
theorem eh_hd {c : Nat} {a b : Int32} {P : Prop} (hP : ri_hd c a b = true ↔ P) {X Y : Prop} (H : (ri_hd c a b = true ∧ X) ∨ (ri_hd c a b = false ∧ Y)) : (P ∧ X) ∨ (¬ P ∧ Y) := by
  rcases H with ⟨e, x⟩ | ⟨e, y⟩
  · exact Or.inl ⟨hP.mp e, x⟩
  · exact Or.inr ⟨(fun p => by rw [hP.mpr p] at e; cases e), y⟩
theorem eh_h0 {a b : Int32} : ri_hd 0 a b = true ↔ a = b := decide_eq_true_iff
theorem eh_h1 {a b : Int32} : ri_hd 1 a b = true ↔ a ≠ b := by
  show (!decide (a = b)) = true ↔ _
  rw [Bool.not_eq_true', decide_eq_false_iff_not]
theorem eh_h2 {a b : Int32} : ri_hd 2 a b = true ↔ a.toInt < b.toInt := by
  show decide (a < b) = true ↔ _
  rw [decide_eq_true_iff, Int32.lt_iff_toInt_lt]
theorem eh_h3 {a b : Int32} : ri_hd 3 a b = true ↔ b.toInt ≤ a.toInt := by
  show decide (b ≤ a) = true ↔ _
  rw [decide_eq_true_iff, Int32.le_iff_toInt_le]
theorem eh_h4 {a b : Int32} : ri_hd 4 a b = true ↔ b.toInt < a.toInt := by
  show decide (b < a) = true ↔ _
  rw [decide_eq_true_iff, Int32.lt_iff_toInt_lt]
theorem eh_h5 {a b : Int32} : ri_hd 5 a b = true ↔ a.toInt ≤ b.toInt := by
  show decide (a ≤ b) = true ↔ _
  rw [decide_eq_true_iff, Int32.le_iff_toInt_le]
/-- a call of an object's method -/
theorem eh_e.cv {x j n t b m : Nat} {u : List Nat} {w : Value} {as r : List Value} (E : eh_e cal q pc lo st h rs h') (hp : Nat.beq pc 70000 = false) (hl : ri_look2 q.2 pc = some (.invokevirtual x, m, 1 :: j :: n :: t :: u, w)) (ht : ri_take n [] st = some (as, .ref b :: r)) (hn : pc + 3 = p) : ∃ v h1, cal j (.ref b :: as) h = some (v, h1) ∧ eh_e cal q p lo (v.toList ++ r) h1 rs h' := by
  obtain ⟨k, z, f1, s1, E1⟩ := E.inv hp hl rfl
  have s1 : (match ri_take n [] st with
    | some (as, r0) => match (bif Nat.beq 1 3 then some (as, r0) else match r0 with
        | .ref b :: r => bif Nat.beq 1 1 || (Nat.beq 1 2 || Nat.beq 1 7) then (match h[b]? with
          | some q => bif Nat.beq q.1 t then some (.ref b :: as, r) else none
          | none => none) else none
        | .retAddr 5 :: r => bif Nat.beq 1 6 then some (.retAddr 5 :: as, r) else none
        | _ => none) with
      | some (as', r) => bif Nat.ble (ri_wt r) 8 then (match ri_bud ri_md j, cal j as' h with
        | some (mc, ms), some (v, h') => bif Nat.ble (k + mc) q.1.2.2.2.2.2.1 && Nat.ble (z + ms) q.1.2.2.2.2.2.2 then some (pc + 3, lo, v.toList ++ r, h', k + mc, z + ms) else none
        | _, _ => none) else none
      | none => none
    | none => none) = some f1 := s1
  rw [ht] at s1
  have s1 : (match (match h[b]? with
          | some q => bif Nat.beq q.1 t then some (.ref b :: as, r) else none
          | none => none) with
      | some (as', r) => bif Nat.ble (ri_wt r) 8 then (match ri_bud ri_md j, cal j as' h with
        | some (mc, ms), some (v, h') => bif Nat.ble (k + mc) q.1.2.2.2.2.2.1 && Nat.ble (z + ms) q.1.2.2.2.2.2.2 then some (pc + 3, lo, v.toList ++ r, h', k + mc, z + ms) else none
        | _, _ => none) else none
      | none => none) = some f1 := s1
  cases hq : h[b]? with
  | none => rw [hq] at s1; cases s1
  | some c =>
    rw [hq] at s1
    dsimp only at s1
    cases hb : Nat.beq c.1 t with
    | false => rw [hb] at s1; cases s1
    | true =>
      rw [hb] at s1
      dsimp only [cond_true] at s1
      cases hw : Nat.ble (ri_wt r) 8 with
      | false => rw [hw] at s1; cases s1
      | true =>
        rw [hw] at s1
        dsimp only [cond_true] at s1
        split at s1
        · next mc ms v h1 e1 e2 =>
          cases hz : (Nat.ble (k + mc) q.1.2.2.2.2.2.1 && Nat.ble (z + ms) q.1.2.2.2.2.2.2) with
          | false => rw [hz] at s1; cases s1
          | true =>
            rw [hz] at s1
            have s1 := Option.some.inj s1
            subst s1 hn
            exact ⟨v, h1, e2, _, _, E1⟩
        · cases s1
/-- a static call -/
theorem eh_e.cs {x j n t m : Nat} {u : List Nat} {w : Value} {as r : List Value} (E : eh_e cal q pc lo st h rs h') (hp : Nat.beq pc 70000 = false) (hl : ri_look2 q.2 pc = some (.invokestatic x, m, 3 :: j :: n :: t :: u, w)) (ht : ri_take n [] st = some (as, r)) (hn : pc + 3 = p) : ∃ v h1, cal j as h = some (v, h1) ∧ eh_e cal q p lo (v.toList ++ r) h1 rs h' := by
  obtain ⟨k, z, f1, s1, E1⟩ := E.inv hp hl rfl
  have s1 : (match ri_take n [] st with
    | some (as, r0) => match (bif Nat.beq 3 3 then some (as, r0) else match r0 with
        | .ref b :: r => bif Nat.beq 3 1 || (Nat.beq 3 2 || Nat.beq 3 7) then (match h[b]? with
          | some q => bif Nat.beq q.1 t then some (.ref b :: as, r) else none
          | none => none) else none
        | .retAddr 5 :: r => bif Nat.beq 3 6 then some (.retAddr 5 :: as, r) else none
        | _ => none) with
      | some (as', r) => bif Nat.ble (ri_wt r) 8 then (match ri_bud ri_md j, cal j as' h with
        | some (mc, ms), some (v, h') => bif Nat.ble (k + mc) q.1.2.2.2.2.2.1 && Nat.ble (z + ms) q.1.2.2.2.2.2.2 then some (pc + 3, lo, v.toList ++ r, h', k + mc, z + ms) else none
        | _, _ => none) else none
      | none => none
    | none => none) = some f1 := s1
  rw [ht] at s1
  have s1 : (bif Nat.ble (ri_wt r) 8 then (match ri_bud ri_md j, cal j as h with
        | some (mc, ms), some (v, h') => bif Nat.ble (k + mc) q.1.2.2.2.2.2.1 && Nat.ble (z + ms) q.1.2.2.2.2.2.2 then some (pc + 3, lo, v.toList ++ r, h', k + mc, z + ms) else none
        | _, _ => none) else none) = some f1 := s1
  cases hw : Nat.ble (ri_wt r) 8 with
  | false => rw [hw] at s1; cases s1
  | true =>
    rw [hw] at s1
    dsimp only [cond_true] at s1
    split at s1
    · next mc ms v h1 e1 e2 =>
      cases hz : (Nat.ble (k + mc) q.1.2.2.2.2.2.1 && Nat.ble (z + ms) q.1.2.2.2.2.2.2) with
      | false => rw [hz] at s1; cases s1
      | true =>
        rw [hz] at s1
        have s1 := Option.some.inj s1
        subst s1 hn
        exact ⟨v, h1, e2, _, _, E1⟩
    · cases s1
/-- Math.min -/
theorem eh_e.mn {x u m : Nat} {w : Value} {a b : Int32} (E : eh_e cal q pc lo (.int b :: .int a :: st) h rs h') (hp : Nat.beq pc 70000 = false) (hl : ri_look2 q.2 pc = some (.invokestatic x, m, [8, u], w)) (hn : pc + 3 = p) : (b.toInt < a.toInt ∧ eh_e cal q p lo (.int b :: st) h rs h') ∨ (¬ b.toInt < a.toInt ∧ eh_e cal q p lo (.int a :: st) h rs h') := by
  obtain ⟨k, z, f1, s1, E1⟩ := E.inv hp hl rfl
  have s1 : (bif Nat.ble (ri_wt st) 8 && (Nat.ble k q.1.2.2.2.2.2.1 && Nat.ble z q.1.2.2.2.2.2.2) then some (pc + 3, lo, (bif ri_hd 2 b a then Value.int b else .int a) :: st, h, k, z) else none) = some f1 := s1
  cases hb : (Nat.ble (ri_wt st) 8 && (Nat.ble k q.1.2.2.2.2.2.1 && Nat.ble z q.1.2.2.2.2.2.2)) with
  | false => rw [hb] at s1; cases s1
  | true =>
    rw [hb] at s1
    dsimp only [cond_true] at s1
    subst hn
    cases hx : ri_hd 2 b a with
    | true =>
      rw [hx] at s1
      have s1 := Option.some.inj s1
      subst s1
      exact Or.inl ⟨eh_h2.mp hx, k, z, E1⟩
    | false =>
      rw [hx] at s1
      have s1 := Option.some.inj s1
      subst s1
      exact Or.inr ⟨(fun y => by rw [eh_h2.mpr y] at hx; cases hx), k, z, E1⟩
/-- an array's length -/
theorem eh_e.an {r n m : Nat} {ax : List Nat} {w : Value} (E : eh_e cal q pc lo (.ref r :: st) h rs h') (hp : Nat.beq pc 70000 = false) (hl : ri_look2 q.2 pc = some (.arraylength, m, ax, w)) (hN : (eh_N h)[r]? = some n) (hn : pc + 1 = p) : eh_e cal q p lo (.int (Int32.ofNat n) :: st) h rs h' := by
  obtain ⟨k, z, f1, s1, E1⟩ := E.inv hp hl rfl
  have s1 : (match ri_alen (.ref r) h with
      | some n => some (pc + 1, lo, .int n :: st, h, k, z)
      | none => none) = some f1 := s1
  unfold eh_N at hN
  rw [List.getElem?_map] at hN
  cases hq : h[r]? with
  | none => rw [hq] at hN; cases hN
  | some c =>
    rw [hq] at hN
    have hN : c.2.length = n := Option.some.inj hN
    have ha : ri_alen (.ref r) h = bif Nat.ble 13 c.1 && Nat.ble c.1 18 then some (Int32.ofNat c.2.length) else none := by
      show (match h[r]? with
        | some q => bif Nat.ble 13 q.1 && Nat.ble q.1 18 then some (Int32.ofNat q.2.length) else none
        | none => none) = _
      rw [hq]
    rw [ha] at s1
    cases hb : (Nat.ble 13 c.1 && Nat.ble c.1 18) with
    | false => rw [hb] at s1; cases s1
    | true =>
      rw [hb] at s1
      have s1 := Option.some.inj s1
      subst s1 hn hN
      exact ⟨k, z, E1⟩
end EH
theorem eh_self {lo : List (Nat × Value)} {i : Nat} {v : Value} : ri_lk (ri_st1 lo i v) i = some v := by
  unfold ri_st1 ri_lk
  rw [show Nat.beq (i, v).1 i = true from eh_bt i]
  rfl
theorem eh_keep {lo : List (Nat × Value)} {i j : Nat} {v w : Value} (hne : j ≠ i) (hc : (w.category = 1) ∨ j + 1 ≠ i) (h : ri_lk lo j = some w) : ri_lk (ri_st1 lo i v) j = some w := by
  unfold ri_st1
  show (bif Nat.beq i j then some v else ri_lk (lo.filter (fun q => !(q.1 == i) && !(q.1 + 1 == i && q.2.category == 2))) j) = some w
  rw [eh_bf (fun e => hne e.symm)]
  exact sx_lk_filter lo _ j w h (by
    simp only [Bool.and_eq_true, Bool.not_eq_true']
    refine ⟨beq_false_of_ne hne, ?_⟩
    rcases hc with hc | hc
    · rw [hc]
      exact Bool.and_false _
    · rw [beq_false_of_ne hc]
      rfl)
theorem eh_q0 {a b : Int32} {X Y : Prop} (H : (ri_hd 0 a b = true ∧ X) ∨ (ri_hd 0 a b = false ∧ Y)) : (a = b ∧ X) ∨ (¬ (a = b) ∧ Y) := eh_hd eh_h0 H
theorem eh_q1 {a b : Int32} {X Y : Prop} (H : (ri_hd 1 a b = true ∧ X) ∨ (ri_hd 1 a b = false ∧ Y)) : (¬ (a = b) ∧ X) ∨ (a = b ∧ Y) := by
  rcases eh_hd eh_h1 H with ⟨e, x⟩ | ⟨e, y⟩
  · exact Or.inl ⟨e, x⟩
  · exact Or.inr ⟨Decidable.not_not.mp e, y⟩
theorem eh_q2 {a b : Int32} {X Y : Prop} (H : (ri_hd 2 a b = true ∧ X) ∨ (ri_hd 2 a b = false ∧ Y)) : (a.toInt < b.toInt ∧ X) ∨ (¬ (a.toInt < b.toInt) ∧ Y) := eh_hd eh_h2 H
theorem eh_q3 {a b : Int32} {X Y : Prop} (H : (ri_hd 3 a b = true ∧ X) ∨ (ri_hd 3 a b = false ∧ Y)) : (¬ (a.toInt < b.toInt) ∧ X) ∨ (a.toInt < b.toInt ∧ Y) := by
  rcases eh_hd eh_h3 H with ⟨e, x⟩ | ⟨e, y⟩
  · exact Or.inl ⟨by omega, x⟩
  · exact Or.inr ⟨by omega, y⟩
theorem eh_q4 {a b : Int32} {X Y : Prop} (H : (ri_hd 4 a b = true ∧ X) ∨ (ri_hd 4 a b = false ∧ Y)) : (b.toInt < a.toInt ∧ X) ∨ (¬ (b.toInt < a.toInt) ∧ Y) := eh_hd eh_h4 H
theorem eh_q5 {a b : Int32} {X Y : Prop} (H : (ri_hd 5 a b = true ∧ X) ∨ (ri_hd 5 a b = false ∧ Y)) : (¬ (b.toInt < a.toInt) ∧ X) ∨ (b.toInt < a.toInt ∧ Y) := by
  rcases eh_hd eh_h5 H with ⟨e, x⟩ | ⟨e, y⟩
  · exact Or.inl ⟨by omega, x⟩
  · exact Or.inr ⟨by omega, y⟩
theorem eh_ql0 {x y : Int64} {X Y : Prop} (H : (ri_hd 0 (lg_cmp x y) 0 = true ∧ X) ∨ (ri_hd 0 (lg_cmp x y) 0 = false ∧ Y)) : (x = y ∧ X) ∨ (¬ (x = y) ∧ Y) := eh_hd (eh_h0.trans (lg_cmp_eq x y)) H
theorem eh_ql1 {x y : Int64} {X Y : Prop} (H : (ri_hd 1 (lg_cmp x y) 0 = true ∧ X) ∨ (ri_hd 1 (lg_cmp x y) 0 = false ∧ Y)) : (¬ (x = y) ∧ X) ∨ (x = y ∧ Y) := by
  rcases eh_q1 H with ⟨e, x⟩ | ⟨e, y⟩
  · exact Or.inl ⟨fun h => e ((lg_cmp_eq _ _).mpr h), x⟩
  · exact Or.inr ⟨(lg_cmp_eq _ _).mp e, y⟩
theorem eh_r2 {a b : Int32} {x y : Int} {X Y : Prop} (ha : a.toInt = x) (hb : b.toInt = y) (H : (ri_hd 2 a b = true ∧ X) ∨ (ri_hd 2 a b = false ∧ Y)) : (x < y ∧ X) ∨ (¬ (x < y) ∧ Y) := by
  subst ha hb
  exact eh_q2 H
theorem eh_r3 {a b : Int32} {x y : Int} {X Y : Prop} (ha : a.toInt = x) (hb : b.toInt = y) (H : (ri_hd 3 a b = true ∧ X) ∨ (ri_hd 3 a b = false ∧ Y)) : (¬ (x < y) ∧ X) ∨ (x < y ∧ Y) := by
  subst ha hb
  exact eh_q3 H
theorem eh_r4 {a b : Int32} {x y : Int} {X Y : Prop} (ha : a.toInt = x) (hb : b.toInt = y) (H : (ri_hd 4 a b = true ∧ X) ∨ (ri_hd 4 a b = false ∧ Y)) : (y < x ∧ X) ∨ (¬ (y < x) ∧ Y) := by
  subst ha hb
  exact eh_q4 H
theorem eh_r5 {a b : Int32} {x y : Int} {X Y : Prop} (ha : a.toInt = x) (hb : b.toInt = y) (H : (ri_hd 5 a b = true ∧ X) ∨ (ri_hd 5 a b = false ∧ Y)) : (¬ (y < x) ∧ X) ∨ (y < x ∧ Y) := by
  subst ha hb
  exact eh_q5 H
theorem eh_rm {a b : Int32} {x y : Int} {X Y : Prop} (ha : a.toInt = x) (hb : b.toInt = y) (H : (b.toInt < a.toInt ∧ X) ∨ (¬ b.toInt < a.toInt ∧ Y)) : (y < x ∧ X) ∨ (¬ (y < x) ∧ Y) := by
  subst ha hb
  exact H
