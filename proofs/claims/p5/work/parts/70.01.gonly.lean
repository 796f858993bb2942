/-! slots read and written through one function (eh_i, eh_l), typed by a table -/
def eh_i (G : eh_W) (k i : Nat) : Int32 := match G k i with
  | some (.int x) => x
  | _ => 0
def eh_l (G : eh_W) (k i : Nat) : Int64 := match G k i with
  | some (.long x) => x
  | _ => 0
abbrev eh_T : Type := List (Nat × List Nat)
def eh_tg (T : eh_T) (k i : Nat) : Option Nat := match T[k]? with
  | some (0, l) => l[i]?
  | some (_, t :: _) => some t
  | _ => none
def eh_tv (t : Nat) (v : Value) : Prop := match t with
  | 0 => ∃ x : Int32, v = .int x
  | 1 => ∃ x : Int64, v = .long x
  | n + 2 => v = .ref n
def eh_ty (T : eh_T) (G : eh_W) : Prop := ∀ (k i t : Nat) (v : Value), eh_tg T k i = some t → G k i = some v → eh_tv t v
theorem eh_uu {G : eh_W} {k i a b : Nat} {v w : Value} (h : eh_u G k i v a b = some w) : (k = a ∧ i = b ∧ w = v) ∨ G a b = some w := by
  unfold eh_u at h
  cases e : (Nat.beq k a && Nat.beq i b) with
  | true =>
    rw [e] at h
    simp only [Bool.and_eq_true] at e
    exact Or.inl ⟨Nat.eq_of_beq_eq_true e.1, Nat.eq_of_beq_eq_true e.2, (Option.some.inj h).symm⟩
  | false =>
    rw [e] at h
    exact Or.inr h
theorem eh_ty.u {T : eh_T} {G : eh_W} {k i t : Nat} {v : Value} (H : eh_ty T G) (h : eh_tg T k i = some t) (hv : eh_tv t v) : eh_ty T (eh_u G k i v) := by
  intro a b t' w h1 h2
  rcases eh_uu h2 with ⟨rfl, rfl, rfl⟩ | h2
  · rw [h] at h1
    cases h1
    exact hv
  · exact H a b t' w h1 h2
theorem eh_ty.ui {T : eh_T} {G : eh_W} {k i : Nat} {x : Int32} (H : eh_ty T G) (h : eh_tg T k i = some 0) : eh_ty T (eh_u G k i (.int x)) := H.u h ⟨x, rfl⟩
theorem eh_ty.ul {T : eh_T} {G : eh_W} {k i : Nat} {x : Int64} (H : eh_ty T G) (h : eh_tg T k i = some 1) : eh_ty T (eh_u G k i (.long x)) := H.u h ⟨x, rfl⟩
theorem eh_i_self (G : eh_W) (k i : Nat) (x : Int32) : eh_i (eh_u G k i (.int x)) k i = x := by
  unfold eh_i
  rw [eh_u_self]
theorem eh_l_self (G : eh_W) (k i : Nat) (x : Int64) : eh_l (eh_u G k i (.long x)) k i = x := by
  unfold eh_l
  rw [eh_u_self]
theorem eh_i_ne (G : eh_W) {k i a b : Nat} (v : Value) (h : k ≠ a ∨ i ≠ b) : eh_i (eh_u G k i v) a b = eh_i G a b := by
  unfold eh_i
  rw [eh_u_ne G v h]
theorem eh_l_ne (G : eh_W) {k i a b : Nat} (v : Value) (h : k ≠ a ∨ i ≠ b) : eh_l (eh_u G k i v) a b = eh_l G a b := by
  unfold eh_l
  rw [eh_u_ne G v h]
theorem eh_i_at {T : eh_T} {G : eh_W} {k i : Nat} {v : Value} (H : eh_ty T G) (h : eh_tg T k i = some 0) (e : G k i = some v) : v = .int (eh_i G k i) := by
  obtain ⟨x, rfl⟩ := H k i 0 v h e
  unfold eh_i
  rw [e]
theorem eh_l_at {T : eh_T} {G : eh_W} {k i : Nat} {v : Value} (H : eh_ty T G) (h : eh_tg T k i = some 1) (e : G k i = some v) : v = .long (eh_l G k i) := by
  obtain ⟨x, rfl⟩ := H k i 1 v h e
  unfold eh_l
  rw [e]
section EG
variable {cal : eh_K} {q : ri_M × ri_T} {pc p : Nat} {lo : List (Nat × Value)} {st rs : List Value} {h h' : ri_H} {e : ri_En} {G : eh_W} {T : eh_T}
theorem eh_e.g0 {x r t i u m : Nat} {w : Value} (E : eh_e cal q pc lo (.ref r :: st) h rs h') (hp : Nat.beq pc 70000 = false) (hl : ri_look2 q.2 pc = some (.getfield x, m, [t, i, u], w)) (hn : pc + 3 = p) : ∃ v, eh_V h r i = some v ∧ eh_e cal q p lo (v :: st) h rs h' := by
  obtain ⟨k, z, f1, s1, E1⟩ := E.inv hp hl rfl
  have s1 : (match h[r]? with
      | some c => bif Nat.beq c.1 t && Nat.blt t 13 then (match c.2[i]? with
        | some v => some (pc + 3, lo, v :: st, h, k, z)
        | none => none) else none
      | none => none) = some f1 := s1
  cases hq : h[r]? with
  | none => rw [hq] at s1; cases s1
  | some c =>
    rw [hq] at s1
    dsimp only at s1
    cases hb : (Nat.beq c.1 t && Nat.blt t 13) with
    | false => rw [hb] at s1; cases s1
    | true =>
      rw [hb] at s1
      dsimp only [cond_true] at s1
      cases hv : c.2[i]? with
      | none => rw [hv] at s1; cases s1
      | some v =>
        rw [hv] at s1
        have s1 := Option.some.inj s1
        subst s1 hn
        refine ⟨v, ?_, k, z, E1⟩
        unfold eh_V
        rw [hq]
        exact hv
theorem eh_e.gi {x r t i u m : Nat} {w : Value} {y : Int32} (E : eh_e cal q pc lo (.ref r :: st) h rs h') (hp : Nat.beq pc 70000 = false) (hl : ri_look2 q.2 pc = some (.getfield x, m, [t, i, u], w)) (hn : pc + 3 = p) (hV : eh_V h = G) (ty : eh_ty T G) (ht : eh_tg T r i = some 0) (hy : eh_i G r i = y) : eh_e cal q p lo (.int y :: st) h rs h' := by
  obtain ⟨v, h1, E⟩ := E.g0 hp hl hn
  rw [hV] at h1
  have := eh_i_at ty ht h1
  subst this hy
  exact E
theorem eh_e.gl {x r t i u m : Nat} {w : Value} {y : Int64} (E : eh_e cal q pc lo (.ref r :: st) h rs h') (hp : Nat.beq pc 70000 = false) (hl : ri_look2 q.2 pc = some (.getfield x, m, [t, i, u], w)) (hn : pc + 3 = p) (hV : eh_V h = G) (ty : eh_ty T G) (ht : eh_tg T r i = some 1) (hy : eh_l G r i = y) : eh_e cal q p lo (.long y :: st) h rs h' := by
  obtain ⟨v, h1, E⟩ := E.g0 hp hl hn
  rw [hV] at h1
  have := eh_l_at ty ht h1
  subst this hy
  exact E
theorem eh_e.gr {x r t i u m n : Nat} {w : Value} (E : eh_e cal q pc lo (.ref r :: st) h rs h') (hp : Nat.beq pc 70000 = false) (hl : ri_look2 q.2 pc = some (.getfield x, m, [t, i, u], w)) (hn : pc + 3 = p) (hV : eh_V h = G) (ty : eh_ty T G) (ht : eh_tg T r i = some (n + 2)) : eh_e cal q p lo (.ref n :: st) h rs h' := by
  obtain ⟨v, h1, E⟩ := E.g0 hp hl hn
  rw [hV] at h1
  have : v = .ref n := ty r i (n + 2) v ht h1
  subst this
  exact E
theorem eh_e.gp {x r t i u y m : Nat} {w v : Value} (E : eh_e cal q pc lo (v :: .ref r :: st) h rs h') (hp : Nat.beq pc 70000 = false) (hl : ri_look2 q.2 pc = some (.putfield x, m, [t, i, u, y], w)) (hn : pc + 3 = p) (hV : eh_V h = G) : ∃ h1, eh_V h1 = eh_u G r i v ∧ eh_N h1 = eh_N h ∧ eh_e cal q p lo st h1 rs h' := by
  subst hV
  exact E.pf0 hp hl hn
theorem eh_e.ai {gg : Nat → Bool} {y r n : Nat} {x z : Int32} (E : eh_e cal q pc lo (.int x :: .ref r :: st) h rs h') (hp : Nat.beq pc 70000 = false) (hl : ri_look2 q.2 pc = some e) (hr : ri_isR e.1 = false) (hs : ∀ k z, ri_step [] cal (ri_bud ri_md) q.1 e pc lo (.int x :: .ref r :: st) h k z = (match ri_ald gg y (.ref r) x h with
      | some v => some (pc + 1, lo, v :: st, h, k, z)
      | none => none)) (hn : pc + 1 = p) (hV : eh_V h = G) (ty : eh_ty T G) (hx : x.toNatClampNeg = n) (ht : eh_tg T r n = some 0) (hz : eh_i G r n = z) : eh_e cal q p lo (.int z :: st) h rs h' := by
  obtain ⟨v, h1, -, E⟩ := E.ax hp hl hr hs hx hn
  rw [hV] at h1
  have := eh_i_at ty ht h1
  subst this hz
  exact E
theorem eh_e.al {gg : Nat → Bool} {y r n : Nat} {x : Int32} {z : Int64} (E : eh_e cal q pc lo (.int x :: .ref r :: st) h rs h') (hp : Nat.beq pc 70000 = false) (hl : ri_look2 q.2 pc = some e) (hr : ri_isR e.1 = false) (hs : ∀ k z, ri_step [] cal (ri_bud ri_md) q.1 e pc lo (.int x :: .ref r :: st) h k z = (match ri_ald gg y (.ref r) x h with
      | some v => some (pc + 1, lo, v :: st, h, k, z)
      | none => none)) (hn : pc + 1 = p) (hV : eh_V h = G) (ty : eh_ty T G) (hx : x.toNatClampNeg = n) (ht : eh_tg T r n = some 1) (hz : eh_l G r n = z) : eh_e cal q p lo (.long z :: st) h rs h' := by
  obtain ⟨v, h1, -, E⟩ := E.ax hp hl hr hs hx hn
  rw [hV] at h1
  have := eh_l_at ty ht h1
  subst this hz
  exact E
/-- an array's write -/
theorem eh_e.aw {gg : Nat → Bool} {b : Bool} {r n : Nat} {x : Int32} {v : Value} (E : eh_e cal q pc lo (v :: .int x :: .ref r :: st) h rs h') (hp : Nat.beq pc 70000 = false) (hl : ri_look2 q.2 pc = some e) (hr : ri_isR e.1 = false) (hs : ∀ k z, ri_step [] cal (ri_bud ri_md) q.1 e pc lo (v :: .int x :: .ref r :: st) h k z = bif b then (match ri_ast gg (.ref r) x v h with
      | some h' => some (pc + 1, lo, st, h', k, z)
      | none => none) else none) (hn : pc + 1 = p) (hV : eh_V h = G) (hx : x.toNatClampNeg = n) : ∃ h1, eh_V h1 = eh_u G r n v ∧ eh_N h1 = eh_N h ∧ eh_e cal q p lo st h1 rs h' := by
  subst hV
  exact E.as0 hp hl hr hs hx hn
/-- one of the class's tables -/
def eh_x (n i : Nat) : Int32 := (ri_xl n).getD i 0
theorem eh_e.ats {n : Nat} {x : Int32} {m : Nat} {ax : List Nat} {w : Value} {a : Int32} (E : eh_e cal q pc lo (.int x :: .retAddr n :: st) h rs h') (hp : Nat.beq pc 70000 = false) (hl : ri_look2 q.2 pc = some (.iaload, m, ax, w)) (hn : pc + 1 = p) (ha : eh_x n x.toNatClampNeg = a) : ¬ x < 0 ∧ eh_e cal q p lo (.int a :: st) h rs h' := by
  obtain ⟨k, z, f1, s1, E1⟩ := E.inv hp hl rfl
  have s1 : (match (bif Nat.beq 1 1 && (Nat.ble 1 n && Nat.ble n 4) || (Nat.beq 1 2 && Nat.beq n 6) then (bif !decide (x < 0) then ((ri_xl n)[x.toNatClampNeg]?).map Value.int else none) else none) with
      | some v => some (pc + 1, lo, v :: st, h, k, z)
      | none => none) = some f1 := s1
  cases hb : (Nat.beq 1 1 && (Nat.ble 1 n && Nat.ble n 4) || (Nat.beq 1 2 && Nat.beq n 6)) with
  | false => rw [hb] at s1; cases s1
  | true =>
    rw [hb] at s1
    dsimp only [cond_true] at s1
    by_cases hx : x < 0
    · rw [decide_eq_true hx] at s1
      cases s1
    · rw [decide_eq_false hx] at s1
      try dsimp only [Bool.not_false, cond_true] at s1
      cases hv : (ri_xl n)[x.toNatClampNeg]? with
      | none => rw [hv] at s1; cases s1
      | some y =>
        rw [hv] at s1
        have s1 := Option.some.inj s1
        subst s1 hn ha
        refine ⟨hx, k, z, ?_⟩
        have : eh_x n x.toNatClampNeg = y := by
          unfold eh_x
          rw [List.getD_eq_getElem?_getD, hv]
          rfl
        rw [this]
        exact E1
/-- a switch -/
theorem eh_e.sw {x : Int32} {of lw hw : Int} {os : Array Int} {dt : Nat} {ts : List Nat} {m : Nat} {w : Value} (E : eh_e cal q pc lo (.int x :: st) h rs h') (hp : Nat.beq pc 70000 = false) (hl : ri_look2 q.2 pc = some (.tableswitch of lw hw os, m, dt :: ts, w)) : ((x.toInt < lw ∨ hw < x.toInt) ∧ eh_e cal q dt lo st h rs h') ∨ (∃ (n tgt : Nat), lw ≤ x.toInt ∧ x.toInt = lw + n ∧ ts[n]? = some tgt ∧ eh_e cal q tgt lo st h rs h') := by
  obtain ⟨k, z, f1, s1, E1⟩ := E.inv hp hl rfl
  have s1 : (bif decide (x.toInt < lw) || decide (hw < x.toInt) then some (dt, lo, st, h, k, z) else (match ts[(x.toInt - lw).toNat]? with
      | some tgt => some (tgt, lo, st, h, k, z)
      | none => none)) = some f1 := s1
  cases hb : (decide (x.toInt < lw) || decide (hw < x.toInt)) with
  | true =>
    rw [hb] at s1
    have s1 := Option.some.inj s1
    subst s1
    simp only [Bool.or_eq_true, decide_eq_true_eq] at hb
    exact Or.inl ⟨hb, k, z, E1⟩
  | false =>
    rw [hb] at s1
    dsimp only [cond_false] at s1
    simp only [Bool.or_eq_false_iff, decide_eq_false_iff_not] at hb
    cases ht : ts[(x.toInt - lw).toNat]? with
    | none => rw [ht] at s1; cases s1
    | some tgt =>
      rw [ht] at s1
      have s1 := Option.some.inj s1
      subst s1
      exact Or.inr ⟨(x.toInt - lw).toNat, tgt, by omega, by omega, ht, k, z, E1⟩
/-- System.arraycopy from the first slot to the first -/
theorem eh_cpy {f g : List Value} {n i : Nat} (hn : n ≤ f.length) (hg : n ≤ g.length) : (ri_cpy f g 0 0 n)[i]? = bif Nat.blt i n then f[i]? else g[i]? := by
  unfold ri_cpy
  rw [List.take_zero, List.nil_append, List.drop_zero, Nat.zero_add]
  by_cases h : i < n
  · rw [Nat.blt_eq.mpr h, List.getElem?_append_left (by rw [List.length_take]; omega), List.getElem?_take_of_lt h]
    rfl
  · rw [show Nat.blt i n = false by
      cases e : Nat.blt i n with
      | false => rfl
      | true => exact absurd (Nat.blt_eq.mp e) h, List.getElem?_append_right (by rw [List.length_take]; omega), List.length_take, List.getElem?_drop]
    rw [show n + (i - min n f.length) = i by omega]
    rfl
theorem eh_cpl {f g : List Value} {n : Nat} (hn : n ≤ f.length) (hg : n ≤ g.length) : (ri_cpy f g 0 0 n).length = g.length := by
  unfold ri_cpy
  rw [List.take_zero, List.nil_append, List.drop_zero, List.length_append, List.length_take, List.length_drop]
  omega
theorem eh_seth {h : ri_H} {r : Nat} {c : ri_C} {x : List Value} (hc : h[r]? = some c) (hx : x.length = c.2.length) : eh_V (h.set r (c.1, x)) = (fun k i => bif Nat.beq r k then x[i]? else eh_V h k i) ∧ eh_N (h.set r (c.1, x)) = eh_N h := by
  have hl : r < h.length := (List.getElem?_eq_some_iff.mp hc).1
  constructor
  · funext a b
    unfold eh_V
    by_cases e : r = a
    · subst e
      rw [List.getElem?_set_self hl, eh_bt]
      rfl
    · rw [List.getElem?_set_ne e, eh_bf e]
      rfl
  · unfold eh_N
    rw [List.map_set]
    apply List.ext_getElem?
    intro k
    by_cases e : r = k
    · subst e
      rw [List.getElem?_set_self (by rw [List.length_map]; exact hl), List.getElem?_map, hc]
      show some x.length = some c.2.length
      rw [hx]
    · rw [List.getElem?_set_ne e]
def eh_cp (G : eh_W) (a b n : Nat) : eh_W := fun k i => bif Nat.beq b k && Nat.blt i n then G a i else G k i
def eh_cx (G : eh_W) (a b n : Nat) : eh_W := fun k i => bif Nat.beq b k && Nat.blt i n then ((ri_xl a).map Value.int)[i]? else G k i
theorem eh_e.cr {x n a b m : Nat} {u : List Nat} {w : Value} {nn : Int32} (E : eh_e cal q pc lo (.int nn :: .int 0 :: .ref b :: .int 0 :: .ref a :: st) h rs h') (hp : Nat.beq pc 70000 = false) (hl : ri_look2 q.2 pc = some (.invokestatic x, m, 4 :: u, w)) (hn : pc + 3 = p) (hnn : nn.toNatClampNeg = n) (hV : eh_V h = G) : ∃ h1, eh_V h1 = eh_cp G a b n ∧ eh_N h1 = eh_N h ∧ eh_e cal q p lo st h1 rs h' := by
  obtain ⟨k, z, f1, s1, E1⟩ := E.inv hp hl rfl
  have s1 : (bif Nat.ble (ri_wt st) 8 then (match ri_copy (.ref a) (.ref b) 0 0 nn h with
      | some h' => some (pc + 3, lo, st, h', k, z)
      | none => none) else none) = some f1 := s1
  cases hw : Nat.ble (ri_wt st) 8 with
  | false => rw [hw] at s1; cases s1
  | true =>
    rw [hw] at s1
    dsimp only [cond_true] at s1
    cases hc : ri_copy (.ref a) (.ref b) 0 0 nn h with
    | none => rw [hc] at s1; cases s1
    | some h1 =>
      rw [hc] at s1
      have s1 := Option.some.inj s1
      subst s1 hn hV hnn
      have e0 : (0 : Int32).toNatClampNeg = 0 := by decide
      unfold ri_copy at hc
      dsimp only at hc
      rw [e0] at hc
      cases hb : h[b]? with
      | none => rw [hb] at hc; cases hc
      | some qb =>
        rw [hb] at hc
        dsimp only at hc
        cases c1 : ((Nat.beq qb.1 13 || Nat.beq qb.1 15) && (!decide ((0 : Int32) < 0) && (!decide ((0 : Int32) < 0) && (!decide (nn < 0) && Nat.ble (0 + nn.toNatClampNeg) qb.2.length)))) with
        | false => rw [c1] at hc; cases hc
        | true =>
          rw [c1] at hc
          dsimp only [cond_true] at hc
          cases ha : h[a]? with
          | none => rw [ha] at hc; cases hc
          | some qa =>
            rw [ha] at hc
            dsimp only at hc
            cases c2 : (Nat.beq qa.1 qb.1 && (Nat.ble (0 + nn.toNatClampNeg) qa.2.length && ((qa.2.drop 0).take nn.toNatClampNeg).all (fun v => bif Nat.beq qb.1 13 then ri_isI v else ri_isL v))) with
            | false => rw [c2] at hc; cases hc
            | true =>
              rw [c2] at hc
              have hc := Option.some.inj hc
              subst hc
              simp only [Bool.and_eq_true, Nat.ble_eq] at c1 c2
              have l1 : nn.toNatClampNeg ≤ qb.2.length := by have := c1.2.2.2.2; omega
              have l2 : nn.toNatClampNeg ≤ qa.2.length := by have := c2.2.1; omega
              obtain ⟨g1, g2⟩ := eh_seth hb (eh_cpl l2 l1)
              refine ⟨_, ?_, g2, k, z, E1⟩
              rw [g1]
              funext k i
              unfold eh_cp
              try dsimp only
              rw [eh_cpy l2 l1]
              cases e : Nat.beq b k with
              | false => rfl
              | true =>
                have e := Nat.eq_of_beq_eq_true e
                subst e
                cases Nat.blt i nn.toNatClampNeg with
                | true =>
                  show qa.2[i]? = eh_V h a i
                  unfold eh_V
                  rw [ha]
                | false =>
                  show qb.2[i]? = eh_V h b i
                  unfold eh_V
                  rw [hb]
theorem eh_e.cx {x n a b m : Nat} {u : List Nat} {w : Value} {nn : Int32} (E : eh_e cal q pc lo (.int nn :: .int 0 :: .ref b :: .int 0 :: .retAddr a :: st) h rs h') (hp : Nat.beq pc 70000 = false) (hl : ri_look2 q.2 pc = some (.invokestatic x, m, 4 :: u, w)) (hn : pc + 3 = p) (hnn : nn.toNatClampNeg = n) (hV : eh_V h = G) : ∃ h1, eh_V h1 = eh_cx G a b n ∧ eh_N h1 = eh_N h ∧ eh_e cal q p lo st h1 rs h' := by
  obtain ⟨k, z, f1, s1, E1⟩ := E.inv hp hl rfl
  have s1 : (bif Nat.ble (ri_wt st) 8 then (match ri_copy (.retAddr a) (.ref b) 0 0 nn h with
      | some h' => some (pc + 3, lo, st, h', k, z)
      | none => none) else none) = some f1 := s1
  cases hw : Nat.ble (ri_wt st) 8 with
  | false => rw [hw] at s1; cases s1
  | true =>
    rw [hw] at s1
    dsimp only [cond_true] at s1
    cases hc : ri_copy (.retAddr a) (.ref b) 0 0 nn h with
    | none => rw [hc] at s1; cases s1
    | some h1 =>
      rw [hc] at s1
      have s1 := Option.some.inj s1
      subst s1 hn hV hnn
      have e0 : (0 : Int32).toNatClampNeg = 0 := by decide
      unfold ri_copy at hc
      dsimp only at hc
      rw [e0] at hc
      cases hb : h[b]? with
      | none => rw [hb] at hc; cases hc
      | some qb =>
        rw [hb] at hc
        dsimp only at hc
        cases c1 : ((Nat.beq qb.1 13 || Nat.beq qb.1 15) && (!decide ((0 : Int32) < 0) && (!decide ((0 : Int32) < 0) && (!decide (nn < 0) && Nat.ble (0 + nn.toNatClampNeg) qb.2.length)))) with
        | false => rw [c1] at hc; cases hc
        | true =>
          rw [c1] at hc
          dsimp only [cond_true] at hc
          cases c2 : (Nat.beq qb.1 13 && (Nat.ble 1 a && Nat.ble a 4 && Nat.ble (0 + nn.toNatClampNeg) (ri_xl a).length)) with
          | false => rw [c2] at hc; cases hc
          | true =>
            rw [c2] at hc
            have hc := Option.some.inj hc
            subst hc
            simp only [Bool.and_eq_true, Nat.ble_eq] at c1 c2
            have l1 : nn.toNatClampNeg ≤ qb.2.length := by have := c1.2.2.2.2; omega
            have l2 : nn.toNatClampNeg ≤ ((ri_xl a).map Value.int).length := by rw [List.length_map]; have := c2.2.2; omega
            obtain ⟨g1, g2⟩ := eh_seth hb (eh_cpl l2 l1)
            refine ⟨_, ?_, g2, k, z, E1⟩
            rw [g1]
            funext k i
            unfold eh_cx
            try dsimp only
            rw [eh_cpy l2 l1]
            cases e : Nat.beq b k with
            | false => rfl
            | true =>
              have e := Nat.eq_of_beq_eq_true e
              subst e
              cases Nat.blt i nn.toNatClampNeg with
              | true => rfl
              | false =>
                show qb.2[i]? = eh_V h b i
                unfold eh_V
                rw [hb]
theorem eh_e.dv {op : Int32 → Int32 → Int32} {x y v : Int32} (E : eh_e cal q pc lo (.int y :: .int x :: st) h rs h') (hp : Nat.beq pc 70000 = false) (hl : ri_look2 q.2 pc = some e) (hr : ri_isR e.1 = false) (hs : ∀ k z, ri_step [] cal (ri_bud ri_md) q.1 e pc lo (.int y :: .int x :: st) h k z = ri_d2 op pc lo (.int y :: .int x :: st) h k z) (hn : pc + 1 = p) (hv : op x y = v) : eh_e cal q p lo (.int v :: st) h rs h' := by
  obtain ⟨k, z, f1, s1, E1⟩ := E.inv hp hl hr
  rw [hs] at s1
  have s1 : (bif decide (y = 0) then none else some (pc + 1, lo, .int (op x y) :: st, h, k, z)) = some f1 := s1
  cases hb : decide (y = 0) with
  | true => rw [hb] at s1; cases s1
  | false =>
    rw [hb] at s1
    have s1 := Option.some.inj s1
    subst s1 hn hv
    exact ⟨k, z, E1⟩
end EG
theorem eh_ty.cr {T : eh_T} {G : eh_W} {a b n t : Nat} (H : eh_ty T G) (h1 : T[a]? = some (1, [t])) (h2 : T[b]? = some (1, [t])) : eh_ty T (eh_cp G a b n) := by
  intro k i t' v e1 e2
  unfold eh_cp at e2
  cases e : (Nat.beq b k && Nat.blt i n) with
  | false =>
    rw [e] at e2
    exact H k i t' v e1 e2
  | true =>
    rw [e] at e2
    simp only [Bool.and_eq_true] at e
    have e := Nat.eq_of_beq_eq_true e.1
    subst e
    have e3 : eh_tg T b i = some t := by unfold eh_tg; rw [h2]; rfl
    have e4 : eh_tg T a i = some t := by unfold eh_tg; rw [h1]; rfl
    rw [e3] at e1
    cases e1
    exact H a i t v e4 e2
theorem eh_ty.cx {T : eh_T} {G : eh_W} {a b n : Nat} (H : eh_ty T G) (h1 : True) (h2 : T[b]? = some (1, [0])) : eh_ty T (eh_cx G a b n) := by
  intro k i t' v e1 e2
  unfold eh_cx at e2
  cases e : (Nat.beq b k && Nat.blt i n) with
  | false =>
    rw [e] at e2
    exact H k i t' v e1 e2
  | true =>
    rw [e] at e2
    simp only [Bool.and_eq_true] at e
    have e := Nat.eq_of_beq_eq_true e.1
    subst e
    have e3 : eh_tg T b i = some 0 := by unfold eh_tg; rw [h2]; rfl
    rw [e3] at e1
    cases e1
    have e2 : ((ri_xl a).map Value.int)[i]? = some v := e2
    rw [List.getElem?_map] at e2
    cases e5 : (ri_xl a)[i]? with
    | none => rw [e5] at e2; cases e2
    | some y =>
      rw [e5] at e2
      exact ⟨y, (Option.some.inj e2).symm⟩
