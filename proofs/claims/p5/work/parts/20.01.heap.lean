/-! the heap's shape: a cell's kind and runs of slots (how many; 0 int, 1 long, 2 reference, 3 null; an interval, of a reference: its cell) -/
abbrev sx_R : Type := List (Nat × Nat × Int × Int)
abbrev sx_G : Type := List (Nat × sx_R)
def sx_run : sx_R → Nat → Option (Nat × Int × Int)
  | [], _ => none
  | q :: t, i => bif Nat.blt i q.1 then some q.2 else sx_run t (i - q.1)
def sx_len : sx_R → Nat
  | [] => 0
  | q :: t => q.1 + sx_len t
theorem sx_blt_no {a b : Nat} (h : Nat.blt a b = false) : b ≤ a := by
  apply Nat.not_lt.mp
  intro h1
  rw [Nat.blt_eq.mpr h1] at h
  cases h
theorem sx_ble_f {a b : Nat} (h : Nat.ble a b = false) : b < a := by
  apply Nat.not_le.mp
  intro h1
  rw [Nat.ble_eq.mpr h1] at h
  cases h
theorem sx_run_lt : ∀ {R : sx_R} {i : Nat} {w : Nat × Int × Int}, sx_run R i = some w → i < sx_len R
  | [], _, _, h => by cases h
  | q :: t, i, w, h => by
    unfold sx_run at h
    unfold sx_len
    cases e : Nat.blt i q.1 with
    | true => have := Nat.blt_eq.mp e; omega
    | false =>
      rw [e] at h
      have := sx_run_lt (R := t) h
      have := sx_blt_no e
      omega
theorem sx_run_of : ∀ {R : sx_R} {i : Nat}, i < sx_len R → ∃ w, sx_run R i = some w
  | [], _, h => by unfold sx_len at h; omega
  | q :: t, i, h => by
    unfold sx_run
    unfold sx_len at h
    cases e : Nat.blt i q.1 with
    | true => exact ⟨_, rfl⟩
    | false =>
      have := sx_blt_no e
      exact sx_run_of (R := t) (by omega)
def sx_hull : sx_R → Nat → Nat → Option (Nat × Int × Int)
  | [], _, _ => none
  | q :: t, a, b => bif Nat.blt b q.1 then some q.2 else bif Nat.ble q.1 a then sx_hull t (a - q.1) (b - q.1) else match sx_hull t 0 (b - q.1) with
    | some w => bif Nat.beq q.2.1 w.1 then some (w.1, sx_min q.2.2.1 w.2.1, sx_max q.2.2.2 w.2.2) else none
    | none => none
theorem sx_hull_ok : ∀ (R : sx_R) (a b : Nat) (w : Nat × Int × Int), sx_hull R a b = some w → ∀ i : Nat, a ≤ i → i ≤ b → ∃ t, sx_run R i = some t ∧ t.1 = w.1 ∧ w.2.1 ≤ t.2.1 ∧ t.2.2 ≤ w.2.2
  | [], _, _, _, h => by cases h
  | q :: t, a, b, w, h => by
    intro i h1 h2
    unfold sx_hull at h
    unfold sx_run
    cases hb : Nat.blt b q.1 with
    | true =>
      rw [hb] at h
      have hb := Nat.blt_eq.mp hb
      rw [Nat.blt_eq.mpr (show i < q.1 by omega)]
      cases h
      exact ⟨q.2, rfl, rfl, Int.le_refl _, Int.le_refl _⟩
    | false =>
      rw [hb] at h
      dsimp only [cond_false] at h
      have hb := sx_blt_no hb
      cases ha : Nat.ble q.1 a with
      | true =>
        rw [ha] at h
        have ha := Nat.ble_eq.mp ha
        have hi : Nat.blt i q.1 = false := by
          cases e : Nat.blt i q.1 with
          | false => rfl
          | true => have := Nat.blt_eq.mp e; omega
        rw [hi]
        exact sx_hull_ok t (a - q.1) (b - q.1) w h (i - q.1) (by omega) (by omega)
      | false =>
        rw [ha] at h
        dsimp only [cond_false] at h
        have ha := sx_ble_f ha
        split at h
        · next u hu =>
          cases hq : Nat.beq q.2.1 u.1 with
          | false => rw [hq] at h; cases h
          | true =>
            rw [hq] at h
            cases h
            have hq := Nat.eq_of_beq_eq_true hq
            have m1 := sx_min_l q.2.2.1 u.2.1
            have m2 := sx_max_l q.2.2.2 u.2.2
            cases e : Nat.blt i q.1 with
            | true => exact ⟨q.2, rfl, hq, m1.1, m2.1⟩
            | false =>
              have e := sx_blt_no e
              obtain ⟨x, x1, x2, x3, x4⟩ := sx_hull_ok t 0 (b - q.1) u hu (i - q.1) (by omega) (by omega)
              exact ⟨x, x1, x2, by dsimp only; omega, by dsimp only; omega⟩
        · cases h
/-- every slot of a range takes tag tg and all of lo .. hi -/
def sx_inn : sx_R → Nat → Nat → Nat → Int → Int → Bool
  | [], _, _, _, _, _ => false
  | q :: t, a, b, tg, lo, hi => bif Nat.blt b q.1 then Nat.beq q.2.1 tg && (sx_ble q.2.2.1 lo && sx_ble hi q.2.2.2) else bif Nat.ble q.1 a then sx_inn t (a - q.1) (b - q.1) tg lo hi else (Nat.beq q.2.1 tg && (sx_ble q.2.2.1 lo && sx_ble hi q.2.2.2)) && sx_inn t 0 (b - q.1) tg lo hi
theorem sx_inn_ok : ∀ (R : sx_R) (a b tg : Nat) (lo hi : Int), sx_inn R a b tg lo hi = true → ∀ i : Nat, a ≤ i → i ≤ b → ∃ t, sx_run R i = some t ∧ t.1 = tg ∧ t.2.1 ≤ lo ∧ hi ≤ t.2.2
  | [], _, _, _, _, _, h => by cases h
  | q :: t, a, b, tg, lo, hi, h => by
    intro i h1 h2
    unfold sx_inn at h
    unfold sx_run
    cases hb : Nat.blt b q.1 with
    | true =>
      rw [hb] at h
      simp only [cond_true, Bool.and_eq_true, sx_ble_iff] at h
      have hb := Nat.blt_eq.mp hb
      rw [Nat.blt_eq.mpr (show i < q.1 by omega)]
      exact ⟨q.2, rfl, Nat.eq_of_beq_eq_true h.1, h.2.1, h.2.2⟩
    | false =>
      rw [hb] at h
      dsimp only [cond_false] at h
      have hb := sx_blt_no hb
      cases ha : Nat.ble q.1 a with
      | true =>
        rw [ha] at h
        have ha := Nat.ble_eq.mp ha
        have hi : Nat.blt i q.1 = false := by
          cases e : Nat.blt i q.1 with
          | false => rfl
          | true => have := Nat.blt_eq.mp e; omega
        rw [hi]
        exact sx_inn_ok t (a - q.1) (b - q.1) tg lo _ h (i - q.1) (by omega) (by omega)
      | false =>
        rw [ha] at h
        simp only [cond_false, Bool.and_eq_true, sx_ble_iff] at h
        have ha := sx_ble_f ha
        cases e : Nat.blt i q.1 with
        | true => exact ⟨q.2, rfl, Nat.eq_of_beq_eq_true h.1.1, h.1.2.1, h.1.2.2⟩
        | false =>
          have e := sx_blt_no e
          exact sx_inn_ok t 0 (b - q.1) tg lo hi h.2 (i - q.1) (by omega) (by omega)
/-- what a slot holds -/
def sx_slot (w : Nat × Int × Int) (v : Value) : Prop := match w.1 with
  | 0 => ∃ x : Int32, v = .int x ∧ w.2.1 ≤ x.toInt ∧ x.toInt ≤ w.2.2
  | 1 => ∃ x : Int64, v = .long x
  | 2 => v = .ref w.2.1.toNat
  | _ => v = .null
def sx_Inv (G : sx_G) (h : ri_H) : Prop := ∀ (k : Nat) (c : Nat × sx_R), G[k]? = some c → ∃ vs, h[k]? = some (c.1, vs) ∧ vs.length = sx_len c.2 ∧ ∀ (i : Nat) (w : Nat × Int × Int), sx_run c.2 i = some w → ∃ v, vs[i]? = some v ∧ sx_slot w v
/-- a slot's value -/
def sx_at (h : ri_H) (k : Nat) (i : Int) : Option Value := match h[k]? with
  | some q => match i with
    | .ofNat n => q.2[n]?
    | .negSucc _ => none
  | none => none
theorem sx_at_of {h : ri_H} {k n : Nat} {q : ri_C} (hk : h[k]? = some q) : sx_at h k (n : Int) = q.2[n]? := by
  unfold sx_at
  rw [hk]
theorem sx_at_inv {h : ri_H} {k : Nat} {i : Int} {v : Value} (e : sx_at h k i = some v) : ∃ q, h[k]? = some q ∧ 0 ≤ i ∧ q.2[i.toNat]? = some v := by
  unfold sx_at at e
  split at e
  · next q hq =>
    split at e
    · next n => exact ⟨q, hq, by show (0 : Int) ≤ (n : Int); omega, e⟩
    · cases e
  · cases e
theorem sx_Inv.at {G : sx_G} {h : ri_H} {k : Nat} {c : Nat × sx_R} {i : Int} {w : Nat × Int × Int} (H : sx_Inv G h) (hc : G[k]? = some c) (h0 : 0 ≤ i) (hw : sx_run c.2 i.toNat = some w) : ∃ v, sx_at h k i = some v ∧ sx_slot w v := by
  obtain ⟨vs, h1, h2, h3⟩ := H k c hc
  obtain ⟨v, h4, h5⟩ := h3 i.toNat w hw
  refine ⟨v, ?_, h5⟩
  have e : i = (i.toNat : Int) := by omega
  rw [e, sx_at_of h1]
  exact h4
theorem sx_at_set {h : ri_H} {k j : Nat} {q : ri_C} {v : Value} (hk : h[k]? = some q) (k' : Nat) (i' : Int) : sx_at (h.set k (q.1, q.2.set j v)) k' i' = if k' = k ∧ i' = (j : Int) ∧ j < q.2.length then some v else sx_at h k' i' := by
  unfold sx_at
  have hl : k < h.length := (List.getElem?_eq_some_iff.mp hk).1
  by_cases e : k' = k
  · subst e
    rw [List.getElem?_set_self hl, hk]
    dsimp only
    split
    · next n =>
      by_cases e1 : n = j
      · subst e1
        by_cases e2 : n < q.2.length
        · rw [if_pos ⟨rfl, rfl, e2⟩, List.getElem?_set_self e2]
        · rw [if_neg (fun h => e2 h.2.2), List.getElem?_eq_none (by rw [List.length_set]; omega), List.getElem?_eq_none (by omega)]
      · rw [if_neg (fun h => e1 (by have := h.2.1; exact Int.ofNat.inj this)), List.getElem?_set_ne (fun h => e1 h.symm)]
    · rw [if_neg]
      rintro ⟨-, h2, -⟩
      cases h2
  · rw [List.getElem?_set_ne (fun h => e h.symm), if_neg (fun h => e h.1)]
theorem sx_Inv.set {G : sx_G} {h : ri_H} {k j : Nat} {c : Nat × sx_R} {q : ri_C} {v : Value} {w : Nat × Int × Int} (H : sx_Inv G h) (hc : G[k]? = some c) (hk : h[k]? = some q) (hw : sx_run c.2 j = some w) (hv : sx_slot w v) : sx_Inv G (h.set k (q.1, q.2.set j v)) := by
  intro k' c' hc'
  by_cases e : k' = k
  · subst e
    rw [hc] at hc'
    cases hc'
    obtain ⟨vs, h1, h2, h3⟩ := H k' c hc
    rw [hk] at h1
    cases h1
    have hl : k' < h.length := (List.getElem?_eq_some_iff.mp hk).1
    refine ⟨vs.set j v, List.getElem?_set_self hl, by rw [List.length_set]; exact h2, fun i u hu => ?_⟩
    by_cases e1 : j = i
    · subst e1
      rw [hw] at hu
      cases hu
      exact ⟨v, List.getElem?_set_self (by rw [h2]; exact sx_run_lt hw), hv⟩
    · rw [List.getElem?_set_ne e1]
      exact h3 i u hu
  · obtain ⟨vs, h1, h2, h3⟩ := H k' c' hc'
    exact ⟨vs, by rw [List.getElem?_set_ne (fun h => e h.symm)]; exact h1, h2, h3⟩
/-- what is known of a slot -/
def sx_oh (p : List Int) (h : ri_H) (o : Nat × sx_v × sx_v) : Prop := ∃ i v, sx_n p o.2.1 = some i ∧ sx_at h o.1 i = some v ∧ sx_g p o.2.2 v
theorem sx_oh_ext {p : List Int} {h : ri_H} {o : Nat × sx_v × sx_v} (e : List Int) (H : sx_oh p h o) : sx_oh (p ++ e) h o := by
  obtain ⟨i, v, h1, h2, h3⟩ := H
  exact ⟨i, v, sx_n_ext e h1, h2, sx_g_ext e h3⟩
/-- two cells hold the same -/
def sx_ch (h : ri_H) (c : Nat × Nat) : Prop := ∃ q r, h[c.1]? = some q ∧ h[c.2]? = some r ∧ q.2 = r.2
/-- what is known beside locals and stack -/
def sx_E (G : sx_G) (J : Nat → ri_H → Prop) (p : List Int) (B : sx_B) (h : ri_H) : Prop :=
  (∀ o ∈ B.1, sx_oh p h o) ∧ sx_P B.2.1 p ∧ (∀ f ∈ B.2.2.1, sx_fh p f) ∧ (∀ c ∈ B.2.2.2.1, sx_ch h c) ∧ (∀ j ∈ B.2.2.2.2, J j h) ∧ sx_Inv G h
theorem sx_mc {α : Type} {P : α → Prop} {a : α} {l : List α} (h1 : P a) (h2 : ∀ g ∈ l, P g) : ∀ g ∈ a :: l, P g := fun g hg => by
  rcases List.mem_cons.mp hg with e | e
  · rw [e]; exact h1
  · exact h2 g e
section SXB
variable {G : sx_G} {J : Nat → ri_H → Prop} {p : List Int} {B B' : sx_B} {h : ri_H}
theorem sx_E.iv (H : sx_E G J p B h) {iv : sx_I} (h1 : sx_P iv p) : sx_E G J p (B.1, iv, B.2.2) h := ⟨H.1, h1, H.2.2⟩
theorem sx_E.ext (H : sx_E G J p B h) {iv : sx_I} {e : List Int} (h1 : sx_P iv e) : sx_E G J (p ++ e) (B.1, B.2.1 ++ iv, B.2.2) h :=
  ⟨fun o ho => sx_oh_ext e (H.1 o ho), H.2.1.app h1, fun f hf => sx_fh_ext e (H.2.2.1 f hf), H.2.2.2⟩
theorem sx_E.fact (H : sx_E G J p B h) {f : Nat × sx_v × sx_v × sx_v} (h1 : sx_fh p f) : sx_E G J p (B.1, B.2.1, f :: B.2.2.1, B.2.2.2) h :=
  ⟨H.1, H.2.1, sx_mc h1 H.2.2.1, H.2.2.2⟩
theorem sx_E.slot (H : sx_E G J p B h) {o : Nat × sx_v × sx_v} (h1 : sx_oh p h o) : sx_E G J p (o :: B.1, B.2) h :=
  ⟨sx_mc h1 H.1, H.2⟩
/-- a new name -/
def sx_new (B : sx_B) (lo hi : Int) : sx_B × sx_v := bif sx_beq lo hi then (B, (0, 0, lo)) else ((B.1, B.2.1 ++ [(lo, hi)], B.2.2), (1, B.2.1.length, 0))
theorem sx_new_ok (H : sx_E G J p B h) {lo hi y : Int} (h1 : lo ≤ y) (h2 : y ≤ hi) : ∃ e, sx_E G J (p ++ e) (sx_new B lo hi).1 h ∧ sx_n (p ++ e) (sx_new B lo hi).2 = some y := by
  unfold sx_new
  cases e : sx_beq lo hi with
  | true =>
    have := sx_beq_ok e
    refine ⟨[], by rw [List.append_nil]; exact H, ?_⟩
    show some lo = some y
    congr 1
    omega
  | false =>
    refine ⟨[y], H.ext (e := [y]) (iv := [(lo, hi)]) ⟨⟨h1, h2⟩, trivial⟩, ?_⟩
    show (match (p ++ [y])[B.2.1.length]? with
      | some y => some (y + (0 : Int))
      | none => none) = some y
    rw [H.2.1.len, List.getElem?_append_right (Nat.le_refl _), Nat.sub_self]
    show some (y + 0) = some y
    rw [Int.add_zero]
/-- x is at most y from now on; none: that can't be -/
def sx_as0 (B : sx_B) (x y : sx_v) : Option sx_B := bif Nat.beq x.1 1 && (Nat.beq y.1 1 && Nat.beq x.2.1 y.2.1) then (bif sx_ble x.2.2 y.2.2 then some B else none) else match sx_r B.2.1 x, sx_r B.2.1 y with
  | some a, some b => bif sx_ble a.1 b.2 then (bif Nat.beq x.1 1 && Nat.beq y.1 1 then some (B.1, sx_pp ((0, x, y, y) :: B.2.2.1) (sx_cl (sx_cu B.2.1 x b.2) y a.1), (0, x, y, y) :: B.2.2.1, B.2.2.2) else some (B.1, sx_pp B.2.2.1 (sx_cl (sx_cu B.2.1 x b.2) y a.1), B.2.2)) else none
  | _, _ => none
theorem sx_as0_ok (H : sx_E G J p B h) {x y : sx_v} {u w : Int} (hx : sx_n p x = some u) (hy : sx_n p y = some w) (hle : u ≤ w) : ∃ B', sx_as0 B x y = some B' ∧ sx_E G J p B' h := by
  unfold sx_as0
  cases e : (Nat.beq x.1 1 && (Nat.beq y.1 1 && Nat.beq x.2.1 y.2.1)) with
  | true =>
    simp only [Bool.and_eq_true] at e
    have e1 : x.1 = 1 := Nat.eq_of_beq_eq_true e.1
    have e2 : y.1 = 1 := Nat.eq_of_beq_eq_true e.2.1
    have e3 : x.2.1 = y.2.1 := Nat.eq_of_beq_eq_true e.2.2
    obtain ⟨z, hz, rfl⟩ := sx_n1 e1 hx
    obtain ⟨z', hz', rfl⟩ := sx_n1 e2 hy
    rw [← e3, hz] at hz'
    cases hz'
    rw [sx_ble_iff.mpr (show x.2.2 ≤ y.2.2 by omega)]
    exact ⟨B, rfl, H⟩
  | false =>
    dsimp only [cond_false]
    obtain ⟨a, ha, a1, a2⟩ := sx_r_of H.2.1 hx
    obtain ⟨b, hb, b1, b2⟩ := sx_r_of H.2.1 hy
    rw [ha, hb]
    dsimp only
    rw [sx_ble_iff.mpr (show a.1 ≤ b.2 by omega)]
    have hP : sx_P (sx_cl (sx_cu B.2.1 x b.2) y a.1) p := sx_cl_ok (sx_cu_ok H.2.1 hx (by omega)) hy (by omega)
    have hf : sx_fh p (0, x, y, y) := ⟨u, w, hx, hy, hle⟩
    cases Nat.beq x.1 1 && Nat.beq y.1 1 with
    | true =>
      exact ⟨_, rfl, H.1, sx_pp_ok (sx_mc hf H.2.2.1) hP, sx_mc hf H.2.2.1, H.2.2.2⟩
    | false => exact ⟨_, rfl, H.1, sx_pp_ok H.2.2.1 hP, H.2.2⟩
def sx_asm (B : sx_B) (x y : sx_v) : Option sx_B := sx_as0 B (sx_sh x (sx_dl B.2.2.1 x y B.2.2.1)) y
theorem sx_asm_ok (H : sx_E G J p B h) {x y : sx_v} {u w : Int} (hx : sx_n p x = some u) (hy : sx_n p y = some w) (hle : u ≤ w) : ∃ B', sx_asm B x y = some B' ∧ sx_E G J p B' h :=
  sx_as0_ok H (sx_sh_n hx) hy (sx_dl_ok H.2.2.1 hx hy hle)
/-- x is not y from now on -/
def sx_ane (B : sx_B) (x y : sx_v) : Option sx_B := match sx_r B.2.1 x, sx_r B.2.1 y with
  | some a, some b => bif sx_beq b.1 b.2 then (bif sx_beq a.1 b.1 then (bif sx_beq a.2 b.1 then none else some (B.1, sx_cl B.2.1 x (b.1 + 1), B.2.2)) else bif sx_beq a.2 b.1 then some (B.1, sx_cu B.2.1 x (b.1 - 1), B.2.2) else some (B.1, B.2.1, (1, x, y, y) :: B.2.2.1, B.2.2.2)) else some B
  | _, _ => none
theorem sx_ane_ok (H : sx_E G J p B h) {x y : sx_v} {u w : Int} (hx : sx_n p x = some u) (hy : sx_n p y = some w) (hne : u ≠ w) : ∃ B', sx_ane B x y = some B' ∧ sx_E G J p B' h := by
  unfold sx_ane
  obtain ⟨a, ha, a1, a2⟩ := sx_r_of H.2.1 hx
  obtain ⟨b, hb, b1, b2⟩ := sx_r_of H.2.1 hy
  rw [ha, hb]
  dsimp only
  cases e : sx_beq b.1 b.2 with
  | false => exact ⟨B, rfl, H⟩
  | true =>
    have e := sx_beq_ok e
    dsimp only [cond_true]
    cases e1 : sx_beq a.1 b.1 with
    | true =>
      have e1 := sx_beq_ok e1
      cases e2 : sx_beq a.2 b.1 with
      | true => have e2 := sx_beq_ok e2; omega
      | false => exact ⟨_, rfl, H.1, sx_cl_ok H.2.1 hx (by omega), H.2.2⟩
    | false =>
      cases e2 : sx_beq a.2 b.1 with
      | true =>
        have e2 := sx_beq_ok e2
        exact ⟨_, rfl, H.1, sx_cu_ok H.2.1 hx (by omega), H.2.2⟩
      | false => exact ⟨_, rfl, H.fact (f := (1, x, y, y)) ⟨u, w, hx, hy, hne⟩⟩
/-- a term of one number is that number -/
def sx_nm (iv : sx_I) (t : sx_v) : sx_v := match sx_r iv t with
  | some r => bif sx_beq r.1 r.2 then (0, 0, r.1) else t
  | none => t
theorem sx_nm_n {iv : sx_I} (H : sx_P iv p) {t : sx_v} {y : Int} (h : sx_n p t = some y) : sx_n p (sx_nm iv t) = some y := by
  unfold sx_nm
  obtain ⟨r, hr, r1, r2⟩ := sx_r_of H h
  rw [hr]
  dsimp only
  cases e : sx_beq r.1 r.2 with
  | true =>
    have e := sx_beq_ok e
    show some r.1 = some y
    congr 1
    omega
  | false => exact h
def sx_fi : sx_Ov → Nat → sx_v → Option sx_v
  | [], _, _ => none
  | o :: t, k, i => bif Nat.beq o.1 k && sx_veq o.2.1 i then some o.2.2 else sx_fi t k i
theorem sx_fi_ok : ∀ {ov : sx_Ov} {k : Nat} {i v : sx_v}, sx_fi ov k i = some v → (k, i, v) ∈ ov
  | [], _, _, _, h => by cases h
  | o :: t, k, i, v, h => by
    unfold sx_fi at h
    cases e : (Nat.beq o.1 k && sx_veq o.2.1 i) with
    | true =>
      rw [e] at h
      simp only [Bool.and_eq_true] at e
      have e1 : o.1 = k := Nat.eq_of_beq_eq_true e.1
      have e2 : o.2.1 = i := sx_veq_ok e.2
      have e3 : o.2.2 = v := Option.some.inj h
      rw [← e1, ← e2, ← e3]
      exact List.mem_cons_self
    | false =>
      rw [e] at h
      exact List.mem_cons_of_mem _ (sx_fi_ok h)
def sx_fj (B : sx_B) (k : Nat) (t : sx_v) : Option sx_v := match sx_fi B.1 k t with
  | some v => some v
  | none => sx_fi B.1 k (sx_nm B.2.1 t)
theorem sx_fj_ok (H : sx_E G J p B h) {k : Nat} {t v : sx_v} {i : Int} (hn : sx_n p t = some i) (hs : sx_fj B k t = some v) : ∃ x, sx_at h k i = some x ∧ sx_g p v x := by
  unfold sx_fj at hs
  split at hs
  · next u hu =>
    cases hs
    obtain ⟨i', x, h1, h2, h3⟩ := H.1 _ (sx_fi_ok hu)
    rw [hn] at h1
    cases h1
    exact ⟨x, h2, h3⟩
  · obtain ⟨i', x, h1, h2, h3⟩ := H.1 _ (sx_fi_ok hs)
    rw [sx_nm_n H.2.1 hn] at h1
    cases h1
    exact ⟨x, h2, h3⟩
/-- a slot is read -/
def sx_ld (G : sx_G) (B : sx_B) (k : Nat) (t : sx_v) : Option (sx_B × sx_v) := match sx_fj B k t with
  | some v => some (B, v)
  | none => match G[k]?, sx_r B.2.1 t with
    | some c, some r => bif sx_ble 0 r.1 then (match sx_hull c.2 r.1.toNat r.2.toNat with
      | some w => (match w.1 with
        | 0 => bif sx_beq w.2.1 w.2.2 then some (B, (0, 0, w.2.1)) else some (((k, sx_nm B.2.1 t, (sx_new B w.2.1 w.2.2).2) :: B.1, (sx_new B w.2.1 w.2.2).1.2), (sx_new B w.2.1 w.2.2).2)
        | 1 => some (B, (3, 0, 0))
        | 2 => bif sx_beq r.1 r.2 then (match sx_run c.2 r.1.toNat with
          | some u => some (B, (2, u.2.1.toNat, 0))
          | none => none) else none
        | _ => some (B, (4, 0, 0)))
      | none => none) else none
    | _, _ => none
theorem sx_ld_ok (H : sx_E G J p B h) {k : Nat} {t v : sx_v} {i : Int} (hn : sx_n p t = some i) (hs : sx_ld G B k t = some (B', v)) : ∃ e x, sx_E G J (p ++ e) B' h ∧ sx_at h k i = some x ∧ sx_g (p ++ e) v x := by
  unfold sx_ld at hs
  have hm := sx_nm_n H.2.1 hn
  split at hs
  · next u hu =>
    cases hs
    obtain ⟨x, h2, h3⟩ := sx_fj_ok H hn hu
    exact ⟨[], x, by rw [List.append_nil]; exact H, h2, by rw [List.append_nil]; exact h3⟩
  · split at hs
    · next c r hc hr =>
      have hi := sx_r_at H.2.1 hr hn
      cases h0 : sx_ble 0 r.1 with
      | false => rw [h0] at hs; cases hs
      | true =>
        rw [h0] at hs
        have h0 := sx_ble_iff.mp h0
        dsimp only [cond_true] at hs
        split at hs
        · next w hw =>
          obtain ⟨u, u1, u2, u3, u4⟩ := sx_hull_ok _ _ _ _ hw i.toNat (by omega) (by omega)
          obtain ⟨x, x1, x2⟩ := H.2.2.2.2.2.at hc (by omega) u1
          unfold sx_slot at x2
          split at hs
          · next e =>
            rw [u2, e] at x2
            obtain ⟨z, rfl, z1, z2⟩ := x2
            cases e5 : sx_beq w.2.1 w.2.2 with
            | true =>
              rw [e5] at hs
              cases hs
              have e5 := sx_beq_ok e5
              exact ⟨[], .int z, by rw [List.append_nil]; exact H, x1, sx_g_of (show some w.2.1 = some z.toInt by congr 1; omega)⟩
            | false =>
              rw [e5] at hs
              cases hs
              obtain ⟨ex, g1, g2⟩ := sx_new_ok H (lo := w.2.1) (hi := w.2.2) (y := z.toInt) (by omega) (by omega)
              have g3 : (sx_new B w.2.1 w.2.2).1.1 = B.1 := by unfold sx_new; rw [e5]; rfl
              refine ⟨ex, .int z, ?_, x1, sx_g_of g2⟩
              rw [← g3]
              exact g1.slot ⟨i, .int z, sx_n_ext ex hm, x1, sx_g_of g2⟩
          · next e =>
            rw [u2, e] at x2
            cases hs
            exact ⟨[], x, by rw [List.append_nil]; exact H, x1, x2⟩
          · next e =>
            rw [u2, e] at x2
            cases e5 : sx_beq r.1 r.2 with
            | false => rw [e5] at hs; cases hs
            | true =>
              rw [e5] at hs
              have e5 := sx_beq_ok e5
              have e6 : r.1.toNat = i.toNat := by omega
              dsimp only [cond_true] at hs
              rw [e6, u1] at hs
              cases hs
              exact ⟨[], x, by rw [List.append_nil]; exact H, x1, x2⟩
          · next e0 e1 e2 =>
            cases hs
            refine ⟨[], x, by rw [List.append_nil]; exact H, x1, ?_⟩
            rw [u2] at x2
            split at x2
            · next e => exact absurd e e0
            · next e => exact absurd e e1
            · next e => exact absurd e e2
            · exact x2
        · cases hs
    · cases hs
/-- two places are surely unlike -/
def sx_dif (iv : sx_I) (t u : sx_v) : Bool := match sx_r iv t, sx_r iv u with
  | some a, some b => sx_ble (a.2 + 1) b.1 || (sx_ble (b.2 + 1) a.1 || (Nat.beq t.1 1 && (Nat.beq u.1 1 && (Nat.beq t.2.1 u.2.1 && !sx_beq t.2.2 u.2.2))))
  | _, _ => false
theorem sx_dif_ok {iv : sx_I} (H : sx_P iv p) {t u : sx_v} {a b : Int} (ha : sx_n p t = some a) (hb : sx_n p u = some b) (hd : sx_dif iv t u = true) : a ≠ b := by
  unfold sx_dif at hd
  split at hd
  · next r1 r2 h1 h2 =>
    have i1 := sx_r_at H h1 ha
    have i2 := sx_r_at H h2 hb
    simp only [Bool.or_eq_true, Bool.and_eq_true, sx_ble_iff] at hd
    rcases hd with hd | hd | ⟨e1, e2, e3, e4⟩
    · omega
    · omega
    · have e1 : t.1 = 1 := Nat.eq_of_beq_eq_true e1
      have e2 : u.1 = 1 := Nat.eq_of_beq_eq_true e2
      have e3 : t.2.1 = u.2.1 := Nat.eq_of_beq_eq_true e3
      have e4 : t.2.2 ≠ u.2.2 := by
        cases e5 : sx_beq t.2.2 u.2.2 with
        | true => rw [e5] at e4; cases e4
        | false => exact sx_beq_no e5
      obtain ⟨z, hz, rfl⟩ := sx_n1 e1 ha
      obtain ⟨z', hz', rfl⟩ := sx_n1 e2 hb
      rw [← e3, hz] at hz'
      cases hz'
      omega
  · cases hd
/-- a guard: the slot that counts (cell 9999: one place), a cell and its first place, an interval, a cell and its first place, an interval: where the first cell's place lies in its interval the second one's does -/
abbrev sx_T : Type := (Nat × Int) × (Nat × Int × Int × Int) × (Nat × Int × Int × Int)
/-- which slots an invariant speaks of; when a write keeps it; what it says of a slot that was read; when it holds by what is known -/
abbrev sx_D : Type := (Nat → List (Nat × Int × Int)) × (sx_B → Nat → sx_v → sx_v → Nat → List Nat) × (sx_B → Nat → sx_v → sx_v → sx_B) × (sx_B → Nat → Bool)
def sx_cnt (h : ri_H) (c : Nat × Int) : Option Int := bif Nat.beq c.1 9999 then some 1 else match sx_at h c.1 c.2 with
  | some (.int x) => some x.toInt
  | _ => none
def sx_gh (g : sx_T) (h : ri_H) : Prop := ∀ (c i : Int) (x y : Int32), sx_cnt h g.1 = some c → 0 ≤ i → i < c → sx_at h g.2.1.1 (g.2.1.2.1 + i) = some (.int x) → g.2.1.2.2.1 ≤ x.toInt → x.toInt ≤ g.2.1.2.2.2 → sx_at h g.2.2.1 (g.2.2.2.1 + i) = some (.int y) → g.2.2.2.2.1 ≤ y.toInt ∧ y.toInt ≤ g.2.2.2.2.2
def sx_HJ (G : sx_G) (J : Nat → ri_H → Prop) (dp : sx_D) : Prop := (∀ (j : Nat) (h h' : ri_H), (∀ d ∈ dp.1 j, ∀ i : Int, d.2.1 ≤ i → i ≤ d.2.2 → sx_at h' d.1 i = sx_at h d.1 i) → J j h → J j h') ∧
  (∀ (p : List Int) (B : sx_B) (h : ri_H) (k j jj ji : Nat) (t tv : sx_v) (q : ri_C) (v : Value), sx_E G J p B h → sx_n p t = some (j : Int) → sx_g p tv v → h[k]? = some q → j < q.2.length → ji ∈ dp.2.1 B k t tv jj → J jj h → J ji (h.set k (q.1, q.2.set j v))) ∧
  (∀ (p : List Int) (B : sx_B) (h : ri_H) (k : Nat) (t v : sx_v) (i : Int) (x : Value), sx_E G J p B h → sx_n p t = some i → sx_at h k i = some x → sx_g p v x → sx_E G J p (dp.2.2.1 B k t v) h) ∧
  (∀ (p : List Int) (B : sx_B) (h : ri_H) (j : Nat), sx_E G J p B h → dp.2.2.2 B j = true → J j h)
/-- guards are invariants -/
def sx_HG (J : Nat → ri_H → Prop) (gd : Nat → Option sx_T) : Prop := ∀ (j : Nat) (g : sx_T), gd j = some g → ∀ h, J j h ↔ sx_gh g h
def sx_jk (dp : sx_D) (k : Nat) (a b : Int) (j : Nat) : Bool := (dp.1 j).all (fun d => !Nat.beq d.1 k || (sx_ble (b + 1) d.2.1 || sx_ble (d.2.2 + 1) a))
theorem sx_jk_ok {dp : sx_D} (HJ : sx_HJ G J dp) {k j : Nat} {a b : Int} {h' : ri_H} (hk : sx_jk dp k a b j = true) (hf : ∀ (k' : Nat) (i : Int), ¬ (k' = k ∧ a ≤ i ∧ i ≤ b) → sx_at h' k' i = sx_at h k' i) (hj : J j h) : J j h' := by
  refine HJ.1 j h h' (fun d hd i h1 h2 => hf d.1 i ?_) hj
  rintro ⟨e1, e2, e3⟩
  have := List.all_eq_true.mp hk d hd
  simp only [Bool.or_eq_true, sx_ble_iff, Bool.not_eq_true'] at this
  rcases this with e | e | e
  · rw [e1] at e
    have : Nat.beq k k = true := Nat.beq_eq.mpr rfl
    rw [this] at e
    cases e
  · omega
  · omega
def sx_rin (iv : sx_I) (t : sx_v) (a b : Int) : Bool := match sx_r iv t with
  | some r => sx_ble a r.1 && sx_ble r.2 b
  | none => false
def sx_rout (iv : sx_I) (t : sx_v) (a b : Int) : Bool := match sx_r iv t with
  | some r => sx_ble (r.2 + 1) a || sx_ble (b + 1) r.1
  | none => false
theorem sx_rin_ok {iv : sx_I} (H : sx_P iv p) {t : sx_v} {a b y : Int} (hn : sx_n p t = some y) (hr : sx_rin iv t a b = true) : a ≤ y ∧ y ≤ b := by
  unfold sx_rin at hr
  split at hr
  · next r hr' =>
    have := sx_r_at H hr' hn
    simp only [Bool.and_eq_true, sx_ble_iff] at hr
    omega
  · cases hr
theorem sx_rout_ok {iv : sx_I} (H : sx_P iv p) {t : sx_v} {a b y : Int} (hn : sx_n p t = some y) (hr : sx_rout iv t a b = true) : ¬ (a ≤ y ∧ y ≤ b) := by
  unfold sx_rout at hr
  split at hr
  · next r hr' =>
    have := sx_r_at H hr' hn
    simp only [Bool.or_eq_true, sx_ble_iff] at hr
    omega
  · cases hr
/-- x is at most y, by intervals and facts -/
def sx_en0 (iv : sx_I) (x y : sx_v) : Bool := (match sx_r iv x, sx_r iv y with
  | some a, some b => sx_ble a.2 b.1
  | _, _ => false) || (Nat.beq x.1 1 && (Nat.beq y.1 1 && (Nat.beq x.2.1 y.2.1 && sx_ble x.2.2 y.2.2)))
def sx_ent (iv : sx_I) (fc : sx_Fc) : Nat → sx_v → sx_v → Bool
  | 0, x, y => sx_en0 iv x y
  | n + 1, x, y => sx_en0 iv x y || fc.any (fun f => Nat.beq f.1 0 && (Nat.beq f.2.1.1 1 && (Nat.beq x.1 1 && (Nat.beq f.2.1.2.1 x.2.1 && sx_ent iv fc n (sx_sh f.2.2.1 (x.2.2 - f.2.1.2.2)) y))))
theorem sx_en0_ok {iv : sx_I} (HP : sx_P iv p) {x y : sx_v} {a b : Int} (hx : sx_n p x = some a) (hy : sx_n p y = some b) (hs : sx_en0 iv x y = true) : a ≤ b := by
  rcases (Bool.or_eq_true _ _).mp hs with e | e
  · split at e
    · next r s hr hs =>
      have := sx_r_at HP hr hx
      have := sx_r_at HP hs hy
      have := sx_ble_iff.mp e
      omega
    · cases e
  · simp only [Bool.and_eq_true, sx_ble_iff] at e
    have e1 : x.1 = 1 := Nat.eq_of_beq_eq_true e.1
    have e2 : y.1 = 1 := Nat.eq_of_beq_eq_true e.2.1
    have e3 : x.2.1 = y.2.1 := Nat.eq_of_beq_eq_true e.2.2.1
    have e4 := e.2.2.2
    obtain ⟨z, hz, rfl⟩ := sx_n1 e1 hx
    obtain ⟨z', hz', rfl⟩ := sx_n1 e2 hy
    rw [← e3, hz] at hz'
    cases hz'
    omega
theorem sx_ent_ok {iv : sx_I} {fc : sx_Fc} (HP : sx_P iv p) (HF : ∀ f ∈ fc, sx_fh p f) : ∀ {n : Nat} {x y : sx_v} {a b : Int}, sx_n p x = some a → sx_n p y = some b → sx_ent iv fc n x y = true → a ≤ b
  | 0, x, y, a, b, hx, hy, hs => sx_en0_ok HP hx hy hs
  | n + 1, x, y, a, b, hx, hy, hs => by
    unfold sx_ent at hs
    rcases (Bool.or_eq_true _ _).mp hs with e | e
    · exact sx_en0_ok HP hx hy e
    · obtain ⟨f, f1, f2⟩ := List.any_eq_true.mp e
      simp only [Bool.and_eq_true] at f2
      obtain ⟨g1, g2, g3, g4, g5⟩ := f2
      have g1 : f.1 = 0 := Nat.eq_of_beq_eq_true g1
      have g2 : f.2.1.1 = 1 := Nat.eq_of_beq_eq_true g2
      have g3 : x.1 = 1 := Nat.eq_of_beq_eq_true g3
      have g4 : f.2.1.2.1 = x.2.1 := Nat.eq_of_beq_eq_true g4
      have hf := HF f f1
      unfold sx_fh at hf
      rw [g1] at hf
      obtain ⟨u, w, u1, w1, uw⟩ := hf
      have hu : u - f.2.1.2.2 = a - x.2.2 := by
        obtain ⟨z, hz, hx1⟩ := sx_n1 g3 hx
        obtain ⟨z', hz', hu1⟩ := sx_n1 g2 u1
        rw [g4, hz] at hz'
        cases hz'
        omega
      have := sx_ent_ok HP HF (n := n) (sx_sh_n (c := x.2.2 - f.2.1.2.2) w1) hy g5
      omega
/-- the place c of a guard's rows is well -/
def sx_pw (B : sx_B) (g : sx_T) (c : sx_v) : Bool := (match sx_fj B g.2.1.1 (sx_sh c g.2.1.2.1) with
  | some x => sx_rout B.2.1 x g.2.1.2.2.1 g.2.1.2.2.2
  | none => false) || (match sx_fj B g.2.2.1 (sx_sh c g.2.2.2.1) with
  | some y => sx_rin B.2.1 y g.2.2.2.2.1 g.2.2.2.2.2
  | none => false)
theorem sx_pw_ok (H : sx_E G J p B h) {g : sx_T} {c : sx_v} {i : Int} {x y : Int32} (hc : sx_n p c = some i) (hw : sx_pw B g c = true) (hx : sx_at h g.2.1.1 (g.2.1.2.1 + i) = some (.int x)) (h1 : g.2.1.2.2.1 ≤ x.toInt) (h2 : x.toInt ≤ g.2.1.2.2.2) (hy : sx_at h g.2.2.1 (g.2.2.2.1 + i) = some (.int y)) : g.2.2.2.2.1 ≤ y.toInt ∧ y.toInt ≤ g.2.2.2.2.2 := by
  rcases (Bool.or_eq_true _ _).mp hw with e | e
  · split at e
    · next u hu =>
      obtain ⟨v, v1, v2⟩ := sx_fj_ok H (sx_sh_n (c := g.2.1.2.1) hc) hu
      rw [Int.add_comm, hx] at v1
      cases v1
      exact absurd ⟨h1, h2⟩ (sx_rout_ok H.2.1 (sx_g_int v2) e)
    · cases e
  · split at e
    · next u hu =>
      obtain ⟨v, v1, v2⟩ := sx_fj_ok H (sx_sh_n (c := g.2.2.2.1) hc) hu
      rw [Int.add_comm, hy] at v1
      cases v1
      exact sx_rin_ok H.2.1 (sx_g_int v2) e
    · cases e
/-- a guard holds still when the place t of the cell k gets v -/
def sx_gk (gd : Nat → Option sx_T) (B : sx_B) (k : Nat) (t v : sx_v) (j : Nat) : Bool := match gd j with
  | some g => !Nat.beq g.1.1 g.2.1.1 && (!Nat.beq g.1.1 g.2.2.1 && (!Nat.beq g.2.1.1 g.2.2.1 && (!Nat.beq g.1.1 9999 &&
    (bif Nat.beq k g.2.1.1 then ((match sx_fj B g.1.1 (0, 0, g.1.2) with
      | some c => sx_ent B.2.1 B.2.2.1 2 (sx_sh c g.2.1.2.1) t
      | none => false) || sx_rout B.2.1 v g.2.1.2.2.1 g.2.1.2.2.2) else
    bif Nat.beq k g.2.2.1 then ((match sx_fj B g.1.1 (0, 0, g.1.2) with
      | some c => sx_ent B.2.1 B.2.2.1 2 (sx_sh c g.2.2.2.1) t
      | none => false) || sx_rin B.2.1 v g.2.2.2.2.1 g.2.2.2.2.2) else
    bif Nat.beq k g.1.1 then (match sx_r B.2.1 v, sx_fj B g.1.1 (0, 0, g.1.2) with
      | some r, some c => sx_ble r.2 0 || (sx_veq v (sx_sh c 1) && sx_pw B g c)
      | some r, none => sx_ble r.2 0
      | none, _ => false) else true))))
  | none => false
theorem sx_cnt_n (H : sx_E G J p B h) {g : sx_T} {c : sx_v} {y : Int} (h9 : g.1.1 ≠ 9999) (hf : sx_fj B g.1.1 (0, 0, g.1.2) = some c) (hc : sx_cnt h g.1 = some y) : sx_n p c = some y := by
  obtain ⟨v, v1, v2⟩ := sx_fj_ok H (i := g.1.2) rfl hf
  unfold sx_cnt at hc
  rw [show Nat.beq g.1.1 9999 = false by
    cases e : Nat.beq g.1.1 9999 with
    | false => rfl
    | true => exact absurd (Nat.eq_of_beq_eq_true e) h9, v1] at hc
  dsimp only [cond_false] at hc
  split at hc
  · next x e =>
    cases e
    cases hc
    exact sx_g_int v2
  · cases hc
theorem sx_cnt_eq {h h' : ri_H} {c : Nat × Int} (hh : sx_at h' c.1 c.2 = sx_at h c.1 c.2) : sx_cnt h' c = sx_cnt h c := by
  unfold sx_cnt
  rw [hh]
/-- a slot is written: ov without what may be it, copies without the cell, invariants that don't speak of it -/
def sx_wr (dp : sx_D) (B : sx_B) (k : Nat) (t v : sx_v) (a b : Int) : sx_B := (B.1.filter (fun o => !Nat.beq o.1 k || sx_dif B.2.1 o.2.1 t), B.2.1, B.2.2.1, B.2.2.2.1.filter (fun c => !Nat.beq c.1 k && !Nat.beq c.2 k), B.2.2.2.2.flatMap (fun j => bif sx_jk dp k a b j then [j] else dp.2.1 B k t v j))
theorem sx_nbeq {a b : Nat} (h : (!Nat.beq a b) = true) : a ≠ b := by
  rintro rfl
  rw [show Nat.beq a a = true from Nat.beq_eq.mpr rfl] at h
  cases h
theorem sx_gk_ok {gd : Nat → Option sx_T} (HG : sx_HG J gd) (H : sx_E G J p B h) {k j jj : Nat} {t tv : sx_v} {q : ri_C} {v : Value} (hn : sx_n p t = some (j : Int)) (hg : sx_g p tv v) (hk : h[k]? = some q) (hjl : j < q.2.length) (hs : sx_gk gd B k t tv jj = true) (hJ : J jj h) : J jj (h.set k (q.1, q.2.set j v)) := by
  unfold sx_gk at hs
  split at hs
  · next g hgd =>
    rw [HG jj g hgd] at hJ ⊢
    simp only [Bool.and_eq_true] at hs
    obtain ⟨n1, n2, n3, n4, hs⟩ := hs
    have n1 := sx_nbeq n1
    have n2 := sx_nbeq n2
    have n3 := sx_nbeq n3
    have n4 := sx_nbeq n4
    have hat : ∀ (k' : Nat) (i : Int), sx_at (h.set k (q.1, q.2.set j v)) k' i = if k' = k ∧ i = (j : Int) ∧ j < q.2.length then some v else sx_at h k' i := fun k' i => sx_at_set hk k' i
    intro c i x y hc h0 hi hx x1 x2 hy
    cases ka : Nat.beq k g.2.1.1 with
    | true =>
      have ka := Nat.eq_of_beq_eq_true ka
      rw [ka] at hat
      rw [show sx_cnt (h.set k (q.1, q.2.set j v)) g.1 = sx_cnt h g.1 from sx_cnt_eq (by rw [ka, hat, if_neg (fun hh => n1 hh.1)])] at hc
      rw [ka, hat, if_neg (fun hh => n3 hh.1.symm)] at hy
      rw [ka, hat] at hx
      rw [show Nat.beq k g.2.1.1 = true by rw [ka]; exact Nat.beq_eq.mpr rfl] at hs
      dsimp only [cond_true] at hs
      by_cases e : g.2.1.2.1 + i = (j : Int)
      · rw [if_pos ⟨rfl, e, hjl⟩] at hx
        cases hx
        rcases (Bool.or_eq_true _ _).mp hs with s | s
        · split at s
          · next c' hc' =>
            have c1 := sx_cnt_n H n4 hc' hc
            have := sx_ent_ok H.2.1 H.2.2.1 (sx_sh_n (c := g.2.1.2.1) c1) hn s
            omega
          · cases s
        · exact absurd ⟨x1, x2⟩ (sx_rout_ok H.2.1 (sx_g_int hg) s)
      · rw [if_neg (fun hh => e hh.2.1)] at hx
        exact hJ c i x y hc h0 hi hx x1 x2 hy
    | false =>
      rw [ka] at hs
      have ka : k ≠ g.2.1.1 := fun e => by rw [Nat.beq_eq.mpr e] at ka; cases ka
      dsimp only [cond_false] at hs
      rw [hat, if_neg (fun hh => ka hh.1.symm)] at hx
      cases kb : Nat.beq k g.2.2.1 with
      | true =>
        rw [kb] at hs
        have kb := Nat.eq_of_beq_eq_true kb
        dsimp only [cond_true] at hs
        rw [show sx_cnt (h.set k (q.1, q.2.set j v)) g.1 = sx_cnt h g.1 from sx_cnt_eq (by rw [hat, if_neg (fun hh => n2 (hh.1.trans kb))])] at hc
        rw [hat] at hy
        by_cases e : g.2.2.2.1 + i = (j : Int)
        · rw [if_pos ⟨kb.symm, e, hjl⟩] at hy
          cases hy
          rcases (Bool.or_eq_true _ _).mp hs with s | s
          · split at s
            · next c' hc' =>
              have c1 := sx_cnt_n H n4 hc' hc
              have := sx_ent_ok H.2.1 H.2.2.1 (sx_sh_n (c := g.2.2.2.1) c1) hn s
              omega
            · cases s
          · exact sx_rin_ok H.2.1 (sx_g_int hg) s
        · rw [if_neg (fun hh => e hh.2.1)] at hy
          exact hJ c i x y hc h0 hi hx x1 x2 hy
      | false =>
        rw [kb] at hs
        have kb : k ≠ g.2.2.1 := fun e => by rw [Nat.beq_eq.mpr e] at kb; cases kb
        dsimp only [cond_false] at hs
        rw [hat, if_neg (fun hh => kb hh.1.symm)] at hy
        cases kc : Nat.beq k g.1.1 with
        | true =>
          rw [kc] at hs
          have kc := Nat.eq_of_beq_eq_true kc
          dsimp only [cond_true] at hs
          by_cases e : g.1.2 = (j : Int)
          · have hc2 : ∃ z : Int32, v = .int z ∧ z.toInt = c := by
              unfold sx_cnt at hc
              rw [show Nat.beq g.1.1 9999 = false by
                cases e : Nat.beq g.1.1 9999 with
                | false => rfl
                | true => exact absurd (Nat.eq_of_beq_eq_true e) n4, hat, if_pos ⟨kc.symm, e, hjl⟩] at hc
              dsimp only [cond_false] at hc
              split at hc
              · next z ez =>
                cases ez
                exact ⟨z, rfl, Option.some.inj hc⟩
              · cases hc
            obtain ⟨z, rfl, hz⟩ := hc2
            have hv := sx_g_int hg
            split at hs
            · next r c' hr hc' =>
              have hrr := sx_r_at H.2.1 hr hv
              rcases (Bool.or_eq_true _ _).mp hs with s | s
              · have := sx_ble_iff.mp s
                omega
              · simp only [Bool.and_eq_true] at s
                obtain ⟨w, w1, w2⟩ := sx_fj_ok H (i := g.1.2) rfl hc'
                have s1 := sx_veq_ok s.1
                rw [s1] at hv
                -- the count before
                have hcn : ∃ u : Int, sx_n p c' = some u := by
                  obtain ⟨r', hr', -⟩ := sx_r_of H.2.1 hv
                  have : c'.1 = 0 ∨ c'.1 = 1 := sx_n_tag (a := sx_sh c' 1) hv
                  rcases this with e0 | e1
                  · exact ⟨c'.2.2, by unfold sx_n; rw [e0]; rfl⟩
                  · obtain ⟨u, hu, -⟩ := sx_n1 (a := sx_sh c' 1) e1 hv
                    refine ⟨u + c'.2.2, ?_⟩
                    unfold sx_n
                    rw [e1]
                    show (match p[c'.2.1]? with
                      | some y => some (y + c'.2.2)
                      | none => none) = _
                    rw [show p[c'.2.1]? = some u from hu]
                obtain ⟨u, hu⟩ := hcn
                have hz2 : z.toInt = u + 1 := by
                  rw [sx_sh_n hu] at hv
                  exact (Option.some.inj hv).symm
                obtain ⟨X, rfl, hX⟩ := sx_g_n hu w2
                by_cases ei : i = u
                · subst ei
                  exact sx_pw_ok H hu s.2 hx x1 x2 hy
                · refine hJ u i x y ?_ h0 (by omega) hx x1 x2 hy
                  unfold sx_cnt
                  rw [show Nat.beq g.1.1 9999 = false by
                    cases e : Nat.beq g.1.1 9999 with
                    | false => rfl
                    | true => exact absurd (Nat.eq_of_beq_eq_true e) n4, w1]
                  show some X.toInt = some u
                  rw [hX]
            · next r hr hno =>
              have hrr := sx_r_at H.2.1 hr hv
              have := sx_ble_iff.mp hs
              omega
            · cases hs
          · rw [show sx_cnt (h.set k (q.1, q.2.set j v)) g.1 = sx_cnt h g.1 from sx_cnt_eq (by rw [hat, if_neg (fun hh => e hh.2.1)])] at hc
            exact hJ c i x y hc h0 hi hx x1 x2 hy
        | false =>
          have kc : k ≠ g.1.1 := fun e => by rw [Nat.beq_eq.mpr e] at kc; cases kc
          rw [show sx_cnt (h.set k (q.1, q.2.set j v)) g.1 = sx_cnt h g.1 from sx_cnt_eq (by rw [hat, if_neg (fun hh => kc hh.1.symm)])] at hc
          exact hJ c i x y hc h0 hi hx x1 x2 hy
  · cases hs
theorem sx_wr_ok {dp : sx_D} (HJ : sx_HJ G J dp) (H : sx_E G J p B h) {k j : Nat} {t tv : sx_v} {a b : Int} {c : Nat × sx_R} {q : ri_C} {w : Nat × Int × Int} {v : Value} (hn : sx_n p t = some (j : Int)) (hg : sx_g p tv v) (hr : sx_r B.2.1 t = some (a, b)) (hc : G[k]? = some c) (hk : h[k]? = some q) (hw : sx_run c.2 j = some w) (hv : sx_slot w v) :
    sx_E G J p (sx_wr dp B k t tv a b) (h.set k (q.1, q.2.set j v)) ∧ sx_at (h.set k (q.1, q.2.set j v)) k (j : Int) = some v ∧ ∀ (k' : Nat) (i : Int), ¬ (k' = k ∧ i = (j : Int)) → sx_at (h.set k (q.1, q.2.set j v)) k' i = sx_at h k' i := by
  have hI := H.2.2.2.2.2
  have hjl : j < q.2.length := by
    obtain ⟨vs, h1, h2, -⟩ := hI k c hc
    rw [hk] at h1
    cases h1
    show j < vs.length
    rw [h2]
    exact sx_run_lt hw
  have hfr : ∀ (k' : Nat) (i : Int), ¬ (k' = k ∧ i = (j : Int)) → sx_at (h.set k (q.1, q.2.set j v)) k' i = sx_at h k' i := fun k' i hne => by
    rw [sx_at_set hk, if_neg (fun hh => hne ⟨hh.1, hh.2.1⟩)]
  have hab := sx_r_at H.2.1 hr hn
  refine ⟨⟨fun o ho => ?_, H.2.1, H.2.2.1, fun cc hcc => ?_, fun jj hjj => ?_, hI.set hc hk hw hv⟩, by rw [sx_at_set hk, if_pos ⟨rfl, rfl, hjl⟩], hfr⟩
  · obtain ⟨o1, o2⟩ := List.mem_filter.mp ho
    obtain ⟨i, x, h1, h2, h3⟩ := H.1 o o1
    refine ⟨i, x, h1, ?_, h3⟩
    rw [hfr o.1 i ?_]
    · exact h2
    · rintro ⟨e1, e2⟩
      rcases (Bool.or_eq_true _ _).mp o2 with o2 | o2
      · exact sx_nbeq o2 e1
      · exact sx_dif_ok H.2.1 h1 hn o2 e2
  · obtain ⟨c1, c2⟩ := List.mem_filter.mp hcc
    obtain ⟨q1, r1, h1, h2, h3⟩ := H.2.2.2.1 cc c1
    simp only [Bool.and_eq_true] at c2
    exact ⟨q1, r1, by rw [List.getElem?_set_ne (fun e => sx_nbeq c2.1 e.symm)]; exact h1, by rw [List.getElem?_set_ne (fun e => sx_nbeq c2.2 e.symm)]; exact h2, h3⟩
  · obtain ⟨j0, j1, j2⟩ := List.mem_flatMap.mp hjj
    cases hb : sx_jk dp k a b j0 with
    | true =>
      rw [hb] at j2
      have e : jj = j0 := List.mem_singleton.mp j2
      rw [e]
      exact sx_jk_ok HJ hb (fun k' i hne => hfr k' i (fun hh => hne ⟨hh.1, by have := hh.2; dsimp only at hab; omega⟩)) (H.2.2.2.2.1 j0 j1)
    | false =>
      rw [hb] at j2
      exact HJ.2.1 _ _ _ _ _ _ _ _ _ _ _ H hn hg hk hjl j2 (H.2.2.2.2.1 j0 j1)
def sx_sto (G : sx_G) (dp : sx_D) (B : sx_B) (k : Nat) (t v : sx_v) : Option sx_B := match G[k]?, sx_r B.2.1 t with
  | some c, some r => bif sx_ble 0 r.1 then (match sx_r B.2.1 v with
    | some u => bif sx_inn c.2 r.1.toNat r.2.toNat 0 u.1 u.2 then some ((k, sx_nm B.2.1 t, v) :: (sx_wr dp B k t v r.1 r.2).1, (sx_wr dp B k t v r.1 r.2).2) else none
    | none => bif Nat.beq v.1 3 && sx_inn c.2 r.1.toNat r.2.toNat 1 0 0 then some (sx_wr dp B k t v r.1 r.2) else none) else none
  | _, _ => none
theorem sx_sto_ok {dp : sx_D} (HJ : sx_HJ G J dp) (H : sx_E G J p B h) {k : Nat} {t v : sx_v} {i : Int} {x : Value} (hn : sx_n p t = some i) (hx : sx_g p v x) (hs : sx_sto G dp B k t v = some B') :
    ∃ (j : Nat) (q : ri_C) (c : Nat × sx_R), i = (j : Int) ∧ G[k]? = some c ∧ h[k]? = some q ∧ q.1 = c.1 ∧ j < q.2.length ∧ sx_E G J p B' (h.set k (q.1, q.2.set j x)) ∧ ∀ (k' : Nat) (i' : Int), ¬ (k' = k ∧ i' = i) → sx_at (h.set k (q.1, q.2.set j x)) k' i' = sx_at h k' i' := by
  unfold sx_sto at hs
  split at hs
  · next c r hc hr =>
    have hi := sx_r_at H.2.1 hr hn
    cases h0 : sx_ble 0 r.1 with
    | false => rw [h0] at hs; cases hs
    | true =>
      rw [h0] at hs
      have h0 := sx_ble_iff.mp h0
      dsimp only [cond_true] at hs
      obtain ⟨vs, g1, g2, g3⟩ := H.2.2.2.2.2 k c hc
      have ej : i = (i.toNat : Int) := by omega
      have fin : ∀ {tg : Nat} {lo hi : Int}, sx_inn c.2 r.1.toNat r.2.toNat tg lo hi = true → (∀ w : Nat × Int × Int, w.1 = tg → w.2.1 ≤ lo → hi ≤ w.2.2 → sx_slot w x) → i.toNat < vs.length ∧ sx_E G J p (sx_wr dp B k t v r.1 r.2) (h.set k (c.1, vs.set i.toNat x)) ∧ sx_at (h.set k (c.1, vs.set i.toNat x)) k i = some x ∧ ∀ (k' : Nat) (i' : Int), ¬ (k' = k ∧ i' = i) → sx_at (h.set k (c.1, vs.set i.toNat x)) k' i' = sx_at h k' i' := by
        intro tg lo hi hin hsl
        obtain ⟨w, w1, w2, w3, w4⟩ := sx_inn_ok _ _ _ _ _ _ hin i.toNat (by omega) (by omega)
        have := sx_wr_ok HJ H (k := k) (j := i.toNat) (t := t) (a := r.1) (b := r.2) (c := c) (q := (c.1, vs)) (v := x) (tv := v) (by rw [← ej]; exact hn) hx hr hc g1 w1 (hsl w w2 w3 w4)
        rw [← ej] at this
        exact ⟨by rw [g2]; exact sx_run_lt w1, this⟩
      split at hs
      · next u hu =>
        cases hin : sx_inn c.2 r.1.toNat r.2.toNat 0 u.1 u.2 with
        | false => rw [hin] at hs; cases hs
        | true =>
          rw [hin] at hs
          cases hs
          obtain ⟨y, y1, y2, y3⟩ := sx_r_ok H.2.1 hu
          obtain ⟨z, rfl, z2⟩ := sx_g_n y1 hx
          obtain ⟨f1, f2, f3, f4⟩ := fin hin (fun w w1 w2 w3 => by unfold sx_slot; rw [w1]; exact ⟨z, rfl, by omega, by omega⟩)
          exact ⟨i.toNat, (c.1, vs), c, ej, hc, g1, rfl, f1, f2.slot ⟨i, .int z, sx_nm_n H.2.1 hn, f3, hx⟩, f4⟩
      · cases hin : (Nat.beq v.1 3 && sx_inn c.2 r.1.toNat r.2.toNat 1 0 0) with
        | false => rw [hin] at hs; cases hs
        | true =>
          rw [hin] at hs
          cases hs
          simp only [Bool.and_eq_true] at hin
          have e3 : v.1 = 3 := Nat.eq_of_beq_eq_true hin.1
          unfold sx_g at hx
          rw [e3] at hx
          obtain ⟨z, rfl⟩ := hx
          obtain ⟨f1, f2, f3, f4⟩ := fin hin.2 (fun w w1 w2 w3 => by unfold sx_slot; rw [w1]; exact ⟨z, rfl⟩)
          exact ⟨i.toNat, (c.1, vs), c, ej, hc, g1, rfl, f1, f2, f4⟩
  · cases hs
/-- a slot that was read, cut by the guards -/
def sx_lg (gd : Nat → Option sx_T) (k : Nat) (t v : sx_v) : List Nat → sx_B → sx_B
  | [], B => B
  | j :: js, B => sx_lg gd k t v js (match gd j with
    | some g => bif Nat.beq k g.2.2.1 then (match sx_r B.2.1 t, sx_fj B g.2.1.1 (sx_sh t (g.2.1.2.1 - g.2.2.2.1)) with
      | some r, some x => bif sx_ble g.2.2.2.1 r.1 && (sx_rin B.2.1 x g.2.1.2.2.1 g.2.1.2.2.2 && (bif Nat.beq g.1.1 9999 then sx_ble r.2 g.2.2.2.1 else match sx_fj B g.1.1 (0, 0, g.1.2) with
        | some c => sx_ent B.2.1 B.2.2.1 4 (sx_sh t (1 - g.2.2.2.1)) c
        | none => false)) then (B.1, sx_cl (sx_cu B.2.1 v g.2.2.2.2.2) v g.2.2.2.2.1, B.2.2) else B
      | _, _ => B) else B
    | none => B)
theorem sx_lg_ok {gd : Nat → Option sx_T} (HG : sx_HG J gd) {k : Nat} {t v : sx_v} {i : Int} {x : Value} (hn : sx_n p t = some i) (hx : sx_at h k i = some x) (hv : sx_g p v x) : ∀ {js : List Nat} {B : sx_B}, sx_E G J p B h → (∀ j ∈ js, J j h) → sx_E G J p (sx_lg gd k t v js B) h
  | [], _, H, _ => H
  | j :: js, B, H, hj => by
    unfold sx_lg
    refine sx_lg_ok HG hn hx hv ?_ (fun j' hj' => hj j' (List.mem_cons_of_mem _ hj'))
    split
    · next g hg =>
      cases kb : Nat.beq k g.2.2.1 with
      | false => exact H
      | true =>
        have kb := Nat.eq_of_beq_eq_true kb
        dsimp only [cond_true]
        split
        · next r u hr hu =>
          cases hb : (sx_ble g.2.2.2.1 r.1 && (sx_rin B.2.1 u g.2.1.2.2.1 g.2.1.2.2.2 && (bif Nat.beq g.1.1 9999 then sx_ble r.2 g.2.2.2.1 else match sx_fj B g.1.1 (0, 0, g.1.2) with
            | some c => sx_ent B.2.1 B.2.2.1 4 (sx_sh t (1 - g.2.2.2.1)) c
            | none => false))) with
          | false => exact H
          | true =>
            simp only [Bool.and_eq_true, sx_ble_iff] at hb
            obtain ⟨b1, b2, b3⟩ := hb
            have hri := sx_r_at H.2.1 hr hn
            obtain ⟨w, w1, w2⟩ := sx_fj_ok H (sx_sh_n (c := g.2.1.2.1 - g.2.2.2.1) hn) hu
            have hgh := (HG j g hg h).mp (hj j List.mem_cons_self)
            unfold sx_rin at b2
            split at b2
            · next ru hru =>
              obtain ⟨yu, yu1, yu2, yu3⟩ := sx_r_ok H.2.1 hru
              obtain ⟨X, rfl, hX⟩ := sx_g_n yu1 w2
              simp only [Bool.and_eq_true, sx_ble_iff] at b2
              -- the value read
              cases hvv : sx_r B.2.1 v with
              | none =>
                have e1 : sx_cu B.2.1 v g.2.2.2.2.2 = B.2.1 := by
                  unfold sx_cu
                  split
                  · next e =>
                    split
                    · next tt ht =>
                      have hvs : sx_r B.2.1 v = some (tt.1 + v.2.2, tt.2 + v.2.2) := by
                        unfold sx_r
                        rw [e]
                        show (match B.2.1[v.2.1]? with
                          | some t => some (t.1 + v.2.2, t.2 + v.2.2)
                          | none => none) = _
                        rw [ht]
                      rw [hvs] at hvv
                      cases hvv
                    · rfl
                  · rfl
                have e2 : sx_cl B.2.1 v g.2.2.2.2.1 = B.2.1 := by
                  unfold sx_cl
                  split
                  · next e =>
                    split
                    · next tt ht =>
                      have hvs : sx_r B.2.1 v = some (tt.1 + v.2.2, tt.2 + v.2.2) := by
                        unfold sx_r
                        rw [e]
                        show (match B.2.1[v.2.1]? with
                          | some t => some (t.1 + v.2.2, t.2 + v.2.2)
                          | none => none) = _
                        rw [ht]
                      rw [hvs] at hvv
                      cases hvv
                    · rfl
                  · rfl
                rw [cond_true, e1, e2]
                exact H
              | some rv =>
                obtain ⟨yv, yv1, -⟩ := sx_r_ok H.2.1 hvv
                obtain ⟨Y, rfl, hY⟩ := sx_g_n yv1 hv
                have hcn : ∃ c, sx_cnt h g.1 = some c ∧ i - g.2.2.2.1 < c := by
                  cases h9 : Nat.beq g.1.1 9999 with
                  | true =>
                    rw [h9] at b3
                    have b3 := sx_ble_iff.mp b3
                    refine ⟨1, by unfold sx_cnt; rw [h9]; rfl, by omega⟩
                  | false =>
                    rw [h9] at b3
                    dsimp only [cond_false] at b3
                    split at b3
                    · next c hc =>
                      obtain ⟨wc, wc1, wc2⟩ := sx_fj_ok H (i := g.1.2) rfl hc
                      have hrc : ∃ yc, sx_n p c = some yc := by
                        have : c.1 = 0 ∨ c.1 = 1 ∨ 2 ≤ c.1 := by omega
                        rcases this with e0 | e0 | e0
                        · exact ⟨c.2.2, by unfold sx_n; rw [e0]; rfl⟩
                        · unfold sx_g at wc2
                          rw [e0] at wc2
                          obtain ⟨z, -, hz⟩ := wc2
                          exact ⟨_, hz⟩
                        · exfalso
                          have hf : sx_ent B.2.1 B.2.2.1 4 (sx_sh t (1 - g.2.2.2.1)) c = true → False := by
                            have hen0 : ∀ x : sx_v, sx_en0 B.2.1 x c = false := fun x => by
                              unfold sx_en0
                              have e1 : sx_r B.2.1 c = none := by
                                unfold sx_r
                                split
                                · next e => omega
                                · next e => omega
                                · rfl
                              have e2 : Nat.beq c.1 1 = false := by
                                cases e : Nat.beq c.1 1 with
                                | false => rfl
                                | true => have := Nat.eq_of_beq_eq_true e; omega
                              rw [e1, e2]
                              cases sx_r B.2.1 x <;> simp
                            have hall : ∀ (n : Nat) (x : sx_v), sx_ent B.2.1 B.2.2.1 n x c = false := by
                              intro n
                              induction n with
                              | zero => intro x; exact hen0 x
                              | succ n ih =>
                                intro x
                                unfold sx_ent
                                rw [hen0 x]
                                simp only [ih, Bool.and_false, Bool.false_or]
                                exact List.any_eq_false.mpr (fun _ _ => by simp)
                            rw [hall]
                            intro hh
                            cases hh
                          exact hf b3
                      obtain ⟨yc, hyc⟩ := hrc
                      have hle := sx_ent_ok H.2.1 H.2.2.1 (sx_sh_n (c := 1 - g.2.2.2.1) hn) hyc b3
                      obtain ⟨Z, rfl, hZ⟩ := sx_g_n hyc wc2
                      refine ⟨yc, ?_, by omega⟩
                      unfold sx_cnt
                      rw [h9, wc1]
                      show some Z.toInt = some yc
                      rw [hZ]
                    · cases b3
                obtain ⟨c, c1, c2⟩ := hcn
                have hfin := hgh c (i - g.2.2.2.1) X Y c1 (by omega) c2 (by rw [show g.2.1.2.1 + (i - g.2.2.2.1) = i + (g.2.1.2.1 - g.2.2.2.1) by omega]; exact w1) (by omega) (by omega) (by rw [show g.2.2.2.1 + (i - g.2.2.2.1) = i by omega, ← kb]; exact hx)
                have hvn := sx_g_int hv
                exact ⟨H.1, sx_cl_ok (sx_cu_ok H.2.1 hvn hfin.2) hvn hfin.1, H.2.2⟩
            · cases b2
        · exact H
    · exact H
def sx_ldg (G : sx_G) (dp : sx_D) (B : sx_B) (k : Nat) (t : sx_v) : Option (sx_B × sx_v) := match sx_ld G B k t with
  | some q => some (dp.2.2.1 q.1 k t q.2, q.2)
  | none => none
theorem sx_ldg_ok {dp : sx_D} (HJ : sx_HJ G J dp) (H : sx_E G J p B h) {k : Nat} {t v : sx_v} {i : Int} (hn : sx_n p t = some i) (hs : sx_ldg G dp B k t = some (B', v)) : ∃ e x, sx_E G J (p ++ e) B' h ∧ sx_at h k i = some x ∧ sx_g (p ++ e) v x := by
  unfold sx_ldg at hs
  split at hs
  · next q hq =>
    cases hs
    obtain ⟨e, x, h1, h2, h3⟩ := sx_ld_ok H hn hq
    exact ⟨e, x, HJ.2.2.1 _ _ _ _ _ _ _ _ h1 (sx_n_ext e hn) h2 h3, h2, h3⟩
  · cases hs
end SXB
