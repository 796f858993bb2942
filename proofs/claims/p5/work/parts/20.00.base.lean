/-! Symbolic states over the abstract machine: a term is (0, _, c) the int c, (1, s, c) the named int s and c, (2, k, _) the cell k, (3, ..) any long, (4, ..) null, (5, n, _) a table that was there before -/
abbrev sx_v : Type := Nat × Nat × Int
abbrev sx_I : Type := List (Int × Int)
abbrev sx_Ov : Type := List (Nat × sx_v × sx_v)
abbrev sx_Fc : Type := List (Nat × sx_v × sx_v × sx_v)
/-- what is known beside locals and stack: slots, intervals of the names, facts, copies, invariants -/
abbrev sx_B : Type := sx_Ov × sx_I × sx_Fc × List (Nat × Nat) × List Nat
abbrev sx_A : Type := List (Nat × sx_v) × List sx_v × sx_B
def sx_ble (a b : Int) : Bool := match b - a with
  | .ofNat _ => true
  | .negSucc _ => false
theorem sx_ble_iff {a b : Int} : sx_ble a b = true ↔ a ≤ b := by
  unfold sx_ble
  split
  · next n e =>
    have e1 : b - a = (n : Int) := e
    exact ⟨fun _ => (by omega), fun _ => rfl⟩
  · next n e =>
    have e1 : b - a = -((n : Int) + 1) := e.trans (Int.negSucc_eq n)
    exact ⟨fun h => (by cases h), fun h => (by omega)⟩
theorem sx_ble_no {a b : Int} (h : sx_ble a b = false) : b < a := by
  apply Int.not_le.mp
  intro h1
  rw [sx_ble_iff.mpr h1] at h
  cases h
def sx_beq (a b : Int) : Bool := match b - a with
  | .ofNat n => Nat.beq n 0
  | .negSucc _ => false
theorem sx_beq_ok {a b : Int} (h : sx_beq a b = true) : a = b := by
  unfold sx_beq at h
  split at h
  · next n e =>
    have := Nat.eq_of_beq_eq_true h
    subst this
    have e1 : b - a = ((0 : Nat) : Int) := e
    omega
  · cases h
theorem sx_beq_no {a b : Int} (h : sx_beq a b = false) : a ≠ b := by
  rintro rfl
  unfold sx_beq at h
  rw [Int.sub_self] at h
  cases h
def sx_min (a b : Int) : Int := bif sx_ble a b then a else b
def sx_max (a b : Int) : Int := bif sx_ble a b then b else a
theorem sx_min_l (a b : Int) : sx_min a b ≤ a ∧ sx_min a b ≤ b := by
  unfold sx_min
  cases e : sx_ble a b with
  | true => have := sx_ble_iff.mp e; exact ⟨Int.le_refl _, this⟩
  | false => have := sx_ble_no e; exact ⟨by show b ≤ a; omega, Int.le_refl _⟩
theorem sx_max_l (a b : Int) : a ≤ sx_max a b ∧ b ≤ sx_max a b := by
  unfold sx_max
  cases e : sx_ble a b with
  | true => have := sx_ble_iff.mp e; exact ⟨this, Int.le_refl _⟩
  | false => have := sx_ble_no e; exact ⟨Int.le_refl _, by show b ≤ a; omega⟩
theorem sx_min_g {a b c : Int} (h1 : c ≤ a) (h2 : c ≤ b) : c ≤ sx_min a b := by
  unfold sx_min
  cases sx_ble a b with
  | true => exact h1
  | false => exact h2
theorem sx_max_g {a b c : Int} (h1 : a ≤ c) (h2 : b ≤ c) : sx_max a b ≤ c := by
  unfold sx_max
  cases sx_ble a b with
  | true => exact h2
  | false => exact h1
def sx_veq (a b : sx_v) : Bool := Nat.beq a.1 b.1 && (Nat.beq a.2.1 b.2.1 && sx_beq a.2.2 b.2.2)
theorem sx_veq_ok {a b : sx_v} (h : sx_veq a b = true) : a = b := by
  unfold sx_veq at h
  simp only [Bool.and_eq_true] at h
  obtain ⟨a1, a2, a3⟩ := a
  obtain ⟨b1, b2, b3⟩ := b
  have e1 : a1 = b1 := Nat.eq_of_beq_eq_true h.1
  have e2 : a2 = b2 := Nat.eq_of_beq_eq_true h.2.1
  have e3 : a3 = b3 := sx_beq_ok h.2.2
  rw [e1, e2, e3]
/-- the number that a term is -/
def sx_n (p : List Int) (a : sx_v) : Option Int := match a.1 with
  | 0 => some a.2.2
  | 1 => match p[a.2.1]? with
    | some y => some (y + a.2.2)
    | none => none
  | _ => none
/-- what a term says of a value -/
def sx_g (p : List Int) (a : sx_v) (v : Value) : Prop := match a.1 with
  | 0 => ∃ x : Int32, v = .int x ∧ sx_n p a = some x.toInt
  | 1 => ∃ x : Int32, v = .int x ∧ sx_n p a = some x.toInt
  | 2 => v = .ref a.2.1
  | 3 => ∃ x : Int64, v = .long x
  | 4 => v = .null
  | 5 => v = .retAddr a.2.1
  | _ => False
theorem sx_n_tag {p : List Int} {a : sx_v} {y : Int} (h : sx_n p a = some y) : a.1 = 0 ∨ a.1 = 1 := by
  unfold sx_n at h
  split at h
  · next e => exact Or.inl e
  · next e => exact Or.inr e
  · cases h
theorem sx_n1 {p : List Int} {a : sx_v} {y : Int} (e : a.1 = 1) (h : sx_n p a = some y) : ∃ z, p[a.2.1]? = some z ∧ y = z + a.2.2 := by
  have h : (match p[a.2.1]? with
    | some y => some (y + a.2.2)
    | none => none) = some y := by
    unfold sx_n at h
    rw [e] at h
    exact h
  split at h
  · next z hz => exact ⟨z, hz, (Option.some.inj h).symm⟩
  · cases h
theorem sx_g_n {p : List Int} {a : sx_v} {y : Int} {v : Value} (h : sx_n p a = some y) (hg : sx_g p a v) : ∃ x : Int32, v = .int x ∧ x.toInt = y := by
  unfold sx_g at hg
  rcases sx_n_tag h with e | e <;> rw [e] at hg <;> obtain ⟨x, h1, h2⟩ := hg <;> rw [h] at h2 <;> exact ⟨x, h1, (Option.some.inj h2).symm⟩
theorem sx_g_of {p : List Int} {a : sx_v} {x : Int32} (h : sx_n p a = some x.toInt) : sx_g p a (.int x) := by
  unfold sx_g
  rcases sx_n_tag h with e | e <;> rw [e] <;> exact ⟨x, rfl, h⟩
theorem sx_g_int {p : List Int} {a : sx_v} {x : Int32} (h : sx_g p a (.int x)) : sx_n p a = some x.toInt := by
  unfold sx_g at h
  split at h
  · obtain ⟨y, h1, h2⟩ := h; cases h1; exact h2
  · obtain ⟨y, h1, h2⟩ := h; cases h1; exact h2
  · cases h
  · obtain ⟨y, h1⟩ := h; cases h1
  · cases h
  · cases h
  · exact h.elim
theorem sx_g_isn {p : List Int} {a : sx_v} {v : Value} (h : Nat.ble a.1 1 = true) (hg : sx_g p a v) : ∃ x : Int32, v = .int x ∧ sx_n p a = some x.toInt := by
  have h := Nat.ble_eq.mp h
  unfold sx_g at hg
  match e : a.1, h with
  | 0, _ => rw [e] at hg; exact hg
  | 1, _ => rw [e] at hg; exact hg
  | n + 2, h => omega
theorem sx_ap {α : Type} {l : List α} {s : Nat} {y : α} (e : List α) (h : l[s]? = some y) : (l ++ e)[s]? = some y := by
  rw [List.getElem?_append_left (List.getElem?_eq_some_iff.mp h).1]
  exact h
theorem sx_n_ext {p : List Int} {a : sx_v} {y : Int} (e : List Int) (h : sx_n p a = some y) : sx_n (p ++ e) a = some y := by
  unfold sx_n at h ⊢
  split at h
  · exact h
  · split at h
    · next hp => rw [sx_ap e hp]; exact h
    · cases h
  · cases h
theorem sx_g_ext {p : List Int} {a : sx_v} {v : Value} (e : List Int) (h : sx_g p a v) : sx_g (p ++ e) a v := by
  unfold sx_g at h ⊢
  split at h
  · obtain ⟨x, h1, h2⟩ := h; exact ⟨x, h1, sx_n_ext e h2⟩
  · obtain ⟨x, h1, h2⟩ := h; exact ⟨x, h1, sx_n_ext e h2⟩
  · exact h
  · exact h
  · exact h
  · exact h
  · exact h
def sx_ct (a : sx_v) : Nat := bif Nat.beq a.1 3 then 2 else 1
theorem sx_g_cat {p : List Int} {a : sx_v} {v : Value} (h : sx_g p a v) : v.category = sx_ct a := by
  unfold sx_g at h
  unfold sx_ct
  split at h
  · next e => obtain ⟨x, rfl, -⟩ := h; rw [e]; rfl
  · next e => obtain ⟨x, rfl, -⟩ := h; rw [e]; rfl
  · next e => rw [h, e]; rfl
  · next e => obtain ⟨x, rfl⟩ := h; rw [e]; rfl
  · next e => rw [h, e]; rfl
  · next e => rw [h, e]; rfl
  · exact h.elim
/-- intervals hold of numbers -/
def sx_P : sx_I → List Int → Prop
  | [], [] => True
  | t :: iv, y :: p => (t.1 ≤ y ∧ y ≤ t.2) ∧ sx_P iv p
  | _, _ => False
theorem sx_P.len : ∀ {iv : sx_I} {p : List Int}, sx_P iv p → iv.length = p.length
  | [], [], _ => rfl
  | _ :: _, _ :: _, h => by rw [List.length_cons, List.length_cons, sx_P.len h.2]
  | [], _ :: _, h => h.elim
  | _ :: _, [], h => h.elim
theorem sx_P.get : ∀ {iv : sx_I} {p : List Int} {s : Nat} {y : Int}, sx_P iv p → p[s]? = some y → ∃ t, iv[s]? = some t ∧ t.1 ≤ y ∧ y ≤ t.2
  | [], [], _, _, _, h => by simp at h
  | t :: _, z :: _, 0, y, h, h1 => by
    simp only [List.getElem?_cons_zero, Option.some.injEq] at h1
    subst h1
    exact ⟨t, rfl, h.1⟩
  | _ :: iv, _ :: p, s + 1, y, h, h1 => by
    simp only [List.getElem?_cons_succ] at h1 ⊢
    exact sx_P.get h.2 h1
  | [], _ :: _, _, _, h, _ => h.elim
  | _ :: _, [], _, _, h, _ => h.elim
theorem sx_P.get' : ∀ {iv : sx_I} {p : List Int} {s : Nat} {t : Int × Int}, sx_P iv p → iv[s]? = some t → ∃ y, p[s]? = some y ∧ t.1 ≤ y ∧ y ≤ t.2
  | [], [], _, _, _, h => by simp at h
  | t :: _, z :: _, 0, _, h, h1 => by
    simp only [List.getElem?_cons_zero, Option.some.injEq] at h1
    subst h1
    exact ⟨z, rfl, h.1⟩
  | _ :: iv, _ :: p, s + 1, _, h, h1 => by
    simp only [List.getElem?_cons_succ] at h1 ⊢
    exact sx_P.get' h.2 h1
  | [], _ :: _, _, _, h, _ => h.elim
  | _ :: _, [], _, _, h, _ => h.elim
theorem sx_P.app : ∀ {iv : sx_I} {p : List Int} {iv2 : sx_I} {p2 : List Int}, sx_P iv p → sx_P iv2 p2 → sx_P (iv ++ iv2) (p ++ p2)
  | [], [], _, _, _, h => h
  | _ :: _, _ :: _, _, _, h, h2 => ⟨h.1, sx_P.app h.2 h2⟩
  | [], _ :: _, _, _, h, _ => h.elim
  | _ :: _, [], _, _, h, _ => h.elim
theorem sx_P.set : ∀ {iv : sx_I} {p : List Int} {s : Nat} {y : Int} {t : Int × Int}, sx_P iv p → p[s]? = some y → t.1 ≤ y → y ≤ t.2 → sx_P (iv.set s t) p
  | [], [], _, _, _, _, h, _, _ => by simp at h
  | _ :: _, z :: _, 0, y, t, h, h1, h2, h3 => by
    simp only [List.getElem?_cons_zero, Option.some.injEq] at h1
    subst h1
    exact ⟨⟨h2, h3⟩, h.2⟩
  | _ :: _, _ :: _, s + 1, _, _, h, h1, h2, h3 => by
    simp only [List.getElem?_cons_succ] at h1
    exact ⟨h.1, sx_P.set h.2 h1 h2 h3⟩
  | [], _ :: _, _, _, _, h, _, _, _ => h.elim
  | _ :: _, [], _, _, _, h, _, _, _ => h.elim
/-- a term's interval -/
def sx_r (iv : sx_I) (a : sx_v) : Option (Int × Int) := match a.1 with
  | 0 => some (a.2.2, a.2.2)
  | 1 => match iv[a.2.1]? with
    | some t => some (t.1 + a.2.2, t.2 + a.2.2)
    | none => none
  | _ => none
theorem sx_r_of {iv : sx_I} {p : List Int} {a : sx_v} {y : Int} (h : sx_P iv p) (hn : sx_n p a = some y) : ∃ t, sx_r iv a = some t ∧ t.1 ≤ y ∧ y ≤ t.2 := by
  unfold sx_n at hn
  unfold sx_r
  split at hn
  · next e => cases hn; exact ⟨_, rfl, Int.le_refl _, Int.le_refl _⟩
  · next e =>
    split at hn
    · next z hz =>
      cases hn
      obtain ⟨t, h1, h2, h3⟩ := h.get hz
      rw [h1]
      exact ⟨_, rfl, by dsimp only; omega, by dsimp only; omega⟩
    · cases hn
  · cases hn
theorem sx_r_ok {iv : sx_I} {p : List Int} {a : sx_v} {t : Int × Int} (h : sx_P iv p) (hr : sx_r iv a = some t) : ∃ y, sx_n p a = some y ∧ t.1 ≤ y ∧ y ≤ t.2 := by
  unfold sx_r at hr
  unfold sx_n
  split at hr
  · next e => cases hr; exact ⟨_, rfl, Int.le_refl _, Int.le_refl _⟩
  · next e =>
    split at hr
    · next z hz =>
      cases hr
      obtain ⟨y, h1, h2, h3⟩ := h.get' hz
      rw [h1]
      exact ⟨_, rfl, by dsimp only; omega, by dsimp only; omega⟩
    · cases hr
  · cases hr
theorem sx_r_at {iv : sx_I} {p : List Int} {a : sx_v} {t : Int × Int} {y : Int} (h : sx_P iv p) (hr : sx_r iv a = some t) (hn : sx_n p a = some y) : t.1 ≤ y ∧ y ≤ t.2 := by
  obtain ⟨z, h1, h2⟩ := sx_r_ok h hr
  rw [hn] at h1
  cases h1
  exact h2
def sx_sh (a : sx_v) (c : Int) : sx_v := (a.1, a.2.1, a.2.2 + c)
theorem sx_sh_n {p : List Int} {a : sx_v} {y c : Int} (h : sx_n p a = some y) : sx_n p (sx_sh a c) = some (y + c) := by
  unfold sx_n at h
  unfold sx_sh sx_n
  split at h
  · next e => cases h; simp only [e]
  · next e =>
    split at h
    · next z hz => cases h; simp only [e, hz, Int.add_assoc]
    · cases h
  · cases h
/-- a term is at least lo, at most hi, from now on -/
def sx_cl (iv : sx_I) (a : sx_v) (lo : Int) : sx_I := match a.1 with
  | 1 => match iv[a.2.1]? with
    | some t => if sx_ble (lo - a.2.2) t.1 = true then iv else iv.set a.2.1 (lo - a.2.2, t.2)
    | none => iv
  | _ => iv
def sx_cu (iv : sx_I) (a : sx_v) (hi : Int) : sx_I := match a.1 with
  | 1 => match iv[a.2.1]? with
    | some t => if sx_ble t.2 (hi - a.2.2) = true then iv else iv.set a.2.1 (t.1, hi - a.2.2)
    | none => iv
  | _ => iv
theorem sx_cl_ok {iv : sx_I} {p : List Int} {a : sx_v} {y lo : Int} (h : sx_P iv p) (hn : sx_n p a = some y) (hy : lo ≤ y) : sx_P (sx_cl iv a lo) p := by
  unfold sx_cl
  split
  · next e =>
    obtain ⟨z, hz, rfl⟩ := sx_n1 e hn
    split
    · next t ht =>
      obtain ⟨t', h1, h2, h3⟩ := h.get hz
      rw [ht] at h1
      cases h1
      split
      · exact h
      · exact h.set hz (by dsimp only; omega) h3
    · exact h
  · exact h
theorem sx_cu_ok {iv : sx_I} {p : List Int} {a : sx_v} {y hi : Int} (h : sx_P iv p) (hn : sx_n p a = some y) (hy : y ≤ hi) : sx_P (sx_cu iv a hi) p := by
  unfold sx_cu
  split
  · next e =>
    obtain ⟨z, hz, rfl⟩ := sx_n1 e hn
    split
    · next t ht =>
      obtain ⟨t', h1, h2, h3⟩ := h.get hz
      rw [ht] at h1
      cases h1
      split
      · exact h
      · exact h.set hz h2 (by dsimp only; omega)
    · exact h
  · exact h
/-- facts: 0 x is at most y, 1 x is not y, 2 x is the rest of y by z, 3 x is y times z, 4 x is y and z, 5 y divides x -/
def sx_fh (p : List Int) (f : Nat × sx_v × sx_v × sx_v) : Prop := match f.1 with
  | 0 => ∃ a b, sx_n p f.2.1 = some a ∧ sx_n p f.2.2.1 = some b ∧ a ≤ b
  | 1 => ∃ a b, sx_n p f.2.1 = some a ∧ sx_n p f.2.2.1 = some b ∧ a ≠ b
  | 2 => ∃ a b c, sx_n p f.2.1 = some a ∧ sx_n p f.2.2.1 = some b ∧ sx_n p f.2.2.2 = some c ∧ a = b.tmod c
  | 3 => ∃ a b c, sx_n p f.2.1 = some a ∧ sx_n p f.2.2.1 = some b ∧ sx_n p f.2.2.2 = some c ∧ a = b * c
  | 4 => ∃ a b c, sx_n p f.2.1 = some a ∧ sx_n p f.2.2.1 = some b ∧ sx_n p f.2.2.2 = some c ∧ a = b + c
  | 5 => ∃ a b, sx_n p f.2.1 = some a ∧ sx_n p f.2.2.1 = some b ∧ b ∣ a
  | _ => True
theorem sx_fh_ext {p : List Int} {f : Nat × sx_v × sx_v × sx_v} (e : List Int) (h : sx_fh p f) : sx_fh (p ++ e) f := by
  unfold sx_fh at h ⊢
  split at h
  · obtain ⟨a, b, h1, h2, h3⟩ := h; exact ⟨a, b, sx_n_ext e h1, sx_n_ext e h2, h3⟩
  · obtain ⟨a, b, h1, h2, h3⟩ := h; exact ⟨a, b, sx_n_ext e h1, sx_n_ext e h2, h3⟩
  · obtain ⟨a, b, c, h1, h2, h3, h4⟩ := h; exact ⟨a, b, c, sx_n_ext e h1, sx_n_ext e h2, sx_n_ext e h3, h4⟩
  · obtain ⟨a, b, c, h1, h2, h3, h4⟩ := h; exact ⟨a, b, c, sx_n_ext e h1, sx_n_ext e h2, sx_n_ext e h3, h4⟩
  · obtain ⟨a, b, c, h1, h2, h3, h4⟩ := h; exact ⟨a, b, c, sx_n_ext e h1, sx_n_ext e h2, sx_n_ext e h3, h4⟩
  · obtain ⟨a, b, h1, h2, h3⟩ := h; exact ⟨a, b, sx_n_ext e h1, sx_n_ext e h2, h3⟩
  · trivial
/-- one pass of the facts over the intervals -/
def sx_pp : sx_Fc → sx_I → sx_I
  | [], iv => iv
  | f :: t, iv => sx_pp t (match f.1 with
    | 0 => match sx_r iv f.2.1, sx_r iv f.2.2.1 with
      | some a, some b => sx_cl (sx_cu iv f.2.1 b.2) f.2.2.1 a.1
      | _, _ => iv
    | _ => iv)
theorem sx_pp_ok {p : List Int} : ∀ {fc : sx_Fc} {iv : sx_I}, (∀ f ∈ fc, sx_fh p f) → sx_P iv p → sx_P (sx_pp fc iv) p
  | [], _, _, h => h
  | f :: t, iv, hf, h => by
    refine sx_pp_ok (fc := t) (fun g hg => hf g (List.mem_cons_of_mem _ hg)) ?_
    have h0 := hf f List.mem_cons_self
    unfold sx_fh at h0
    split
    · next e =>
      rw [e] at h0
      obtain ⟨a, b, h1, h2, h3⟩ := h0
      split
      · next ta tb ha hb =>
        have a1 := sx_r_at h ha h1
        have b1 := sx_r_at h hb h2
        exact sx_cl_ok (sx_cu_ok h h1 (by omega)) h2 (by omega)
      · exact h
    · exact h
/-- the rest of a term by m, as a fact of kind 5 tells it -/
def sx_rs (m : Int) (x : sx_v) : sx_Fc → Option Int
  | [] => none
  | f :: t => bif Nat.beq f.1 5 && (Nat.beq f.2.1.1 1 && (Nat.beq x.1 1 && (Nat.beq f.2.1.2.1 x.2.1 && (Nat.beq f.2.2.1.1 0 && sx_beq f.2.2.1.2.2 m)))) then some (x.2.2 - f.2.1.2.2) else sx_rs m x t
theorem sx_rs_ok {p : List Int} {m c : Int} {x : sx_v} {a : Int} (hx : sx_n p x = some a) : ∀ {fc : sx_Fc}, (∀ f ∈ fc, sx_fh p f) → sx_rs m x fc = some c → m ∣ a - c
  | [], _, h => by cases h
  | f :: t, hf, h => by
    unfold sx_rs at h
    cases e : (Nat.beq f.1 5 && (Nat.beq f.2.1.1 1 && (Nat.beq x.1 1 && (Nat.beq f.2.1.2.1 x.2.1 && (Nat.beq f.2.2.1.1 0 && sx_beq f.2.2.1.2.2 m))))) with
    | false =>
      rw [e] at h
      exact sx_rs_ok hx (fun g hg => hf g (List.mem_cons_of_mem _ hg)) h
    | true =>
      rw [e] at h
      have h : x.2.2 - f.2.1.2.2 = c := Option.some.inj h
      simp only [Bool.and_eq_true] at e
      have e1 : f.1 = 5 := Nat.eq_of_beq_eq_true e.1
      have e2 : f.2.1.1 = 1 := Nat.eq_of_beq_eq_true e.2.1
      have e3 : x.1 = 1 := Nat.eq_of_beq_eq_true e.2.2.1
      have e4 : f.2.1.2.1 = x.2.1 := Nat.eq_of_beq_eq_true e.2.2.2.1
      have e5 : f.2.2.1.1 = 0 := Nat.eq_of_beq_eq_true e.2.2.2.2.1
      have e6 := sx_beq_ok e.2.2.2.2.2
      have h0 := hf f List.mem_cons_self
      unfold sx_fh at h0
      rw [e1] at h0
      obtain ⟨u, w, u1, w1, uw⟩ := h0
      have hw : w = m := by
        unfold sx_n at w1
        rw [e5] at w1
        have : f.2.2.1.2.2 = w := Option.some.inj w1
        omega
      obtain ⟨z, hz, rfl⟩ := sx_n1 e3 hx
      obtain ⟨z', hz', rfl⟩ := sx_n1 e2 u1
      rw [e4, hz] at hz'
      cases hz'
      rw [hw] at uw
      rw [show z + x.2.2 - c = z + f.2.1.2.2 by omega]
      exact uw
/-- how much more x may be where it is at most y -/
def sx_dl (fc : sx_Fc) (x y : sx_v) : sx_Fc → Int
  | [] => 0
  | f :: t => bif Nat.beq f.1 5 && (Nat.beq f.2.2.1.1 0 && sx_ble 1 f.2.2.1.2.2) then (match sx_rs f.2.2.1.2.2 x fc, sx_rs f.2.2.1.2.2 y fc with
    | some a, some b => (b - a) % f.2.2.1.2.2
    | _, _ => sx_dl fc x y t) else sx_dl fc x y t
theorem sx_dl_ok {p : List Int} {fc : sx_Fc} {x y : sx_v} {u w : Int} (hf : ∀ f ∈ fc, sx_fh p f) (hx : sx_n p x = some u) (hy : sx_n p y = some w) (hle : u ≤ w) : ∀ {gc : sx_Fc}, u + sx_dl fc x y gc ≤ w
  | [] => by show u + 0 ≤ w; omega
  | f :: t => by
    unfold sx_dl
    cases e : (Nat.beq f.1 5 && (Nat.beq f.2.2.1.1 0 && sx_ble 1 f.2.2.1.2.2)) with
    | false => exact sx_dl_ok hf hx hy hle
    | true =>
      simp only [Bool.and_eq_true, sx_ble_iff] at e
      dsimp only [cond_true]
      split
      · next a b ha hb =>
        have h1 := sx_rs_ok hx hf ha
        have h2 := sx_rs_ok hy hf hb
        have hm : 1 ≤ f.2.2.1.2.2 := e.2.2
        obtain ⟨q1, h1⟩ := h1
        obtain ⟨q2, h2⟩ := h2
        have h3 : w - u = (b - a) + f.2.2.1.2.2 * (q2 - q1) := by rw [Int.mul_sub]; omega
        have h4 : (w - u) % f.2.2.1.2.2 = (b - a) % f.2.2.1.2.2 := by rw [h3, Int.add_mul_emod_self_left]
        have h5 := Int.emod_add_mul_ediv (w - u) f.2.2.1.2.2
        have h6 : 0 ≤ f.2.2.1.2.2 * ((w - u) / f.2.2.1.2.2) := Int.mul_nonneg (by omega) (Int.ediv_nonneg (by omega) (by omega))
        omega
      · exact sx_dl_ok hf hx hy hle
