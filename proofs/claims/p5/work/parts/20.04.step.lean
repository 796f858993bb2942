/-! the symbolic step -/
def sx_To (G : sx_G) (J : Nat → ri_H → Prop) (p0 : List Int) (M : sx_M) (p : List Int) (h : ri_H) (L : List (Nat × sx_A)) (res : Option ri_F) : Prop :=
  ∃ q ∈ L, ∃ (e : List Int) (lo' : List (Nat × Value)) (st' : List Value) (h' : ri_H), res = some (q.1, lo', st', h', 0, 0) ∧ sx_S G J (p ++ e) q.2 lo' st' h' ∧ sx_Fr p0 M h h'
def sx_tA (a : sx_v) : Bool := Nat.beq a.1 2 || Nat.ble 4 a.1
def sx_tI (a : sx_v) : Bool := Nat.ble a.1 1
def sx_tL (a : sx_v) : Bool := Nat.beq a.1 3
section SXD
variable {G : sx_G} {J : Nat → ri_H → Prop} {dp : sx_D} {p p0 : List Int} {M : sx_M} {A : sx_A} {L : List (Nat × sx_A)} {lo : List (Nat × Value)} {st : List Value} {h : ri_H} {pc n : Nat}
theorem sx_tA_ok {a : sx_v} {v : Value} (h : sx_g p a v) (t : sx_tA a = true) : ri_isA v = true := by
  unfold sx_tA at t
  unfold sx_g at h
  split at h
  · next e => rw [e] at t; cases t
  · next e => rw [e] at t; cases t
  · rw [h]; rfl
  · next e => rw [e] at t; cases t
  · rw [h]; rfl
  · rw [h]; rfl
  · exact h.elim
theorem sx_tI_ok {a : sx_v} {v : Value} (h : sx_g p a v) (t : sx_tI a = true) : ri_isI v = true := by
  obtain ⟨x, rfl, -⟩ := sx_g_isn t h
  rfl
theorem sx_tL_ok {a : sx_v} {v : Value} (h : sx_g p a v) (t : sx_tL a = true) : ri_isL v = true := by
  unfold sx_g at h
  rw [show a.1 = 3 from Nat.eq_of_beq_eq_true t] at h
  obtain ⟨x, rfl⟩ := h
  rfl
theorem sx_g_L {a : sx_v} {v : Value} (h : sx_g p a v) (t : sx_tL a = true) : ∃ x, v = .long x := by
  unfold sx_g at h
  rw [show a.1 = 3 from Nat.eq_of_beq_eq_true t] at h
  exact h
theorem sx_g_R {a : sx_v} {v : Value} (h : sx_g p a v) (t : Nat.beq a.1 2 = true) : v = .ref a.2.1 := by
  unfold sx_g at h
  rw [show a.1 = 2 from Nat.eq_of_beq_eq_true t] at h
  exact h
theorem sx_g_T {a : sx_v} {v : Value} (h : sx_g p a v) (t : Nat.beq a.1 5 = true) : v = .retAddr a.2.1 := by
  unfold sx_g at h
  rw [show a.1 = 5 from Nat.eq_of_beq_eq_true t] at h
  exact h
theorem sx_To.one {q : Nat × sx_A} {lo' : List (Nat × Value)} {st' : List Value} {res : Option ri_F} {e : List Int} (hr : res = some (q.1, lo', st', h, 0, 0)) (hS : sx_S G J (p ++ e) q.2 lo' st' h) : sx_To G J p0 M p h [q] res :=
  ⟨q, List.mem_singleton.mpr rfl, e, lo', st', h, hr, hS, sx_Fr.rf _ _ _⟩
theorem sx_To.nil {q : Nat × sx_A} {lo' : List (Nat × Value)} {st' : List Value} {res : Option ri_F} (hr : res = some (q.1, lo', st', h, 0, 0)) (hS : sx_S G J p q.2 lo' st' h) : sx_To G J p0 M p h [q] res :=
  sx_To.one (e := []) hr (by rw [List.append_nil]; exact hS)
theorem sx_To.mem {q : Nat × sx_A} {lo' : List (Nat × Value)} {st' : List Value} {res : Option ri_F} (hq : q ∈ L) (hr : res = some (q.1, lo', st', h, 0, 0)) (hS : sx_S G J p q.2 lo' st' h) : sx_To G J p0 M p h L res :=
  ⟨q, hq, [], lo', st', h, hr, by rw [List.append_nil]; exact hS, sx_Fr.rf _ _ _⟩
/-- the stack's shape -/
theorem sx_sts.c1 {x : sx_v} {r : List sx_v} (H : sx_sts p (x :: r) st) : ∃ a s, st = a :: s ∧ sx_g p x a ∧ sx_sts p r s := by
  cases st with
  | nil => exact H.elim
  | cons a s => exact ⟨a, s, rfl, H.1, H.2⟩
theorem sx_sts.c2 {x y : sx_v} {r : List sx_v} (H : sx_sts p (x :: y :: r) st) : ∃ a b s, st = a :: b :: s ∧ sx_g p x a ∧ sx_g p y b ∧ sx_sts p r s := by
  obtain ⟨a, s, rfl, h1, h2⟩ := H.c1
  obtain ⟨b, t, rfl, h3, h4⟩ := h2.c1
  exact ⟨a, b, t, rfl, h1, h3, h4⟩
theorem sx_sts.c3 {x y z : sx_v} {r : List sx_v} (H : sx_sts p (x :: y :: z :: r) st) : ∃ a b c s, st = a :: b :: c :: s ∧ sx_g p x a ∧ sx_g p y b ∧ sx_g p z c ∧ sx_sts p r s := by
  obtain ⟨a, s, rfl, h1, h2⟩ := H.c1
  obtain ⟨b, c, t, rfl, h3, h4, h5⟩ := h2.c2
  exact ⟨a, b, c, t, rfl, h1, h3, h4, h5⟩
def sx_ld1 (t : sx_v → Bool) (i n pc : Nat) (A : sx_A) : Option (List (Nat × sx_A)) := match sx_lk A.1 i with
  | some v => bif t v then some [(pc + n, (A.1, v :: A.2.1, A.2.2))] else none
  | none => none
theorem sx_ld1_ok {t : sx_v → Bool} {tt : Value → Bool} {i m : Nat} (ht : ∀ (a : sx_v) (v : Value), sx_g p a v → t a = true → tt v = true) (HS : sx_S G J p A lo st h) (hs : sx_ld1 t i m pc A = some L) : sx_To G J p0 M p h L (ri_ld tt i m pc lo st h 0 0) := by
  unfold sx_ld1 at hs
  split at hs
  · next a ha =>
    cases hb : t a with
    | false => rw [hb] at hs; cases hs
    | true =>
      rw [hb] at hs
      cases hs
      obtain ⟨v, h1, h2⟩ := HS.1.lk ha
      refine sx_To.nil (lo' := lo) (st' := v :: st) ?_ ⟨HS.1, ⟨h2, HS.2.1⟩, HS.2.2⟩
      unfold ri_ld
      rw [h1]
      dsimp only
      rw [ht a v h2 hb]
      rfl
  · cases hs
def sx_sv (t : sx_v → Bool) (ml i n pc : Nat) (A : sx_A) : Option (List (Nat × sx_A)) := match A.2.1 with
  | v :: r => bif t v && Nat.blt i ml then some [(pc + n, (sx_st1 A.1 i v, r, A.2.2))] else none
  | [] => none
theorem sx_sv_ok {t : sx_v → Bool} {tt : Value → Bool} {me : ri_M} {i m : Nat} (ht : ∀ (a : sx_v) (v : Value), sx_g p a v → t a = true → tt v = true) (HS : sx_S G J p A lo st h) (hs : sx_sv t me.2.2.1 i m pc A = some L) : sx_To G J p0 M p h L (ri_sto tt me i m pc lo st h 0 0) := by
  unfold sx_sv at hs
  split at hs
  · next v r hv =>
    cases hb : (t v && Nat.blt i me.2.2.1) with
    | false => rw [hb] at hs; cases hs
    | true =>
      rw [hb] at hs
      cases hs
      simp only [Bool.and_eq_true] at hb
      have h2 := HS.2.1
      rw [hv] at h2
      obtain ⟨a, s, rfl, h3, h4⟩ := h2.c1
      refine sx_To.nil (lo' := ri_st1 lo i a) (st' := s) ?_ ⟨HS.1.st1 h3, h4, HS.2.2⟩
      unfold ri_sto
      dsimp only
      rw [ht v a h3 hb.1, hb.2]
      rfl
  · cases hs
def sx_push (v : sx_v) (n pc : Nat) (A : sx_A) : Option (List (Nat × sx_A)) := some [(pc + n, (A.1, v :: A.2.1, A.2.2))]
theorem sx_push_ok {v : sx_v} {x : Value} {m : Nat} (hv : sx_g p v x) (HS : sx_S G J p A lo st h) (hs : sx_push v m pc A = some L) : sx_To G J p0 M p h L (some (pc + m, lo, x :: st, h, 0, 0)) := by
  cases hs
  exact sx_To.nil rfl ⟨HS.1, ⟨hv, HS.2.1⟩, HS.2.2⟩
theorem sx_g_c (x : Int32) : sx_g p (0, 0, x.toInt) (.int x) := ⟨x, rfl, rfl⟩
def sx_b2 (o pc : Nat) (A : sx_A) : Option (List (Nat × sx_A)) := match A.2.1 with
  | y :: x :: r => bif sx_tI y && sx_tI x then (match sx_ar o A.2.2 x y with
    | some q => some [(pc + 1, (A.1, q.2 :: r, q.1))]
    | none => none) else none
  | _ => none
theorem sx_b2_ok {o : Nat} (HS : sx_S G J p A lo st h) (hs : sx_b2 o pc A = some L) : ∃ (X Y : Int32) (r : List Value), st = .int Y :: .int X :: r ∧ (9 ≤ o → Y ≠ 0) ∧ sx_To G J p0 M p h L (some (pc + 1, lo, .int (sx_con o X Y) :: r, h, 0, 0)) := by
  unfold sx_b2 at hs
  split at hs
  · next y x r hv =>
    cases hb : (sx_tI y && sx_tI x) with
    | false => rw [hb] at hs; cases hs
    | true =>
      rw [hb] at hs
      simp only [Bool.and_eq_true] at hb
      have h2 := HS.2.1
      rw [hv] at h2
      obtain ⟨b, a, s, rfl, h3, h4, h5⟩ := h2.c2
      obtain ⟨Y, rfl, hy⟩ := sx_g_isn hb.1 h3
      obtain ⟨X, rfl, hx⟩ := sx_g_isn hb.2 h4
      dsimp only [cond_true] at hs
      split at hs
      · next q hq =>
        cases hs
        obtain ⟨k1, e, k2, k3⟩ := sx_ar_ok HS.2.2 hx hy hq
        exact ⟨X, Y, s, rfl, k1, sx_To.one (e := e) rfl ⟨HS.1.ext e, ⟨sx_g_of k3, h5.ext e⟩, k2⟩⟩
      · cases hs
  · cases hs
/-- one operand: a function of the state beside it -/
def sx_u1 (f : sx_B → sx_v → Option (sx_B × sx_v)) (pc : Nat) (A : sx_A) : Option (List (Nat × sx_A)) := match A.2.1 with
  | x :: r => bif sx_tI x then (match f A.2.2 x with
    | some q => some [(pc + 1, (A.1, q.2 :: r, q.1))]
    | none => none) else none
  | _ => none
theorem sx_u1_ok {f : sx_B → sx_v → Option (sx_B × sx_v)} {g : Int32 → Int32} (hf : ∀ (x t : sx_v) (B' : sx_B) (X : Int32), sx_n p x = some X.toInt → f A.2.2 x = some (B', t) → ∃ e, sx_E G J (p ++ e) B' h ∧ sx_n (p ++ e) t = some (g X).toInt) (HS : sx_S G J p A lo st h) (hs : sx_u1 f pc A = some L) : ∃ (X : Int32) (r : List Value), st = .int X :: r ∧ sx_To G J p0 M p h L (some (pc + 1, lo, .int (g X) :: r, h, 0, 0)) := by
  unfold sx_u1 at hs
  split at hs
  · next x r hv =>
    cases hb : sx_tI x with
    | false => rw [hb] at hs; cases hs
    | true =>
      rw [hb] at hs
      have h2 := HS.2.1
      rw [hv] at h2
      obtain ⟨a, s, rfl, h3, h5⟩ := h2.c1
      obtain ⟨X, rfl, hx⟩ := sx_g_isn hb h3
      dsimp only [cond_true] at hs
      split at hs
      · next q hq =>
        cases hs
        obtain ⟨e, k2, k3⟩ := hf x q.2 q.1 X hx hq
        exact ⟨X, s, rfl, sx_To.one (e := e) rfl ⟨HS.1.ext e, ⟨sx_g_of k3, h5.ext e⟩, k2⟩⟩
      · cases hs
  · cases hs
/-- longs -/
def sx_l2 (pc : Nat) (A : sx_A) : Option (List (Nat × sx_A)) := match A.2.1 with
  | y :: x :: r => bif sx_tL y && sx_tL x then some [(pc + 1, (A.1, (3, 0, 0) :: r, A.2.2))] else none
  | _ => none
theorem sx_l2_ok {op : Int64 → Int64 → Int64} (HS : sx_S G J p A lo st h) (hs : sx_l2 pc A = some L) : sx_To G J p0 M p h L (ri_l2 op pc lo st h 0 0) := by
  unfold sx_l2 at hs
  split at hs
  · next y x r hv =>
    cases hb : (sx_tL y && sx_tL x) with
    | false => rw [hb] at hs; cases hs
    | true =>
      rw [hb] at hs
      cases hs
      simp only [Bool.and_eq_true] at hb
      have h2 := HS.2.1
      rw [hv] at h2
      obtain ⟨b, a, s, rfl, h3, h4, h5⟩ := h2.c2
      obtain ⟨Y, rfl⟩ := sx_g_L h3 hb.1
      obtain ⟨X, rfl⟩ := sx_g_L h4 hb.2
      exact sx_To.nil (lo' := lo) (st' := .long (op X Y) :: s) rfl ⟨HS.1, ⟨⟨_, rfl⟩, h5⟩, HS.2.2⟩
  · cases hs
def sx_br (c : Nat) (x y : sx_v) (tgt nx : Nat) (lo : List (Nat × sx_v)) (r : List sx_v) (B : sx_B) : List (Nat × sx_A) :=
  (match sx_tr c B x y with
  | some B' => [(tgt, (lo, r, B'))]
  | none => []) ++ (match sx_tr (sx_ng c) B x y with
  | some B' => [(nx, (lo, r, B'))]
  | none => [])
theorem sx_br_ok {c : Nat} {x y : sx_v} {X Y : Int32} {tgt nx : Nat} {al : List (Nat × sx_v)} {ar : List sx_v} {B : sx_B} {r : List Value} {dc : ri_O} (hc : c ≤ 5) (hx : sx_n p x = some X.toInt) (hy : sx_n p y = some Y.toInt) (h1 : sx_los p al lo) (h2 : sx_sts p ar r) (h3 : sx_E G J p B h) : sx_To G J p0 M p h (sx_br c x y tgt nx al ar B) (ri_br dc c (.int X) (.int Y) tgt nx lo r h 0 0) := by
  unfold ri_br
  rw [show ri_cmp dc c (.int X) (.int Y) = some (ri_hd c X Y) from rfl]
  unfold sx_br
  cases hb : ri_hd c X Y with
  | true =>
    obtain ⟨B', g1, g2⟩ := sx_tr_ok h3 hx hy ((sx_hd hc X Y).1 hb)
    rw [g1]
    exact sx_To.mem (q := (tgt, (al, ar, B'))) (List.mem_append_left _ (List.mem_singleton.mpr rfl)) rfl ⟨h1, h2, g2⟩
  | false =>
    obtain ⟨B', g1, g2⟩ := sx_tr_ok h3 hx hy ((sx_hd hc X Y).2 hb)
    rw [g1]
    exact sx_To.mem (q := (nx, (al, ar, B'))) (List.mem_append_right _ (List.mem_singleton.mpr rfl)) rfl ⟨h1, h2, g2⟩
theorem sx_cn5 (c : ClassFile.Cond) : ri_cn c ≤ 5 := by cases c <;> decide
/-- the cases of a switch -/
def sx_swl (B : sx_B) (x : sx_v) (lo : List (Nat × sx_v)) (r : List sx_v) : List Nat → Int → List (Nat × sx_A)
  | [], _ => []
  | t :: ts, v => (match sx_tr 0 B x (0, 0, v) with
    | some B' => [(t, (lo, r, B'))]
    | none => []) ++ sx_swl B x lo r ts (v + 1)
theorem sx_swl_ok {B : sx_B} {x : sx_v} {u : Int} {al : List (Nat × sx_v)} {ar : List sx_v} (hx : sx_n p x = some u) (h3 : sx_E G J p B h) : ∀ (ts : List Nat) (v : Int) (t : Nat), v ≤ u → ts[(u - v).toNat]? = some t → ∃ B', (t, (al, ar, B')) ∈ sx_swl B x al ar ts v ∧ sx_E G J p B' h
  | [], _, _, _, h => by simp at h
  | t :: ts, v, w, h1, h2 => by
    unfold sx_swl
    by_cases e : v = u
    · subst e
      rw [Int.sub_self] at h2
      have e2 : t = w := by simpa using h2
      subst e2
      obtain ⟨B', g1, g2⟩ := sx_tr_ok (c := 0) h3 (y := (0, 0, v)) (w := v) hx rfl rfl
      rw [g1]
      exact ⟨B', List.mem_append_left _ (List.mem_singleton.mpr rfl), g2⟩
    · have e1 : (u - v).toNat = (u - (v + 1)).toNat + 1 := by omega
      rw [e1, List.getElem?_cons_succ] at h2
      obtain ⟨B', g1, g2⟩ := sx_swl_ok hx h3 ts (v + 1) w (by omega) h2
      exact ⟨B', List.mem_append_right _ g1, g2⟩
def sx_swi (lw hw : Int) (dt : Nat) (ts : List Nat) (A : sx_A) : Option (List (Nat × sx_A)) := match A.2.1 with
  | x :: r => bif sx_tI x && sx_beq (lw + (ts.length : Int)) (hw + 1) then some ((match sx_tr 5 A.2.2 x (0, 0, lw - 1) with
    | some B' => [(dt, (A.1, r, B'))]
    | none => []) ++ ((match sx_tr 3 A.2.2 x (0, 0, hw + 1) with
    | some B' => [(dt, (A.1, r, B'))]
    | none => []) ++ sx_swl A.2.2 x A.1 r ts lw)) else none
  | _ => none
theorem sx_swi_ok {lw hw : Int} {dt : Nat} {ts : List Nat} (HS : sx_S G J p A lo st h) (hs : sx_swi lw hw dt ts A = some L) : ∃ (X : Int32) (r : List Value), st = .int X :: r ∧ sx_To G J p0 M p h L (bif decide (X.toInt < lw) || decide (hw < X.toInt) then some (dt, lo, r, h, 0, 0) else (match ts[(X.toInt - lw).toNat]? with
      | some tgt => some (tgt, lo, r, h, 0, 0)
      | none => none)) := by
  unfold sx_swi at hs
  split at hs
  · next x r hv =>
    cases hb : (sx_tI x && sx_beq (lw + (ts.length : Int)) (hw + 1)) with
    | false => rw [hb] at hs; cases hs
    | true =>
      rw [hb] at hs
      cases hs
      simp only [Bool.and_eq_true] at hb
      have hl := sx_beq_ok hb.2
      have h2 := HS.2.1
      rw [hv] at h2
      obtain ⟨a, s, rfl, h3, h5⟩ := h2.c1
      obtain ⟨X, rfl, hx⟩ := sx_g_isn hb.1 h3
      refine ⟨X, s, rfl, ?_⟩
      by_cases c1 : X.toInt < lw
      · rw [decide_eq_true c1]
        obtain ⟨B', g1, g2⟩ := sx_tr_ok (c := 5) HS.2.2 (y := (0, 0, lw - 1)) (w := lw - 1) hx rfl (show X.toInt ≤ lw - 1 by omega)
        rw [g1]
        exact sx_To.mem (q := (dt, (A.1, r, B'))) (List.mem_append_left _ (List.mem_singleton.mpr rfl)) rfl ⟨HS.1, h5, g2⟩
      · rw [decide_eq_false c1]
        by_cases c2 : hw < X.toInt
        · rw [decide_eq_true c2]
          obtain ⟨B', g1, g2⟩ := sx_tr_ok (c := 3) HS.2.2 (y := (0, 0, hw + 1)) (w := hw + 1) hx rfl (show hw + 1 ≤ X.toInt by omega)
          rw [g1]
          exact sx_To.mem (q := (dt, (A.1, r, B'))) (List.mem_append_right _ (List.mem_append_left _ (List.mem_singleton.mpr rfl))) rfl ⟨HS.1, h5, g2⟩
        · rw [decide_eq_false c2]
          have hlt : (X.toInt - lw).toNat < ts.length := by omega
          rw [List.getElem?_eq_getElem hlt]
          obtain ⟨B', g1, g2⟩ := sx_swl_ok (al := A.1) (ar := r) hx HS.2.2 ts lw ts[(X.toInt - lw).toNat] (by omega) (List.getElem?_eq_getElem hlt)
          exact sx_To.mem (List.mem_append_right _ (List.mem_append_right _ g1)) rfl ⟨HS.1, h5, g2⟩
  · cases hs
/-- a field is read -/
def sx_gf (G : sx_G) (dp : sx_D) (t i pc : Nat) (A : sx_A) : Option (List (Nat × sx_A)) := match A.2.1 with
  | a :: s => bif Nat.beq a.1 2 then (match G[a.2.1]? with
    | some c => bif Nat.beq c.1 t && Nat.blt t 13 then (match sx_ldg G dp A.2.2 a.2.1 (0, 0, (i : Int)) with
      | some q => some [(pc + 3, (A.1, q.2 :: s, q.1))]
      | none => none) else none
    | none => none) else none
  | _ => none
theorem sx_gf_ok {t i : Nat} (HJ : sx_HJ G J dp) (HS : sx_S G J p A lo st h) (hs : sx_gf G dp t i pc A = some L) : ∃ (r : Nat) (s : List Value), st = .ref r :: s ∧ sx_To G J p0 M p h L (match h[r]? with
      | some q => bif Nat.beq q.1 t && Nat.blt t 13 then (match q.2[i]? with
        | some v => some (pc + 3, lo, v :: s, h, 0, 0)
        | none => none) else none
      | none => none) := by
  unfold sx_gf at hs
  split at hs
  · next a s hv =>
    cases hb : Nat.beq a.1 2 with
    | false => rw [hb] at hs; cases hs
    | true =>
      rw [hb] at hs
      have h2 := HS.2.1
      rw [hv] at h2
      obtain ⟨x, s', rfl, h3, h5⟩ := h2.c1
      have hx := sx_g_R h3 hb
      subst hx
      refine ⟨a.2.1, s', rfl, ?_⟩
      dsimp only [cond_true] at hs
      split at hs
      · next c hc =>
        cases hk : (Nat.beq c.1 t && Nat.blt t 13) with
        | false => rw [hk] at hs; cases hs
        | true =>
          rw [hk] at hs
          dsimp only [cond_true] at hs
          split at hs
          · next q hq =>
            cases hs
            obtain ⟨e, x, k1, k2, k3⟩ := sx_ldg_ok HJ HS.2.2 (i := (i : Int)) rfl hq
            obtain ⟨q', m1, -, m3⟩ := sx_at_inv k2
            obtain ⟨vs, i1, -⟩ := HS.2.2.2.2.2.2.2 a.2.1 c hc
            rw [i1] at m1
            cases m1
            rw [i1]
            dsimp only
            rw [hk]
            have m3 : vs[i]? = some x := m3
            rw [m3]
            exact sx_To.one (e := e) rfl ⟨HS.1.ext e, ⟨k3, h5.ext e⟩, k1⟩
          · cases hs
      · cases hs
  · cases hs
theorem sx_i0 {I : Int32} {i : Int} (h : I.toInt = i) (h0 : 0 ≤ i) : decide (I < 0) = false ∧ I.toNatClampNeg = i.toNat := by
  refine ⟨decide_eq_false (fun hh => ?_), by rw [← h]; rfl⟩
  have := Int32.lt_iff_toInt_lt.mp hh
  have e : (0 : Int32).toInt = 0 := by decide
  omega
/-- an array is read -/
def sx_al (G : sx_G) (dp : sx_D) (g : Nat → Bool) (pc : Nat) (A : sx_A) : Option (List (Nat × sx_A)) := match A.2.1 with
  | i :: a :: r => bif sx_tI i && Nat.beq a.1 2 then (match G[a.2.1]? with
    | some c => bif g c.1 then (match sx_ldg G dp A.2.2 a.2.1 i with
      | some q => some [(pc + 1, (A.1, q.2 :: r, q.1))]
      | none => none) else none
    | none => none) else none
  | _ => none
theorem sx_al_ok {g : Nat → Bool} {x0 : Nat} (HJ : sx_HJ G J dp) (HS : sx_S G J p A lo st h) (hs : sx_al G dp g pc A = some L) : ∃ (I : Int32) (a : Value) (r : List Value), st = .int I :: a :: r ∧ sx_To G J p0 M p h L (match ri_ald g x0 a I h with
      | some v => some (pc + 1, lo, v :: r, h, 0, 0)
      | none => none) := by
  unfold sx_al at hs
  split at hs
  · next i a r hv =>
    cases hb : (sx_tI i && Nat.beq a.1 2) with
    | false => rw [hb] at hs; cases hs
    | true =>
      rw [hb] at hs
      simp only [Bool.and_eq_true] at hb
      have h2 := HS.2.1
      rw [hv] at h2
      obtain ⟨vi, va, s, rfl, h3, h4, h5⟩ := h2.c2
      obtain ⟨I, rfl, hi⟩ := sx_g_isn hb.1 h3
      have ha := sx_g_R h4 hb.2
      subst ha
      refine ⟨I, _, s, rfl, ?_⟩
      dsimp only [cond_true] at hs
      split at hs
      · next c hc =>
        cases hk : g c.1 with
        | false => rw [hk] at hs; cases hs
        | true =>
          rw [hk] at hs
          dsimp only [cond_true] at hs
          split at hs
          · next q hq =>
            cases hs
            obtain ⟨e, x, k1, k2, k3⟩ := sx_ldg_ok HJ HS.2.2 hi hq
            obtain ⟨q', m1, m2, m3⟩ := sx_at_inv k2
            obtain ⟨vs, i1, -⟩ := HS.2.2.2.2.2.2.2 a.2.1 c hc
            rw [i1] at m1
            cases m1
            have i0 := sx_i0 rfl m2
            unfold ri_ald
            dsimp only
            rw [i1]
            dsimp only
            rw [hk, i0.1, i0.2]
            have m3 : vs[I.toInt.toNat]? = some x := m3
            show sx_To G J p0 M p h _ (match vs[I.toInt.toNat]? with
              | some v => some (pc + 1, lo, v :: s, h, 0, 0)
              | none => none)
            rw [m3]
            exact sx_To.one (e := e) rfl ⟨HS.1.ext e, ⟨k3, h5.ext e⟩, k1⟩
          · cases hs
      · cases hs
  · cases hs
end SXD
