section SXH
variable {G : sx_G} {J : Nat → ri_H → Prop} {dp : sx_D} {p p0 : List Int} {M : sx_M} {A : sx_A} {B B' : sx_B} {L : List (Nat × sx_A)} {lo : List (Nat × Value)} {st : List Value} {h : ri_H} {pc n : Nat} {σ : List sx_v} {cal : Nat → List Value → ri_H → Option (Option Value × ri_H)}
/-- a contract: the method and its arguments' words at most, its entry, its exits, the slots that it may change -/
abbrev sx_C : Type := (Nat × Nat) × sx_A × List sx_A × sx_M
def sx_CV (G : sx_G) (J : Nat → ri_H → Prop) (C : sx_C) (cal : Nat → List Value → ri_H → Option (Option Value × ri_H)) : Prop :=
  ∀ (p : List Int) (as : List Value) (h : ri_H), ri_wt as ≤ C.1.2 → sx_S G J p C.2.1 (ri_as 0 as) [] h → ∃ (v : Option Value) (h' : ri_H), cal C.1.1 as h = some (v, h') ∧ ∃ x ∈ C.2.2.1, ∃ e, sx_S G J (p ++ e) x [] v.toList h' ∧ sx_Fr p C.2.2.2 h h'
def sx_as : Nat → List sx_v → List (Nat × sx_v)
  | _, [] => []
  | i, v :: vs => (i, v) :: sx_as (bif Nat.beq v.1 3 then i + 2 else i + 1) vs
theorem sx_as_ok : ∀ {as : List sx_v} {vs : List Value} {i : Nat}, sx_sts p as vs → ∀ q ∈ sx_as i as, i ≤ q.1 ∧ ∃ v, ri_lk (ri_as i vs) q.1 = some v ∧ sx_g p q.2 v
  | [], [], _, _, q, hq => by simp [sx_as] at hq
  | a :: as, v :: vs, i, H, q, hq => by
    have e1 : (bif Nat.beq a.1 3 then i + 2 else i + 1) = (if v.category = 2 then i + 2 else i + 1) := by
      rw [sx_g_cat H.1]
      unfold sx_ct
      cases Nat.beq a.1 3 <;> rfl
    unfold sx_as at hq
    rcases List.mem_cons.mp hq with rfl | hq
    · refine ⟨Nat.le_refl _, v, ?_, H.1⟩
      unfold ri_as ri_lk
      rw [show Nat.beq i i = true from Nat.beq_eq.mpr rfl]
      rfl
    · rw [e1] at hq
      obtain ⟨h1, w, h2, h3⟩ := sx_as_ok H.2 q hq
      have h4 : i < q.1 := by split at h1 <;> omega
      refine ⟨by omega, w, ?_, h3⟩
      unfold ri_as ri_lk
      rw [show Nat.beq i q.1 = false by
        cases e : Nat.beq i q.1 with
        | false => rfl
        | true => have := Nat.eq_of_beq_eq_true e; omega]
      exact h2
  | [], _ :: _, _, H, _, _ => H.elim
  | _ :: _, [], _, H, _, _ => H.elim
def sx_take : Nat → List sx_v → List sx_v → Option (List sx_v × List sx_v)
  | 0, acc, st => some (acc, st)
  | n + 1, acc, v :: st => sx_take n (v :: acc) st
  | _ + 1, _, [] => none
theorem sx_take_ok : ∀ {n : Nat} {acc as st r : List sx_v} {av vs : List Value}, sx_sts p acc av → sx_sts p st vs → sx_take n acc st = some (as, r) → ∃ asv rv, ri_take n av vs = some (asv, rv) ∧ sx_sts p as asv ∧ sx_sts p r rv
  | 0, acc, as, st, r, av, vs, h1, h2, hs => by
    cases hs
    exact ⟨av, vs, rfl, h1, h2⟩
  | n + 1, acc, as, a :: st, r, av, vs, h1, h2, hs => by
    obtain ⟨v, s, rfl, h3, h4⟩ := h2.c1
    exact sx_take_ok (acc := a :: acc) (av := v :: av) ⟨h3, h1⟩ h4 hs
  | n + 1, acc, as, [], r, av, vs, h1, h2, hs => by cases hs
/-- a slot's fact stays over a call -/
def sx_kp (σ : List sx_v) (iv : sx_I) (M : sx_M) (k : Nat) (t : sx_v) : Bool := M.all (fun m => !Nat.beq m.1 k || (sx_veq m.2.1 m.2.2 && sx_dif iv t (sx_sb σ m.2.1) || (match sx_r iv (sx_sb σ m.2.1), sx_r iv (sx_sb σ m.2.2), sx_r iv t with
  | some a, some b, some i => sx_ble (i.2 + 1) a.1 || sx_ble (b.2 + 1) i.1
  | _, _, _ => false)))
theorem sx_kp_ok {iv : sx_I} {C : sx_M} {k : Nat} {t : sx_v} {i : Int} (HP : sx_P iv p) (hd : sx_def p σ) (ht : sx_n p t = some i) (hk : sx_kp σ iv C k t = true) : ¬ sx_in (sx_ns p σ) C k i := by
  rintro ⟨m, m1, m2, a, b, m3, m4, m5, m6⟩
  have := List.all_eq_true.mp hk m m1
  rw [← sx_sb_n hd] at m3 m4
  rcases (Bool.or_eq_true _ _).mp this with e | e
  · exact sx_nbeq e m2
  · rcases (Bool.or_eq_true _ _).mp e with e | e
    · simp only [Bool.and_eq_true] at e
      have e1 := sx_veq_ok e.1
      rw [← e1, m3] at m4
      cases m4
      exact sx_dif_ok HP ht m3 e.2 (by omega)
    · split at e
      · next ra rb ri ha hb hi =>
        have := sx_r_at HP ha m3
        have := sx_r_at HP hb m4
        have := sx_r_at HP hi ht
        simp only [Bool.or_eq_true, sx_ble_iff] at e
        omega
      · cases e
def sx_kc (G : sx_G) (M : sx_M) (k : Nat) : Bool := Nat.blt k G.length && M.all (fun m => !Nat.beq m.1 k)
theorem sx_kc_ok {C : sx_M} {k : Nat} {h' : ri_H} {q : ri_C} (HI : sx_Inv G h) (HI' : sx_Inv G h') (hf : sx_Fr p C h h') (hk : sx_kc G C k = true) (hq : h[k]? = some q) : ∃ q', h'[k]? = some q' ∧ q'.2 = q.2 := by
  unfold sx_kc at hk
  simp only [Bool.and_eq_true] at hk
  have hl := Nat.blt_eq.mp hk.1
  obtain ⟨vs, h1, -, -⟩ := HI' k _ (List.getElem?_eq_getElem hl)
  refine ⟨_, h1, ?_⟩
  apply List.ext_getElem?
  intro i
  have h2 := hf k (i : Int) (by
    rintro ⟨m, m1, m2, -⟩
    exact sx_nbeq (List.all_eq_true.mp hk.2 m m1) m2)
  rw [sx_at_of h1, sx_at_of hq] at h2
  exact h2
def sx_kj (dp : sx_D) (σ : List sx_v) (iv : sx_I) (M : sx_M) (j : Nat) : Bool := (dp.1 j).all (fun d => M.all (fun m => !Nat.beq m.1 d.1 || (match sx_r iv (sx_sb σ m.2.1), sx_r iv (sx_sb σ m.2.2) with
  | some a, some b => sx_ble (b.2 + 1) d.2.1 || sx_ble (d.2.2 + 1) a.1
  | _, _ => false)))
theorem sx_kj_ok {iv : sx_I} {C : sx_M} {j : Nat} {h' : ri_H} (HJ : sx_HJ G J dp) (HP : sx_P iv p) (hd : sx_def p σ) (hf : sx_Fr (sx_ns p σ) C h h') (hk : sx_kj dp σ iv C j = true) (hj : J j h) : J j h' := by
  refine HJ.1 j h h' (fun d hdd i h1 h2 => hf d.1 i ?_) hj
  rintro ⟨m, m1, m2, a, b, m3, m4, m5, m6⟩
  have := List.all_eq_true.mp (List.all_eq_true.mp hk d hdd) m m1
  rw [← sx_sb_n hd] at m3 m4
  rcases (Bool.or_eq_true _ _).mp this with e | e
  · exact sx_nbeq e m2
  · split at e
    · next ra rb ha hb =>
      have := sx_r_at HP ha m3
      have := sx_r_at HP hb m4
      simp only [Bool.or_eq_true, sx_ble_iff] at e
      omega
    · cases e
/-- the entry's names, cut by an exit -/
def sx_cts : List sx_v → sx_I → sx_I → sx_I
  | u :: σ, t :: ts, iv => sx_cts σ ts (sx_cl (sx_cu iv u t.2) u t.1)
  | _, _, iv => iv
theorem sx_cts_ok : ∀ {σ : List sx_v} {ts iv : sx_I} {e : List Int}, sx_def p σ → sx_P ts (sx_ns p σ ++ e) → sx_P iv p → sx_P (sx_cts σ ts iv) p
  | [], _, _, _, _, _, h => by unfold sx_cts; exact h
  | u :: σ, [], _, _, _, _, h => by unfold sx_cts; exact h
  | u :: σ, t :: ts, iv, e, hd, ht, h => by
    unfold sx_cts
    obtain ⟨y, hy⟩ := hd u List.mem_cons_self
    have ht : sx_P (t :: ts) ((sx_n p u).getD 0 :: (sx_ns p σ ++ e)) := ht
    obtain ⟨h1, h2⟩ := ht
    rw [hy] at h1
    have h1 : t.1 ≤ y ∧ y ≤ t.2 := h1
    exact sx_cts_ok (fun w hw => hd w (List.mem_cons_of_mem _ hw)) h2 (sx_cl_ok (sx_cu_ok h hy h1.2) hy h1.1)
def sx_nws : Nat → Nat → List sx_v
  | 0, _ => []
  | m + 1, s => (1, s, 0) :: sx_nws m (s + 1)
/-- two facts of one slot -/
def sx_un (kept : sx_Ov) : sx_Ov → sx_I → sx_I
  | [], iv => iv
  | o :: t, iv => sx_un kept t (match sx_fi kept o.1 o.2.1, sx_r iv o.2.2 with
    | some u, some r => sx_cl (sx_cu iv u r.2) u r.1
    | _, _ => iv)
theorem sx_un_ok {kept : sx_Ov} (hk : ∀ o ∈ kept, sx_oh p h o) : ∀ {xs : sx_Ov} {iv : sx_I}, (∀ o ∈ xs, sx_oh p h o) → sx_P iv p → sx_P (sx_un kept xs iv) p
  | [], _, _, H => H
  | o :: t, iv, hx, H => by
    unfold sx_un
    refine sx_un_ok hk (fun g hg => hx g (List.mem_cons_of_mem _ hg)) ?_
    split
    · next u r hu hr =>
      obtain ⟨i, v, h1, h2, h3⟩ := hx o List.mem_cons_self
      obtain ⟨i', v', g1, g2, g3⟩ := hk _ (sx_fi_ok hu)
      dsimp only at g1 g2 g3
      rw [h1] at g1
      cases g1
      rw [h2] at g2
      cases g2
      obtain ⟨y, y1, y2, y3⟩ := sx_r_ok H hr
      obtain ⟨X, rfl, hX⟩ := sx_g_n y1 h3
      have hu2 := sx_g_int g3
      exact sx_cl_ok (sx_cu_ok H hu2 (by omega)) hu2 (by omega)
    · exact H
/-- what stands behind a call that ends by the exit x -/
def sx_aft (G : sx_G) (dp : sx_D) (σ : List sx_v) (C : sx_C) (B : sx_B) (x : sx_A) (τ : List sx_v) : sx_B :=
  (B.1.filter (fun o => sx_kp σ B.2.1 C.2.2.2 o.1 o.2.1) ++ (x.2.2.1.map (fun o => (o.1, sx_sb τ o.2.1, sx_sb τ o.2.2))).filter (fun o => (sx_fi (B.1.filter (fun o => sx_kp σ B.2.1 C.2.2.2 o.1 o.2.1)) o.1 o.2.1).isNone),
   sx_un (B.1.filter (fun o => sx_kp σ B.2.1 C.2.2.2 o.1 o.2.1)) (x.2.2.1.map (fun o => (o.1, sx_sb τ o.2.1, sx_sb τ o.2.2))) (sx_cts σ x.2.2.2.1 (B.2.1 ++ x.2.2.2.1.drop σ.length)),
   x.2.2.2.2.1.map (fun f => (f.1, sx_sb τ f.2.1, sx_sb τ f.2.2.1, sx_sb τ f.2.2.2)) ++ B.2.2.1,
   x.2.2.2.2.2.1 ++ B.2.2.2.1.filter (fun c => sx_kc G C.2.2.2 c.1 && sx_kc G C.2.2.2 c.2),
   x.2.2.2.2.2.2 ++ B.2.2.2.2.filter (sx_kj dp σ B.2.1 C.2.2.2))
theorem sx_P.drop : ∀ {iv : sx_I} {q e : List Int}, sx_P iv (q ++ e) → sx_P (iv.drop q.length) e
  | iv, [], e, H => H
  | _ :: iv, _ :: q, e, H => sx_P.drop (q := q) H.2
  | [], _ :: _, _, H => H.elim
theorem sx_nws_ns : ∀ {m s : Nat} {q e : List Int}, q.length = s → e.length = m → sx_def (q ++ e) (sx_nws m s) ∧ sx_ns (q ++ e) (sx_nws m s) = e
  | 0, s, q, e, _, h2 => ⟨fun t ht => by simp [sx_nws] at ht, by rw [List.eq_nil_of_length_eq_zero h2]; rfl⟩
  | m + 1, s, q, y :: e, h1, h2 => by
    have h2 : e.length = m := by simpa using h2
    have e1 : q ++ y :: e = (q ++ [y]) ++ e := by simp
    obtain ⟨g1, g2⟩ := sx_nws_ns (m := m) (s := s + 1) (q := q ++ [y]) (e := e) (by rw [List.length_append, h1]; rfl) h2
    have e2 : sx_n (q ++ [y] ++ e) (1, s, 0) = some y := by
      show (match (q ++ [y] ++ e)[s]? with
        | some z => some (z + (0 : Int))
        | none => none) = some y
      have : (q ++ [y] ++ e)[s]? = some y := by
        rw [List.append_assoc, List.getElem?_append_right (by omega), h1, Nat.sub_self]
        rfl
      rw [this]
      show some (y + 0) = some y
      rw [Int.add_zero]
    rw [e1]
    refine ⟨fun t ht => ?_, ?_⟩
    · unfold sx_nws at ht
      rcases List.mem_cons.mp ht with rfl | ht
      · exact ⟨y, e2⟩
      · exact g1 t ht
    · show (sx_n (q ++ [y] ++ e) (1, s, 0)).getD 0 :: sx_ns (q ++ [y] ++ e) (sx_nws m (s + 1)) = y :: e
      rw [e2, g2]
      rfl
  | m + 1, s, q, [], h1, h2 => by cases h2
theorem sx_ns_ext {e : List Int} : ∀ {σ : List sx_v}, sx_def p σ → sx_def (p ++ e) σ ∧ sx_ns (p ++ e) σ = sx_ns p σ
  | [], _ => ⟨fun t ht => by simp at ht, rfl⟩
  | u :: σ, hd => by
    obtain ⟨h1, h2⟩ := sx_ns_ext (e := e) (σ := σ) (fun w hw => hd w (List.mem_cons_of_mem _ hw))
    obtain ⟨y, hy⟩ := hd u List.mem_cons_self
    refine ⟨fun t ht => ?_, ?_⟩
    · rcases List.mem_cons.mp ht with rfl | ht
      · exact ⟨y, sx_n_ext e hy⟩
      · exact h1 t ht
    · show (sx_n (p ++ e) u).getD 0 :: sx_ns (p ++ e) σ = (sx_n p u).getD 0 :: sx_ns p σ
      rw [h2, hy, sx_n_ext e hy]
theorem sx_aft_ok {C : sx_C} {x : sx_A} {e : List Int} {h' : ri_H} {v : Option Value} (HJ : sx_HJ G J dp) (HE : sx_E G J p B h) (hd : sx_def p σ) (hx : sx_S G J (sx_ns p σ ++ e) x [] v.toList h') (hf : sx_Fr (sx_ns p σ) C.2.2.2 h h') :
    sx_E G J (p ++ e) (sx_aft G dp σ C B x (σ ++ sx_nws (x.2.2.2.1.length - σ.length) B.2.1.length)) h' ∧ sx_sts (p ++ e) (x.2.1.map (sx_sb (σ ++ sx_nws (x.2.2.2.1.length - σ.length) B.2.1.length))) v.toList := by
  obtain ⟨-, x2, x3, x4, x5, x6, x7, x8⟩ := hx
  have hl : (sx_ns p σ).length = σ.length := by unfold sx_ns; rw [List.length_map]
  have hle : x.2.2.2.1.length - σ.length = e.length := by
    have := x4.len
    rw [List.length_append, hl] at this
    omega
  obtain ⟨d1, d2⟩ := sx_ns_ext (e := e) hd
  obtain ⟨d3, d4⟩ := sx_nws_ns (m := e.length) (s := B.2.1.length) (q := p) (e := e) HE.2.1.len.symm rfl
  rw [hle]
  have hτd : sx_def (p ++ e) (σ ++ sx_nws e.length B.2.1.length) := fun t ht => by
    rcases List.mem_append.mp ht with ht | ht
    · exact d1 t ht
    · exact d3 t ht
  have hτ : sx_ns (p ++ e) (σ ++ sx_nws e.length B.2.1.length) = sx_ns p σ ++ e := by
    unfold sx_ns at d2 d4 ⊢
    rw [List.map_append, d4, d2]
  have hI := HE.2.2.2.2.2
  have hkept : ∀ o ∈ B.1.filter (fun o => sx_kp σ B.2.1 C.2.2.2 o.1 o.2.1), sx_oh (p ++ e) h' o := fun o ho => by
    obtain ⟨o1, o2⟩ := List.mem_filter.mp ho
    obtain ⟨i, w, w1, w2, w3⟩ := HE.1 o o1
    exact ⟨i, w, sx_n_ext e w1, by rw [hf o.1 i (sx_kp_ok HE.2.1 hd w1 o2)]; exact w2, sx_g_ext e w3⟩
  have hxs : ∀ o ∈ x.2.2.1.map (fun o => (o.1, sx_sb (σ ++ sx_nws e.length B.2.1.length) o.2.1, sx_sb (σ ++ sx_nws e.length B.2.1.length) o.2.2)), sx_oh (p ++ e) h' o := fun o ho => by
    obtain ⟨o', o1, rfl⟩ := List.mem_map.mp ho
    exact (sx_sb_oh hτd).mpr (by rw [hτ]; exact x3 o' o1)
  refine ⟨⟨fun o ho => ?_, ?_, fun f hf' => ?_, fun c hc => ?_, fun j hj => ?_, x8⟩, ?_⟩
  · rcases List.mem_append.mp ho with ho | ho
    · exact hkept o ho
    · exact hxs o (List.mem_filter.mp ho).1
  · refine sx_un_ok hkept hxs ?_
    have h1 : sx_P (B.2.1 ++ x.2.2.2.1.drop σ.length) (p ++ e) := HE.2.1.app (by have := x4.drop; rw [hl] at this; exact this)
    exact sx_cts_ok (e := e) d1 (by rw [d2]; exact x4) h1
  · rcases List.mem_append.mp hf' with hf' | hf'
    · obtain ⟨f', f1, rfl⟩ := List.mem_map.mp hf'
      exact (sx_sb_fh hτd).mpr (by rw [hτ]; exact x5 f' f1)
    · exact sx_fh_ext e (HE.2.2.1 f hf')
  · rcases List.mem_append.mp hc with hc | hc
    · exact x6 c hc
    · obtain ⟨c1, c2⟩ := List.mem_filter.mp hc
      simp only [Bool.and_eq_true] at c2
      obtain ⟨q, r, q1, r1, qr⟩ := HE.2.2.2.1 c c1
      obtain ⟨q', g1, g2⟩ := sx_kc_ok hI x8 hf c2.1 q1
      obtain ⟨r', g3, g4⟩ := sx_kc_ok hI x8 hf c2.2 r1
      exact ⟨q', r', g1, g3, by rw [g2, g4, qr]⟩
  · rcases List.mem_append.mp hj with hj | hj
    · exact x7 j hj
    · obtain ⟨j1, j2⟩ := List.mem_filter.mp hj
      exact sx_kj_ok HJ HE.2.1 hd hf j2 (HE.2.2.2.2.1 j j1)
  · have : ∀ {as : List sx_v} {vs : List Value}, sx_sts (sx_ns p σ ++ e) as vs → sx_sts (p ++ e) (as.map (sx_sb (σ ++ sx_nws e.length B.2.1.length))) vs := by
      intro as
      induction as with
      | nil => intro vs H; cases vs with
        | nil => trivial
        | cons a s => exact H.elim
      | cons a as ih => intro vs H; cases vs with
        | nil => exact H.elim
        | cons w ws => exact ⟨(sx_sb_g hτd).mpr (by rw [hτ]; exact H.1), ih H.2⟩
    exact this x2
/-- such an exit may be -/
def sx_fes (G : sx_G) (dp : sx_D) (σ : List sx_v) (C : sx_C) (B : sx_B) (x : sx_A) (τ : List sx_v) : Bool := (sx_cts σ x.2.2.2.1 (B.2.1 ++ x.2.2.2.1.drop σ.length)).all (fun t => sx_ble t.1 t.2) && x.2.2.2.2.1.all (fun f => !(Nat.beq f.1 0 && (match sx_r (sx_aft G dp σ C B x τ).2.1 (sx_sb τ f.2.1), sx_r (sx_aft G dp σ C B x τ).2.1 (sx_sb τ f.2.2.1) with
  | some _, some _ => sx_ent (sx_aft G dp σ C B x τ).2.1 (sx_aft G dp σ C B x τ).2.2.1 3 (sx_sh (sx_sb τ f.2.2.1) 1) (sx_sb τ f.2.1)
  | _, _ => false)))
/-- the states behind a call -/
def sx_exs (G : sx_G) (dp : sx_D) (σ : List sx_v) (C : sx_C) (B : sx_B) (al : List (Nat × sx_v)) (r : List sx_v) (pc : Nat) : List sx_A → List (Nat × sx_A)
  | [] => []
  | x :: xs => bif sx_fes G dp σ C B x (σ ++ sx_nws (x.2.2.2.1.length - σ.length) B.2.1.length) then (pc + 3, (al, x.2.1.map (sx_sb (σ ++ sx_nws (x.2.2.2.1.length - σ.length) B.2.1.length)) ++ r, sx_aft G dp σ C B x (σ ++ sx_nws (x.2.2.2.1.length - σ.length) B.2.1.length))) :: sx_exs G dp σ C B al r pc xs else sx_exs G dp σ C B al r pc xs
theorem sx_exs_in {C : sx_C} {al : List (Nat × sx_v)} {r : List sx_v} : ∀ {xs : List sx_A} {x : sx_A}, x ∈ xs → sx_fes G dp σ C B x (σ ++ sx_nws (x.2.2.2.1.length - σ.length) B.2.1.length) = true → (pc + 3, (al, x.2.1.map (sx_sb (σ ++ sx_nws (x.2.2.2.1.length - σ.length) B.2.1.length)) ++ r, sx_aft G dp σ C B x (σ ++ sx_nws (x.2.2.2.1.length - σ.length) B.2.1.length))) ∈ sx_exs G dp σ C B al r pc xs
  | [], _, h, _ => by simp at h
  | y :: xs, x, h, hb => by
    unfold sx_exs
    rcases List.mem_cons.mp h with rfl | h
    · rw [hb]
      exact List.mem_cons_self
    · cases sx_fes G dp σ C B y (σ ++ sx_nws (y.2.2.2.1.length - σ.length) B.2.1.length) with
      | true => exact List.mem_cons_of_mem _ (sx_exs_in h hb)
      | false => exact sx_exs_in h hb
theorem sx_P.all : ∀ {iv : sx_I} {q : List Int}, sx_P iv q → iv.all (fun t => sx_ble t.1 t.2) = true
  | [], [], _ => rfl
  | t :: iv, y :: q, H => by
    rw [List.all_cons, sx_P.all H.2, sx_ble_iff.mpr (Int.le_trans H.1.1 H.1.2)]
    rfl
  | [], _ :: _, H => H.elim
  | _ :: _, [], H => H.elim
theorem sx_exs_all {x : sx_A} {e : List Int} {h' : ri_H} {vs : List Value} (HE : sx_E G J p B h) (hd : sx_def p σ) (hx : sx_S G J (sx_ns p σ ++ e) x [] vs h') : (sx_cts σ x.2.2.2.1 (B.2.1 ++ x.2.2.2.1.drop σ.length)).all (fun t => sx_ble t.1 t.2) = true := by
  obtain ⟨-, -, -, x4, -⟩ := hx
  have hl : (sx_ns p σ).length = σ.length := by unfold sx_ns; rw [List.length_map]
  obtain ⟨d1, d2⟩ := sx_ns_ext (e := e) hd
  have h1 : sx_P (B.2.1 ++ x.2.2.2.1.drop σ.length) (p ++ e) := HE.2.1.app (by have := x4.drop; rw [hl] at this; exact this)
  exact (sx_cts_ok (e := e) d1 (by rw [d2]; exact x4) h1).all
theorem sx_fes_ok {C : sx_C} {x : sx_A} {e : List Int} {h' : ri_H} {vs : List Value} (HE : sx_E G J p B h) (hd : sx_def p σ) (hx : sx_S G J (sx_ns p σ ++ e) x [] vs h') (g1 : sx_E G J (p ++ e) (sx_aft G dp σ C B x (σ ++ sx_nws (x.2.2.2.1.length - σ.length) B.2.1.length)) h') : sx_fes G dp σ C B x (σ ++ sx_nws (x.2.2.2.1.length - σ.length) B.2.1.length) = true := by
  unfold sx_fes
  rw [sx_exs_all HE hd hx, Bool.true_and]
  refine List.all_eq_true.mpr (fun f hf => ?_)
  cases hb : (Nat.beq f.1 0 && (match sx_r (sx_aft G dp σ C B x (σ ++ sx_nws (x.2.2.2.1.length - σ.length) B.2.1.length)).2.1 (sx_sb (σ ++ sx_nws (x.2.2.2.1.length - σ.length) B.2.1.length) f.2.1), sx_r (sx_aft G dp σ C B x (σ ++ sx_nws (x.2.2.2.1.length - σ.length) B.2.1.length)).2.1 (sx_sb (σ ++ sx_nws (x.2.2.2.1.length - σ.length) B.2.1.length) f.2.2.1) with
    | some _, some _ => sx_ent (sx_aft G dp σ C B x (σ ++ sx_nws (x.2.2.2.1.length - σ.length) B.2.1.length)).2.1 (sx_aft G dp σ C B x (σ ++ sx_nws (x.2.2.2.1.length - σ.length) B.2.1.length)).2.2.1 3 (sx_sh (sx_sb (σ ++ sx_nws (x.2.2.2.1.length - σ.length) B.2.1.length) f.2.2.1) 1) (sx_sb (σ ++ sx_nws (x.2.2.2.1.length - σ.length) B.2.1.length) f.2.1)
    | _, _ => false)) with
  | false => rfl
  | true =>
    exfalso
    simp only [Bool.and_eq_true] at hb
    obtain ⟨b1, b2⟩ := hb
    have b1 : f.1 = 0 := Nat.eq_of_beq_eq_true b1
    have hff : sx_fh (p ++ e) (f.1, sx_sb (σ ++ sx_nws (x.2.2.2.1.length - σ.length) B.2.1.length) f.2.1, sx_sb (σ ++ sx_nws (x.2.2.2.1.length - σ.length) B.2.1.length) f.2.2.1, sx_sb (σ ++ sx_nws (x.2.2.2.1.length - σ.length) B.2.1.length) f.2.2.2) := g1.2.2.1 _ (List.mem_append_left _ (List.mem_map.mpr ⟨f, hf, rfl⟩))
    unfold sx_fh at hff
    rw [b1] at hff
    obtain ⟨u, w, u1, w1, uw⟩ := hff
    split at b2
    · have := sx_ent_ok g1.2.1 g1.2.2.1 (sx_sh_n (c := 1) w1) u1 b2
      omega
    · cases b2
def sx_cal (G : sx_G) (dp : sx_D) (n : Nat) (M : sx_M) (C : sx_C) (as r : List sx_v) (al : List (Nat × sx_v)) (B : sx_B) (pc : Nat) : Option (List (Nat × sx_A)) := match sx_mat G dp 0 C.2.1 (sx_as 0 as) [] B with
  | some q => bif Nat.ble ((as.map sx_ct).sum) C.1.2 && C.2.2.2.all (fun m => sx_inm n q.2.2.1 M m.1 (sx_sb q.1 m.2.1) (sx_sb q.1 m.2.2)) then some (sx_exs G dp q.1 C q.2 al r pc C.2.2.1) else none
  | none => none
theorem sx_cal_ok {e0 : List Int} {C : sx_C} {as r : List sx_v} {al : List (Nat × sx_v)} {asv rv : List Value} (HJ : sx_HJ G J dp) (hC : sx_CV G J C cal) (hp : p = p0 ++ e0) (HE : sx_E G J p B h) (h1 : sx_los p al lo) (h2 : sx_sts p as asv) (h3 : sx_sts p r rv) (hs : sx_cal G dp p0.length M C as r al B pc = some L) :
    ∃ (v : Option Value) (h' : ri_H), cal C.1.1 asv h = some (v, h') ∧ sx_To G J p0 M p h L (some (pc + 3, lo, v.toList ++ rv, h', 0, 0)) := by
  unfold sx_cal at hs
  split at hs
  · next q hq =>
    obtain ⟨e1, k1, k2, k3⟩ := sx_mat_ok (lo := ri_as 0 asv) (st := []) HJ HE (fun w hw => (sx_as_ok h2 w hw).2) (show sx_sts p [] [] from trivial) hq
    cases hb : (Nat.ble ((as.map sx_ct).sum) C.1.2 && C.2.2.2.all (fun m => sx_inm p0.length q.2.2.1 M m.1 (sx_sb q.1 m.2.1) (sx_sb q.1 m.2.2))) with
    | false => rw [hb] at hs; cases hs
    | true =>
      rw [hb] at hs
      cases hs
      simp only [Bool.and_eq_true] at hb
      obtain ⟨v, h', c1, x, x1, e2, x2, x3⟩ := hC _ asv h (by rw [sx_wt_ok h2]; exact Nat.ble_eq.mp hb.1) k3
      refine ⟨v, h', c1, ?_⟩
      obtain ⟨g1, g2⟩ := sx_aft_ok HJ k1 k2 x2 x3
      have g3 := sx_fes_ok k1 k2 x2 g1
      refine ⟨_, sx_exs_in (al := al) (r := r) (pc := pc) x1 g3, e1 ++ e2, lo, v.toList ++ rv, h', rfl, ⟨?_, ?_, ?_⟩, fun k i hni => x3 k i ?_⟩
      · exact h1.ext _
      · dsimp only
        have : ∀ {a b : List sx_v} {c d : List Value}, sx_sts (p ++ (e1 ++ e2)) a c → sx_sts (p ++ (e1 ++ e2)) b d → sx_sts (p ++ (e1 ++ e2)) (a ++ b) (c ++ d) := by
          intro a
          induction a with
          | nil => intro b c d H1 H2; cases c with
            | nil => exact H2
            | cons _ _ => exact H1.elim
          | cons y ys ih => intro b c d H1 H2; cases c with
            | nil => exact H1.elim
            | cons _ _ => exact ⟨H1.1, ih H1.2 H2⟩
        exact this (by rw [← List.append_assoc]; exact g2) (h3.ext _)
      · rw [← List.append_assoc]; exact g1
      · rintro ⟨m, m1, rfl, a, b, m3, m4, m5, m6⟩
        rw [← sx_sb_n k2] at m3 m4
        subst hp
        rw [List.append_assoc] at m3 m4 k1
        exact hni (sx_inm_ok rfl k1.2.1 (List.all_eq_true.mp hb.2 m m1) m3 m4 m5 m6)
  · cases hs
def sx_try (G : sx_G) (dp : sx_D) (n : Nat) (M : sx_M) (j : Nat) (as r : List sx_v) (al : List (Nat × sx_v)) (B : sx_B) (pc : Nat) : List sx_C → Option (List (Nat × sx_A))
  | [] => none
  | C :: cs => bif Nat.beq C.1.1 j then (match sx_cal G dp n M C as r al B pc with
    | some L => some L
    | none => sx_try G dp n M j as r al B pc cs) else sx_try G dp n M j as r al B pc cs
theorem sx_try_ok {e0 : List Int} {j : Nat} {as r : List sx_v} {al : List (Nat × sx_v)} {asv rv : List Value} (HJ : sx_HJ G J dp) (hp : p = p0 ++ e0) (HE : sx_E G J p B h) (h1 : sx_los p al lo) (h2 : sx_sts p as asv) (h3 : sx_sts p r rv) : ∀ {cs : List sx_C}, (∀ C ∈ cs, sx_CV G J C cal) → sx_try G dp p0.length M j as r al B pc cs = some L →
    ∃ (v : Option Value) (h' : ri_H), cal j asv h = some (v, h') ∧ sx_To G J p0 M p h L (some (pc + 3, lo, v.toList ++ rv, h', 0, 0))
  | [], _, hs => by cases hs
  | C :: cs, hC, hs => by
    unfold sx_try at hs
    cases hb : Nat.beq C.1.1 j with
    | false =>
      rw [hb] at hs
      exact sx_try_ok HJ hp HE h1 h2 h3 (fun D hD => hC D (List.mem_cons_of_mem _ hD)) hs
    | true =>
      rw [hb] at hs
      dsimp only [cond_true] at hs
      split at hs
      · next L' hL =>
        cases hs
        rw [← Nat.eq_of_beq_eq_true hb]
        exact sx_cal_ok HJ (hC C List.mem_cons_self) hp HE h1 h2 h3 hL
      · exact sx_try_ok HJ hp HE h1 h2 h3 (fun D hD => hC D (List.mem_cons_of_mem _ hD)) hs
/-- a call of the class's own -/
def sx_inv (G : sx_G) (dp : sx_D) (n : Nat) (M : sx_M) (cs : List sx_C) (bud : Nat → Option (Nat × Nat)) (kd j na t pc : Nat) (A : sx_A) : Option (List (Nat × sx_A)) := match bud j, sx_take na [] A.2.1 with
  | some (0, 0), some (as, r0) => bif Nat.beq kd 3 then (bif Nat.ble ((r0.map sx_ct).sum) 8 then sx_try G dp n M j as r0 A.1 A.2.2 pc cs else none) else match r0 with
    | a :: r => bif Nat.beq kd 1 && (Nat.beq a.1 2 && Nat.ble ((r.map sx_ct).sum) 8) then (match G[a.2.1]? with
      | some c => bif Nat.beq c.1 t then sx_try G dp n M j (a :: as) r A.1 A.2.2 pc cs else none
      | none => none) else none
    | [] => none
  | _, _ => none
theorem sx_inv_ok {e0 : List Int} {cs : List sx_C} {bud : Nat → Option (Nat × Nat)} {kd j na t : Nat} {me : ri_M} {dc : ri_O} {rest : List Nat} (HJ : sx_HJ G J dp) (hC : ∀ C ∈ cs, sx_CV G J C cal) (hp : p = p0 ++ e0) (HS : sx_S G J p A lo st h) (hk : kd = 1 ∨ kd = 3) (hs : sx_inv G dp p0.length M cs bud kd j na t pc A = some L) : sx_To G J p0 M p h L (ri_inv dc cal bud me pc (kd :: j :: na :: t :: rest) lo st h 0 0) := by
  have hun : ri_inv dc cal bud me pc (kd :: j :: na :: t :: rest) lo st h 0 0 = (match ri_take na [] st with
    | some (as, r0) => match (bif Nat.beq kd 3 then some (as, r0) else match r0 with
        | .ref b :: r => bif Nat.beq kd 1 || (Nat.beq kd 2 || Nat.beq kd 7) then (match h[b]? with
          | some q => bif Nat.beq q.1 t then some (.ref b :: as, r) else none
          | none => none) else none
        | .retAddr 5 :: r => bif Nat.beq kd 6 then some (.retAddr 5 :: as, r) else none
        | _ => none) with
      | some (as', r) => bif Nat.ble (ri_wt r) 8 then (match bud j, cal j as' h with
        | some (mc, ms), some (v, h') => bif Nat.ble (0 + mc) me.2.2.2.2.2.1 && Nat.ble (0 + ms) me.2.2.2.2.2.2 then some (pc + 3, lo, v.toList ++ r, h', 0 + mc, 0 + ms) else none
        | _, _ => none) else none
      | none => none
    | none => none) := by
    rcases hk with rfl | rfl <;> rfl
  rw [hun]
  unfold sx_inv at hs
  split at hs
  · next as r0 hbu htk =>
    obtain ⟨asv, rv, t1, t2, t3⟩ := sx_take_ok (av := []) (show sx_sts p [] [] from trivial) HS.2.1 htk
    rw [t1]
    dsimp only
    cases h3 : Nat.beq kd 3 with
    | true =>
      rw [h3] at hs
      dsimp only [cond_true] at hs ⊢
      cases hw : Nat.ble ((r0.map sx_ct).sum) 8 with
      | false => rw [hw] at hs; cases hs
      | true =>
        rw [hw] at hs
        rw [sx_wt_ok t3, hw]
        obtain ⟨v, h', c1, c2⟩ := sx_try_ok HJ hp HS.2.2 HS.1 t2 t3 hC hs
        dsimp only [cond_true]
        rw [hbu, c1]
        dsimp only
        rw [show Nat.ble (0 + 0) me.2.2.2.2.2.1 = true from Nat.ble_eq.mpr (Nat.zero_le _), show Nat.ble (0 + 0) me.2.2.2.2.2.2 = true from Nat.ble_eq.mpr (Nat.zero_le _)]
        exact c2
    | false =>
      rw [h3] at hs
      dsimp only [cond_false] at hs ⊢
      split at hs
      · next a r =>
        cases hb : (Nat.beq kd 1 && (Nat.beq a.1 2 && Nat.ble ((r.map sx_ct).sum) 8)) with
        | false => rw [hb] at hs; cases hs
        | true =>
          rw [hb] at hs
          simp only [Bool.and_eq_true] at hb
          obtain ⟨va, r', rfl, t4, t5⟩ := t3.c1
          have hx := sx_g_R t4 hb.2.1
          subst hx
          dsimp only [cond_true] at hs ⊢
          rw [hb.1]
          split at hs
          · next c hc =>
            cases hq : Nat.beq c.1 t with
            | false => rw [hq] at hs; cases hs
            | true =>
              rw [hq] at hs
              obtain ⟨vs, i1, -⟩ := HS.2.2.2.2.2.2.2 a.2.1 c hc
              obtain ⟨v, h', c1, c2⟩ := sx_try_ok HJ hp HS.2.2 HS.1 (as := a :: as) (asv := .ref a.2.1 :: asv) ⟨t4, t2⟩ t5 hC hs
              simp only [Bool.true_or, cond_true]
              rw [i1]
              dsimp only
              rw [hq]
              dsimp only [cond_true]
              rw [sx_wt_ok t5, hb.2.2]
              dsimp only [cond_true]
              rw [hbu, c1]
              dsimp only
              rw [show Nat.ble (0 + 0) me.2.2.2.2.2.1 = true from Nat.ble_eq.mpr (Nat.zero_le _), show Nat.ble (0 + 0) me.2.2.2.2.2.2 = true from Nat.ble_eq.mpr (Nat.zero_le _)]
              exact c2
          · cases hs
      · cases hs
  · cases hs
end SXH
