/-! one state as a case of another; calls by contract -/
def sx_sb (σ : List sx_v) (t : sx_v) : sx_v := match t.1 with
  | 1 => match σ[t.2.1]? with
    | some u => sx_sh u t.2.2
    | none => (9, 0, 0)
  | _ => t
def sx_ns (p : List Int) (σ : List sx_v) : List Int := σ.map (fun t => (sx_n p t).getD 0)
def sx_def (p : List Int) (σ : List sx_v) : Prop := ∀ t ∈ σ, ∃ y, sx_n p t = some y
section SXG
variable {G : sx_G} {J : Nat → ri_H → Prop} {dp : sx_D} {p p0 : List Int} {M : sx_M} {A : sx_A} {B B' : sx_B} {L : List (Nat × sx_A)} {lo : List (Nat × Value)} {st : List Value} {h : ri_H} {pc n : Nat} {σ : List sx_v}
theorem sx_ns_at (hd : sx_def p σ) {s : Nat} {u : sx_v} (hu : σ[s]? = some u) : ∃ y, sx_n p u = some y ∧ (sx_ns p σ)[s]? = some y := by
  obtain ⟨y, hy⟩ := hd u (List.mem_of_getElem? hu)
  refine ⟨y, hy, ?_⟩
  unfold sx_ns
  rw [List.getElem?_map, hu]
  show some ((sx_n p u).getD 0) = some y
  rw [hy]
  rfl
theorem sx_sb_n (hd : sx_def p σ) (a : sx_v) : sx_n p (sx_sb σ a) = sx_n (sx_ns p σ) a := by
  unfold sx_sb
  split
  · next e =>
    have hr : sx_n (sx_ns p σ) a = match (sx_ns p σ)[a.2.1]? with
      | some y => some (y + a.2.2)
      | none => none := by
      unfold sx_n
      rw [e]
      rfl
    rw [hr]
    split
    · next u hu =>
      obtain ⟨y, y1, y2⟩ := sx_ns_at hd hu
      rw [y2, sx_sh_n y1]
    · next hu =>
      have : (sx_ns p σ)[a.2.1]? = none := by
        unfold sx_ns
        rw [List.getElem?_map, hu]
        rfl
      rw [this]
      rfl
  · next e =>
    unfold sx_n
    split
    · rfl
    · next e1 => exact absurd e1 e
    · rfl
theorem sx_sb_g (hd : sx_def p σ) {a : sx_v} {v : Value} : sx_g p (sx_sb σ a) v ↔ sx_g (sx_ns p σ) a v := by
  by_cases e : a.1 = 1
  · refine ⟨fun H => ?_, fun H => ?_⟩
    · have H1 : sx_sb σ a = match σ[a.2.1]? with
        | some u => sx_sh u a.2.2
        | none => (9, 0, 0) := by
        unfold sx_sb
        rw [e]
        rfl
      have H2 : ∃ u, sx_sb σ a = sx_sh u a.2.2 ∧ σ[a.2.1]? = some u := by
        cases hu : σ[a.2.1]? with
        | some u => rw [hu] at H1; exact ⟨u, H1, rfl⟩
        | none =>
          rw [hu] at H1
          have H1 : sx_sb σ a = (9, 0, 0) := H1
          rw [H1] at H
          exact H.elim
      obtain ⟨u, u1, u2⟩ := H2
      obtain ⟨y, y1, y2⟩ := sx_ns_at hd u2
      have h3 : sx_n p (sx_sb σ a) = some (y + a.2.2) := by rw [u1]; exact sx_sh_n y1
      obtain ⟨x, rfl, x2⟩ := sx_g_n h3 H
      rw [sx_sb_n hd] at h3
      exact sx_g_of (by rw [h3, x2])
    · have H1 := H
      unfold sx_g at H1
      rw [e] at H1
      obtain ⟨x, rfl, x2⟩ := H1
      rw [← sx_sb_n hd] at x2
      exact sx_g_of x2
  · have e1 : sx_sb σ a = a := by
      unfold sx_sb
      split
      · next e2 => exact absurd e2 e
      · rfl
    rw [e1]
    unfold sx_g
    split
    · next e0 => unfold sx_n; rw [e0]; exact Iff.rfl
    · next e2 => exact absurd e2 e
    · exact Iff.rfl
    · exact Iff.rfl
    · exact Iff.rfl
    · exact Iff.rfl
    · exact Iff.rfl
theorem sx_sb_fh (hd : sx_def p σ) {f : Nat × sx_v × sx_v × sx_v} : sx_fh p (f.1, sx_sb σ f.2.1, sx_sb σ f.2.2.1, sx_sb σ f.2.2.2) ↔ sx_fh (sx_ns p σ) f := by
  unfold sx_fh
  dsimp only
  rw [sx_sb_n hd, sx_sb_n hd, sx_sb_n hd]
theorem sx_sb_oh (hd : sx_def p σ) {o : Nat × sx_v × sx_v} : sx_oh p h (o.1, sx_sb σ o.2.1, sx_sb σ o.2.2) ↔ sx_oh (sx_ns p σ) h o := by
  unfold sx_oh
  dsimp only
  constructor
  · rintro ⟨i, v, h1, h2, h3⟩
    exact ⟨i, v, by rw [← sx_sb_n hd]; exact h1, h2, (sx_sb_g hd).mp h3⟩
  · rintro ⟨i, v, h1, h2, h3⟩
    exact ⟨i, v, by rw [sx_sb_n hd]; exact h1, h2, (sx_sb_g hd).mpr h3⟩
def sx_same (iv : sx_I) (a b : sx_v) : Bool := sx_veq a b || (match sx_r iv a, sx_r iv b with
  | some r, some s => sx_beq r.1 r.2 && (sx_beq s.1 s.2 && sx_beq r.1 s.1)
  | _, _ => false)
theorem sx_same_ok {iv : sx_I} (HP : sx_P iv p) {a b : sx_v} {v : Value} (hs : sx_same iv a b = true) (hg : sx_g p b v) : sx_g p a v := by
  rcases (Bool.or_eq_true _ _).mp hs with e | e
  · rw [sx_veq_ok e]; exact hg
  · split at e
    · next r s hr hs =>
      simp only [Bool.and_eq_true] at e
      have e1 := sx_beq_ok e.1
      have e2 := sx_beq_ok e.2.1
      have e3 := sx_beq_ok e.2.2
      obtain ⟨y, y1, y2⟩ := sx_r_ok HP hr
      obtain ⟨z, z1, z2⟩ := sx_r_ok HP hs
      obtain ⟨x, rfl, x2⟩ := sx_g_n z1 hg
      exact sx_g_of (by rw [y1]; congr 1; omega)
    · cases e
def sx_fen (B : sx_B) (f : Nat × sx_v × sx_v × sx_v) : Bool := match f.1 with
  | 0 => (match sx_r B.2.1 f.2.1, sx_r B.2.1 f.2.2.1 with
    | some _, some _ => sx_ent B.2.1 B.2.2.1 4 f.2.1 f.2.2.1
    | _, _ => false)
  | 5 => (match sx_r B.2.1 f.2.1 with
    | some r => Nat.beq f.2.2.1.1 0 && (sx_ble 1 f.2.2.1.2.2 && (sx_beq r.1 r.2 && sx_beq (r.1 % f.2.2.1.2.2) 0 || (match sx_rs f.2.2.1.2.2 f.2.1 B.2.2.1 with
      | some c => sx_beq (c % f.2.2.1.2.2) 0
      | none => false)))
    | none => false)
  | _ => B.2.2.1.any (fun g => Nat.beq g.1 f.1 && (sx_veq g.2.1 f.2.1 && (sx_veq g.2.2.1 f.2.2.1 && sx_veq g.2.2.2 f.2.2.2)))
theorem sx_fen_ok (H : sx_E G J p B h) {f : Nat × sx_v × sx_v × sx_v} (hs : sx_fen B f = true) : sx_fh p f := by
  unfold sx_fen at hs
  split at hs
  · next e =>
    split at hs
    · next r s hr hs' =>
      obtain ⟨a, a1, -⟩ := sx_r_ok H.2.1 hr
      obtain ⟨b, b1, -⟩ := sx_r_ok H.2.1 hs'
      unfold sx_fh
      rw [e]
      exact ⟨a, b, a1, b1, sx_ent_ok H.2.1 H.2.2.1 a1 b1 hs⟩
    · cases hs
  · next e =>
    split at hs
    · next r hr =>
      simp only [Bool.and_eq_true, sx_ble_iff] at hs
      obtain ⟨s1, s2, s3⟩ := hs
      have s1 : f.2.2.1.1 = 0 := Nat.eq_of_beq_eq_true s1
      obtain ⟨a, a1, a2, a3⟩ := sx_r_ok H.2.1 hr
      unfold sx_fh
      rw [e]
      refine ⟨a, f.2.2.1.2.2, a1, by unfold sx_n; rw [s1]; rfl, ?_⟩
      rcases (Bool.or_eq_true _ _).mp s3 with s | s
      · simp only [Bool.and_eq_true] at s
        have e1 := sx_beq_ok s.1
        have e2 := sx_beq_ok s.2
        rw [show a = r.1 by omega]
        exact Int.dvd_of_emod_eq_zero e2
      · split at s
        · next c hc =>
          have h1 := sx_rs_ok a1 H.2.2.1 hc
          have h2 := Int.dvd_of_emod_eq_zero (sx_beq_ok s)
          have := Int.dvd_add h1 h2
          rw [show a - c + c = a by omega] at this
          exact this
        · cases s
    · cases hs
  · obtain ⟨g, g1, g2⟩ := List.any_eq_true.mp hs
    simp only [Bool.and_eq_true] at g2
    have e1 : g.1 = f.1 := Nat.eq_of_beq_eq_true g2.1
    have e2 := sx_veq_ok g2.2.1
    have e3 := sx_veq_ok g2.2.2.1
    have e4 := sx_veq_ok g2.2.2.2
    have : g = f := by
      obtain ⟨a, b, c, d⟩ := g
      obtain ⟨a', b', c', d'⟩ := f
      dsimp only at e1 e2 e3 e4
      rw [e1, e2, e3, e4]
    rw [← this]
    exact H.2.2.1 g g1
/-- locals, stack, intervals, slots, facts, copies, invariants of a state, its names put in -/
def sx_al2 (iv : sx_I) (σ : List sx_v) : List sx_v → List sx_v → Bool
  | [], [] => true
  | a :: as, u :: us => sx_same iv (sx_sb σ a) u && sx_al2 iv σ as us
  | _, _ => false
def sx_ivs (iv : sx_I) : List sx_v → sx_I → Bool
  | [], [] => true
  | u :: us, t :: ts => (match sx_r iv u with
    | some r => sx_ble t.1 r.1 && sx_ble r.2 t.2
    | none => false) && sx_ivs iv us ts
  | _, _ => false
theorem sx_al2_ok {iv : sx_I} (HP : sx_P iv p) (hd : sx_def p σ) : ∀ {as us : List sx_v} {vs : List Value}, sx_al2 iv σ as us = true → sx_sts p us vs → sx_sts (sx_ns p σ) as vs
  | [], [], [], _, _ => trivial
  | a :: as, u :: us, v :: vs, hs, H => by
    unfold sx_al2 at hs
    simp only [Bool.and_eq_true] at hs
    exact ⟨(sx_sb_g hd).mp (sx_same_ok HP hs.1 H.1), sx_al2_ok HP hd hs.2 H.2⟩
  | [], [], _ :: _, _, H => H.elim
  | _ :: _, _ :: _, [], _, H => H.elim
  | [], _ :: _, _, hs, _ => by cases hs
  | _ :: _, [], _, hs, _ => by cases hs
theorem sx_ivs_ok {iv : sx_I} (HP : sx_P iv p) : ∀ {us : List sx_v} {ts : sx_I}, sx_ivs iv us ts = true → sx_def p us ∧ sx_P ts (sx_ns p us)
  | [], [], _ => ⟨fun t ht => by simp at ht, trivial⟩
  | u :: us, t :: ts, hs => by
    unfold sx_ivs at hs
    simp only [Bool.and_eq_true] at hs
    obtain ⟨h1, h2⟩ := sx_ivs_ok HP hs.2
    have h3 := hs.1
    split at h3
    · next r hr =>
      simp only [Bool.and_eq_true, sx_ble_iff] at h3
      obtain ⟨y, y1, y2, y3⟩ := sx_r_ok HP hr
      refine ⟨fun w hw => ?_, ⟨?_, h2⟩⟩
      · rcases List.mem_cons.mp hw with rfl | hw
        · exact ⟨y, y1⟩
        · exact h1 w hw
      · show t.1 ≤ (sx_n p u).getD 0 ∧ (sx_n p u).getD 0 ≤ t.2
        rw [y1]
        show t.1 ≤ y ∧ y ≤ t.2
        omega
    · cases h3
  | [], _ :: _, hs => by cases hs
  | _ :: _, [], hs => by cases hs
/-- a guard that holds by what is known -/
def sx_reg (gd : Nat → Option sx_T) (B : sx_B) (j : Nat) : Bool := match gd j with
  | some g => bif Nat.beq g.1.1 9999 then sx_pw B g (0, 0, 0) else ((match sx_fj B g.1.1 (0, 0, g.1.2) with
    | some c => (match sx_r B.2.1 c with
      | some r => sx_ble r.2 0 || (sx_ble r.2 1 && sx_pw B g (0, 0, 0))
      | none => false) || B.2.2.2.2.any (fun i => match gd i with
      | some f => !Nat.beq f.1.1 9999 && (sx_beq f.2.1.2.1 g.2.1.2.1 && (sx_beq f.2.1.2.2.1 g.2.1.2.2.1 && (sx_beq f.2.1.2.2.2 g.2.1.2.2.2 && (sx_beq f.2.2.2.1 g.2.2.2.1 && (sx_beq f.2.2.2.2.1 g.2.2.2.2.1 && (sx_beq f.2.2.2.2.2 g.2.2.2.2.2 && (B.2.2.2.1.any (fun d => Nat.beq d.1 g.2.1.1 && Nat.beq d.2 f.2.1.1) && (B.2.2.2.1.any (fun d => Nat.beq d.1 g.2.2.1 && Nat.beq d.2 f.2.2.1) && (match sx_fj B f.1.1 (0, 0, f.1.2) with
        | some c' => sx_veq c c' && Nat.ble c.1 1
        | none => false)))))))))
      | none => false)
    | none => false))
  | none => false
theorem sx_reg_ok {gd : Nat → Option sx_T} (HG : sx_HG J gd) (H : sx_E G J p B h) {j : Nat} (hs : sx_reg gd B j = true) : J j h := by
  unfold sx_reg at hs
  split at hs
  · next g hg =>
    rw [HG j g hg]
    intro c i x y hc h0 hi hx x1 x2 hy
    cases h9 : Nat.beq g.1.1 9999 with
    | true =>
      rw [h9] at hs
      unfold sx_cnt at hc
      rw [h9] at hc
      cases hc
      have e : i = 0 := by omega
      subst e
      exact sx_pw_ok H (c := (0, 0, 0)) (i := 0) rfl hs hx x1 x2 hy
    | false =>
      rw [h9] at hs
      have n9 : g.1.1 ≠ 9999 := fun e => by rw [Nat.beq_eq.mpr e] at h9; cases h9
      dsimp only [cond_false] at hs
      split at hs
      · next cc hcc =>
        have hcn := sx_cnt_n H n9 hcc hc
        rcases (Bool.or_eq_true _ _).mp hs with s | s
        · split at s
          · next r hr =>
            have hrr := sx_r_at H.2.1 hr hcn
            rcases (Bool.or_eq_true _ _).mp s with s | s
            · have := sx_ble_iff.mp s
              omega
            · simp only [Bool.and_eq_true, sx_ble_iff] at s
              have e : i = 0 := by omega
              subst e
              exact sx_pw_ok H (c := (0, 0, 0)) (i := 0) rfl s.2 hx x1 x2 hy
          · cases s
        · obtain ⟨k, k1, k2⟩ := List.any_eq_true.mp s
          split at k2
          · next f hf =>
            simp only [Bool.and_eq_true] at k2
            obtain ⟨m0, m1, m2, m3, m4, m5, m6, m7, m8, m9⟩ := k2
            have n0 := sx_nbeq m0
            have m1 := sx_beq_ok m1
            have m2 := sx_beq_ok m2
            have m3 := sx_beq_ok m3
            have m4 := sx_beq_ok m4
            have m5 := sx_beq_ok m5
            have m6 := sx_beq_ok m6
            have hfh := (HG k f hf h).mp (H.2.2.2.2.1 k k1)
            have cp : ∀ (a b : Nat), B.2.2.2.1.any (fun d => Nat.beq d.1 a && Nat.beq d.2 b) = true → ∀ ix, sx_at h a ix = sx_at h b ix := fun a b hab ix => by
              obtain ⟨d, d1, d2⟩ := List.any_eq_true.mp hab
              simp only [Bool.and_eq_true] at d2
              have e1 : d.1 = a := Nat.eq_of_beq_eq_true d2.1
              have e2 : d.2 = b := Nat.eq_of_beq_eq_true d2.2
              obtain ⟨q, r, q1, r1, qr⟩ := H.2.2.2.1 d d1
              rw [e1] at q1
              rw [e2] at r1
              unfold sx_at
              rw [q1, r1]
              dsimp only
              rw [qr]
            split at m9
            · next c' hc' =>
              simp only [Bool.and_eq_true] at m9
              have e5 := sx_veq_ok m9.1
              obtain ⟨w, w1, w2⟩ := sx_fj_ok H (i := f.1.2) rfl hc'
              rw [← e5] at w2
              obtain ⟨Z, rfl, hZ⟩ := sx_g_n hcn w2
              have hc2 : sx_cnt h f.1 = some c := by
                unfold sx_cnt
                rw [show Nat.beq f.1.1 9999 = false by
                  cases e : Nat.beq f.1.1 9999 with
                  | false => rfl
                  | true => exact absurd (Nat.eq_of_beq_eq_true e) n0, w1]
                show some Z.toInt = some c
                rw [hZ]
              rw [cp _ _ m7, ← m1] at hx
              rw [cp _ _ m8, ← m4] at hy
              have := hfh c i x y hc2 h0 hi hx (by omega) (by omega) hy
              omega
            · cases m9
          · cases k2
      · cases hs
  · cases hs
def sx_chm (dp : sx_D) (σ : List sx_v) (T : sx_A) (al : List (Nat × sx_v)) (ar : List sx_v) (B : sx_B) : Bool :=
  sx_ivs B.2.1 σ T.2.2.2.1 && (T.1.all (fun q => match sx_lk al q.1 with
    | some u => sx_same B.2.1 (sx_sb σ q.2) u
    | none => false) && (sx_al2 B.2.1 σ T.2.1 ar && (T.2.2.1.all (fun o => match sx_r B.2.1 (sx_sb σ o.2.1), sx_fj B o.1 (sx_sb σ o.2.1) with
    | some _, some u => sx_same B.2.1 (sx_sb σ o.2.2) u
    | _, _ => false) && (T.2.2.2.2.1.all (fun f => sx_fen B (f.1, sx_sb σ f.2.1, sx_sb σ f.2.2.1, sx_sb σ f.2.2.2)) && (T.2.2.2.2.2.1.all (fun c => B.2.2.2.1.any (fun d => Nat.beq c.1 d.1 && Nat.beq c.2 d.2)) && T.2.2.2.2.2.2.all (fun j => B.2.2.2.2.any (fun i => Nat.beq i j) || dp.2.2.2 B j))))))
theorem sx_chm_ok {T : sx_A} {al : List (Nat × sx_v)} {ar : List sx_v} (HJ : sx_HJ G J dp) (HE : sx_E G J p B h) (hl : sx_los p al lo) (hst : sx_sts p ar st) (hc : sx_chm dp σ T al ar B = true) : sx_def p σ ∧ sx_S G J (sx_ns p σ) T lo st h := by
  unfold sx_chm at hc
  simp only [Bool.and_eq_true] at hc
  obtain ⟨c1, c2, c3, c4, c5, c6, c7⟩ := hc
  obtain ⟨hd, hP⟩ := sx_ivs_ok HE.2.1 c1
  refine ⟨hd, fun q hq => ?_, sx_al2_ok HE.2.1 hd c3 hst, fun o ho => ?_, hP, fun f hf => ?_, fun c hc => ?_, fun j hj => ?_, HE.2.2.2.2.2⟩
  · have := List.all_eq_true.mp c2 q hq
    split at this
    · next u hu =>
      obtain ⟨v, v1, v2⟩ := hl.lk hu
      exact ⟨v, v1, (sx_sb_g hd).mp (sx_same_ok HE.2.1 this v2)⟩
    · cases this
  · have := List.all_eq_true.mp c4 o ho
    split at this
    · next r u hr hu =>
      obtain ⟨i, i1, -⟩ := sx_r_ok HE.2.1 hr
      obtain ⟨x, x1, x2⟩ := sx_fj_ok HE i1 hu
      exact ⟨i, x, by rw [← sx_sb_n hd]; exact i1, x1, (sx_sb_g hd).mp (sx_same_ok HE.2.1 this x2)⟩
    · cases this
  · exact (sx_sb_fh hd).mp (sx_fen_ok HE (List.all_eq_true.mp c5 f hf))
  · obtain ⟨d, d1, d2⟩ := List.any_eq_true.mp (List.all_eq_true.mp c6 c hc)
    simp only [Bool.and_eq_true] at d2
    have e1 : c.1 = d.1 := Nat.eq_of_beq_eq_true d2.1
    have e2 : c.2 = d.2 := Nat.eq_of_beq_eq_true d2.2
    have : c = d := Prod.ext e1 e2
    rw [this]
    exact HE.2.2.2.1 d d1
  · rcases (Bool.or_eq_true _ _).mp (List.all_eq_true.mp c7 j hj) with s | s
    · obtain ⟨i, i1, i2⟩ := List.any_eq_true.mp s
      rw [← Nat.eq_of_beq_eq_true i2]
      exact HE.2.2.2.2.1 i i1
    · exact HJ.2.2.2 _ _ _ _ HE s
/-- names found by looking -/
def sx_u (σ : List (Option sx_v)) (t u : sx_v) : List (Option sx_v) := bif Nat.beq t.1 1 then (match σ[t.2.1]? with
  | some none => σ.set t.2.1 (some (sx_sh u (-t.2.2)))
  | _ => σ) else σ
def sx_usb (σ : List (Option sx_v)) (t : sx_v) : sx_v := match t.1 with
  | 1 => match σ[t.2.1]? with
    | some (some u) => sx_sh u t.2.2
    | _ => (9, 0, 0)
  | _ => t
def sx_g1 (al : List (Nat × sx_v)) : List (Nat × sx_v) → List (Option sx_v) → List (Option sx_v)
  | [], σ => σ
  | q :: t, σ => match sx_lk al q.1 with
    | some u => sx_g1 al t (sx_u σ q.2 u)
    | none => σ
def sx_g2 : List sx_v → List sx_v → List (Option sx_v) → List (Option sx_v)
  | a :: as, u :: us, σ => sx_g2 as us (sx_u σ a u)
  | _, _, σ => σ
def sx_g3 (B : sx_B) : sx_Ov → List (Option sx_v) → List (Option sx_v)
  | [], σ => σ
  | o :: t, σ => match sx_fj B o.1 (sx_usb σ o.2.1) with
    | some u => sx_g3 B t (sx_u σ o.2.2 u)
    | none => σ
def sx_id : Nat → Nat → List (Option sx_v)
  | 0, _ => []
  | n + 1, s => some (1, s, 0) :: sx_id n (s + 1)
def sx_sig (n : Nat) (T : sx_A) (al : List (Nat × sx_v)) (ar : List sx_v) (B : sx_B) : List sx_v :=
  (sx_g3 B T.2.2.1 (sx_g2 T.2.1 ar (sx_g1 al T.1 (sx_id n 0 ++ List.replicate (T.2.2.2.1.length - n) none)))).map (fun o => o.getD (9, 0, 0))
/-- slots that a state speaks of, read ahead -/
def sx_lds (G : sx_G) (dp : sx_D) : sx_Ov → sx_B → sx_B
  | [], B => B
  | o :: t, B => bif Nat.beq o.2.1.1 0 then (match sx_ldg G dp B o.1 o.2.1 with
    | some q => sx_lds G dp t q.1
    | none => sx_lds G dp t B) else sx_lds G dp t B
theorem sx_lds_ok (HJ : sx_HJ G J dp) : ∀ {ov : sx_Ov} {p : List Int} {B : sx_B}, sx_E G J p B h → ∃ e, sx_E G J (p ++ e) (sx_lds G dp ov B) h
  | [], p, B, H => ⟨[], by rw [List.append_nil]; exact H⟩
  | o :: t, p, B, H => by
    unfold sx_lds
    cases hb : Nat.beq o.2.1.1 0 with
    | false => exact sx_lds_ok HJ (ov := t) H
    | true =>
      dsimp only [cond_true]
      split
      · next q hq =>
        have hn : sx_n p o.2.1 = some o.2.1.2.2 := by
          unfold sx_n
          rw [show o.2.1.1 = 0 from Nat.eq_of_beq_eq_true hb]
          rfl
        obtain ⟨e, x, h1, -, -⟩ := sx_ldg_ok HJ H hn hq
        obtain ⟨e2, h2⟩ := sx_lds_ok HJ (ov := t) h1
        exact ⟨e ++ e2, by rw [← List.append_assoc]; exact h2⟩
      · exact sx_lds_ok HJ (ov := t) H
def sx_mat (G : sx_G) (dp : sx_D) (n : Nat) (T : sx_A) (al : List (Nat × sx_v)) (ar : List sx_v) (B : sx_B) : Option (List sx_v × sx_B) :=
  bif sx_chm dp (sx_sig n T al ar (sx_lds G dp T.2.2.1 B)) T al ar (sx_lds G dp T.2.2.1 B) then some (sx_sig n T al ar (sx_lds G dp T.2.2.1 B), sx_lds G dp T.2.2.1 B) else none
theorem sx_mat_ok {T : sx_A} {al : List (Nat × sx_v)} {ar : List sx_v} {m : Nat} (HJ : sx_HJ G J dp) (HE : sx_E G J p B h) (hl : sx_los p al lo) (hst : sx_sts p ar st) (hs : sx_mat G dp m T al ar B = some (σ, B')) : ∃ e, sx_E G J (p ++ e) B' h ∧ sx_def (p ++ e) σ ∧ sx_S G J (sx_ns (p ++ e) σ) T lo st h := by
  unfold sx_mat at hs
  cases hb : sx_chm dp (sx_sig m T al ar (sx_lds G dp T.2.2.1 B)) T al ar (sx_lds G dp T.2.2.1 B) with
  | false => rw [hb] at hs; cases hs
  | true =>
    rw [hb] at hs
    cases hs
    obtain ⟨e, h1⟩ := sx_lds_ok HJ (ov := T.2.2.1) HE
    obtain ⟨h2, h3⟩ := sx_chm_ok HJ h1 (hl.ext e) (hst.ext e) hb
    exact ⟨e, h1, h2, h3⟩
/-- the first names stay -/
def sx_idn : Nat → Nat → List sx_v → Bool
  | 0, _, _ => true
  | n + 1, s, u :: σ => sx_veq u (1, s, 0) && sx_idn n (s + 1) σ
  | _ + 1, _, [] => false
theorem sx_idn_ok : ∀ {n s : Nat} {σ : List sx_v} {q0 q1 e : List Int}, q0.length = s → q1.length = n → sx_idn n s σ = true → ∃ e', sx_ns (q0 ++ q1 ++ e) σ = q1 ++ e'
  | 0, s, σ, q0, q1, e, _, h1, _ => ⟨sx_ns (q0 ++ q1 ++ e) σ, by rw [List.eq_nil_of_length_eq_zero h1]; rfl⟩
  | n + 1, s, u :: σ, q0, q1, e, h0, h1, hs => by
    unfold sx_idn at hs
    simp only [Bool.and_eq_true] at hs
    match q1, h1 with
    | y :: q1, h1 =>
      have h1 : q1.length = n := by simpa using h1
      obtain ⟨e', he⟩ := sx_idn_ok (q0 := q0 ++ [y]) (q1 := q1) (e := e) (by rw [List.length_append, h0]; rfl) h1 hs.2
      refine ⟨e', ?_⟩
      have e1 : q0 ++ (y :: q1) ++ e = q0 ++ [y] ++ q1 ++ e := by simp
      rw [e1]
      show (sx_n (q0 ++ [y] ++ q1 ++ e) u).getD 0 :: sx_ns (q0 ++ [y] ++ q1 ++ e) σ = y :: q1 ++ e'
      rw [he, sx_veq_ok hs.1]
      have e2 : sx_n (q0 ++ [y] ++ q1 ++ e) (1, s, 0) = some y := by
        show (match (q0 ++ [y] ++ q1 ++ e)[s]? with
          | some z => some (z + (0 : Int))
          | none => none) = some y
        have : (q0 ++ [y] ++ q1 ++ e)[s]? = some y := by
          rw [List.append_assoc, List.append_assoc, List.getElem?_append_right (by omega), h0, Nat.sub_self]
          rfl
        rw [this]
        show some (y + 0) = some y
        rw [Int.add_zero]
      rw [e2]
      rfl
end SXG
