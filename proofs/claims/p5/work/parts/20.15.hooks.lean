section MJC
variable {gd : List sx_T} {G : sx_G} {J : Nat → ri_H → Prop} {p : List Int} {B B' : sx_B} {h : ri_H}
theorem mj_J8 : mj_J gd 8 h = mj_P h := rfl
theorem mj_J9 : mj_J gd 9 h = mj_Kk 0 h := rfl
theorem mj_J10 : mj_J gd 10 h = mj_Kk 1 h := rfl
theorem mj_J11 : mj_J gd 11 h = mj_A h := rfl
theorem mj_J12 : mj_J gd 12 h = mj_Bp h := rfl
theorem mj_J13 : mj_J gd 13 h = mj_T h := rfl
/-- the row of s under a write -/
def mj_w8 (B : sx_B) (t v : sx_v) : Bool := match sx_r B.2.1 t with
  | some r => (sx_beq r.1 174 && (sx_beq r.2 174 && (match sx_r B.2.1 v with
    | some u => sx_ble u.2 0
    | none => false))) || (sx_ble 175 r.1 && (match mj_k B 2 (0, 0, 174) with
    | some q => sx_ble q.2.2 0
    | none => false))
  | none => false
def mj_w11 (B : sx_B) (k : Nat) (t v : sx_v) : Bool := match mj_k B 0 (0, 0, 35) with
  | some c => bif Nat.beq k 4 then mj_ge t c.1 B.2.2.1 else Nat.beq k 0 && (sx_veq t (0, 0, 35) && (sx_veq v (sx_sh c.1 1) && mj_has B 12))
  | none => false
def mj_z (iv : sx_I) (v : sx_v) : Bool := match sx_r iv v with
  | some u => sx_ble u.2 0
  | none => false
theorem mj_z_ok {iv : sx_I} (HP : sx_P iv p) {v : sx_v} {x : Value} (hz : mj_z iv v = true) (hg : sx_g p v x) : ∃ X : Int32, x = .int X ∧ X.toInt ≤ 0 := by
  unfold mj_z at hz
  split at hz
  · next u hu =>
    obtain ⟨y, y1, y2, y3⟩ := sx_r_ok HP hu
    obtain ⟨X, rfl, hX⟩ := sx_g_n y1 hg
    have := sx_ble_iff.mp hz
    exact ⟨X, rfl, by omega⟩
  · cases hz
/-- a guard that counts at most one, and whose slots aren't written -/
def mj_c1 (B : sx_B) (g : sx_T) : Bool := Nat.beq g.1.1 9999 || (match mj_k B g.1.1 (0, 0, g.1.2) with
  | some c => sx_ble c.2.2 1
  | none => false)
theorem mj_c1_ok (H : sx_E G J p B h) {g : sx_T} (hs : mj_c1 B g = true) {c : Int} (hc : sx_cnt h g.1 = some c) : c ≤ 1 := by
  unfold mj_c1 at hs
  cases h9 : Nat.beq g.1.1 9999 with
  | true =>
    unfold sx_cnt at hc
    rw [h9] at hc
    have : (1 : Int) = c := Option.some.inj hc
    omega
  | false =>
    rw [h9, Bool.false_or] at hs
    split at hs
    · next cc hcc =>
      obtain ⟨y, y1, -, -, y4⟩ := mj_k_at H hcc
      have := sx_ble_iff.mp hs
      unfold sx_cnt at hc
      rw [h9] at hc
      have hc : mj_int h g.1.1 g.1.2 = some c := hc
      rw [y1] at hc
      cases hc
      omega
    · cases hs
def mj_wg (gd : List sx_T) (B : sx_B) (k : Nat) (t : sx_v) (j : Nat) : Bool := match gd[j]? with
  | some g => !Nat.beq k g.1.1 && (mj_c1 B g && ((!Nat.beq k g.2.1.1 || sx_rout B.2.1 t g.2.1.2.1 g.2.1.2.1) && (!Nat.beq k g.2.2.1 || sx_rout B.2.1 t g.2.2.2.1 g.2.2.2.1)))
  | none => false
theorem mj_wg_ok (H : sx_E G J p B h) {k j jj : Nat} {t : sx_v} {q : ri_C} {v : Value} (hn : sx_n p t = some (j : Int)) (hk : h[k]? = some q) (hjl : j < q.2.length) (hs : mj_wg gd B k t jj = true) (hJ : sx_Jg gd jj h) : sx_Jg gd jj (h.set k (q.1, q.2.set j v)) := by
  unfold mj_wg at hs
  split at hs
  · next g hg =>
    simp only [Bool.and_eq_true, Bool.or_eq_true] at hs
    obtain ⟨s1, s2, s3, s4⟩ := hs
    have n1 := sx_nbeq s1
    have hat : ∀ (k' : Nat) (i : Int), ¬ (k' = k ∧ i = (j : Int)) → sx_at (h.set k (q.1, q.2.set j v)) k' i = sx_at h k' i := fun k' i hne => by
      rw [sx_at_set hk, if_neg (fun hh => hne ⟨hh.1, hh.2.1⟩)]
    intro g' hg'
    rw [hg] at hg'
    cases hg'
    intro c i x y hc h0 hi hx x1 x2 hy
    rw [show sx_cnt (h.set k (q.1, q.2.set j v)) g.1 = sx_cnt h g.1 from sx_cnt_eq (hat _ _ (fun hh => n1 hh.1.symm))] at hc
    have hc1 := mj_c1_ok H s2 hc
    have e : i = 0 := by omega
    subst e
    rw [hat _ _ (fun hh => by
      rcases s3 with s | s
      · exact sx_nbeq s hh.1.symm
      · exact sx_rout_ok H.2.1 hn s (by have := hh.2; omega))] at hx
    rw [hat _ _ (fun hh => by
      rcases s4 with s | s
      · exact sx_nbeq s hh.1.symm
      · exact sx_rout_ok H.2.1 hn s (by have := hh.2; omega))] at hy
    exact hJ g hg c 0 x y hc h0 hi hx x1 x2 hy
  · cases hs
def mj_w (gd : List sx_T) (B : sx_B) (k : Nat) (t v : sx_v) (j : Nat) : List Nat :=
  bif Nat.blt j 8 then (bif sx_gk (fun j => gd[j]?) B k t v j then [j] else bif mj_wg gd B k t j then [j] else []) else
  bif Nat.beq j 8 then (bif Nat.beq k 2 && mj_w8 B t v then [8] else []) else
  bif Nat.beq j 11 then (bif (Nat.beq k 0 && (sx_veq t (0, 0, 35) && mj_z B.2.1 v)) || mj_w11 B k t v then [11] else []) else
  bif Nat.ble 20 j && Nat.blt j 32 then mj_ws B k t v ((j - 20) / 4) ((j - 20) % 4) else []
theorem mj_w_ok (H : sx_E G (mj_J gd) p B h) {k j jj ji : Nat} {t tv : sx_v} {q : ri_C} {v : Value} (hn : sx_n p t = some (j : Int)) (hg : sx_g p tv v) (hk : h[k]? = some q) (hjl : j < q.2.length) (hs : ji ∈ mj_w gd B k t tv jj) (hJ : mj_J gd jj h) : mj_J gd ji (h.set k (q.1, q.2.set j v)) := by
  have hset := mj_set (v := v) hk hjl
  unfold mj_w at hs
  cases b8 : Nat.blt jj 8 with
  | true =>
    rw [b8] at hs
    dsimp only [cond_true] at hs
    have l8 := Nat.blt_eq.mp b8
    cases hb : sx_gk (fun j => gd[j]?) B k t tv jj with
    | false =>
      rw [hb] at hs
      dsimp only [cond_false] at hs
      cases hb2 : mj_wg gd B k t jj with
      | false => rw [hb2] at hs; cases hs
      | true =>
        rw [hb2] at hs
        rw [List.mem_singleton.mp hs, mj_J_g l8]
        rw [mj_J_g l8] at hJ
        exact mj_wg_ok H hn hk hjl hb2 hJ
    | true =>
      rw [hb] at hs
      rw [List.mem_singleton.mp hs, mj_J_g l8]
      rw [mj_J_g l8] at hJ
      obtain ⟨g, hgj⟩ : ∃ g, gd[jj]? = some g := by
        unfold sx_gk at hb
        split at hb
        · next g hg => exact ⟨g, hg⟩
        · cases hb
      have HG : sx_HG (fun i h => if i = jj then sx_gh g h else mj_J gd i h) (fun i => if i = jj then gd[i]? else none) := fun i f hf hh => by
        by_cases e : i = jj
        · subst e
          dsimp only at hf ⊢
          rw [if_pos rfl] at hf ⊢
          rw [hgj] at hf
          cases hf
          exact Iff.rfl
        · dsimp only at hf
          rw [if_neg e] at hf
          cases hf
      have H' : sx_E G (fun i h => if i = jj then sx_gh g h else mj_J gd i h) p B h := ⟨H.1, H.2.1, H.2.2.1, H.2.2.2.1, fun i hi => by
        dsimp only
        by_cases e : i = jj
        · rw [if_pos e]
          exact hJ g hgj
        · rw [if_neg e]
          exact H.2.2.2.2.1 i hi, H.2.2.2.2.2⟩
      have hb' : sx_gk (fun i => if i = jj then gd[i]? else none) B k t tv jj = true := by
        unfold sx_gk at hb ⊢
        dsimp only at hb ⊢
        rw [if_pos rfl]
        exact hb
      have := sx_gk_ok HG H' hn hg hk hjl hb' (by show (if jj = jj then sx_gh g h else mj_J gd jj h); rw [if_pos rfl]; exact hJ g hgj)
      have this : (if jj = jj then sx_gh g (h.set k (q.1, q.2.set j v)) else mj_J gd jj (h.set k (q.1, q.2.set j v))) := this
      rw [if_pos rfl] at this
      intro g' hg'
      rw [hgj] at hg'
      cases hg'
      exact this
  | false =>
  rw [b8] at hs
  dsimp only [cond_false] at hs
  cases e8 : Nat.beq jj 8 with
  | true =>
    rw [e8] at hs
    dsimp only [cond_true] at hs
    rw [Nat.eq_of_beq_eq_true e8, mj_J8] at hJ
    cases hb : (Nat.beq k 2 && mj_w8 B t tv) with
    | false => rw [hb] at hs; cases hs
    | true =>
      rw [hb] at hs
      rw [List.mem_singleton.mp hs, mj_J8]
      simp only [Bool.and_eq_true] at hb
      have k2 : k = 2 := Nat.eq_of_beq_eq_true hb.1
      subst k2
      have hw := hb.2
      unfold mj_w8 at hw
      split at hw
      · next r hr =>
        have hi := sx_r_at H.2.1 hr hn
        rcases (Bool.or_eq_true _ _).mp hw with w | w
        · simp only [Bool.and_eq_true] at w
          have e1 := sx_beq_ok w.1
          have e2 := sx_beq_ok w.2.1
          obtain ⟨X, rfl, hX⟩ := mj_z_ok H.2.1 w.2.2 hg
          refine ⟨X.toInt, by rw [hset, if_pos ⟨rfl, by omega⟩], by omega, 0, ?_⟩
          rw [show X.toInt.toNat = 0 by omega]
          rfl
        · simp only [Bool.and_eq_true, sx_ble_iff] at w
          have w2 := w.2
          split at w2
          · next c hc =>
            have w2 := sx_ble_iff.mp w2
            obtain ⟨y, y1, -, -, y4⟩ := mj_k_at H hc
            refine ⟨y, by rw [hset, if_neg (fun hh => by have := hh.2; omega)]; exact y1, by omega, 0, ?_⟩
            rw [show y.toNat = 0 by omega]
            rfl
          · cases w2
      · cases hw
  | false =>
  rw [e8] at hs
  dsimp only [cond_false] at hs
  cases e11 : Nat.beq jj 11 with
  | true =>
    rw [e11] at hs
    dsimp only [cond_true] at hs
    rw [Nat.eq_of_beq_eq_true e11, mj_J11] at hJ
    cases hb : ((Nat.beq k 0 && (sx_veq t (0, 0, 35) && mj_z B.2.1 tv)) || mj_w11 B k t tv) with
    | false => rw [hb] at hs; cases hs
    | true =>
      rw [hb] at hs
      rw [List.mem_singleton.mp hs, mj_J11]
      have t35 : sx_veq t (0, 0, 35) = true → (j : Int) = 35 := fun e => by
        have ht : some (35 : Int) = some (j : Int) := by rw [← hn, sx_veq_ok e]; rfl
        exact (Option.some.inj ht).symm
      rcases (Bool.or_eq_true _ _).mp hb with w | w
      · simp only [Bool.and_eq_true] at w
        have k0 : k = 0 := Nat.eq_of_beq_eq_true w.1
        subst k0
        obtain ⟨X, rfl, hX⟩ := mj_z_ok H.2.1 w.2.2 hg
        have := t35 w.2.1
        intro c i x hc h0 hi
        rw [hset, if_pos ⟨rfl, by omega⟩] at hc
        have : X.toInt = c := Option.some.inj hc
        omega
      · unfold mj_w11 at w
        split at w
        · next cc hcc =>
          obtain ⟨y, y1, y2, -⟩ := mj_k_at H hcc
          cases k4 : Nat.beq k 4 with
          | true =>
            rw [k4] at w
            dsimp only [cond_true] at w
            have k4 : k = 4 := Nat.eq_of_beq_eq_true k4
            subst k4
            have g := mj_ge_ok H.2.2.1 y2 hn w
            intro c i x hc h0 hi hx
            rw [hset, if_neg (fun hh => by cases hh.1)] at hc
            rw [y1] at hc
            cases hc
            rw [hset, if_neg (fun hh => by have := hh.2; omega)] at hx
            obtain ⟨r1, r2⟩ := hJ y i x y1 h0 hi hx
            refine ⟨fun e z hz => r1 e z ?_, fun e z hz => r2 e z ?_⟩
            · rw [hset, if_neg (fun hh => by have := hh.2; omega)] at hz
              exact hz
            · rw [hset, if_neg (fun hh => by have := hh.2; omega)] at hz
              exact hz
          | false =>
            rw [k4] at w
            dsimp only [cond_false] at w
            simp only [Bool.and_eq_true] at w
            have k0 : k = 0 := Nat.eq_of_beq_eq_true w.1
            subst k0
            have hj := t35 w.2.1
            have hB : mj_Bp h := mj_has_ok H w.2.2.2
            rw [sx_veq_ok w.2.2.1] at hg
            obtain ⟨X, rfl, hX⟩ := sx_g_n (sx_sh_n y2) hg
            have h4 : ∀ i, mj_int (h.set 0 (q.1, q.2.set j (.int X))) 4 i = mj_int h 4 i := fun i => by rw [hset, if_neg (fun hh => by cases hh.1)]
            intro c i x hc h0 hi hx
            rw [hset, if_pos ⟨rfl, by omega⟩] at hc
            have hc : X.toInt = c := Option.some.inj hc
            rw [h4] at hx
            have hr : mj_row h i x := by
              by_cases e : i = y
              · subst e
                exact hB i x y1 hx
              · exact hJ y i x y1 h0 (by omega) hx
            exact ⟨fun e z hz => hr.1 e z (by rw [h4] at hz; exact hz), fun e z hz => hr.2 e z (by rw [h4] at hz; exact hz)⟩
        · cases w
  | false =>
  rw [e11] at hs
  dsimp only [cond_false] at hs
  cases e20 : (Nat.ble 20 jj && Nat.blt jj 32) with
  | false => rw [e20] at hs; cases hs
  | true =>
    rw [e20] at hs
    dsimp only [cond_true] at hs
    simp only [Bool.and_eq_true, Nat.ble_eq, Nat.blt_eq] at e20
    rw [mj_J_S e20.1 e20.2] at hJ
    exact mj_ws_ok H (by omega) (by omega) hn hg hk hjl hs hJ
/-- a slot that was read -/
def mj_ft (t : sx_v) : sx_Fc → Option (sx_v × sx_v × Int)
  | [] => none
  | f :: fc => bif Nat.beq f.1 3 && (sx_veq f.2.2.1 (0, 0, 3) && (Nat.beq f.2.1.1 1 && (Nat.beq t.1 1 && Nat.beq f.2.1.2.1 t.2.1))) then some (f.2.1, f.2.2.2, t.2.2 - f.2.1.2.2) else mj_ft t fc
theorem mj_ft_ok {t : sx_v} {y : Int} (ht : sx_n p t = some y) : ∀ {fc : sx_Fc} {q : sx_v × sx_v × Int}, (∀ f ∈ fc, sx_fh p f) → mj_ft t fc = some q → ∃ i, sx_n p q.2.1 = some i ∧ sx_n p q.1 = some (3 * i) ∧ y = 3 * i + q.2.2
  | [], _, _, hs => by cases hs
  | f :: fc, q, hf, hs => by
    unfold mj_ft at hs
    cases hb : (Nat.beq f.1 3 && (sx_veq f.2.2.1 (0, 0, 3) && (Nat.beq f.2.1.1 1 && (Nat.beq t.1 1 && Nat.beq f.2.1.2.1 t.2.1)))) with
    | false => rw [hb] at hs; exact mj_ft_ok ht (fun g hg => hf g (List.mem_cons_of_mem _ hg)) hs
    | true =>
      rw [hb] at hs
      have hs := Option.some.inj hs
      simp only [Bool.and_eq_true] at hb
      obtain ⟨g1, g2, g4, g5, g6⟩ := hb
      have e1 : f.1 = 3 := Nat.eq_of_beq_eq_true g1
      have e2 := sx_veq_ok g2
      have e4 : f.2.1.1 = 1 := Nat.eq_of_beq_eq_true g4
      have e5 : t.1 = 1 := Nat.eq_of_beq_eq_true g5
      have e6 : f.2.1.2.1 = t.2.1 := Nat.eq_of_beq_eq_true g6
      have h0 := hf f List.mem_cons_self
      unfold sx_fh at h0
      rw [e1, e2] at h0
      obtain ⟨a, b, d, h1, h2, h3, h4⟩ := h0
      have h2 : some (3 : Int) = some b := h2
      cases h2
      subst hs
      obtain ⟨z, z1, z2⟩ := sx_n1 e4 h1
      obtain ⟨z', z3, z4⟩ := sx_n1 e5 ht
      rw [← e6, z1] at z3
      cases z3
      exact ⟨d, h3, by rw [h1, h4], by dsimp only; omega⟩
def mj_la (B : sx_B) (t v : sx_v) : sx_B := match mj_ft t B.2.2.1 with
  | some q => match mj_k B 4 q.1, mj_k B 0 (0, 0, 35), sx_r B.2.1 q.2.1 with
    | some w, some c, some r => bif sx_ble 0 r.1 && sx_ent B.2.1 B.2.2.1 4 (sx_sh q.2.1 1) c.1 then
        (bif sx_beq q.2.2 2 && (sx_beq w.2.1 0 && sx_beq w.2.2 0) then (B.1, sx_cl (sx_cu B.2.1 v 7) v 0, B.2.2) else
         bif sx_beq q.2.2 1 && (sx_beq w.2.1 2 && sx_beq w.2.2 2) then (B.1, sx_cl (sx_cu B.2.1 v 5) v 0, B.2.2) else B) else B
    | _, _, _ => B
  | none => B
theorem mj_la_ok (H : sx_E G J p B h) (hA : mj_A h) {t v : sx_v} {i : Int} {x : Value} (hv1 : Nat.ble v.1 1 = true) (hn : sx_n p t = some i) (hx : sx_at h 4 i = some x) (hv : sx_g p v x) : sx_E G J p (mj_la B t v) h := by
  unfold mj_la
  split
  · next q hq =>
    obtain ⟨n, n1, n2, n3⟩ := mj_ft_ok hn H.2.2.1 hq
    split
    · next w c r hw hc hr =>
      obtain ⟨wv, w1, -, w3, w4⟩ := mj_k_ok H n2 hw
      obtain ⟨cv, d1, d2, -, -⟩ := mj_k_at H hc
      have hrr := sx_r_at H.2.1 hr n1
      cases hb : (sx_ble 0 r.1 && sx_ent B.2.1 B.2.2.1 4 (sx_sh q.2.1 1) c.1) with
      | false => exact H
      | true =>
        dsimp only [cond_true]
        simp only [Bool.and_eq_true, sx_ble_iff] at hb
        have hlt := sx_ent_ok H.2.1 H.2.2.1 (sx_sh_n n1) d2 hb.2
        obtain ⟨r1, r2⟩ := hA cv n wv d1 (by omega) (by omega) w1
        have cut : ∀ hi : Int, (∀ y, mj_int h 4 i = some y → 0 ≤ y ∧ y ≤ hi) → sx_E G J p (B.1, sx_cl (sx_cu B.2.1 v hi) v 0, B.2.2) h := fun hi hh => by
          obtain ⟨X, rfl, hX⟩ := sx_g_isn hv1 hv
          have := hh _ (mj_int_of hx)
          exact H.iv (sx_cl_ok (sx_cu_ok H.2.1 hX (by omega)) hX (by omega))
        cases b1 : (sx_beq q.2.2 2 && (sx_beq w.2.1 0 && sx_beq w.2.2 0)) with
        | true =>
          dsimp only [cond_true]
          simp only [Bool.and_eq_true] at b1
          have e1 := sx_beq_ok b1.1
          have e2 := sx_beq_ok b1.2.1
          have e3 := sx_beq_ok b1.2.2
          refine cut 7 (fun y hy => r1 (by omega) y ?_)
          rw [← hy]
          congr 1
          omega
        | false =>
          dsimp only [cond_false]
          cases b2 : (sx_beq q.2.2 1 && (sx_beq w.2.1 2 && sx_beq w.2.2 2)) with
          | false => exact H
          | true =>
            dsimp only [cond_true]
            simp only [Bool.and_eq_true] at b2
            have e1 := sx_beq_ok b2.1
            have e2 := sx_beq_ok b2.2.1
            have e3 := sx_beq_ok b2.2.2
            refine cut 5 (fun y hy => r2 (by omega) y ?_)
            rw [← hy]
            congr 1
            omega
    · exact H
  · exact H
/-- the first invariant of the sentence that is there -/
def mj_fs : List Nat → Option Nat
  | [] => none
  | j :: js => bif Nat.ble 20 j && Nat.blt j 32 then some j else mj_fs js
theorem mj_fs_ok : ∀ {js : List Nat} {j : Nat}, mj_fs js = some j → j ∈ js ∧ 20 ≤ j ∧ j < 32
  | [], _, hs => by cases hs
  | i :: js, j, hs => by
    unfold mj_fs at hs
    cases hb : (Nat.ble 20 i && Nat.blt i 32) with
    | true =>
      rw [hb] at hs
      cases hs
      simp only [Bool.and_eq_true, Nat.ble_eq, Nat.blt_eq] at hb
      exact ⟨List.mem_cons_self, hb⟩
    | false =>
      rw [hb] at hs
      obtain ⟨h1, h2⟩ := mj_fs_ok hs
      exact ⟨List.mem_cons_of_mem _ h1, h2⟩
def mj_l (gd : List sx_T) (B : sx_B) (k : Nat) (t v : sx_v) : sx_B :=
  bif Nat.beq k 4 && (mj_has B 11 && Nat.ble v.1 1) then mj_la B t v else
  bif Nat.beq k 0 && (sx_veq t (0, 0, 39) || sx_veq t (0, 0, 41)) then (match mj_fs B.2.2.2.2 with
    | some j => bif Nat.ble v.1 1 then (B.1, sx_cl (sx_cu B.2.1 v (40 - (((j - 20) % 4 : Nat) : Int))) v 0, B.2.2) else B
    | none => B) else
  sx_lg (fun j => bif Nat.blt j 8 then gd[j]? else none) k t v B.2.2.2.2 B
theorem mj_HG : sx_HG (mj_J gd) (fun j => bif Nat.blt j 8 then gd[j]? else none) := fun j g hg h => by
  cases hb : Nat.blt j 8 with
  | false =>
    dsimp only at hg
    rw [hb] at hg
    cases hg
  | true =>
    dsimp only at hg
    rw [hb] at hg
    rw [mj_J_g (Nat.blt_eq.mp hb)]
    exact ⟨fun H => H g hg, fun H g' hg' => by
      have hg : gd[j]? = some g := hg
      rw [hg] at hg'
      cases hg'
      exact H⟩
theorem mj_l_ok (H : sx_E G (mj_J gd) p B h) {k : Nat} {t v : sx_v} {i : Int} {x : Value} (hn : sx_n p t = some i) (hx : sx_at h k i = some x) (hv : sx_g p v x) : sx_E G (mj_J gd) p (mj_l gd B k t v) h := by
  unfold mj_l
  cases b1 : (Nat.beq k 4 && (mj_has B 11 && Nat.ble v.1 1)) with
  | true =>
    dsimp only [cond_true]
    simp only [Bool.and_eq_true] at b1
    have k4 : k = 4 := Nat.eq_of_beq_eq_true b1.1
    subst k4
    exact mj_la_ok H (mj_has_ok H b1.2.1) b1.2.2 hn hx hv
  | false =>
    dsimp only [cond_false]
    cases b2 : (Nat.beq k 0 && (sx_veq t (0, 0, 39) || sx_veq t (0, 0, 41))) with
    | true =>
      dsimp only [cond_true]
      simp only [Bool.and_eq_true, Bool.or_eq_true] at b2
      have k0 : k = 0 := Nat.eq_of_beq_eq_true b2.1
      subst k0
      split
      · next j hj =>
        obtain ⟨j1, j2, j3⟩ := mj_fs_ok hj
        have hS := H.2.2.2.2.1 j j1
        rw [mj_J_S j2 j3] at hS
        obtain ⟨c, tt, o, c1, c2, c3, c4, c5, c6, c7, c8⟩ := hS
        cases b3 : Nat.ble v.1 1 with
        | false => exact H
        | true =>
          obtain ⟨X, rfl, hX⟩ := sx_g_isn b3 hv
          have hi := mj_int_of hx
          have : 0 ≤ X.toInt ∧ X.toInt ≤ 40 - (((j - 20) % 4 : Nat) : Int) := by
            rcases b2.2 with e | e
            · have e2 : some (39 : Int) = some i := by rw [← hn, sx_veq_ok e]; rfl
              cases e2
              rw [c1] at hi
              cases hi
              omega
            · have e2 : some (41 : Int) = some i := by rw [← hn, sx_veq_ok e]; rfl
              cases e2
              rw [c2] at hi
              cases hi
              omega
          exact H.iv (sx_cl_ok (sx_cu_ok H.2.1 hX this.2) hX this.1)
      · exact H
    | false => exact sx_lg_ok mj_HG hn hx hv H H.2.2.2.2.1
end MJC
