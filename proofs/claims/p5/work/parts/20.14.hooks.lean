section MJB
variable {gd : List sx_T} {G : sx_G} {J : Nat → ri_H → Prop} {p : List Int} {B B' : sx_B} {h : ri_H}
/-- a slot that is known, with its interval -/
def mj_k (B : sx_B) (k : Nat) (t : sx_v) : Option (sx_v × Int × Int) := match sx_fj B k t with
  | some v => match sx_r B.2.1 v with
    | some r => some (v, r)
    | none => none
  | none => none
theorem mj_k_ok (H : sx_E G J p B h) {k : Nat} {t : sx_v} {q : sx_v × Int × Int} {i : Int} (hn : sx_n p t = some i) (hs : mj_k B k t = some q) : ∃ y, mj_int h k i = some y ∧ sx_n p q.1 = some y ∧ q.2.1 ≤ y ∧ y ≤ q.2.2 := by
  unfold mj_k at hs
  split at hs
  · next v hv =>
    split at hs
    · next r hr =>
      cases hs
      obtain ⟨x, x1, x2⟩ := sx_fj_ok H hn hv
      obtain ⟨y, y1, y2, y3⟩ := sx_r_ok H.2.1 hr
      obtain ⟨X, rfl, hX⟩ := sx_g_n y1 x2
      exact ⟨y, by rw [mj_int_of x1, hX], y1, y2, y3⟩
    · cases hs
  · cases hs
theorem mj_k_at (H : sx_E G J p B h) {k : Nat} {i : Int} {q : sx_v × Int × Int} (hs : mj_k B k (0, 0, i) = some q) : ∃ y, mj_int h k i = some y ∧ sx_n p q.1 = some y ∧ q.2.1 ≤ y ∧ y ≤ q.2.2 := mj_k_ok H rfl hs
/-- a term that is three times another -/
def mj_f3 (c : sx_v) : sx_Fc → Option sx_v
  | [] => none
  | f :: t => bif Nat.beq f.1 3 && (sx_veq f.2.2.1 (0, 0, 3) && sx_veq f.2.2.2 c) then some f.2.1 else mj_f3 c t
theorem mj_f3_ok {c : sx_v} {y : Int} (hc : sx_n p c = some y) : ∀ {fc : sx_Fc} {u : sx_v}, (∀ f ∈ fc, sx_fh p f) → mj_f3 c fc = some u → sx_n p u = some (3 * y)
  | [], _, _, hs => by cases hs
  | f :: t, u, hf, hs => by
    unfold mj_f3 at hs
    cases hb : (Nat.beq f.1 3 && (sx_veq f.2.2.1 (0, 0, 3) && sx_veq f.2.2.2 c)) with
    | false => rw [hb] at hs; exact mj_f3_ok hc (fun g hg => hf g (List.mem_cons_of_mem _ hg)) hs
    | true =>
      rw [hb] at hs
      have hs : f.2.1 = u := Option.some.inj hs
      simp only [Bool.and_eq_true] at hb
      have e1 : f.1 = 3 := Nat.eq_of_beq_eq_true hb.1
      have e2 := sx_veq_ok hb.2.1
      have e3 := sx_veq_ok hb.2.2
      have h0 := hf f List.mem_cons_self
      unfold sx_fh at h0
      rw [e1, e2, e3, hs] at h0
      obtain ⟨a, b, d, h1, h2, h3, h4⟩ := h0
      rw [hc] at h3
      cases h3
      have h2 : some (3 : Int) = some b := h2
      cases h2
      rw [h1, h4]
/-- a term that is at least three times another -/
def mj_ge (t c : sx_v) (fc : sx_Fc) : Bool := fc.any (fun f => Nat.beq f.1 3 && (sx_veq f.2.2.1 (0, 0, 3) && (sx_veq f.2.2.2 c && (Nat.beq f.2.1.1 1 && (Nat.beq t.1 1 && (Nat.beq f.2.1.2.1 t.2.1 && sx_ble f.2.1.2.2 t.2.2))))))
theorem mj_ge_ok {t c : sx_v} {y i : Int} {fc : sx_Fc} (hf : ∀ f ∈ fc, sx_fh p f) (hc : sx_n p c = some y) (ht : sx_n p t = some i) (hs : mj_ge t c fc = true) : 3 * y ≤ i := by
  obtain ⟨f, f1, f2⟩ := List.any_eq_true.mp hs
  simp only [Bool.and_eq_true, sx_ble_iff] at f2
  obtain ⟨g1, g2, g3, g4, g5, g6, g7⟩ := f2
  have e1 : f.1 = 3 := Nat.eq_of_beq_eq_true g1
  have e2 := sx_veq_ok g2
  have e3 := sx_veq_ok g3
  have e4 : f.2.1.1 = 1 := Nat.eq_of_beq_eq_true g4
  have e5 : t.1 = 1 := Nat.eq_of_beq_eq_true g5
  have e6 : f.2.1.2.1 = t.2.1 := Nat.eq_of_beq_eq_true g6
  have h0 := hf f f1
  unfold sx_fh at h0
  rw [e1, e2, e3] at h0
  obtain ⟨a, b, d, h1, h2, h3, h4⟩ := h0
  rw [hc] at h3
  cases h3
  have h2 : some (3 : Int) = some b := h2
  cases h2
  obtain ⟨z, z1, z2⟩ := sx_n1 e4 h1
  obtain ⟨z', z3, z4⟩ := sx_n1 e5 ht
  rw [← e6, z1] at z3
  cases z3
  omega
def mj_id (x d : Nat) : Nat := 20 + 4 * x + d
theorem mj_id_S {x d : Nat} (hx : x ≤ 2) (hd : d ≤ 3) : mj_J gd (mj_id x d) h = mj_S x d h := by
  unfold mj_J mj_id
  rw [if_neg (by omega), if_neg (by omega), if_neg (by omega), if_neg (by omega), if_neg (by omega), if_neg (by omega), if_neg (by omega), if_pos (by omega)]
  rw [show (20 + 4 * x + d - 20) / 4 = x by omega, show (20 + 4 * x + d - 20) % 4 = d by omega]
theorem mj_J_S {j : Nat} (h1 : 20 ≤ j) (h2 : j < 32) : mj_J gd j h = mj_S ((j - 20) / 4) ((j - 20) % 4) h := by
  unfold mj_J
  rw [if_neg (by omega), if_neg (by omega), if_neg (by omega), if_neg (by omega), if_neg (by omega), if_neg (by omega), if_neg (by omega), if_pos (by omega)]
theorem mj_J_g {j : Nat} (h1 : j < 8) : mj_J gd j h = sx_Jg gd j h := by
  unfold mj_J
  rw [if_pos h1]
theorem mj_J_R0 {j : Nat} (h1 : 100 ≤ j) (h2 : j < 300) : mj_J gd j h = mj_R 0 (74 + (j : Int)) h := by
  unfold mj_J
  rw [if_neg (by omega), if_neg (by omega), if_neg (by omega), if_neg (by omega), if_neg (by omega), if_neg (by omega), if_neg (by omega), if_neg (by omega), if_pos (by omega)]
theorem mj_J_R1 {j : Nat} (h1 : 300 ≤ j) (h2 : j < 500) : mj_J gd j h = mj_R 1 ((j : Int) - 126) h := by
  unfold mj_J
  rw [if_neg (by omega), if_neg (by omega), if_neg (by omega), if_neg (by omega), if_neg (by omega), if_neg (by omega), if_neg (by omega), if_neg (by omega), if_neg (by omega), if_pos (by omega)]
theorem mj_J_C {j : Nat} (h1 : 500 ≤ j) : mj_J gd j h = mj_C ((j : Int) - 500) h := by
  unfold mj_J
  rw [if_neg (by omega), if_neg (by omega), if_neg (by omega), if_neg (by omega), if_neg (by omega), if_neg (by omega), if_neg (by omega), if_neg (by omega), if_neg (by omega), if_neg (by omega), if_pos h1]
def mj_has (B : sx_B) (j : Nat) : Bool := B.2.2.2.2.any (Nat.beq j)
theorem mj_has_ok (H : sx_E G J p B h) {j : Nat} (hs : mj_has B j = true) : J j h := by
  obtain ⟨i, i1, i2⟩ := List.any_eq_true.mp hs
  rw [Nat.eq_of_beq_eq_true i2]
  exact H.2.2.2.2.1 i i1
/-- a number lies outside 21 .. 22, inside -/
def mj_out (r : Int × Int) : Bool := sx_ble r.2 20 || sx_ble 23 r.1
def mj_inn (r : Int × Int) : Bool := sx_ble 21 r.1 && sx_ble r.2 22
/-- what a write makes of the sentence's invariant -/
def mj_ws (B : sx_B) (k : Nat) (t v : sx_v) (x d : Nat) : List Nat :=
  bif Nat.beq k 4 then (match mj_k B 0 (0, 0, 39) with
    | some c => bif mj_ge t c.1 B.2.2.1 then [mj_id x d] else []
    | none => []) else
  bif Nat.beq k 13 then (match mj_k B 0 (0, 0, 41) with
    | some c => bif sx_ent B.2.1 B.2.2.1 2 c.1 t then [mj_id x d] else []
    | none => []) else
  bif Nat.beq k 0 && sx_veq t (0, 0, 39) then (match mj_k B 0 (0, 0, 39) with
    | some c => bif sx_veq v (sx_sh c.1 1) && Nat.ble 1 d then (match mj_f3 c.1 B.2.2.1 with
      | some u => match mj_k B 4 u with
        | some w => bif (sx_ble w.2.2 19 || sx_ble 23 w.2.1) && Nat.ble x 1 then [mj_id (x + 1) (d - 1)] else
          bif (sx_beq w.2.1 20 && sx_beq w.2.2 20) && Nat.ble 1 x then [mj_id x (d - 1)] else
          bif mj_inn w.2 && Nat.ble 2 x then [mj_id (x - 1) (d - 1)] else []
        | none => []
      | none => []) else []
    | none => []) else
  bif Nat.beq k 0 && sx_veq t (0, 0, 41) then (match mj_k B 0 (0, 0, 41) with
    | some c => bif sx_veq v (sx_sh c.1 1) && Nat.ble 1 d then (match mj_k B 13 c.1 with
        | some w => bif mj_inn w.2 && Nat.ble 1 x then [mj_id (x - 1) (d - 1)] else bif mj_out w.2 then [mj_id x (d - 1)] else []
        | none => []) else
      bif sx_veq v (sx_sh c.1 (-1)) && (sx_ble 1 c.2.1 && Nat.ble d 2) then (bif mj_has B 13 then [mj_id x (d + 1)] else match mj_k B 13 (sx_sh c.1 (-1)) with
        | some w => bif mj_inn w.2 && Nat.ble x 1 then [mj_id (x + 1) (d + 1)] else bif mj_out w.2 then [mj_id x (d + 1)] else []
        | none => []) else []
    | none => []) else
  bif Nat.beq k 0 && sx_veq t (0, 0, 40) then (match mj_k B 0 (0, 0, 40) with
    | some c => bif sx_veq v (sx_sh c.1 1) && (sx_ble c.2.2 19 && Nat.ble d 1) then [mj_id x (d + 2)] else []
    | none => []) else []
theorem mj_set {k j : Nat} {q : ri_C} {v : Value} (hk : h[k]? = some q) (hj : j < q.2.length) (k' : Nat) (i : Int) : mj_int (h.set k (q.1, q.2.set j v)) k' i = if k' = k ∧ i = (j : Int) then (match v with
    | .int x => some x.toInt
    | _ => none) else mj_int h k' i := by
  unfold mj_int
  rw [sx_at_set hk]
  by_cases e : k' = k ∧ i = (j : Int)
  · rw [if_pos ⟨e.1, e.2, hj⟩, if_pos e]
    cases v <;> rfl
  · rw [if_neg (fun hh => e ⟨hh.1, hh.2.1⟩), if_neg e]
theorem mj_pf_s {f : Nat → Option Int} {n D : Nat} {w : Int} (h1 : mj_pf f n = some D) (h2 : f n = some w) : mj_pf f (n + 1) = if w = 20 then (if 1 ≤ D then some D else none) else if w = 21 ∨ w = 22 then (if 2 ≤ D then some (D - 1) else none) else some (D + 1) := by
  show (match mj_pf f n, f n with
    | some D, some v => if v = 20 then (if 1 ≤ D then some D else none) else if v = 21 ∨ v = 22 then (if 2 ≤ D then some (D - 1) else none) else some (D + 1)
    | _, _ => none) = _
  rw [h1, h2]
theorem mj_jn_s {f : Nat → Option Int} {n : Nat} {w : Int} (h2 : f n = some w) : mj_jn f (n + 1) = mj_jn f n + if w = 21 ∨ w = 22 then 1 else 0 := by
  show mj_jn f n + (match f n with
    | some v => if v = 21 ∨ v = 22 then 1 else 0
    | none => 0) = _
  rw [h2]
theorem mj_ws_ok (H : sx_E G (mj_J gd) p B h) {k j ji x d : Nat} {t tv : sx_v} {q : ri_C} {v : Value} (hx2 : x ≤ 2) (hd3 : d ≤ 3) (hn : sx_n p t = some (j : Int)) (hg : sx_g p tv v) (hk : h[k]? = some q) (hjl : j < q.2.length) (hs : ji ∈ mj_ws B k t tv x d) (hJ : mj_S x d h) : mj_J gd ji (h.set k (q.1, q.2.set j v)) := by
  obtain ⟨c, tt, o, c1, c2, c3, c4, c5, c6, c7, c8⟩ := hJ
  have hset := mj_set (v := v) hk hjl
  unfold mj_ws at hs
  cases k4 : Nat.beq k 4 with
  | true =>
    rw [k4] at hs
    dsimp only [cond_true] at hs
    have k4 : k = 4 := Nat.eq_of_beq_eq_true k4
    subst k4
    split at hs
    · next cc hcc =>
      obtain ⟨y, y1, y2, -⟩ := mj_k_at H hcc
      rw [c1] at y1
      cases y1
      cases hge : mj_ge t cc.1 B.2.2.1 with
      | false => rw [hge] at hs; cases hs
      | true =>
        rw [hge] at hs
        have e : ji = mj_id x d := List.mem_singleton.mp hs
        have g := mj_ge_ok H.2.2.1 y2 hn hge
        rw [e, mj_id_S hx2 hd3]
        refine ⟨c, tt, o, by rw [hset, if_neg (fun hh => by cases hh.1)]; exact c1, by rw [hset, if_neg (fun hh => by cases hh.1)]; exact c2, by rw [hset, if_neg (fun hh => by cases hh.1)]; exact c3, c4, c5, c6, c7, ?_⟩
        rw [mj_pf_cg (g := fun i => mj_int h 4 (3 * (i : Int))) (fun i hi => by rw [hset, if_neg (fun hh => by have := hh.2; omega)]), mj_jn_cg (g := fun i => mj_int h 13 (i : Int)) (fun i hi => by rw [hset, if_neg (fun hh => by cases hh.1)])]
        exact c8
    · cases hs
  | false =>
  rw [k4] at hs
  dsimp only [cond_false] at hs
  cases k13 : Nat.beq k 13 with
  | true =>
    rw [k13] at hs
    dsimp only [cond_true] at hs
    have k13 : k = 13 := Nat.eq_of_beq_eq_true k13
    subst k13
    split at hs
    · next cc hcc =>
      obtain ⟨y, y1, y2, -⟩ := mj_k_at H hcc
      rw [c2] at y1
      cases y1
      cases hge : sx_ent B.2.1 B.2.2.1 2 cc.1 t with
      | false => rw [hge] at hs; cases hs
      | true =>
        rw [hge] at hs
        have e : ji = mj_id x d := List.mem_singleton.mp hs
        have g := sx_ent_ok H.2.1 H.2.2.1 y2 hn hge
        rw [e, mj_id_S hx2 hd3]
        refine ⟨c, tt, o, by rw [hset, if_neg (fun hh => by cases hh.1)]; exact c1, by rw [hset, if_neg (fun hh => by cases hh.1)]; exact c2, by rw [hset, if_neg (fun hh => by cases hh.1)]; exact c3, c4, c5, c6, c7, ?_⟩
        rw [mj_pf_cg (g := fun i => mj_int h 4 (3 * (i : Int))) (fun i hi => by rw [hset, if_neg (fun hh => by cases hh.1)]), mj_jn_cg (g := fun i => mj_int h 13 (i : Int)) (fun i hi => by rw [hset, if_neg (fun hh => by have := hh.2; omega)])]
        exact c8
    · cases hs
  | false =>
  rw [k13] at hs
  dsimp only [cond_false] at hs
  have val : ∀ (cc : sx_v) (y dl : Int), sx_n p cc = some y → sx_veq tv (sx_sh cc dl) = true → ∃ X : Int32, v = .int X ∧ X.toInt = y + dl := fun cc y dl hy he => by
    rw [sx_veq_ok he] at hg
    exact sx_g_n (sx_sh_n hy) hg
  cases k39 : (Nat.beq k 0 && sx_veq t (0, 0, 39)) with
  | true =>
    rw [k39] at hs
    dsimp only [cond_true] at hs
    simp only [Bool.and_eq_true] at k39
    have k0 : k = 0 := Nat.eq_of_beq_eq_true k39.1
    subst k0
    have ht : some (39 : Int) = some (j : Int) := by rw [← hn, sx_veq_ok k39.2]; rfl
    have ht : (j : Int) = 39 := (Option.some.inj ht).symm
    split at hs
    · next cc hcc =>
      obtain ⟨y, y1, y2, -⟩ := mj_k_at H hcc
      rw [c1] at y1
      cases y1
      cases hv1 : (sx_veq tv (sx_sh cc.1 1) && Nat.ble 1 d) with
      | false => rw [hv1] at hs; cases hs
      | true =>
        rw [hv1] at hs
        dsimp only [cond_true] at hs
        simp only [Bool.and_eq_true, Nat.ble_eq] at hv1
        obtain ⟨X, rfl, hX⟩ := val _ _ _ y2 hv1.1
        split at hs
        · next u hu =>
          have un := mj_f3_ok y2 H.2.2.1 hu
          split at hs
          · next w hw =>
            obtain ⟨z, z1, -, z3, z4⟩ := mj_k_ok H un hw
            have hpf : mj_pf (fun i => mj_int (h.set 0 (q.1, q.2.set j (.int X))) 4 (3 * (i : Int))) (c + 1).toNat = mj_pf (fun i => mj_int h 4 (3 * (i : Int))) (c.toNat + 1) := by
              rw [show (c + 1).toNat = c.toNat + 1 by omega]
              exact mj_pf_cg (fun i hi => by rw [hset, if_neg (fun hh => by cases hh.1)])
            have hjn : mj_jn (fun i => mj_int (h.set 0 (q.1, q.2.set j (.int X))) 13 (i : Int)) tt.toNat = mj_jn (fun i => mj_int h 13 (i : Int)) tt.toNat := mj_jn_cg (fun i hi => by rw [hset, if_neg (fun hh => by cases hh.1)])
            rw [mj_pf_s (w := z) c8 (by show mj_int h 4 (3 * ((c.toNat : Nat) : Int)) = some z; rw [show ((c.toNat : Nat) : Int) = c by omega]; exact z1)] at hpf
            have fin : ∀ x' d', x' ≤ 2 → d' ≤ 3 → d' + 1 ≤ d → (if z = 20 then (if 1 ≤ mj_jn (fun i => mj_int h 13 (i : Int)) tt.toNat + x then some (mj_jn (fun i => mj_int h 13 (i : Int)) tt.toNat + x) else none) else if z = 21 ∨ z = 22 then (if 2 ≤ mj_jn (fun i => mj_int h 13 (i : Int)) tt.toNat + x then some (mj_jn (fun i => mj_int h 13 (i : Int)) tt.toNat + x - 1) else none) else some (mj_jn (fun i => mj_int h 13 (i : Int)) tt.toNat + x + 1)) = some (mj_jn (fun i => mj_int h 13 (i : Int)) tt.toNat + x') → mj_J gd (mj_id x' d') (h.set 0 (q.1, q.2.set j (.int X))) := fun x' d' g1 g2 g3 g4 => by
              rw [mj_id_S g1 g2]
              refine ⟨c + 1, tt, o, by rw [hset, if_pos ⟨rfl, ht.symm⟩]; show some X.toInt = _; rw [hX], by rw [hset, if_neg (fun hh => by have := hh.2; omega)]; exact c2, by rw [hset, if_neg (fun hh => by have := hh.2; omega)]; exact c3, by omega, c5, c6, by omega, ?_⟩
              rw [hpf, hjn, g4]
            cases b1 : ((sx_ble w.2.2 19 || sx_ble 23 w.2.1) && Nat.ble x 1) with
            | true =>
              rw [b1] at hs
              rw [List.mem_singleton.mp hs]
              simp only [Bool.and_eq_true, Bool.or_eq_true, sx_ble_iff, Nat.ble_eq] at b1
              refine fin _ _ (by omega) (by omega) (by omega) ?_
              rw [if_neg (by omega), if_neg (by omega)]
              rfl
            | false =>
              rw [b1] at hs
              dsimp only [cond_false] at hs
              cases b2 : ((sx_beq w.2.1 20 && sx_beq w.2.2 20) && Nat.ble 1 x) with
              | true =>
                rw [b2] at hs
                rw [List.mem_singleton.mp hs]
                simp only [Bool.and_eq_true, Nat.ble_eq] at b2
                have := sx_beq_ok b2.1.1
                have := sx_beq_ok b2.1.2
                refine fin _ _ (by omega) (by omega) (by omega) ?_
                rw [if_pos (by omega), if_pos (by omega)]
              | false =>
                rw [b2] at hs
                dsimp only [cond_false] at hs
                cases b3 : (mj_inn w.2 && Nat.ble 2 x) with
                | true =>
                  rw [b3] at hs
                  rw [List.mem_singleton.mp hs]
                  unfold mj_inn at b3
                  simp only [Bool.and_eq_true, sx_ble_iff, Nat.ble_eq] at b3
                  refine fin _ _ (by omega) (by omega) (by omega) ?_
                  rw [if_neg (by omega), if_pos (by omega), if_pos (by omega)]
                  congr 1
                  omega
                | false => rw [b3] at hs; cases hs
          · cases hs
        · cases hs
    · cases hs
  | false =>
  rw [k39] at hs
  dsimp only [cond_false] at hs
  cases k41 : (Nat.beq k 0 && sx_veq t (0, 0, 41)) with
  | true =>
    rw [k41] at hs
    dsimp only [cond_true] at hs
    simp only [Bool.and_eq_true] at k41
    have k0 : k = 0 := Nat.eq_of_beq_eq_true k41.1
    subst k0
    have ht : some (41 : Int) = some (j : Int) := by rw [← hn, sx_veq_ok k41.2]; rfl
    have ht : (j : Int) = 41 := (Option.some.inj ht).symm
    split at hs
    · next cc hcc =>
      obtain ⟨y, y1, y2, y3, y4⟩ := mj_k_at H hcc
      rw [c2] at y1
      cases y1
      have fin : ∀ (x' d' : Nat) (X : Int32), v = .int X → 0 ≤ X.toInt → x' ≤ 2 → d' ≤ 3 → c + X.toInt + (d' : Int) ≤ 2 * o → mj_jn (fun i => mj_int h 13 (i : Int)) tt.toNat + x = mj_jn (fun i => mj_int h 13 (i : Int)) X.toInt.toNat + x' → mj_J gd (mj_id x' d') (h.set 0 (q.1, q.2.set j v)) := fun x' d' X hv g0 g1 g2 g3 g4 => by
        subst hv
        rw [mj_id_S g1 g2]
        refine ⟨c, X.toInt, o, by rw [hset, if_neg (fun hh => by have := hh.2; omega)]; exact c1, by rw [hset, if_pos ⟨rfl, ht.symm⟩], by rw [hset, if_neg (fun hh => by have := hh.2; omega)]; exact c3, c4, g0, c6, g3, ?_⟩
        rw [mj_pf_cg (g := fun i => mj_int h 4 (3 * (i : Int))) (fun i hi => by rw [hset, if_neg (fun hh => by cases hh.1)]), mj_jn_cg (g := fun i => mj_int h 13 (i : Int)) (fun i hi => by rw [hset, if_neg (fun hh => by cases hh.1)]), c8, g4]
      cases hv1 : (sx_veq tv (sx_sh cc.1 1) && Nat.ble 1 d) with
      | true =>
        rw [hv1] at hs
        dsimp only [cond_true] at hs
        simp only [Bool.and_eq_true, Nat.ble_eq] at hv1
        obtain ⟨X, hvX, hX⟩ := val _ _ _ y2 hv1.1
        split at hs
        · next w hw =>
          obtain ⟨z, z1, -, z3, z4⟩ := mj_k_ok H y2 hw
          have hj1 : mj_jn (fun i => mj_int h 13 (i : Int)) X.toInt.toNat = mj_jn (fun i => mj_int h 13 (i : Int)) tt.toNat + if z = 21 ∨ z = 22 then 1 else 0 := by
            rw [show X.toInt.toNat = tt.toNat + 1 by omega]
            exact mj_jn_s (by show mj_int h 13 ((tt.toNat : Nat) : Int) = some z; rw [show ((tt.toNat : Nat) : Int) = tt by omega]; exact z1)
          cases b1 : (mj_inn w.2 && Nat.ble 1 x) with
          | true =>
            rw [b1] at hs
            rw [List.mem_singleton.mp hs]
            unfold mj_inn at b1
            simp only [Bool.and_eq_true, sx_ble_iff, Nat.ble_eq] at b1
            rw [if_pos (by omega)] at hj1
            exact fin _ _ X hvX (by omega) (by omega) (by omega) (by omega) (by omega)
          | false =>
            rw [b1] at hs
            dsimp only [cond_false] at hs
            cases b2 : mj_out w.2 with
            | false => rw [b2] at hs; cases hs
            | true =>
              rw [b2] at hs
              rw [List.mem_singleton.mp hs]
              unfold mj_out at b2
              simp only [Bool.or_eq_true, sx_ble_iff] at b2
              rw [if_neg (by omega)] at hj1
              exact fin _ _ X hvX (by omega) (by omega) (by omega) (by omega) (by omega)
        · cases hs
      | false =>
        rw [hv1] at hs
        dsimp only [cond_false] at hs
        cases hv2 : (sx_veq tv (sx_sh cc.1 (-1)) && (sx_ble 1 cc.2.1 && Nat.ble d 2)) with
        | false => rw [hv2] at hs; cases hs
        | true =>
          rw [hv2] at hs
          dsimp only [cond_true] at hs
          simp only [Bool.and_eq_true, Nat.ble_eq, sx_ble_iff] at hv2
          obtain ⟨X, hvX, hX⟩ := val _ _ _ y2 hv2.1
          have hj1 : ∀ z, mj_int h 13 (tt + -1) = some z → mj_jn (fun i => mj_int h 13 (i : Int)) tt.toNat = mj_jn (fun i => mj_int h 13 (i : Int)) X.toInt.toNat + if z = 21 ∨ z = 22 then 1 else 0 := fun z hz => by
            rw [show tt.toNat = X.toInt.toNat + 1 by omega]
            exact mj_jn_s (by show mj_int h 13 ((X.toInt.toNat : Nat) : Int) = some z; rw [show ((X.toInt.toNat : Nat) : Int) = tt + -1 by omega]; exact hz)
          cases b0 : mj_has B 13 with
          | true =>
            rw [b0] at hs
            rw [List.mem_singleton.mp hs]
            have hT : mj_T h := mj_has_ok H b0
            cases hz : mj_int h 13 (tt + -1) with
            | some z =>
              have := hT tt z c2 (by omega) hz
              have := hj1 z hz
              rw [if_neg (by omega)] at this
              exact fin _ _ X hvX (by omega) (by omega) (by omega) (by omega) (by omega)
            | none =>
              have : mj_jn (fun i => mj_int h 13 (i : Int)) tt.toNat = mj_jn (fun i => mj_int h 13 (i : Int)) X.toInt.toNat + 0 := by
                rw [show tt.toNat = X.toInt.toNat + 1 by omega]
                show mj_jn (fun i => mj_int h 13 (i : Int)) X.toInt.toNat + (match mj_int h 13 ((X.toInt.toNat : Nat) : Int) with
                  | some v => if v = 21 ∨ v = 22 then 1 else 0
                  | none => 0) = _
                rw [show ((X.toInt.toNat : Nat) : Int) = tt + -1 by omega, hz]
              exact fin _ _ X hvX (by omega) (by omega) (by omega) (by omega) (by omega)
          | false =>
            rw [b0] at hs
            dsimp only [cond_false] at hs
            split at hs
            · next w hw =>
              obtain ⟨z, z1, -, z3, z4⟩ := mj_k_ok H (sx_sh_n (c := -1) y2) hw
              have hj1 := hj1 z z1
              cases b1 : (mj_inn w.2 && Nat.ble x 1) with
              | true =>
                rw [b1] at hs
                rw [List.mem_singleton.mp hs]
                unfold mj_inn at b1
                simp only [Bool.and_eq_true, sx_ble_iff, Nat.ble_eq] at b1
                rw [if_pos (by omega)] at hj1
                exact fin _ _ X hvX (by omega) (by omega) (by omega) (by omega) (by omega)
              | false =>
                rw [b1] at hs
                dsimp only [cond_false] at hs
                cases b2 : mj_out w.2 with
                | false => rw [b2] at hs; cases hs
                | true =>
                  rw [b2] at hs
                  rw [List.mem_singleton.mp hs]
                  unfold mj_out at b2
                  simp only [Bool.or_eq_true, sx_ble_iff] at b2
                  rw [if_neg (by omega)] at hj1
                  exact fin _ _ X hvX (by omega) (by omega) (by omega) (by omega) (by omega)
            · cases hs
    · cases hs
  | false =>
  rw [k41] at hs
  dsimp only [cond_false] at hs
  cases k40 : (Nat.beq k 0 && sx_veq t (0, 0, 40)) with
  | false => rw [k40] at hs; cases hs
  | true =>
    rw [k40] at hs
    dsimp only [cond_true] at hs
    simp only [Bool.and_eq_true] at k40
    have k0 : k = 0 := Nat.eq_of_beq_eq_true k40.1
    subst k0
    have ht : some (40 : Int) = some (j : Int) := by rw [← hn, sx_veq_ok k40.2]; rfl
    have ht : (j : Int) = 40 := (Option.some.inj ht).symm
    split at hs
    · next cc hcc =>
      obtain ⟨y, y1, y2, y3, y4⟩ := mj_k_at H hcc
      rw [c3] at y1
      cases y1
      cases hv1 : (sx_veq tv (sx_sh cc.1 1) && (sx_ble cc.2.2 19 && Nat.ble d 1)) with
      | false => rw [hv1] at hs; cases hs
      | true =>
        rw [hv1] at hs
        rw [List.mem_singleton.mp hs]
        simp only [Bool.and_eq_true, Nat.ble_eq, sx_ble_iff] at hv1
        obtain ⟨X, rfl, hX⟩ := val _ _ _ y2 hv1.1
        rw [mj_id_S hx2 (by omega)]
        refine ⟨c, tt, o + 1, by rw [hset, if_neg (fun hh => by have := hh.2; omega)]; exact c1, by rw [hset, if_neg (fun hh => by have := hh.2; omega)]; exact c2, by rw [hset, if_pos ⟨rfl, ht.symm⟩]; show some X.toInt = _; rw [hX], c4, c5, by omega, by omega, ?_⟩
        rw [mj_pf_cg (g := fun i => mj_int h 4 (3 * (i : Int))) (fun i hi => by rw [hset, if_neg (fun hh => by cases hh.1)]), mj_jn_cg (g := fun i => mj_int h 13 (i : Int)) (fun i hi => by rw [hset, if_neg (fun hh => by cases hh.1)])]
        exact c8
    · cases hs
end MJB
