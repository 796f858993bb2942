/-! arithmetic on terms; locals, stack, frames -/
section SXC
variable {G : sx_G} {J : Nat → ri_H → Prop} {p : List Int} {B B' : sx_B} {h : ri_H}
/-- a new name with facts about it -/
def sx_nf (B : sx_B) (lo hi : Int) (g : Bool) (f : sx_v → sx_Fc) : sx_B × sx_v := bif g then (((sx_new B lo hi).1.1, (sx_new B lo hi).1.2.1, f (sx_new B lo hi).2 ++ (sx_new B lo hi).1.2.2.1, (sx_new B lo hi).1.2.2.2), (sx_new B lo hi).2) else sx_new B lo hi
def sx_arf (o : Nat) (a b : Int × Int) : Bool := match o with
  | 0 => sx_ble (-2147483648) (a.1 + b.1) && sx_ble (a.2 + b.2) 2147483647
  | 1 => sx_ble (-2147483648) (a.1 - b.2) && sx_ble (a.2 - b.1) 2147483647
  | 2 => sx_ble 0 a.1 && (sx_ble 0 b.1 && sx_ble (a.2 * b.2) 2147483647)
  | 10 => sx_ble 1 b.1
  | _ => false
def sx_arg (o : Nat) (x y : sx_v) (a b : Int × Int) (t : sx_v) : sx_Fc := match o with
  | 0 => [(0, sx_sh x b.1, t, t), (4, t, x, y)]
  | 1 => [(4, x, t, y)]
  | 2 => [(3, t, x, y)]
  | _ => (bif sx_ble 0 a.1 then [(0, sx_sh t 1, y, y)] else []) ++ [(2, t, x, y)]
theorem sx_m1 {α : Type} {P : α → Prop} {a : α} (h : P a) : ∀ f ∈ [a], P f := fun f hf => by
  rw [List.mem_singleton.mp hf]
  exact h
theorem sx_arg_ok {o : Nat} {x y t : sx_v} {X Y : Int32} {a b : Int × Int} (hx : sx_n p x = some X.toInt) (hy : sx_n p y = some Y.toInt) (ht : sx_n p t = some (sx_con o X Y).toInt) (ha : a.1 ≤ X.toInt ∧ X.toInt ≤ a.2) (hb : b.1 ≤ Y.toInt ∧ Y.toInt ≤ b.2) (hg : sx_arf o a b = true) : ∀ f ∈ sx_arg o x y a b t, sx_fh p f := by
  unfold sx_arf at hg
  split at hg
  · simp only [Bool.and_eq_true, sx_ble_iff] at hg
    have e : (X + Y).toInt = X.toInt + Y.toInt := by rw [Int32.toInt_add, sx_bm (by omega) (by omega)]
    have ht : sx_n p t = some (X + Y).toInt := ht
    rw [e] at ht
    exact sx_mc ⟨_, _, sx_sh_n hx, ht, by omega⟩ (sx_m1 ⟨_, _, _, ht, hx, hy, rfl⟩)
  · simp only [Bool.and_eq_true, sx_ble_iff] at hg
    refine sx_m1 ⟨_, _, _, hx, ht, hy, ?_⟩
    show _ = (X - Y).toInt + _
    rw [Int32.toInt_sub, sx_bm (by omega) (by omega)]
    omega
  · simp only [Bool.and_eq_true, sx_ble_iff] at hg
    refine sx_m1 ⟨_, _, _, ht, hx, hy, ?_⟩
    show (X * Y).toInt = _
    have h1 : X.toInt * Y.toInt ≤ a.2 * b.2 := Int.mul_le_mul ha.2 hb.2 (by omega) (by omega)
    have h2 : 0 ≤ X.toInt * Y.toInt := Int.mul_nonneg (by omega) (by omega)
    rw [Int32.toInt_mul, sx_bm (by omega) (by omega)]
  · simp only [sx_ble_iff] at hg
    have e : (X - X / Y * Y).toInt = X.toInt.tmod Y.toInt := sx_rem (by omega)
    have ht : sx_n p t = some (X - X / Y * Y).toInt := ht
    rw [e] at ht
    have hl := Int.tmod_lt_of_pos X.toInt (show 0 < Y.toInt by omega)
    show ∀ f ∈ (bif sx_ble 0 a.1 then [(0, sx_sh t 1, y, y)] else []) ++ [(2, t, x, y)], sx_fh p f
    cases sx_ble 0 a.1 with
    | false => exact sx_m1 ⟨_, _, _, ht, hx, hy, rfl⟩
    | true => exact sx_mc ⟨_, _, sx_sh_n ht, hy, by omega⟩ (sx_m1 ⟨_, _, _, ht, hx, hy, rfl⟩)
  · cases hg
/-- what was computed before -/
def sx_ff (o : Nat) (x y : sx_v) : sx_Fc → Option sx_v
  | [] => none
  | f :: t => bif (Nat.beq o 0 && Nat.beq f.1 4 || (Nat.beq o 2 && Nat.beq f.1 3 || Nat.beq o 10 && Nat.beq f.1 2)) && (sx_veq f.2.2.1 x && sx_veq f.2.2.2 y) then some f.2.1 else sx_ff o x y t
theorem sx_ff_ok {o : Nat} {x y t : sx_v} {X Y : Int32} {a b : Int × Int} (hx : sx_n p x = some X.toInt) (hy : sx_n p y = some Y.toInt) (ha : a.1 ≤ X.toInt ∧ X.toInt ≤ a.2) (hb : b.1 ≤ Y.toInt ∧ Y.toInt ≤ b.2) (hg : sx_arf o a b = true) : ∀ {fc : sx_Fc}, (∀ f ∈ fc, sx_fh p f) → sx_ff o x y fc = some t → sx_n p t = some (sx_con o X Y).toInt
  | [], _, hs => by cases hs
  | f :: fc, hf, hs => by
    unfold sx_ff at hs
    cases c : ((Nat.beq o 0 && Nat.beq f.1 4 || (Nat.beq o 2 && Nat.beq f.1 3 || Nat.beq o 10 && Nat.beq f.1 2)) && (sx_veq f.2.2.1 x && sx_veq f.2.2.2 y)) with
    | false =>
      rw [c] at hs
      exact sx_ff_ok hx hy ha hb hg (fun g hgm => hf g (List.mem_cons_of_mem _ hgm)) hs
    | true =>
      rw [c] at hs
      have hs : f.2.1 = t := Option.some.inj hs
      simp only [Bool.and_eq_true] at c
      have c2 := sx_veq_ok c.2.1
      have c3 := sx_veq_ok c.2.2
      have h0 := hf f List.mem_cons_self
      unfold sx_fh at h0
      rcases (Bool.or_eq_true _ _).mp c.1 with e | e
      · simp only [Bool.and_eq_true] at e
        have e1 : o = 0 := Nat.eq_of_beq_eq_true e.1
        have e2 : f.1 = 4 := Nat.eq_of_beq_eq_true e.2
        rw [e2] at h0
        obtain ⟨u, v, w, h1, h2, h3, h4⟩ := h0
        rw [c2, hx] at h2
        rw [c3, hy] at h3
        cases h2
        cases h3
        rw [← hs, h1, h4, e1]
        subst e1
        unfold sx_arf at hg
        simp only [Bool.and_eq_true, sx_ble_iff] at hg
        show _ = some (X + Y).toInt
        rw [Int32.toInt_add, sx_bm (by omega) (by omega)]
      · rcases (Bool.or_eq_true _ _).mp e with e | e
        · simp only [Bool.and_eq_true] at e
          have e1 : o = 2 := Nat.eq_of_beq_eq_true e.1
          have e2 : f.1 = 3 := Nat.eq_of_beq_eq_true e.2
          rw [e2] at h0
          obtain ⟨u, v, w, h1, h2, h3, h4⟩ := h0
          rw [c2, hx] at h2
          rw [c3, hy] at h3
          cases h2
          cases h3
          rw [← hs, h1, h4, e1]
          subst e1
          unfold sx_arf at hg
          simp only [Bool.and_eq_true, sx_ble_iff] at hg
          show _ = some (X * Y).toInt
          have g1 : X.toInt * Y.toInt ≤ a.2 * b.2 := Int.mul_le_mul ha.2 hb.2 (by omega) (by omega)
          have g2 : 0 ≤ X.toInt * Y.toInt := Int.mul_nonneg (by omega) (by omega)
          rw [Int32.toInt_mul, sx_bm (by omega) (by omega)]
        · simp only [Bool.and_eq_true] at e
          have e1 : o = 10 := Nat.eq_of_beq_eq_true e.1
          have e2 : f.1 = 2 := Nat.eq_of_beq_eq_true e.2
          rw [e2] at h0
          obtain ⟨u, v, w, h1, h2, h3, h4⟩ := h0
          rw [c2, hx] at h2
          rw [c3, hy] at h3
          cases h2
          cases h3
          rw [← hs, h1, h4, e1]
          subst e1
          unfold sx_arf at hg
          simp only [sx_ble_iff] at hg
          exact congrArg some (sx_rem (x := X) (y := Y) (by omega)).symm
def sx_ar (o : Nat) (B : sx_B) (x y : sx_v) : Option (sx_B × sx_v) := match sx_r B.2.1 x, sx_r B.2.1 y with
  | some a, some b => bif Nat.ble 9 o && !sx_ble 1 b.1 then none else
    bif Nat.beq o 3 && (sx_beq b.1 b.2 && (sx_beq b.1 255 && (sx_ble 0 a.1 && sx_ble a.2 255))) then some (B, x) else
    bif sx_beq a.1 a.2 && sx_beq b.1 b.2 then some (B, (0, 0, (sx_con o (Int32.ofInt a.1) (Int32.ofInt b.1)).toInt)) else
    bif Nat.beq o 0 && (sx_beq b.1 b.2 && (sx_ble (-2147483648) (a.1 + b.1) && sx_ble (a.2 + b.1) 2147483647)) then some (B, sx_sh x b.1) else
    bif Nat.beq o 0 && (sx_beq a.1 a.2 && (sx_ble (-2147483648) (b.1 + a.1) && sx_ble (b.2 + a.1) 2147483647)) then some (B, sx_sh y a.1) else
    bif Nat.beq o 1 && (sx_beq b.1 b.2 && (sx_ble (-2147483648) (a.1 - b.1) && sx_ble (a.2 - b.1) 2147483647)) then some (B, sx_sh x (-b.1)) else
    bif Nat.beq o 1 && (Nat.beq x.1 1 && (Nat.beq y.1 1 && (Nat.beq x.2.1 y.2.1 && (sx_ble (-2147483648) (x.2.2 - y.2.2) && sx_ble (x.2.2 - y.2.2) 2147483647)))) then some (B, (0, 0, x.2.2 - y.2.2)) else
    match (bif sx_arf o a b then sx_ff o x y B.2.2.1 else none) with
    | some t => some (B, t)
    | none => some (sx_nf B (sx_iop o a.1 a.2 b.1 b.2).1 (sx_iop o a.1 a.2 b.1 b.2).2 (sx_arf o a b) (sx_arg o x y a b))
  | _, _ => none
theorem sx_ar_ok (H : sx_E G J p B h) {o : Nat} {x y t : sx_v} {X Y : Int32} (hx : sx_n p x = some X.toInt) (hy : sx_n p y = some Y.toInt) (hs : sx_ar o B x y = some (B', t)) : (9 ≤ o → Y ≠ 0) ∧ ∃ e, sx_E G J (p ++ e) B' h ∧ sx_n (p ++ e) t = some (sx_con o X Y).toInt := by
  unfold sx_ar at hs
  obtain ⟨a, ha, a1, a2⟩ := sx_r_of H.2.1 hx
  obtain ⟨b, hb, b1, b2⟩ := sx_r_of H.2.1 hy
  rw [ha, hb] at hs
  dsimp only at hs
  cases c0 : (Nat.ble 9 o && !sx_ble 1 b.1) with
  | true => rw [c0] at hs; cases hs
  | false =>
    rw [c0] at hs
    dsimp only [cond_false] at hs
    refine ⟨fun h9 => ?_, ?_⟩
    · rw [Nat.ble_eq.mpr h9, Bool.true_and] at c0
      have c1 : sx_ble 1 b.1 = true := by
        cases e : sx_ble 1 b.1 with
        | true => rfl
        | false => rw [e] at c0; cases c0
      have c1 := sx_ble_iff.mp c1
      rintro rfl
      have : (0 : Int32).toInt = 0 := by decide
      omega
    · cases c8 : (Nat.beq o 3 && (sx_beq b.1 b.2 && (sx_beq b.1 255 && (sx_ble 0 a.1 && sx_ble a.2 255)))) with
      | true =>
        rw [c8] at hs
        cases hs
        simp only [Bool.and_eq_true, sx_ble_iff] at c8
        have e0 : o = 3 := Nat.eq_of_beq_eq_true c8.1
        have e1 := sx_beq_ok c8.2.1
        have e2 := sx_beq_ok c8.2.2.1
        refine ⟨[], by rw [List.append_nil]; exact H, ?_⟩
        have hY : Y = 255 := Int32.toInt_inj.mp (by
          have : (255 : Int32).toInt = 255 := by decide
          omega)
        rw [List.append_nil, hx, e0, hY]
        show some X.toInt = some (X &&& 255).toInt
        obtain ⟨x1, x2⟩ := sx_nn (x := X) (by omega)
        have hN : sx_N (X &&& 255) = sx_N X := by
          rw [sx_N_and, show sx_N 255 = 2 ^ 8 - 1 by decide, Nat.and_two_pow_sub_one_eq_mod, Nat.mod_eq_of_lt (by omega)]
        rw [x1, sx_nn' (x := X &&& 255) (by omega), hN]
      | false =>
      rw [c8] at hs
      dsimp only [cond_false] at hs
      cases c1 : (sx_beq a.1 a.2 && sx_beq b.1 b.2) with
      | true =>
        rw [c1] at hs
        cases hs
        simp only [Bool.and_eq_true] at c1
        have e1 := sx_beq_ok c1.1
        have e2 := sx_beq_ok c1.2
        refine ⟨[], by rw [List.append_nil]; exact H, ?_⟩
        rw [sx_ofI X (show X.toInt = a.1 by omega), sx_ofI Y (show Y.toInt = b.1 by omega)]
        rfl
      | false =>
        rw [c1] at hs
        dsimp only [cond_false] at hs
        cases c2 : (Nat.beq o 0 && (sx_beq b.1 b.2 && (sx_ble (-2147483648) (a.1 + b.1) && sx_ble (a.2 + b.1) 2147483647))) with
        | true =>
          rw [c2] at hs
          cases hs
          simp only [Bool.and_eq_true, sx_ble_iff] at c2
          have e0 : o = 0 := Nat.eq_of_beq_eq_true c2.1
          have e1 := sx_beq_ok c2.2.1
          refine ⟨[], by rw [List.append_nil]; exact H, ?_⟩
          rw [List.append_nil, sx_sh_n hx, e0]
          show _ = some (X + Y).toInt
          rw [Int32.toInt_add, sx_bm (by omega) (by omega)]
          congr 1
          omega
        | false =>
          rw [c2] at hs
          dsimp only [cond_false] at hs
          cases c3 : (Nat.beq o 0 && (sx_beq a.1 a.2 && (sx_ble (-2147483648) (b.1 + a.1) && sx_ble (b.2 + a.1) 2147483647))) with
          | true =>
            rw [c3] at hs
            cases hs
            simp only [Bool.and_eq_true, sx_ble_iff] at c3
            have e0 : o = 0 := Nat.eq_of_beq_eq_true c3.1
            have e1 := sx_beq_ok c3.2.1
            refine ⟨[], by rw [List.append_nil]; exact H, ?_⟩
            rw [List.append_nil, sx_sh_n hy, e0]
            show _ = some (X + Y).toInt
            rw [Int32.toInt_add, sx_bm (by omega) (by omega)]
            congr 1
            omega
          | false =>
            rw [c3] at hs
            dsimp only [cond_false] at hs
            cases c4 : (Nat.beq o 1 && (sx_beq b.1 b.2 && (sx_ble (-2147483648) (a.1 - b.1) && sx_ble (a.2 - b.1) 2147483647))) with
            | true =>
              rw [c4] at hs
              cases hs
              simp only [Bool.and_eq_true, sx_ble_iff] at c4
              have e0 : o = 1 := Nat.eq_of_beq_eq_true c4.1
              have e1 := sx_beq_ok c4.2.1
              refine ⟨[], by rw [List.append_nil]; exact H, ?_⟩
              rw [List.append_nil, sx_sh_n hx, e0]
              show _ = some (X - Y).toInt
              rw [Int32.toInt_sub, sx_bm (by omega) (by omega)]
              congr 1
              omega
            | false =>
              rw [c4] at hs
              dsimp only [cond_false] at hs
              cases c5 : (Nat.beq o 1 && (Nat.beq x.1 1 && (Nat.beq y.1 1 && (Nat.beq x.2.1 y.2.1 && (sx_ble (-2147483648) (x.2.2 - y.2.2) && sx_ble (x.2.2 - y.2.2) 2147483647))))) with
              | true =>
                rw [c5] at hs
                cases hs
                simp only [Bool.and_eq_true, sx_ble_iff] at c5
                have e0 : o = 1 := Nat.eq_of_beq_eq_true c5.1
                have e1 : x.1 = 1 := Nat.eq_of_beq_eq_true c5.2.1
                have e2 : y.1 = 1 := Nat.eq_of_beq_eq_true c5.2.2.1
                have e3 : x.2.1 = y.2.1 := Nat.eq_of_beq_eq_true c5.2.2.2.1
                refine ⟨[], by rw [List.append_nil]; exact H, ?_⟩
                obtain ⟨z, hz, hx1⟩ := sx_n1 e1 hx
                obtain ⟨z', hz', hy1⟩ := sx_n1 e2 hy
                rw [← e3, hz] at hz'
                cases hz'
                rw [e0]
                show some (x.2.2 - y.2.2) = some (X - Y).toInt
                rw [Int32.toInt_sub, sx_bm (by omega) (by omega)]
                congr 1
                omega
              | false =>
                rw [c5] at hs
                dsimp only [cond_false] at hs
                split at hs
                · next t' ht' =>
                  cases hs
                  cases c7 : sx_arf o a b with
                  | false => rw [c7] at ht'; cases ht'
                  | true =>
                    rw [c7] at ht'
                    exact ⟨[], by rw [List.append_nil]; exact H, by rw [List.append_nil]; exact sx_ff_ok hx hy ⟨a1, a2⟩ ⟨b1, b2⟩ c7 H.2.2.1 ht'⟩
                have hs := Option.some.inj hs
                have i1 := sx_iop_ok (o := o) a1 a2 b1 b2
                obtain ⟨e, g1, g2⟩ := sx_new_ok H i1.1 i1.2
                refine ⟨e, ?_⟩
                unfold sx_nf at hs
                cases c6 : sx_arf o a b with
                | false =>
                  rw [c6] at hs
                  have h1 : (sx_new B (sx_iop o a.1 a.2 b.1 b.2).1 (sx_iop o a.1 a.2 b.1 b.2).2).1 = B' := congrArg Prod.fst hs
                  have h2 : (sx_new B (sx_iop o a.1 a.2 b.1 b.2).1 (sx_iop o a.1 a.2 b.1 b.2).2).2 = t := congrArg Prod.snd hs
                  rw [← h1, ← h2]
                  exact ⟨g1, g2⟩
                | true =>
                  rw [c6] at hs
                  cases hs
                  exact ⟨⟨g1.1, g1.2.1, fun f hf => by
                    rcases List.mem_append.mp hf with hf | hf
                    · exact sx_arg_ok (sx_n_ext e hx) (sx_n_ext e hy) g2 ⟨a1, a2⟩ ⟨b1, b2⟩ c6 f hf
                    · exact g1.2.2.1 f hf, g1.2.2.2⟩, g2⟩
/-- a byte -/
def sx_i2b (B : sx_B) (x : sx_v) : Option (sx_B × sx_v) := match sx_r B.2.1 x with
  | some a => bif sx_ble (-128) a.1 && sx_ble a.2 127 then some (B, x) else some (sx_new B (-128) 127)
  | none => none
theorem sx_i2b_ok (H : sx_E G J p B h) {x t : sx_v} {X : Int32} (hx : sx_n p x = some X.toInt) (hs : sx_i2b B x = some (B', t)) : ∃ e, sx_E G J (p ++ e) B' h ∧ sx_n (p ++ e) t = some X.toInt8.toInt32.toInt := by
  unfold sx_i2b at hs
  obtain ⟨a, ha, a1, a2⟩ := sx_r_of H.2.1 hx
  rw [ha] at hs
  dsimp only at hs
  have hb : X.toInt8.toInt32.toInt = X.toInt.bmod 256 := by rw [Int8.toInt_toInt32, Int32.toInt_toInt8]
  cases c : (sx_ble (-128) a.1 && sx_ble a.2 127) with
  | true =>
    rw [c] at hs
    cases hs
    simp only [Bool.and_eq_true, sx_ble_iff] at c
    refine ⟨[], by rw [List.append_nil]; exact H, ?_⟩
    rw [List.append_nil, hx, hb, Int.bmod_eq_of_le (by omega) (by omega)]
  | false =>
    rw [c] at hs
    have hs := Option.some.inj hs
    have h3 : -128 ≤ X.toInt.bmod 256 := Int.le_bmod (by decide)
    have h4 : X.toInt.bmod 256 < 128 := Int.bmod_lt (by decide)
    obtain ⟨e, g1, g2⟩ := sx_new_ok H (lo := -128) (hi := 127) (y := X.toInt8.toInt32.toInt) (by omega) (by omega)
    have h1 : (sx_new B (-128) 127).1 = B' := congrArg Prod.fst hs
    have h2 : (sx_new B (-128) 127).2 = t := congrArg Prod.snd hs
    rw [← h1, ← h2]
    exact ⟨e, g1, g2⟩
def sx_i2c (B : sx_B) (x : sx_v) : Option (sx_B × sx_v) := match sx_r B.2.1 x with
  | some a => bif sx_ble 0 a.1 && sx_ble a.2 65535 then some (B, x) else some (sx_new B 0 65535)
  | none => none
theorem sx_i2c_ok (H : sx_E G J p B h) {x t : sx_v} {X : Int32} (hx : sx_n p x = some X.toInt) (hs : sx_i2c B x = some (B', t)) : ∃ e, sx_E G J (p ++ e) B' h ∧ sx_n (p ++ e) t = some ((X.toUInt32 % 65536).toInt32).toInt := by
  unfold sx_i2c at hs
  obtain ⟨a, ha, a1, a2⟩ := sx_r_of H.2.1 hx
  rw [ha] at hs
  dsimp only at hs
  have hN : sx_N ((X.toUInt32 % 65536).toInt32) = sx_N X % 65536 := by
    show (X.toUInt32 % 65536).toNat = _
    rw [UInt32.toNat_mod]
    rfl
  have hl : sx_N X % 65536 < 65536 := Nat.mod_lt _ (by decide)
  have hb := sx_nn' (x := (X.toUInt32 % 65536).toInt32) (by omega)
  cases c : (sx_ble 0 a.1 && sx_ble a.2 65535) with
  | true =>
    rw [c] at hs
    cases hs
    simp only [Bool.and_eq_true, sx_ble_iff] at c
    refine ⟨[], by rw [List.append_nil]; exact H, ?_⟩
    have := sx_nn (x := X) (by omega)
    rw [List.append_nil, hx, hb, hN, Nat.mod_eq_of_lt (by omega)]
    congr 1
    omega
  | false =>
    rw [c] at hs
    have hs := Option.some.inj hs
    obtain ⟨e, g1, g2⟩ := sx_new_ok H (lo := 0) (hi := 65535) (y := ((X.toUInt32 % 65536).toInt32).toInt) (by omega) (by omega)
    have h1 : (sx_new B 0 65535).1 = B' := congrArg Prod.fst hs
    have h2 : (sx_new B 0 65535).2 = t := congrArg Prod.snd hs
    rw [← h1, ← h2]
    exact ⟨e, g1, g2⟩
/-! compares -/
def sx_rel (c : Nat) (u w : Int) : Prop := match c with
  | 0 => u = w
  | 1 => u ≠ w
  | 2 => u < w
  | 3 => w ≤ u
  | 4 => w < u
  | _ => u ≤ w
def sx_ng (c : Nat) : Nat := match c with
  | 0 => 1
  | 1 => 0
  | 2 => 3
  | 3 => 2
  | 4 => 5
  | _ => 4
/-- a rest that is 0 -/
def sx_d0 (x : sx_v) : sx_Fc → sx_Fc
  | [] => []
  | f :: t => bif Nat.beq f.1 2 && sx_veq f.2.1 x then (5, f.2.2.1, f.2.2.2, f.2.2.2) :: sx_d0 x t else sx_d0 x t
theorem sx_d0_ok {x : sx_v} (hx : sx_n p x = some 0) : ∀ {fc : sx_Fc}, (∀ f ∈ fc, sx_fh p f) → ∀ f ∈ sx_d0 x fc, sx_fh p f
  | [], _, f, hm => by simp [sx_d0] at hm
  | g :: t, hf, f, hm => by
    unfold sx_d0 at hm
    cases e : (Nat.beq g.1 2 && sx_veq g.2.1 x) with
    | false => rw [e] at hm; exact sx_d0_ok hx (fun g hg => hf g (List.mem_cons_of_mem _ hg)) f hm
    | true =>
      rw [e] at hm
      rcases List.mem_cons.mp hm with rfl | hm
      · simp only [Bool.and_eq_true] at e
        have e1 : g.1 = 2 := Nat.eq_of_beq_eq_true e.1
        have e2 := sx_veq_ok e.2
        have h0 := hf g List.mem_cons_self
        unfold sx_fh at h0
        rw [e1] at h0
        obtain ⟨a, b, c, h1, h2, h3, h4⟩ := h0
        rw [e2, hx] at h1
        cases h1
        exact ⟨b, c, h2, h3, Int.dvd_of_tmod_eq_zero h4.symm⟩
      · exact sx_d0_ok hx (fun g hg => hf g (List.mem_cons_of_mem _ hg)) f hm
def sx_tr (c : Nat) (B : sx_B) (x y : sx_v) : Option sx_B := match c with
  | 0 => match sx_asm B x y with
    | some B1 => (match sx_asm B1 y x with
      | some B2 => bif Nat.beq y.1 0 && sx_beq y.2.2 0 then some (B2.1, B2.2.1, sx_d0 x B2.2.2.1 ++ B2.2.2.1, B2.2.2.2) else some B2
      | none => none)
    | none => none
  | 1 => match sx_ane B x y with
    | some B1 => sx_ane B1 y x
    | none => none
  | 2 => sx_asm B (sx_sh x 1) y
  | 3 => sx_asm B y x
  | 4 => sx_asm B (sx_sh y 1) x
  | _ => sx_asm B x y
theorem sx_tr_ok (H : sx_E G J p B h) {c : Nat} {x y : sx_v} {u w : Int} (hx : sx_n p x = some u) (hy : sx_n p y = some w) (hr : sx_rel c u w) : ∃ B', sx_tr c B x y = some B' ∧ sx_E G J p B' h := by
  unfold sx_rel at hr
  unfold sx_tr
  split at hr
  · obtain ⟨B1, h1, h2⟩ := sx_asm_ok H hx hy (Int.le_of_eq hr)
    obtain ⟨B2, h3, h4⟩ := sx_asm_ok h2 hy hx (Int.le_of_eq hr.symm)
    rw [h1]
    dsimp only
    rw [h3]
    dsimp only
    cases e : (Nat.beq y.1 0 && sx_beq y.2.2 0) with
    | false => exact ⟨B2, rfl, h4⟩
    | true =>
      simp only [Bool.and_eq_true] at e
      have e1 : y.1 = 0 := Nat.eq_of_beq_eq_true e.1
      have e2 := sx_beq_ok e.2
      have hw : w = 0 := by
        unfold sx_n at hy
        rw [e1] at hy
        have : y.2.2 = w := Option.some.inj hy
        omega
      have hx0 : sx_n p x = some 0 := by rw [hx, hr, hw]
      refine ⟨_, rfl, h4.1, h4.2.1, fun f hf => ?_, h4.2.2.2⟩
      rcases List.mem_append.mp hf with hf | hf
      · exact sx_d0_ok hx0 h4.2.2.1 f hf
      · exact h4.2.2.1 f hf
  · obtain ⟨B1, h1, h2⟩ := sx_ane_ok H hx hy hr
    rw [h1]
    exact sx_ane_ok h2 hy hx hr.symm
  · exact sx_asm_ok H (sx_sh_n hx) hy (by omega)
  · exact sx_asm_ok H hy hx hr
  · exact sx_asm_ok H (sx_sh_n hy) hx (by omega)
  · exact sx_asm_ok H hx hy hr
theorem sx_hd {c : Nat} (hc : c ≤ 5) (a b : Int32) : (ri_hd c a b = true → sx_rel c a.toInt b.toInt) ∧ (ri_hd c a b = false → sx_rel (sx_ng c) a.toInt b.toInt) := by
  have e1 : a = b ↔ a.toInt = b.toInt := Int32.toInt_inj.symm
  have e2 : a < b ↔ a.toInt < b.toInt := Int32.lt_iff_toInt_lt
  have e3 : b ≤ a ↔ b.toInt ≤ a.toInt := Int32.le_iff_toInt_le
  have e4 : b < a ↔ b.toInt < a.toInt := Int32.lt_iff_toInt_lt
  have e5 : a ≤ b ↔ a.toInt ≤ b.toInt := Int32.le_iff_toInt_le
  match c, hc with
  | 0, _ => exact ⟨fun h => e1.mp (of_decide_eq_true h), fun h => fun hh => of_decide_eq_false h (e1.mpr hh)⟩
  | 1, _ =>
    refine ⟨fun h => ?_, fun h => ?_⟩
    · have h : (!decide (a = b)) = true := h
      simp only [Bool.not_eq_true', decide_eq_false_iff_not] at h
      exact fun hh => h (e1.mpr hh)
    · have h : (!decide (a = b)) = false := h
      simp only [Bool.not_eq_false', decide_eq_true_eq] at h
      exact e1.mp h
  | 2, _ => exact ⟨fun h => e2.mp (of_decide_eq_true h), fun h => Int.not_lt.mp (fun hh => of_decide_eq_false h (e2.mpr hh))⟩
  | 3, _ => exact ⟨fun h => e3.mp (of_decide_eq_true h), fun h => Int.not_le.mp (fun hh => of_decide_eq_false h (e3.mpr hh))⟩
  | 4, _ => exact ⟨fun h => e4.mp (of_decide_eq_true h), fun h => Int.not_lt.mp (fun hh => of_decide_eq_false h (e4.mpr hh))⟩
  | 5, _ => exact ⟨fun h => e5.mp (of_decide_eq_true h), fun h => Int.not_le.mp (fun hh => of_decide_eq_false h (e5.mpr hh))⟩
  | c + 6, hc => omega
/-- a term's numbers one by one -/
def sx_sps (B : sx_B) (x : sx_v) (v : Int) (n : Nat) : List (sx_B × Int) := match n with
  | 0 => []
  | n + 1 => match sx_tr 0 B x (0, 0, v) with
    | some B' => (B', v) :: sx_sps B x (v + 1) n
    | none => sx_sps B x (v + 1) n
theorem sx_sps_ok (H : sx_E G J p B h) {x : sx_v} {u : Int} (hx : sx_n p x = some u) : ∀ (n : Nat) (v : Int), v ≤ u → u < v + n → ∃ B', (B', u) ∈ sx_sps B x v n ∧ sx_E G J p B' h
  | 0, v, h1, h2 => by omega
  | n + 1, v, h1, h2 => by
    unfold sx_sps
    by_cases e : v = u
    · subst e
      obtain ⟨B', g1, g2⟩ := sx_tr_ok (c := 0) H (y := (0, 0, v)) (w := v) hx rfl rfl
      rw [g1]
      exact ⟨B', List.mem_cons_self, g2⟩
    · obtain ⟨B', g1, g2⟩ := sx_sps_ok H hx n (v + 1) (by omega) (by omega)
      split
      · exact ⟨B', List.mem_cons_of_mem _ g1, g2⟩
      · exact ⟨B', g1, g2⟩
end SXC
/-! locals and stack -/
def sx_lk : List (Nat × sx_v) → Nat → Option sx_v
  | [], _ => none
  | q :: t, i => bif Nat.beq q.1 i then some q.2 else sx_lk t i
def sx_st1 (lo : List (Nat × sx_v)) (i : Nat) (a : sx_v) : List (Nat × sx_v) := (i, a) :: lo.filter (fun q => !Nat.beq q.1 i && !(Nat.beq (q.1 + 1) i && Nat.beq q.2.1 3))
def sx_los (p : List Int) (al : List (Nat × sx_v)) (lo : List (Nat × Value)) : Prop := ∀ q ∈ al, ∃ v, ri_lk lo q.1 = some v ∧ sx_g p q.2 v
def sx_sts (p : List Int) : List sx_v → List Value → Prop
  | [], [] => True
  | a :: as, v :: vs => sx_g p a v ∧ sx_sts p as vs
  | _, _ => False
theorem sx_los.ext {p : List Int} {al : List (Nat × sx_v)} {lo : List (Nat × Value)} (H : sx_los p al lo) (e : List Int) : sx_los (p ++ e) al lo := fun q hq => by
  obtain ⟨v, h1, h2⟩ := H q hq
  exact ⟨v, h1, sx_g_ext e h2⟩
theorem sx_sts.ext {p : List Int} (e : List Int) : ∀ {as : List sx_v} {vs : List Value}, sx_sts p as vs → sx_sts (p ++ e) as vs
  | [], [], _ => trivial
  | _ :: _, _ :: _, H => ⟨sx_g_ext e H.1, sx_sts.ext e H.2⟩
  | [], _ :: _, H => H.elim
  | _ :: _, [], H => H.elim
theorem sx_lk_ok : ∀ {al : List (Nat × sx_v)} {i : Nat} {a : sx_v}, sx_lk al i = some a → (i, a) ∈ al
  | [], _, _, H => by cases H
  | q :: t, i, a, H => by
    unfold sx_lk at H
    cases e : Nat.beq q.1 i with
    | true =>
      rw [e] at H
      have e1 : q.1 = i := Nat.eq_of_beq_eq_true e
      have e2 : q.2 = a := Option.some.inj H
      rw [← e1, ← e2]
      exact List.mem_cons_self
    | false =>
      rw [e] at H
      exact List.mem_cons_of_mem _ (sx_lk_ok H)
theorem sx_los.lk {p : List Int} {al : List (Nat × sx_v)} {lo : List (Nat × Value)} (H : sx_los p al lo) {i : Nat} {a : sx_v} (h : sx_lk al i = some a) : ∃ v, ri_lk lo i = some v ∧ sx_g p a v := H _ (sx_lk_ok h)
theorem sx_lk_filter : ∀ (lo : List (Nat × Value)) (f : Nat × Value → Bool) (i : Nat) (v : Value), ri_lk lo i = some v → f (i, v) = true → ri_lk (lo.filter f) i = some v
  | [], _, _, _, h, _ => by cases h
  | q :: t, f, i, v, h, hf => by
    unfold ri_lk at h
    cases e : Nat.beq q.1 i with
    | true =>
      rw [e] at h
      have e1 : q.1 = i := Nat.eq_of_beq_eq_true e
      have e2 : q.2 = v := Option.some.inj h
      have e3 : q = (i, v) := by rw [← e1, ← e2]
      rw [e3, List.filter_cons, hf]
      show ri_lk ((i, v) :: t.filter f) i = some v
      unfold ri_lk
      rw [show Nat.beq i i = true from Nat.beq_eq.mpr rfl]
      rfl
    | false =>
      rw [e] at h
      have ih := sx_lk_filter t f i v h hf
      rw [List.filter_cons]
      split
      · unfold ri_lk
        rw [e]
        exact ih
      · exact ih
theorem sx_los.st1 {p : List Int} {al : List (Nat × sx_v)} {lo : List (Nat × Value)} (H : sx_los p al lo) {i : Nat} {a : sx_v} {v : Value} (h : sx_g p a v) : sx_los p (sx_st1 al i a) (ri_st1 lo i v) := by
  intro q hq
  unfold ri_st1
  rcases List.mem_cons.mp hq with rfl | hq
  · refine ⟨v, ?_, h⟩
    unfold ri_lk
    rw [show Nat.beq i i = true from Nat.beq_eq.mpr rfl]
    rfl
  · obtain ⟨q1, q2⟩ := List.mem_filter.mp hq
    obtain ⟨w, h1, h2⟩ := H q q1
    simp only [Bool.and_eq_true] at q2
    have n1 : q.1 ≠ i := sx_nbeq q2.1
    refine ⟨w, ?_, h2⟩
    unfold ri_lk
    rw [show Nat.beq i q.1 = false by
      cases e : Nat.beq i q.1 with
      | false => rfl
      | true => exact absurd (Nat.eq_of_beq_eq_true e).symm n1]
    refine sx_lk_filter lo _ _ _ h1 ?_
    have hcat := sx_g_cat h2
    have e1 : (q.1 == i) = false := by
      cases e : q.1 == i with
      | false => rfl
      | true => exact absurd (by simpa using e) n1
    show (!(q.1 == i) && !(q.1 + 1 == i && w.category == 2)) = true
    rw [e1, hcat]
    have q3 := q2.2
    cases e2 : Nat.beq (q.1 + 1) i with
    | true =>
      rw [e2] at q3
      unfold sx_ct
      have e3 : Nat.beq q.2.1 3 = false := by
        cases e : Nat.beq q.2.1 3 with
        | false => rfl
        | true => rw [e] at q3; cases q3
      rw [e3]
      simp
    | false =>
      have : (q.1 + 1 == i) = false := by
        cases e : q.1 + 1 == i with
        | false => rfl
        | true =>
          have : q.1 + 1 = i := by simpa using e
          rw [Nat.beq_eq.mpr this] at e2
          cases e2
      rw [this]
      rfl
def sx_S (G : sx_G) (J : Nat → ri_H → Prop) (p : List Int) (A : sx_A) (lo : List (Nat × Value)) (st : List Value) (h : ri_H) : Prop := sx_los p A.1 lo ∧ sx_sts p A.2.1 st ∧ sx_E G J p A.2.2 h
/-- slots that may change -/
abbrev sx_M : Type := List (Nat × sx_v × sx_v)
def sx_in (p : List Int) (M : sx_M) (k : Nat) (i : Int) : Prop := ∃ m ∈ M, m.1 = k ∧ ∃ a b, sx_n p m.2.1 = some a ∧ sx_n p m.2.2 = some b ∧ a ≤ i ∧ i ≤ b
def sx_Fr (p : List Int) (M : sx_M) (h h' : ri_H) : Prop := ∀ (k : Nat) (i : Int), ¬ sx_in p M k i → sx_at h' k i = sx_at h k i
theorem sx_Fr.rf (p : List Int) (M : sx_M) (h : ri_H) : sx_Fr p M h h := fun _ _ _ => rfl
theorem sx_Fr.tr {p : List Int} {M : sx_M} {h h1 h2 : ri_H} (a : sx_Fr p M h h1) (b : sx_Fr p M h1 h2) : sx_Fr p M h h2 := fun k i hn => (b k i hn).trans (a k i hn)
/-- a place lies among them -/
def sx_inm (n : Nat) (iv : sx_I) (M : sx_M) (k : Nat) (t u : sx_v) : Bool := M.any (fun m => Nat.beq m.1 k && ((Nat.beq m.2.1.1 0 || Nat.beq m.2.1.1 1 && Nat.blt m.2.1.2.1 n) && ((Nat.beq m.2.2.1 0 || Nat.beq m.2.2.1 1 && Nat.blt m.2.2.2.1 n) && ((sx_veq m.2.1 t || (match sx_r iv m.2.1, sx_r iv t with
    | some a, some b => sx_ble a.2 b.1
    | _, _ => false)) && (sx_veq m.2.2 u || (match sx_r iv m.2.2, sx_r iv u with
    | some a, some b => sx_ble b.2 a.1
    | _, _ => false))))))
theorem sx_wfn {p0 e : List Int} {n : Nat} {t : sx_v} (hn : p0.length = n) (hw : (Nat.beq t.1 0 || Nat.beq t.1 1 && Nat.blt t.2.1 n) = true) : ∃ y, sx_n p0 t = some y ∧ sx_n (p0 ++ e) t = some y := by
  have : ∃ y, sx_n p0 t = some y := by
    unfold sx_n
    rcases (Bool.or_eq_true _ _).mp hw with h | h
    · rw [show t.1 = 0 from Nat.eq_of_beq_eq_true h]
      exact ⟨_, rfl⟩
    · simp only [Bool.and_eq_true] at h
      rw [show t.1 = 1 from Nat.eq_of_beq_eq_true h.1]
      have h2 := Nat.blt_eq.mp h.2
      rw [List.getElem?_eq_getElem (by omega)]
      exact ⟨_, rfl⟩
  obtain ⟨y, hy⟩ := this
  exact ⟨y, hy, sx_n_ext e hy⟩
theorem sx_inm_ok {p0 e : List Int} {n : Nat} {iv : sx_I} {M : sx_M} {k : Nat} {t u : sx_v} {a b i : Int} (hn : p0.length = n) (HP : sx_P iv (p0 ++ e)) (hm : sx_inm n iv M k t u = true) (ht : sx_n (p0 ++ e) t = some a) (hu : sx_n (p0 ++ e) u = some b) (h1 : a ≤ i) (h2 : i ≤ b) : sx_in p0 M k i := by
  obtain ⟨m, m1, m2⟩ := List.any_eq_true.mp hm
  simp only [Bool.and_eq_true] at m2
  obtain ⟨m3, m4, m5, m6, m7⟩ := m2
  obtain ⟨y1, y2, y3⟩ := sx_wfn (e := e) hn m4
  obtain ⟨z1, z2, z3⟩ := sx_wfn (e := e) hn m5
  refine ⟨m, m1, Nat.eq_of_beq_eq_true m3, y1, z1, y2, z2, ?_, ?_⟩
  · rcases (Bool.or_eq_true _ _).mp m6 with g | g
    · rw [sx_veq_ok g, ht] at y3
      cases y3
      exact h1
    · split at g
      · next r1 r2 g1 g2 =>
        have := sx_r_at HP g1 y3
        have := sx_r_at HP g2 ht
        have := sx_ble_iff.mp g
        omega
      · cases g
  · rcases (Bool.or_eq_true _ _).mp m7 with g | g
    · rw [sx_veq_ok g, hu] at z3
      cases z3
      exact h2
    · split at g
      · next r1 r2 g1 g2 =>
        have := sx_r_at HP g1 z3
        have := sx_r_at HP g2 hu
        have := sx_ble_iff.mp g
        omega
      · cases g
