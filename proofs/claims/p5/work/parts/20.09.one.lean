/-- the symbolic step of an instruction -/
def sx_step (G : sx_G) (dp : sx_D) (n : Nat) (M : sx_M) (cs : List sx_C) (bud : Nat → Option (Nat × Nat)) (me : ri_M) (en : ri_En) (pc : Nat) (A : sx_A) : Option (List (Nat × sx_A)) := match en.1 with
  | .aload_n k => sx_ld1 sx_tA k.val 1 pc A
  | .aload k => sx_ld1 sx_tA k 2 pc A
  | .iload_n k => sx_ld1 sx_tI k.val 1 pc A
  | .iload k => sx_ld1 sx_tI k 2 pc A
  | .lload_n k => sx_ld1 sx_tL k.val 1 pc A
  | .istore_n k => sx_sv sx_tI me.2.2.1 k.val 1 pc A
  | .istore k => sx_sv sx_tI me.2.2.1 k 2 pc A
  | .astore_n k => sx_sv sx_tA me.2.2.1 k.val 1 pc A
  | .astore k => sx_sv sx_tA me.2.2.1 k 2 pc A
  | .iinc i k => match sx_lk A.1 i with
    | some v => bif sx_tI v && Nat.blt i me.2.2.1 then (match sx_ar 0 A.2.2 v (0, 0, (Int32.ofInt k).toInt) with
      | some q => some [(pc + 3, (sx_st1 A.1 i q.2, A.2.1, q.1))]
      | none => none) else none
    | none => none
  | .iconst k => sx_push (0, 0, (Int32.ofInt k).toInt) 1 pc A
  | .bipush k => sx_push (0, 0, ((Int8.ofInt k).toInt32).toInt) 2 pc A
  | .sipush k => sx_push (0, 0, ((Int16.ofInt k).toInt32).toInt) 3 pc A
  | .lconst _ => sx_push (3, 0, 0) 1 pc A
  | .ldc _ => match en.2.2.2 with
    | .int x => sx_push (0, 0, x.toInt) 2 pc A
    | _ => none
  | .ldc_w _ => match en.2.2.2 with
    | .int x => sx_push (0, 0, x.toInt) 3 pc A
    | _ => none
  | .ldc2_w _ => match en.2.2.2 with
    | .long _ => sx_push (3, 0, 0) 3 pc A
    | _ => none
  | .iadd => sx_b2 0 pc A
  | .isub => sx_b2 1 pc A
  | .imul => sx_b2 2 pc A
  | .iand => sx_b2 3 pc A
  | .ior => sx_b2 4 pc A
  | .ixor => sx_b2 5 pc A
  | .ishl => sx_b2 6 pc A
  | .ishr => sx_b2 7 pc A
  | .iushr => sx_b2 8 pc A
  | .idiv => sx_b2 9 pc A
  | .irem => sx_b2 10 pc A
  | .i2b => sx_u1 sx_i2b pc A
  | .i2c => sx_u1 sx_i2c pc A
  | .i2l => match A.2.1 with
    | x :: r => bif sx_tI x then some [(pc + 1, (A.1, (3, 0, 0) :: r, A.2.2))] else none
    | _ => none
  | .ladd => sx_l2 pc A
  | .lmul => sx_l2 pc A
  | .lor => sx_l2 pc A
  | .lshl => match A.2.1 with
    | y :: x :: r => bif sx_tI y && sx_tL x then some [(pc + 1, (A.1, (3, 0, 0) :: r, A.2.2))] else none
    | _ => none
  | .lcmp => match A.2.1 with
    | y :: x :: r => bif sx_tL y && sx_tL x then some [(pc + 1, (A.1, (sx_new A.2.2 (-1) 1).2 :: r, (sx_new A.2.2 (-1) 1).1))] else none
    | _ => none
  | .dup => match A.2.1 with
    | v :: r => bif Nat.beq (sx_ct v) 1 then some [(pc + 1, (A.1, v :: v :: r, A.2.2))] else none
    | _ => none
  | .dup2 => match A.2.1 with
    | v :: w :: r => bif Nat.beq (sx_ct v) 1 && Nat.beq (sx_ct w) 1 then some [(pc + 1, (A.1, v :: w :: v :: w :: r, A.2.2))] else none
    | _ => none
  | .pop => match A.2.1 with
    | v :: r => bif Nat.beq (sx_ct v) 1 then some [(pc + 1, (A.1, r, A.2.2))] else none
    | _ => none
  | .goto _ => match en.2.2.1 with
    | [tgt] => some [(tgt, A)]
    | _ => none
  | .ifCond c _ => match en.2.2.1, A.2.1 with
    | [tgt], x :: r => bif sx_tI x then some (sx_br (ri_cn c) x (0, 0, 0) tgt (pc + 3) A.1 r A.2.2) else none
    | _, _ => none
  | .if_icmp c _ => match en.2.2.1, A.2.1 with
    | [tgt], y :: x :: r => bif sx_tI y && sx_tI x then some (sx_br (ri_cn c) x y tgt (pc + 3) A.1 r A.2.2) else none
    | _, _ => none
  | .tableswitch _ lw hw _ => match en.2.2.1 with
    | dt :: ts => sx_swi lw hw dt ts A
    | _ => none
  | .getfield _ => match en.2.2.1 with
    | [t, i, _] => sx_gf G dp t i pc A
    | _ => none
  | .putfield _ => match en.2.2.1 with
    | [t, i, _, q] => sx_pf G dp n M t i q pc A
    | _ => none
  | .getstatic _ => match en.2.2.1 with
    | [1, _] => sx_push (5, 1, 0) 3 pc A
    | [2, _] => sx_push (5, 2, 0) 3 pc A
    | [3, _] => sx_push (5, 3, 0) 3 pc A
    | [4, _] => sx_push (5, 4, 0) 3 pc A
    | _ => none
  | .arraylength => match A.2.1 with
    | a :: r => bif Nat.beq a.1 2 then (match G[a.2.1]? with
      | some c => bif Nat.ble 13 c.1 && Nat.ble c.1 18 then some [(pc + 1, (A.1, (0, 0, (Int32.ofNat (sx_len c.2)).toInt) :: r, A.2.2))] else none
      | none => none) else none
    | _ => none
  | .iaload => match sx_al G dp ri_g1 pc A with
    | some L => some L
    | none => sx_tb pc A
  | .baload => sx_al G dp ri_g24 pc A
  | .laload => sx_al G dp ri_g3 pc A
  | .aaload => sx_ral G pc A
  | .iastore => sx_as1 G dp n M ri_g1 (fun B v => bif sx_tI v then some (B, v) else none) pc A
  | .bastore => match sx_as1 G dp n M ri_g2 (fun B v => bif sx_tI v then sx_i2b B v else none) pc A with
    | some L => some L
    | none => sx_as1 G dp n M ri_g4 (fun B v => bif sx_tI v && (match sx_r B.2.1 v with
      | some w => sx_ble 0 w.1 && sx_ble w.2 1
      | none => false) then some (B, v) else none) pc A
  | .lastore => sx_as1 G dp n M ri_g3 (fun B v => bif sx_tL v then some (B, v) else none) pc A
  | .invokevirtual _ => match en.2.2.1 with
    | 1 :: j :: na :: t :: _ => sx_inv G dp n M cs bud 1 j na t pc A
    | _ => none
  | .invokestatic _ => match en.2.2.1 with
    | 3 :: j :: na :: t :: _ => sx_inv G dp n M cs bud 3 j na t pc A
    | [4, _] => sx_cpy G dp n M pc A
    | [8, _] => sx_mm false pc A
    | [9, _] => sx_mm true pc A
    | _ => none
  | _ => none
section SXI
variable {G : sx_G} {J : Nat → ri_H → Prop} {dp : sx_D} {p p0 e0 : List Int} {M : sx_M} {A : sx_A} {B B' : sx_B} {L : List (Nat × sx_A)} {lo : List (Nat × Value)} {st : List Value} {h : ri_H} {pc n : Nat} {cs : List sx_C} {dc : ri_O} {me : ri_M} {en : ri_En} {bud : Nat → Option (Nat × Nat)} {cal : Nat → List Value → ri_H → Option (Option Value × ri_H)}
set_option maxHeartbeats 4000000 in
theorem sx_step_ok (HJ : sx_HJ G J dp) (hC : ∀ C ∈ cs, sx_CV G J C cal) (hp : p = p0 ++ e0) (HS : sx_S G J p A lo st h) (hs : sx_step G dp p0.length M cs bud me en pc A = some L) : sx_To G J p0 M p h L (ri_step dc cal bud me en pc lo st h 0 0) := by
  obtain ⟨i, ln, aux, cv⟩ := en
  cases i with
  | aload_n k => exact sx_ld1_ok (tt := ri_isA) (fun a v => sx_tA_ok) HS hs
  | aload k => exact sx_ld1_ok (tt := ri_isA) (fun a v => sx_tA_ok) HS hs
  | iload_n k => exact sx_ld1_ok (tt := ri_isI) (fun a v => sx_tI_ok) HS hs
  | iload k => exact sx_ld1_ok (tt := ri_isI) (fun a v => sx_tI_ok) HS hs
  | lload_n k => exact sx_ld1_ok (tt := ri_isL) (fun a v => sx_tL_ok) HS hs
  | istore_n k => exact sx_sv_ok (tt := ri_isI) (me := me) (fun a v => sx_tI_ok) HS hs
  | istore k => exact sx_sv_ok (tt := ri_isI) (me := me) (fun a v => sx_tI_ok) HS hs
  | astore_n k => exact sx_sv_ok (tt := ri_isA) (me := me) (fun a v => sx_tA_ok) HS hs
  | astore k => exact sx_sv_ok (tt := ri_isA) (me := me) (fun a v => sx_tA_ok) HS hs
  | iinc i k =>
    simp only [sx_step] at hs
    simp only [ri_step]
    split at hs
    · next v hv =>
      cases hb : (sx_tI v && Nat.blt i me.2.2.1) with
      | false => rw [hb] at hs; cases hs
      | true =>
        rw [hb] at hs
        simp only [Bool.and_eq_true] at hb
        dsimp only [cond_true] at hs
        split at hs
        · next q hq =>
          cases hs
          obtain ⟨w, h1, h2⟩ := HS.1.lk hv
          obtain ⟨X, rfl, hx⟩ := sx_g_isn hb.1 h2
          obtain ⟨-, e, k2, k3⟩ := sx_ar_ok HS.2.2 hx (y := (0, 0, (Int32.ofInt k).toInt)) (Y := Int32.ofInt k) rfl hq
          rw [h1]
          dsimp only
          rw [hb.2]
          exact sx_To.one (e := e) rfl ⟨(HS.1.ext e).st1 (sx_g_of k3), HS.2.1.ext e, k2⟩
        · cases hs
    · cases hs
  | iconst k => exact sx_push_ok (sx_g_c _) HS hs
  | bipush k => exact sx_push_ok (sx_g_c _) HS hs
  | sipush k => exact sx_push_ok (sx_g_c _) HS hs
  | lconst k => exact sx_push_ok (v := (3, 0, 0)) (x := .long (Int64.ofNat k.val)) ⟨_, rfl⟩ HS hs
  | ldc k =>
    simp only [sx_step] at hs
    simp only [ri_step]
    split at hs
    · next x => exact sx_push_ok (sx_g_c _) HS hs
    · cases hs
  | ldc_w k =>
    simp only [sx_step] at hs
    simp only [ri_step]
    split at hs
    · next x => exact sx_push_ok (sx_g_c _) HS hs
    · cases hs
  | ldc2_w k =>
    simp only [sx_step] at hs
    simp only [ri_step]
    split at hs
    · next x => exact sx_push_ok (v := (3, 0, 0)) (x := .long x) ⟨_, rfl⟩ HS hs
    · cases hs
  | iadd => obtain ⟨X, Y, r, rfl, -, k⟩ := sx_b2_ok (o := 0) HS hs; exact k
  | isub => obtain ⟨X, Y, r, rfl, -, k⟩ := sx_b2_ok (o := 1) HS hs; exact k
  | imul => obtain ⟨X, Y, r, rfl, -, k⟩ := sx_b2_ok (o := 2) HS hs; exact k
  | iand => obtain ⟨X, Y, r, rfl, -, k⟩ := sx_b2_ok (o := 3) HS hs; exact k
  | ior => obtain ⟨X, Y, r, rfl, -, k⟩ := sx_b2_ok (o := 4) HS hs; exact k
  | ixor => obtain ⟨X, Y, r, rfl, -, k⟩ := sx_b2_ok (o := 5) HS hs; exact k
  | ishl => obtain ⟨X, Y, r, rfl, -, k⟩ := sx_b2_ok (o := 6) HS hs; exact k
  | ishr => obtain ⟨X, Y, r, rfl, -, k⟩ := sx_b2_ok (o := 7) HS hs; exact k
  | iushr => obtain ⟨X, Y, r, rfl, -, k⟩ := sx_b2_ok (o := 8) HS hs; exact k
  | idiv =>
    obtain ⟨X, Y, r, rfl, k0, k⟩ := sx_b2_ok (o := 9) HS hs
    show sx_To G J p0 M p h L (bif decide (Y = 0) then none else some (pc + 1, lo, .int (X / Y) :: r, h, 0, 0))
    rw [decide_eq_false (k0 (by decide))]
    exact k
  | irem =>
    obtain ⟨X, Y, r, rfl, k0, k⟩ := sx_b2_ok (o := 10) HS hs
    show sx_To G J p0 M p h L (bif decide (Y = 0) then none else some (pc + 1, lo, .int (X - X / Y * Y) :: r, h, 0, 0))
    rw [decide_eq_false (k0 (by decide))]
    exact k
  | i2b => obtain ⟨X, r, rfl, k⟩ := sx_u1_ok (g := fun X => X.toInt8.toInt32) (fun x t B' X hx hq => sx_i2b_ok HS.2.2 hx hq) HS hs; exact k
  | i2c => obtain ⟨X, r, rfl, k⟩ := sx_u1_ok (g := fun X => (X.toUInt32 % 65536).toInt32) (fun x t B' X hx hq => sx_i2c_ok HS.2.2 hx hq) HS hs; exact k
  | i2l =>
    simp only [sx_step] at hs
    split at hs
    · next x r hv =>
      cases hb : sx_tI x with
      | false => rw [hb] at hs; cases hs
      | true =>
        rw [hb] at hs
        cases hs
        have h2 := HS.2.1
        rw [hv] at h2
        obtain ⟨a, s, rfl, h3, h5⟩ := h2.c1
        obtain ⟨X, rfl, hx⟩ := sx_g_isn hb h3
        exact sx_To.nil (lo' := lo) (st' := .long X.toInt64 :: s) rfl ⟨HS.1, ⟨⟨_, rfl⟩, h5⟩, HS.2.2⟩
    · cases hs
  | ladd => exact sx_l2_ok HS hs
  | lmul => exact sx_l2_ok HS hs
  | lor => exact sx_l2_ok HS hs
  | lshl =>
    simp only [sx_step] at hs
    split at hs
    · next y x r hv =>
      cases hb : (sx_tI y && sx_tL x) with
      | false => rw [hb] at hs; cases hs
      | true =>
        rw [hb] at hs
        cases hs
        simp only [Bool.and_eq_true] at hb
        have h2 := HS.2.1
        rw [hv] at h2
        obtain ⟨b, a, s, rfl, h3, h4, h5⟩ := h2.c2
        obtain ⟨Y, rfl, hy⟩ := sx_g_isn hb.1 h3
        obtain ⟨X, rfl⟩ := sx_g_L h4 hb.2
        exact sx_To.nil (lo' := lo) (st' := .long (X <<< (Y.toInt64 &&& 63)) :: s) rfl ⟨HS.1, ⟨⟨_, rfl⟩, h5⟩, HS.2.2⟩
    · cases hs
  | lcmp =>
    simp only [sx_step] at hs
    split at hs
    · next y x r hv =>
      cases hb : (sx_tL y && sx_tL x) with
      | false => rw [hb] at hs; cases hs
      | true =>
        rw [hb] at hs
        cases hs
        simp only [Bool.and_eq_true] at hb
        have h2 := HS.2.1
        rw [hv] at h2
        obtain ⟨b, a, s, rfl, h3, h4, h5⟩ := h2.c2
        obtain ⟨Y, rfl⟩ := sx_g_L h3 hb.1
        obtain ⟨X, rfl⟩ := sx_g_L h4 hb.2
        have hc : -1 ≤ (lg_cmp X Y).toInt ∧ (lg_cmp X Y).toInt ≤ 1 := by
          unfold lg_cmp
          split
          · decide
          · split <;> decide
        obtain ⟨e, g1, g2⟩ := sx_new_ok HS.2.2 hc.1 hc.2
        exact sx_To.one (e := e) (lo' := lo) (st' := .int (lg_cmp X Y) :: s) rfl ⟨HS.1.ext e, ⟨sx_g_of g2, h5.ext e⟩, g1⟩
    · cases hs
  | dup =>
    simp only [sx_step] at hs
    simp only [ri_step]
    split at hs
    · next v r hv =>
      cases hb : Nat.beq (sx_ct v) 1 with
      | false => rw [hb] at hs; cases hs
      | true =>
        rw [hb] at hs
        cases hs
        have h2 := HS.2.1
        rw [hv] at h2
        obtain ⟨a, s, rfl, h3, h5⟩ := h2.c1
        dsimp only
        rw [sx_g_cat h3, hb]
        exact sx_To.nil (lo' := lo) rfl ⟨HS.1, ⟨h3, h3, h5⟩, HS.2.2⟩
    · cases hs
  | dup2 =>
    simp only [sx_step] at hs
    simp only [ri_step]
    split at hs
    · next v w r hv =>
      cases hb : (Nat.beq (sx_ct v) 1 && Nat.beq (sx_ct w) 1) with
      | false => rw [hb] at hs; cases hs
      | true =>
        rw [hb] at hs
        cases hs
        have h2 := HS.2.1
        rw [hv] at h2
        obtain ⟨b, a, s, rfl, h3, h4, h5⟩ := h2.c2
        dsimp only
        rw [sx_g_cat h3, sx_g_cat h4, hb]
        exact sx_To.nil (lo' := lo) rfl ⟨HS.1, ⟨h3, h4, h3, h4, h5⟩, HS.2.2⟩
    · cases hs
  | pop =>
    simp only [sx_step] at hs
    simp only [ri_step]
    split at hs
    · next v r hv =>
      cases hb : Nat.beq (sx_ct v) 1 with
      | false => rw [hb] at hs; cases hs
      | true =>
        rw [hb] at hs
        cases hs
        have h2 := HS.2.1
        rw [hv] at h2
        obtain ⟨a, s, rfl, h3, h5⟩ := h2.c1
        dsimp only
        rw [sx_g_cat h3, hb]
        exact sx_To.nil (lo' := lo) rfl ⟨HS.1, h5, HS.2.2⟩
    · cases hs
  | goto o =>
    simp only [sx_step] at hs
    simp only [ri_step]
    split at hs
    · next tgt =>
      cases hs
      exact sx_To.nil (lo' := lo) (st' := st) rfl HS
    · cases hs
  | ifCond c o =>
    simp only [sx_step] at hs
    simp only [ri_step]
    split at hs
    · next tgt x r hv =>
      cases hb : sx_tI x with
      | false => rw [hb] at hs; cases hs
      | true =>
        rw [hb] at hs
        cases hs
        have h2 := HS.2.1
        rw [hv] at h2
        obtain ⟨a, s, rfl, h3, h5⟩ := h2.c1
        obtain ⟨X, rfl, hx⟩ := sx_g_isn hb h3
        exact sx_br_ok (Y := 0) (sx_cn5 c) hx (show some (0 : Int) = some (0 : Int32).toInt by decide) HS.1 h5 HS.2.2
    · cases hs
  | if_icmp c o =>
    simp only [sx_step] at hs
    simp only [ri_step]
    split at hs
    · next tgt y x r hv =>
      cases hb : (sx_tI y && sx_tI x) with
      | false => rw [hb] at hs; cases hs
      | true =>
        rw [hb] at hs
        cases hs
        simp only [Bool.and_eq_true] at hb
        have h2 := HS.2.1
        rw [hv] at h2
        obtain ⟨b, a, s, rfl, h3, h4, h5⟩ := h2.c2
        obtain ⟨Y, rfl, hy⟩ := sx_g_isn hb.1 h3
        obtain ⟨X, rfl, hx⟩ := sx_g_isn hb.2 h4
        exact sx_br_ok (sx_cn5 c) hx hy HS.1 h5 HS.2.2
    · cases hs
  | tableswitch d lw hw offs =>
    simp only [sx_step] at hs
    simp only [ri_step]
    split at hs
    · next dt ts =>
      obtain ⟨X, r, rfl, k⟩ := sx_swi_ok HS hs
      exact k
    · cases hs
  | getfield k =>
    simp only [sx_step] at hs
    simp only [ri_step]
    split at hs
    · next t i w =>
      obtain ⟨r, s, rfl, k⟩ := sx_gf_ok HJ HS hs
      exact k
    · cases hs
  | putfield k =>
    simp only [sx_step] at hs
    simp only [ri_step]
    split at hs
    · next t i w q =>
      obtain ⟨x, r, s, rfl, k⟩ := sx_pf_ok HJ hp HS hs
      exact k
    · cases hs
  | getstatic k =>
    simp only [sx_step] at hs
    simp only [ri_step]
    split at hs
    · exact sx_push_ok (v := (5, 1, 0)) (x := .retAddr 1) rfl HS hs
    · exact sx_push_ok (v := (5, 2, 0)) (x := .retAddr 2) rfl HS hs
    · exact sx_push_ok (v := (5, 3, 0)) (x := .retAddr 3) rfl HS hs
    · exact sx_push_ok (v := (5, 4, 0)) (x := .retAddr 4) rfl HS hs
    · cases hs
  | arraylength =>
    simp only [sx_step] at hs
    simp only [ri_step]
    split at hs
    · next a r hv =>
      cases hb : Nat.beq a.1 2 with
      | false => rw [hb] at hs; cases hs
      | true =>
        rw [hb] at hs
        have h2 := HS.2.1
        rw [hv] at h2
        obtain ⟨va, s, rfl, h3, h5⟩ := h2.c1
        have hx := sx_g_R h3 hb
        subst hx
        dsimp only [cond_true] at hs
        split at hs
        · next c hc =>
          cases hk : (Nat.ble 13 c.1 && Nat.ble c.1 18) with
          | false => rw [hk] at hs; cases hs
          | true =>
            rw [hk] at hs
            cases hs
            obtain ⟨vs, i1, i2, -⟩ := HS.2.2.2.2.2.2.2 a.2.1 c hc
            dsimp only
            unfold ri_alen
            dsimp only
            rw [i1]
            dsimp only
            rw [hk, i2]
            exact sx_To.nil (lo' := lo) (st' := .int (Int32.ofNat (sx_len c.2)) :: s) rfl ⟨HS.1, ⟨sx_g_c _, h5⟩, HS.2.2⟩
        · cases hs
    · cases hs
  | iaload =>
    simp only [sx_step] at hs
    simp only [ri_step]
    split at hs
    · next L' hL =>
      cases hs
      obtain ⟨I, a, r, rfl, k⟩ := sx_al_ok (x0 := 1) HJ HS hL
      exact k
    · obtain ⟨I, a, r, rfl, k⟩ := sx_tb_ok (g := ri_g1) HS hs
      exact k
  | baload =>
    obtain ⟨I, a, r, rfl, k⟩ := sx_al_ok (g := ri_g24) (x0 := 2) HJ HS hs
    exact k
  | laload =>
    obtain ⟨I, a, r, rfl, k⟩ := sx_al_ok (g := ri_g3) (x0 := 0) HJ HS hs
    exact k
  | aaload =>
    obtain ⟨I, a, r, rfl, k⟩ := sx_ral_ok (x0 := 0) HS hs
    exact k
  | iastore =>
    simp only [sx_step] at hs
    obtain ⟨x, y, I, k, r, q, rfl, ⟨hI, rfl⟩, g2, g3, g4, g5, g6⟩ := sx_as1_ok (w := fun x y => ri_isI x = true ∧ y = x) HJ hp HS (fun v t B' x hv hq => by
      cases hb : sx_tI v with
      | false => rw [hb] at hq; cases hq
      | true =>
        rw [hb] at hq
        cases hq
        exact ⟨[], x, by rw [List.append_nil]; exact HS.2.2, by rw [List.append_nil]; exact hv, sx_tI_ok hv hb, rfl⟩) hs
    simp only [ri_step]
    rw [hI]
    unfold ri_ast
    dsimp only [cond_true]
    rw [g2]
    dsimp only
    rw [g3, g4, g5]
    exact g6
  | bastore =>
    simp only [sx_step] at hs
    split at hs
    · next L' hL =>
      cases hs
      obtain ⟨x, y, I, k, r, q, rfl, ⟨X, rfl, rfl⟩, g2, g3, g4, g5, g6⟩ := sx_as1_ok (w := fun x y => ∃ X : Int32, x = .int X ∧ y = .int X.toInt8.toInt32) HJ hp HS (fun v t B' x hv hq => by
        cases hb : sx_tI v with
        | false => rw [hb] at hq; cases hq
        | true =>
          rw [hb] at hq
          obtain ⟨X, rfl, hx⟩ := sx_g_isn hb hv
          obtain ⟨e, k1, k2⟩ := sx_i2b_ok HS.2.2 hx hq
          exact ⟨e, _, k1, sx_g_of k2, X, rfl, rfl⟩) hL
      simp only [ri_step, ri_nb]
      unfold ri_ast
      dsimp only
      rw [g2]
      dsimp only
      rw [g3, g4, g5]
      exact g6
    · obtain ⟨x, y, I, k, r, q, rfl, ⟨X, hX, rfl, rfl⟩, g2, g3, g4, g5, g6⟩ := sx_as1_ok (w := fun x y => ∃ X : Int32, (X = 0 ∨ X = 1) ∧ x = .int X ∧ y = .int X) HJ hp HS (fun v t B' x hv hq => by
        cases hb : (sx_tI v && (match sx_r A.2.2.2.1 v with
          | some w => sx_ble 0 w.1 && sx_ble w.2 1
          | none => false)) with
        | false => rw [hb] at hq; cases hq
        | true =>
          rw [hb] at hq
          cases hq
          simp only [Bool.and_eq_true] at hb
          obtain ⟨X, rfl, hx⟩ := sx_g_isn hb.1 hv
          obtain ⟨w, w1, w2, w3⟩ := sx_r_of HS.2.2.2.1 hx
          have b3 := hb.2
          rw [w1] at b3
          simp only [Bool.and_eq_true, sx_ble_iff] at b3
          exact ⟨[], _, by rw [List.append_nil]; exact HS.2.2, by rw [List.append_nil]; exact hv, X, sx_01 (by omega) (by omega), rfl, rfl⟩) hs
      have hq16 : q.1 = 16 := Nat.eq_of_beq_eq_true g3
      simp only [ri_step, ri_nb]
      unfold ri_ast
      dsimp only
      rw [g2]
      dsimp only
      rw [show ri_g2 q.1 = false by rw [hq16]; rfl]
      simp only [Bool.false_and, cond_false]
      have hd : (decide (X = 0) || decide (X = 1)) = true := by
        rcases hX with rfl | rfl <;> rfl
      rw [hd, g3, g4, g5]
      exact g6
  | lastore =>
    simp only [sx_step] at hs
    obtain ⟨x, y, I, k, r, q, rfl, ⟨hI, rfl⟩, g2, g3, g4, g5, g6⟩ := sx_as1_ok (w := fun x y => ri_isL x = true ∧ y = x) HJ hp HS (fun v t B' x hv hq => by
      cases hb : sx_tL v with
      | false => rw [hb] at hq; cases hq
      | true =>
        rw [hb] at hq
        cases hq
        exact ⟨[], x, by rw [List.append_nil]; exact HS.2.2, by rw [List.append_nil]; exact hv, sx_tL_ok hv hb, rfl⟩) hs
    simp only [ri_step]
    rw [hI]
    unfold ri_ast
    dsimp only [cond_true]
    rw [g2]
    dsimp only
    rw [g3, g4, g5]
    exact g6
  | invokevirtual k =>
    simp only [sx_step] at hs
    simp only [ri_step]
    split at hs
    · exact sx_inv_ok HJ hC hp HS (Or.inl rfl) hs
    · cases hs
  | invokestatic k =>
    simp only [sx_step] at hs
    simp only [ri_step]
    split at hs
    · exact sx_inv_ok HJ hC hp HS (Or.inr rfl) hs
    · obtain ⟨m, d, b, s, a, r, rfl, k1, k2⟩ := sx_cpy_ok HJ hp HS hs
      unfold ri_inv
      dsimp only
      rw [k1]
      exact k2
    · obtain ⟨X, Y, r, rfl, k1, k2⟩ := sx_mm_ok (mx := false) HS hs
      unfold ri_inv
      dsimp only
      rw [k1, show Nat.ble 0 me.2.2.2.2.2.1 = true from Nat.ble_eq.mpr (Nat.zero_le _), show Nat.ble 0 me.2.2.2.2.2.2 = true from Nat.ble_eq.mpr (Nat.zero_le _)]
      exact k2
    · obtain ⟨X, Y, r, rfl, k1, k2⟩ := sx_mm_ok (mx := true) HS hs
      unfold ri_inv
      dsimp only
      rw [k1, show Nat.ble 0 me.2.2.2.2.2.1 = true from Nat.ble_eq.mpr (Nat.zero_le _), show Nat.ble 0 me.2.2.2.2.2.2 = true from Nat.ble_eq.mpr (Nat.zero_le _)]
      exact k2
    · cases hs
  | _ => cases hs
end SXI
