section SXE
variable {G : sx_G} {J : Nat → ri_H → Prop} {dp : sx_D} {p p0 : List Int} {M : sx_M} {A : sx_A} {L : List (Nat × sx_A)} {lo : List (Nat × Value)} {st : List Value} {h : ri_H} {pc n : Nat}
/-- a table that was there before is read, place by place -/
def sx_tb (pc : Nat) (A : sx_A) : Option (List (Nat × sx_A)) := match A.2.1 with
  | i :: a :: r => bif sx_tI i && (Nat.beq a.1 5 && (Nat.ble 1 a.2.1 && Nat.ble a.2.1 4)) then (match sx_r A.2.2.2.1 i with
    | some w => bif sx_ble 0 w.1 && sx_ble (w.2 + 1) ((ri_xl a.2.1).length : Int) then some ((sx_sps A.2.2 i w.1 (w.2 + 1 - w.1).toNat).map (fun q => (pc + 1, (A.1, (0, 0, ((ri_xl a.2.1).getD q.2.toNat 0).toInt) :: r, q.1)))) else none
    | none => none) else none
  | _ => none
theorem sx_tb_ok {g : Nat → Bool} (HS : sx_S G J p A lo st h) (hs : sx_tb pc A = some L) : ∃ (I : Int32) (a : Value) (r : List Value), st = .int I :: a :: r ∧ sx_To G J p0 M p h L (match ri_ald g 1 a I h with
      | some v => some (pc + 1, lo, v :: r, h, 0, 0)
      | none => none) := by
  unfold sx_tb at hs
  split at hs
  · next i a r hv =>
    cases hb : (sx_tI i && (Nat.beq a.1 5 && (Nat.ble 1 a.2.1 && Nat.ble a.2.1 4))) with
    | false => rw [hb] at hs; cases hs
    | true =>
      rw [hb] at hs
      simp only [Bool.and_eq_true] at hb
      have h2 := HS.2.1
      rw [hv] at h2
      obtain ⟨vi, va, s, rfl, h3, h4, h5⟩ := h2.c2
      obtain ⟨I, rfl, hi⟩ := sx_g_isn hb.1 h3
      have ha := sx_g_T h4 hb.2.1
      subst ha
      refine ⟨I, _, s, rfl, ?_⟩
      dsimp only [cond_true] at hs
      split at hs
      · next w hw =>
        cases hk : (sx_ble 0 w.1 && sx_ble (w.2 + 1) ((ri_xl a.2.1).length : Int)) with
        | false => rw [hk] at hs; cases hs
        | true =>
          rw [hk] at hs
          cases hs
          simp only [Bool.and_eq_true, sx_ble_iff] at hk
          have hr := sx_r_at HS.2.2.2.1 hw hi
          obtain ⟨B', g1, g2⟩ := sx_sps_ok HS.2.2 hi (w.2 + 1 - w.1).toNat w.1 hr.1 (by omega)
          have i0 := sx_i0 (I := I) rfl (by omega)
          have hlt : I.toInt.toNat < (ri_xl a.2.1).length := by omega
          unfold ri_ald
          dsimp only
          rw [show Nat.beq 1 1 = true from rfl, hb.2.2.1, hb.2.2.2, i0.1, i0.2]
          show sx_To G J p0 M p h _ (match ((ri_xl a.2.1)[I.toInt.toNat]?).map Value.int with
            | some v => some (pc + 1, lo, v :: s, h, 0, 0)
            | none => none)
          rw [List.getElem?_eq_getElem hlt]
          refine sx_To.mem (List.mem_map.mpr ⟨_, g1, rfl⟩) rfl ⟨HS.1, ⟨?_, h5⟩, g2⟩
          dsimp only
          rw [List.getD_eq_getElem?_getD, List.getElem?_eq_getElem hlt]
          exact sx_g_c _
      · cases hs
  · cases hs
/-- an array of references is read, place by place -/
def sx_ral (G : sx_G) (pc : Nat) (A : sx_A) : Option (List (Nat × sx_A)) := match A.2.1 with
  | i :: a :: r => bif sx_tI i && Nat.beq a.1 2 then (match G[a.2.1]?, sx_r A.2.2.2.1 i with
    | some c, some w => bif ri_g5 c.1 && (sx_ble 0 w.1 && sx_inn c.2 w.1.toNat w.2.toNat 2 1000000 0) then some ((sx_sps A.2.2 i w.1 (w.2 + 1 - w.1).toNat).map (fun q => (pc + 1, (A.1, (2, (match sx_run c.2 q.2.toNat with
      | some u => u.2.1.toNat
      | none => 0), 0) :: r, q.1)))) else none
    | _, _ => none) else none
  | _ => none
theorem sx_ral_ok {x0 : Nat} (HS : sx_S G J p A lo st h) (hs : sx_ral G pc A = some L) : ∃ (I : Int32) (a : Value) (r : List Value), st = .int I :: a :: r ∧ sx_To G J p0 M p h L (match ri_ald ri_g5 x0 a I h with
      | some v => some (pc + 1, lo, v :: r, h, 0, 0)
      | none => none) := by
  unfold sx_ral at hs
  split at hs
  · next i a r hv =>
    cases hb : (sx_tI i && Nat.beq a.1 2) with
    | false => rw [hb] at hs; cases hs
    | true =>
      rw [hb] at hs
      simp only [Bool.and_eq_true] at hb
      have h2 := HS.2.1
      rw [hv] at h2
      obtain ⟨vi, va, s, rfl, h3, h4, h5⟩ := h2.c2
      obtain ⟨I, rfl, hi⟩ := sx_g_isn hb.1 h3
      have ha := sx_g_R h4 hb.2
      subst ha
      refine ⟨I, _, s, rfl, ?_⟩
      dsimp only [cond_true] at hs
      split at hs
      · next c w hc hw =>
        cases hk : (ri_g5 c.1 && (sx_ble 0 w.1 && sx_inn c.2 w.1.toNat w.2.toNat 2 1000000 0)) with
        | false => rw [hk] at hs; cases hs
        | true =>
          rw [hk] at hs
          cases hs
          simp only [Bool.and_eq_true, sx_ble_iff] at hk
          have hr := sx_r_at HS.2.2.2.1 hw hi
          obtain ⟨B', g1, g2⟩ := sx_sps_ok HS.2.2 hi (w.2 + 1 - w.1).toNat w.1 hr.1 (by omega)
          have i0 := sx_i0 (I := I) rfl (by omega)
          obtain ⟨u, u1, u2, -, -⟩ := sx_inn_ok _ _ _ _ _ _ hk.2.2 I.toInt.toNat (by omega) (by omega)
          obtain ⟨vs, j1, j2, j3⟩ := HS.2.2.2.2.2.2.2 a.2.1 c hc
          obtain ⟨v, v1, v2⟩ := j3 _ _ u1
          unfold sx_slot at v2
          rw [u2] at v2
          unfold ri_ald
          dsimp only
          rw [j1]
          dsimp only
          rw [hk.1, i0.1, i0.2]
          show sx_To G J p0 M p h _ (match vs[I.toInt.toNat]? with
            | some v => some (pc + 1, lo, v :: s, h, 0, 0)
            | none => none)
          rw [v1]
          refine sx_To.mem (List.mem_map.mpr ⟨_, g1, rfl⟩) rfl ⟨HS.1, ⟨?_, h5⟩, g2⟩
          dsimp only
          rw [u1]
          exact v2
      · cases hs
  · cases hs
/-- what a write leaves -/
theorem sx_sto_To {e0 : List Int} {B' : sx_B} {al : List (Nat × sx_v)} {ar : List sx_v} {r : List Value} {k nx : Nat} {t v : sx_v} {i : Int} {x : Value} (HJ : sx_HJ G J dp) (hp : p = p0 ++ e0) (h1 : sx_los p al lo) (h2 : sx_sts p ar r) (H : sx_E G J p A.2.2 h) (hn : sx_n p t = some i) (hx : sx_g p v x) (hm : sx_inm p0.length A.2.2.2.1 M k t t = true) (hs : sx_sto G dp A.2.2 k t v = some B') :
    ∃ (j : Nat) (q : ri_C) (c : Nat × sx_R), i = (j : Int) ∧ G[k]? = some c ∧ h[k]? = some q ∧ q.1 = c.1 ∧ j < q.2.length ∧ sx_To G J p0 M p h [(nx, (al, ar, B'))] (some (nx, lo, r, h.set k (q.1, q.2.set j x), 0, 0)) := by
  obtain ⟨j, q, c, g1, g2, g3, g4, g5, g6, g7⟩ := sx_sto_ok HJ H hn hx hs
  refine ⟨j, q, c, g1, g2, g3, g4, g5, _, List.mem_singleton.mpr rfl, [], lo, r, _, rfl, ⟨?_, ?_, ?_⟩, fun k' i' hni => g7 k' i' ?_⟩
  · rw [List.append_nil]; exact h1
  · rw [List.append_nil]; exact h2
  · rw [List.append_nil]; exact g6
  · rintro ⟨rfl, rfl⟩
    subst hp
    exact hni (sx_inm_ok rfl H.2.1 hm hn hn (Int.le_refl _) (Int.le_refl _))
/-- a field is written -/
def sx_pf (G : sx_G) (dp : sx_D) (n : Nat) (M : sx_M) (t i q pc : Nat) (A : sx_A) : Option (List (Nat × sx_A)) := match A.2.1 with
  | v :: a :: s => bif Nat.beq a.1 2 && ((Nat.beq q 0 && sx_tI v || (Nat.beq q 2 && sx_tL v || (Nat.beq q 1 && (sx_tI v && (match sx_r A.2.2.2.1 v with
      | some w => sx_ble 0 w.1 && sx_ble w.2 1
      | none => false))))) && sx_inm n A.2.2.2.1 M a.2.1 (0, 0, (i : Int)) (0, 0, (i : Int))) then (match G[a.2.1]? with
    | some c => bif Nat.beq c.1 t && Nat.blt t 13 then (match sx_sto G dp A.2.2 a.2.1 (0, 0, (i : Int)) v with
      | some B' => some [(pc + 3, (A.1, s, B'))]
      | none => none) else none
    | none => none) else none
  | _ => none
theorem sx_01 {x : Int32} (h0 : 0 ≤ x.toInt) (h1 : x.toInt ≤ 1) : x = 0 ∨ x = 1 := by
  have e0 : (0 : Int32).toInt = 0 := by decide
  have e1 : (1 : Int32).toInt = 1 := by decide
  rcases (show x.toInt = 0 ∨ x.toInt = 1 by omega) with e | e
  · exact Or.inl (Int32.toInt_inj.mp (by rw [e, e0]))
  · exact Or.inr (Int32.toInt_inj.mp (by rw [e, e1]))
theorem sx_pf_ok {e0 : List Int} {t i q : Nat} (HJ : sx_HJ G J dp) (hp : p = p0 ++ e0) (HS : sx_S G J p A lo st h) (hs : sx_pf G dp p0.length M t i q pc A = some L) : ∃ (x : Value) (r : Nat) (s : List Value), st = x :: .ref r :: s ∧ sx_To G J p0 M p h L (match h[r]? with
      | some c => bif (Nat.beq c.1 t && Nat.blt t 13) && (Nat.blt i c.2.length && ri_fit q x) then some (pc + 3, lo, s, h.set r (c.1, c.2.set i x), 0, 0) else none
      | none => none) := by
  unfold sx_pf at hs
  split at hs
  · next v a s hv =>
    cases hb : (Nat.beq a.1 2 && ((Nat.beq q 0 && sx_tI v || (Nat.beq q 2 && sx_tL v || (Nat.beq q 1 && (sx_tI v && (match sx_r A.2.2.2.1 v with
      | some w => sx_ble 0 w.1 && sx_ble w.2 1
      | none => false))))) && sx_inm p0.length A.2.2.2.1 M a.2.1 (0, 0, (i : Int)) (0, 0, (i : Int)))) with
    | false => rw [hb] at hs; cases hs
    | true =>
      rw [hb] at hs
      have h2 := HS.2.1
      rw [hv] at h2
      obtain ⟨x, y, s', rfl, h3, h4, h5⟩ := h2.c2
      simp only [Bool.and_eq_true] at hb
      obtain ⟨b1, b2, b3⟩ := hb
      have hx := sx_g_R h4 b1
      subst hx
      refine ⟨x, a.2.1, s', rfl, ?_⟩
      dsimp only [cond_true] at hs
      split at hs
      · next c hc =>
        cases hk : (Nat.beq c.1 t && Nat.blt t 13) with
        | false => rw [hk] at hs; cases hs
        | true =>
          rw [hk] at hs
          dsimp only [cond_true] at hs
          split at hs
          · next B' hB =>
            cases hs
            have hfit : ri_fit q x = true := by
              rcases (Bool.or_eq_true _ _).mp b2 with b | b
              · simp only [Bool.and_eq_true] at b
                rw [show q = 0 from Nat.eq_of_beq_eq_true b.1]
                obtain ⟨z, rfl, -⟩ := sx_g_isn b.2 h3
                rfl
              · rcases (Bool.or_eq_true _ _).mp b with b | b
                · simp only [Bool.and_eq_true] at b
                  rw [show q = 2 from Nat.eq_of_beq_eq_true b.1]
                  obtain ⟨z, rfl⟩ := sx_g_L h3 b.2
                  rfl
                · simp only [Bool.and_eq_true] at b
                  rw [show q = 1 from Nat.eq_of_beq_eq_true b.1]
                  obtain ⟨z, rfl, hz⟩ := sx_g_isn b.2.1 h3
                  obtain ⟨w, w1, w2, w3⟩ := sx_r_of HS.2.2.2.1 hz
                  have b3 := b.2.2
                  rw [w1] at b3
                  simp only [Bool.and_eq_true, sx_ble_iff] at b3
                  rcases sx_01 (x := z) (by omega) (by omega) with rfl | rfl <;> rfl
            obtain ⟨j, q', c', g1, g2, g3, g4, g5, g6⟩ := sx_sto_To (nx := pc + 3) HJ hp HS.1 h5 HS.2.2 (i := (i : Int)) rfl h3 b3 hB
            have ej : i = j := by exact_mod_cast g1
            subst ej
            rw [hc] at g2
            cases g2
            rw [g3]
            dsimp only
            rw [g4, hk, Nat.blt_eq.mpr g5, hfit, ← g4]
            exact g6
          · cases hs
      · cases hs
  · cases hs
/-- an array is written -/
def sx_as1 (G : sx_G) (dp : sx_D) (n : Nat) (M : sx_M) (g : Nat → Bool) (f : sx_B → sx_v → Option (sx_B × sx_v)) (pc : Nat) (A : sx_A) : Option (List (Nat × sx_A)) := match A.2.1 with
  | v :: i :: a :: r => bif sx_tI i && Nat.beq a.1 2 then (match G[a.2.1]?, f A.2.2 v with
    | some c, some q => bif g c.1 && sx_inm n q.1.2.1 M a.2.1 i i then (match sx_sto G dp q.1 a.2.1 i q.2 with
      | some B' => some [(pc + 1, (A.1, r, B'))]
      | none => none) else none
    | _, _ => none) else none
  | _ => none
theorem sx_as1_ok {e0 : List Int} {g : Nat → Bool} {f : sx_B → sx_v → Option (sx_B × sx_v)} {w : Value → Value → Prop} (HJ : sx_HJ G J dp) (hp : p = p0 ++ e0) (HS : sx_S G J p A lo st h) (hf : ∀ (v t : sx_v) (B' : sx_B) (x : Value), sx_g p v x → f A.2.2 v = some (B', t) → ∃ e y, sx_E G J (p ++ e) B' h ∧ sx_g (p ++ e) t y ∧ w x y) (hs : sx_as1 G dp p0.length M g f pc A = some L) :
    ∃ (x y : Value) (I : Int32) (k : Nat) (r : List Value) (q : ri_C), st = x :: .int I :: .ref k :: r ∧ w x y ∧ h[k]? = some q ∧ g q.1 = true ∧ decide (I < 0) = false ∧ Nat.blt I.toNatClampNeg q.2.length = true ∧ sx_To G J p0 M p h L (some (pc + 1, lo, r, h.set k (q.1, q.2.set I.toNatClampNeg y), 0, 0)) := by
  unfold sx_as1 at hs
  split at hs
  · next v i a r hv =>
    cases hb : (sx_tI i && Nat.beq a.1 2) with
    | false => rw [hb] at hs; cases hs
    | true =>
      rw [hb] at hs
      have h2 := HS.2.1
      rw [hv] at h2
      obtain ⟨x, vi, va, s', rfl, h3, h4, h5, h6⟩ := h2.c3
      simp only [Bool.and_eq_true] at hb
      obtain ⟨I, rfl, hi⟩ := sx_g_isn hb.1 h4
      have hx := sx_g_R h5 hb.2
      subst hx
      dsimp only [cond_true] at hs
      split at hs
      · next c q hc hq =>
        obtain ⟨e, y, f1, f2, f3⟩ := hf v q.2 q.1 x h3 hq
        cases hk : (g c.1 && sx_inm p0.length q.1.2.1 M a.2.1 i i) with
        | false => rw [hk] at hs; cases hs
        | true =>
          rw [hk] at hs
          simp only [Bool.and_eq_true] at hk
          dsimp only [cond_true] at hs
          split at hs
          · next B' hB =>
            cases hs
            obtain ⟨j, q', c', g1, g2, g3, g4, g5, g6⟩ := sx_sto_To (A := (A.1, A.2.1, q.1)) (e0 := e0 ++ e) (nx := pc + 1) HJ (by rw [hp, List.append_assoc]) (HS.1.ext e) (h6.ext e) f1 (sx_n_ext e hi) f2 hk.2 hB
            rw [hc] at g2
            cases g2
            have i0 := sx_i0 (I := I) g1 (by omega)
            have ej : I.toNatClampNeg = j := by rw [i0.2]; rfl
            refine ⟨x, y, I, a.2.1, s', q', rfl, f3, g3, by rw [g4]; exact hk.1, i0.1, by rw [ej]; exact Nat.blt_eq.mpr g5, ?_⟩
            rw [ej]
            obtain ⟨q2, m1, e2, lo2, st2, h22, m2, m3, m4⟩ := g6
            exact ⟨q2, m1, e ++ e2, lo2, st2, h22, m2, by rw [← List.append_assoc]; exact m3, m4⟩
          · cases hs
      · cases hs
  · cases hs
/-- the lesser, the greater -/
def sx_mm (mx : Bool) (pc : Nat) (A : sx_A) : Option (List (Nat × sx_A)) := match A.2.1 with
  | y :: x :: r => bif sx_tI y && (sx_tI x && Nat.ble ((r.map sx_ct).sum) 8) then some ((match (bif mx then sx_tr 2 A.2.2 x y else sx_tr 2 A.2.2 y x) with
    | some B' => [(pc + 3, (A.1, y :: r, B'))]
    | none => []) ++ (match (bif mx then sx_tr 3 A.2.2 x y else sx_tr 3 A.2.2 y x) with
    | some B' => [(pc + 3, (A.1, x :: r, B'))]
    | none => [])) else none
  | _ => none
theorem sx_wt_ok : ∀ {as : List sx_v} {vs : List Value}, sx_sts p as vs → ri_wt vs = (as.map sx_ct).sum
  | [], [], _ => rfl
  | a :: as, v :: vs, H => by
    have ih := sx_wt_ok H.2
    unfold ri_wt at ih ⊢
    rw [List.map_cons, List.map_cons, List.sum_cons, List.sum_cons, ih, sx_g_cat H.1]
  | [], _ :: _, H => H.elim
  | _ :: _, [], H => H.elim
theorem sx_mm_ok {mx : Bool} (HS : sx_S G J p A lo st h) (hs : sx_mm mx pc A = some L) : ∃ (X Y : Int32) (r : List Value), st = .int Y :: .int X :: r ∧ Nat.ble (ri_wt r) 8 = true ∧ sx_To G J p0 M p h L (some (pc + 3, lo, (bif (bif mx then ri_hd 2 X Y else ri_hd 2 Y X) then .int Y else .int X) :: r, h, 0, 0)) := by
  unfold sx_mm at hs
  split at hs
  · next y x r hv =>
    cases hb : (sx_tI y && (sx_tI x && Nat.ble ((r.map sx_ct).sum) 8)) with
    | false => rw [hb] at hs; cases hs
    | true =>
      rw [hb] at hs
      cases hs
      simp only [Bool.and_eq_true] at hb
      have h2 := HS.2.1
      rw [hv] at h2
      obtain ⟨b, a, s, rfl, h3, h4, h5⟩ := h2.c2
      obtain ⟨Y, rfl, hy⟩ := sx_g_isn hb.1 h3
      obtain ⟨X, rfl, hx⟩ := sx_g_isn hb.2.1 h4
      refine ⟨X, Y, s, rfl, by rw [sx_wt_ok h5]; exact hb.2.2, ?_⟩
      cases mx with
      | true =>
        cases hd : ri_hd 2 X Y with
        | true =>
          obtain ⟨B', g1, g2⟩ := sx_tr_ok HS.2.2 hx hy ((sx_hd (by decide) X Y).1 hd)
          dsimp only [cond_true]
          rw [g1]
          exact sx_To.mem (q := (pc + 3, (A.1, y :: r, B'))) (List.mem_append_left _ (List.mem_singleton.mpr rfl)) rfl ⟨HS.1, ⟨h3, h5⟩, g2⟩
        | false =>
          obtain ⟨B', g1, g2⟩ := sx_tr_ok HS.2.2 hx hy ((sx_hd (by decide) X Y).2 hd)
          have g1 : sx_tr 3 A.2.2 x y = some B' := g1
          dsimp only [cond_true]
          rw [g1]
          exact sx_To.mem (q := (pc + 3, (A.1, x :: r, B'))) (List.mem_append_right _ (List.mem_singleton.mpr rfl)) rfl ⟨HS.1, ⟨h4, h5⟩, g2⟩
      | false =>
        cases hd : ri_hd 2 Y X with
        | true =>
          obtain ⟨B', g1, g2⟩ := sx_tr_ok HS.2.2 hy hx ((sx_hd (by decide) Y X).1 hd)
          dsimp only [cond_false]
          rw [g1]
          exact sx_To.mem (q := (pc + 3, (A.1, y :: r, B'))) (List.mem_append_left _ (List.mem_singleton.mpr rfl)) rfl ⟨HS.1, ⟨h3, h5⟩, g2⟩
        | false =>
          obtain ⟨B', g1, g2⟩ := sx_tr_ok HS.2.2 hy hx ((sx_hd (by decide) Y X).2 hd)
          have g1 : sx_tr 3 A.2.2 y x = some B' := g1
          dsimp only [cond_false]
          rw [g1]
          exact sx_To.mem (q := (pc + 3, (A.1, x :: r, B'))) (List.mem_append_right _ (List.mem_singleton.mpr rfl)) rfl ⟨HS.1, ⟨h4, h5⟩, g2⟩
  · cases hs
end SXE
