/-! runs of a frame; calls that end -/
def ri_go (stp : ri_F → Option ri_F) : Nat → ri_F → Option ri_F
  | 0, f => some f
  | n + 1, f => bif Nat.beq f.1 70000 then some f else match stp f with
    | some f' => ri_go stp n f'
    | none => none
theorem ri_go_more {stp : ri_F → Option ri_F} : ∀ {n m : Nat} {f f' : ri_F}, ri_go stp n f = some f' → f'.1 = 70000 → ri_go stp (n + m) f = some f'
  | 0, 0, f, f', h1, _ => h1
  | 0, m + 1, f, f', h1, h2 => by
    cases h1
    rw [Nat.zero_add]
    unfold ri_go
    rw [h2]
    rfl
  | n + 1, m, f, f', h1, h2 => by
    rw [Nat.add_right_comm]
    unfold ri_go at h1 ⊢
    cases hb : Nat.beq f.1 70000 with
    | true => rw [hb] at h1; exact h1
    | false =>
      rw [hb] at h1
      dsimp only [cond_false] at h1 ⊢
      split at h1
      · next f1 hf => exact ri_go_more h1 h2
      · cases h1
theorem ri_go_one {stp : ri_F → Option ri_F} {n m : Nat} {f f1 f2 : ri_F} (h1 : ri_go stp n f = some f1) (d1 : f1.1 = 70000) (h2 : ri_go stp m f = some f2) (d2 : f2.1 = 70000) : f1 = f2 := by
  have g1 := ri_go_more (m := m) h1 d1
  have g2 := ri_go_more (m := n) h2 d2
  rw [Nat.add_comm] at g2
  rw [g1] at g2
  exact Option.some.inj g2
/-- a frame comes to its end -/
def ri_dn (stp : ri_F → Option ri_F) (mc ms : Nat) (f f' : ri_F) : Prop := (∃ n, ri_go stp n f = some f') ∧ f'.1 = 70000 ∧ f'.2.2.2.2.1 ≤ mc ∧ f'.2.2.2.2.2 ≤ ms
/-- a whole call, of depth d at most, of any length -/
noncomputable def ri_calE (md : List (ri_M × ri_T)) : Nat → Nat → List Value → ri_H → Option (Option Value × ri_H)
  | 0, _, _, _ => none
  | d + 1, j, as, h => match md[j]? with
    | some q => bif Nat.ble (ri_wt as) q.1.2.2.1 then (@dite (Option (Option Value × ri_H)) (∃ f', ri_dn (ri_st [] (ri_calE md d) (ri_bud md) q) q.1.2.2.2.2.2.1 q.1.2.2.2.2.2.2 (0, ri_as 0 as, [], h, 0, 0) f') (Classical.propDecidable _) (fun hx => some ((Classical.choose hx).2.2.1.head?, (Classical.choose hx).2.2.2.1)) (fun _ => none)) else none
    | none => none
theorem ri_calE_of {md : List (ri_M × ri_T)} {d j : Nat} {as : List Value} {h : ri_H} {q : ri_M × ri_T} {f' : ri_F} (hq : md[j]? = some q) (hw : ri_wt as ≤ q.1.2.2.1) (hd : ri_dn (ri_st [] (ri_calE md d) (ri_bud md) q) q.1.2.2.2.2.2.1 q.1.2.2.2.2.2.2 (0, ri_as 0 as, [], h, 0, 0) f') : ri_calE md (d + 1) j as h = some (f'.2.2.1.head?, f'.2.2.2.1) := by
  unfold ri_calE
  rw [hq]
  dsimp only
  rw [Nat.ble_eq.mpr hw]
  dsimp only [cond_true]
  have hx : ∃ f', ri_dn (ri_st [] (ri_calE md d) (ri_bud md) q) q.1.2.2.2.2.2.1 q.1.2.2.2.2.2.2 (0, ri_as 0 as, [], h, 0, 0) f' := ⟨f', hd⟩
  rw [dif_pos hx]
  have hc := Classical.choose_spec hx
  obtain ⟨⟨n1, g1⟩, g2, -⟩ := hc
  obtain ⟨⟨n2, g3⟩, g4, -⟩ := hd
  rw [ri_go_one g1 g2 g3 g4]
theorem ri_calE_inv {md : List (ri_M × ri_T)} {d j : Nat} {as : List Value} {h h' : ri_H} {v : Option Value} {q : ri_M × ri_T} (hq : md[j]? = some q) (hs : ri_calE md (d + 1) j as h = some (v, h')) : ri_wt as ≤ q.1.2.2.1 ∧ ∃ f', ri_dn (ri_st [] (ri_calE md d) (ri_bud md) q) q.1.2.2.2.2.2.1 q.1.2.2.2.2.2.2 (0, ri_as 0 as, [], h, 0, 0) f' ∧ f'.2.2.1.head? = v ∧ f'.2.2.2.1 = h' := by
  unfold ri_calE at hs
  rw [hq] at hs
  dsimp only at hs
  cases hb : Nat.ble (ri_wt as) q.1.2.2.1 with
  | false => rw [hb] at hs; cases hs
  | true =>
    rw [hb] at hs
    dsimp only [cond_true] at hs
    refine ⟨Nat.ble_eq.mp hb, ?_⟩
    by_cases hx : ∃ f', ri_dn (ri_st [] (ri_calE md d) (ri_bud md) q) q.1.2.2.2.2.2.1 q.1.2.2.2.2.2.2 (0, ri_as 0 as, [], h, 0, 0) f'
    · rw [dif_pos hx] at hs
      have hs := Option.some.inj hs
      exact ⟨_, Classical.choose_spec hx, congrArg Prod.fst hs, congrArg Prod.snd hs⟩
    · rw [dif_neg hx] at hs
      cases hs
/-! the walk -/
abbrev sx_K : Type := Nat × sx_A × List sx_v
def sx_lex (B : sx_B) : List sx_v → List sx_v → Bool
  | a :: as, b :: bs => (match sx_r B.2.1 a, sx_r B.2.1 b with
    | some _, some _ => sx_ent B.2.1 B.2.2.1 4 (sx_sh a 1) b
    | _, _ => false) || (sx_same B.2.1 a b && sx_lex B as bs)
  | _, _ => false
/-- values of a rank -/
def sx_ll : List Int → List Int → Prop
  | a :: as, b :: bs => a < b ∨ (a = b ∧ sx_ll as bs)
  | _, _ => False
/-- one of the cuts at pc holds, its rank is above -/
def sx_qk (al : List (Nat × sx_v)) : List (Nat × sx_v) → Bool
  | [] => true
  | q :: t => (!Nat.beq q.2.1 0 || (match sx_lk al q.1 with
    | some u => !Nat.beq u.1 0 || sx_beq u.2.2 q.2.2.2
    | none => false)) && sx_qk al t
def sx_cut (G : sx_G) (dp : sx_D) (n : Nat) (r0 : List sx_v) (pc : Nat) (A : sx_A) : List sx_K → Bool
  | [] => false
  | c :: cs => (Nat.beq c.1 pc && (sx_qk A.1 c.2.1.1 && (match sx_mat G dp n c.2.1 A.1 A.2.1 A.2.2 with
    | some q => sx_idn n 0 q.1 && sx_lex q.2 r0 (c.2.2.map (sx_sb q.1))
    | none => false))) || sx_cut G dp n r0 pc A cs
def sx_fin (G : sx_G) (dp : sx_D) (n : Nat) (ret : Option FieldType) (ins : Instr) (A : sx_A) (xs : List sx_A) : Bool := (match ins with
  | .ireturn => (match A.2.1 with
    | [v] => sx_tI v && (match ret with
      | some .int => true
      | some .boolean => (match sx_r A.2.2.2.1 v with
        | some w => sx_ble 0 w.1 && sx_ble w.2 1
        | none => false)
      | _ => false)
    | _ => false)
  | .return_ => (match ret, A.2.1 with
    | none, [] => true
    | _, _ => false)
  | _ => false) && xs.any (fun x => List.isEmpty x.1 && (match sx_mat G dp n x A.1 A.2.1 A.2.2 with
    | some q => sx_idn n 0 q.1
    | none => false))
/-- cases of a local (0, i, _, v), of the stack's first (2, _, _, v) or of a slot (1, k, i, v): below v, v and above -/
abbrev sx_Y : Type := Nat × Nat × Nat × Int
def sx_yl (G : sx_G) (y : sx_Y) (A : sx_A) : Option (sx_B × sx_v) := bif Nat.beq y.1 0 then (match sx_lk A.1 y.2.1 with
  | some x => some (A.2.2, x)
  | none => none) else bif Nat.beq y.1 2 then (match A.2.1 with
  | x :: _ => some (A.2.2, x)
  | [] => none) else sx_ld G A.2.2 y.2.1 (0, 0, (y.2.2.1 : Int))
def sx_sp (G : sx_G) : List sx_Y → sx_A → Option (List sx_A)
  | [], _ => none
  | y :: ys, A => match sx_yl G y A with
    | some q => (match sx_r q.1.2.1 q.2 with
      | some r => bif sx_ble (r.1 + 1) y.2.2.2 && sx_ble y.2.2.2 r.2 then some ((match sx_asm q.1 q.2 (0, 0, y.2.2.2 - 1) with
        | some B' => [(A.1, A.2.1, B')]
        | none => []) ++ (match sx_asm q.1 (0, 0, y.2.2.2) q.2 with
        | some B' => [(A.1, A.2.1, B')]
        | none => [])) else sx_sp G ys A
      | none => sx_sp G ys A)
    | none => sx_sp G ys A
theorem sx_sp_ok {G : sx_G} {J : Nat → ri_H → Prop} {p : List Int} {A : sx_A} {lo : List (Nat × Value)} {st : List Value} {h : ri_H} (HS : sx_S G J p A lo st h) : ∀ {ys : List sx_Y} {L : List sx_A}, sx_sp G ys A = some L → ∃ A' ∈ L, ∃ e, sx_S G J (p ++ e) A' lo st h
  | [], _, hs => by cases hs
  | y :: ys, L, hs => by
    unfold sx_sp at hs
    split at hs
    · next q hq =>
      split at hs
      · next r hr =>
        cases hb : (sx_ble (r.1 + 1) y.2.2.2 && sx_ble y.2.2.2 r.2) with
        | false => rw [hb] at hs; exact sx_sp_ok HS hs
        | true =>
          rw [hb] at hs
          cases hs
          have hE : ∃ e, sx_E G J (p ++ e) q.1 h := by
            unfold sx_yl at hq
            cases h0 : Nat.beq y.1 0 with
            | true =>
              rw [h0] at hq
              dsimp only [cond_true] at hq
              split at hq
              · cases hq
                exact ⟨[], by rw [List.append_nil]; exact HS.2.2⟩
              · cases hq
            | false =>
              rw [h0] at hq
              dsimp only [cond_false] at hq
              cases h2 : Nat.beq y.1 2 with
              | true =>
                rw [h2] at hq
                dsimp only [cond_true] at hq
                split at hq
                · cases hq
                  exact ⟨[], by rw [List.append_nil]; exact HS.2.2⟩
                · cases hq
              | false =>
                rw [h2] at hq
                obtain ⟨e, x, h1, -, -⟩ := sx_ld_ok HS.2.2 (i := (y.2.2.1 : Int)) rfl hq
                exact ⟨e, h1⟩
          obtain ⟨e, hE⟩ := hE
          obtain ⟨z, z1, z2, z3⟩ := sx_r_ok hE.2.1 hr
          by_cases c : z ≤ y.2.2.2 - 1
          · obtain ⟨B', g1, g2⟩ := sx_asm_ok hE z1 (y := (0, 0, y.2.2.2 - 1)) rfl c
            rw [g1]
            exact ⟨_, List.mem_append_left _ (List.mem_singleton.mpr rfl), e, HS.1.ext e, HS.2.1.ext e, g2⟩
          · obtain ⟨B', g1, g2⟩ := sx_asm_ok hE (x := (0, 0, y.2.2.2)) (u := y.2.2.2) rfl z1 (by omega)
            rw [g1]
            exact ⟨_, List.mem_append_right _ (List.mem_singleton.mpr rfl), e, HS.1.ext e, HS.2.1.ext e, g2⟩
      · exact sx_sp_ok HS hs
    · exact sx_sp_ok HS hs
def sx_wk (G : sx_G) (dp : sx_D) (n : Nat) (sps : Nat → List sx_Y) (look : Nat → Option ri_En) (ret : Option FieldType) (xs : List sx_A) (ks : List sx_K) (kp : List Nat) (r0 : List sx_v) (stp : ri_En → Nat → sx_A → Option (List (Nat × sx_A))) (fuel : Nat) : Bool → Nat → sx_A → Bool :=
  Nat.rec (motive := fun _ => Bool → Nat → sx_A → Bool) (fun _ _ _ => false) (fun _ ih first pc A => match sx_sp G (sps pc) A with
    | some L => L.all (fun A' => ih first pc A')
    | none => bif !first && kp.any (Nat.beq pc) then sx_cut G dp n r0 pc A ks else match look pc with
    | some en => bif ri_isR en.1 then sx_fin G dp n ret en.1 A xs else (match stp en pc A with
      | some L => L.all (fun q => ih false q.1 q.2)
      | none => false)
    | none => false) fuel
section SXJ
variable {G : sx_G} {J : Nat → ri_H → Prop} {dp : sx_D} {p p0 e0 : List Int} {M : sx_M} {A : sx_A} {B B' : sx_B} {L : List (Nat × sx_A)} {lo : List (Nat × Value)} {st : List Value} {h h0 : ri_H} {pc n d : Nat} {cs : Nat → List sx_C} {en : ri_En} {q : ri_M × ri_T} {md : List (ri_M × ri_T)} {cal : Nat → List Value → ri_H → Option (Option Value × ri_H)} {xs : List sx_A} {ks : List sx_K}
/-- what a frame that ended gives -/
def sx_Po (G : sx_G) (J : Nat → ri_H → Prop) (p0 : List Int) (M : sx_M) (h0 : ri_H) (xs : List sx_A) (f : ri_F) : Prop :=
  f.1 = 70000 ∧ f.2.2.2.2.1 = 0 ∧ f.2.2.2.2.2 = 0 ∧ f.2.2.1.length ≤ 1 ∧ ∃ x ∈ xs, ∃ e, sx_S G J (p0 ++ e) x [] f.2.2.1 f.2.2.2.1 ∧ sx_Fr p0 M h0 f.2.2.2.1
def sx_Gd (stp : ri_F → Option ri_F) (G : sx_G) (J : Nat → ri_H → Prop) (p0 : List Int) (M : sx_M) (h0 : ri_H) (xs : List sx_A) (f : ri_F) : Prop := ∃ n f', ri_go stp n f = some f' ∧ sx_Po G J p0 M h0 xs f'
theorem sx_Gd.step {stp : ri_F → Option ri_F} {f f1 : ri_F} (hf : f.1 ≠ 70000) (h1 : stp f = some f1) (H : sx_Gd stp G J p0 M h0 xs f1) : sx_Gd stp G J p0 M h0 xs f := by
  obtain ⟨n, f', g1, g2⟩ := H
  refine ⟨n + 1, f', ?_, g2⟩
  unfold ri_go
  rw [show Nat.beq f.1 70000 = false by
    cases hh : Nat.beq f.1 70000 with
    | false => rfl
    | true => exact absurd (Nat.eq_of_beq_eq_true hh) hf, h1]
  exact g1
theorem sx_ll_of (H : sx_E G J p B h) : ∀ {r s : List sx_v}, sx_def p r → sx_def p s → sx_lex B r s = true → sx_ll (sx_ns p r) (sx_ns p s)
  | a :: as, b :: bs, h1, h2, hs => by
    unfold sx_lex at hs
    obtain ⟨x, hx⟩ := h1 a List.mem_cons_self
    obtain ⟨y, hy⟩ := h2 b List.mem_cons_self
    show sx_ll ((sx_n p a).getD 0 :: sx_ns p as) ((sx_n p b).getD 0 :: sx_ns p bs)
    rw [hx, hy]
    rcases (Bool.or_eq_true _ _).mp hs with e | e
    · left
      split at e
      · have := sx_ent_ok H.2.1 H.2.2.1 (sx_sh_n hx) hy e
        show x < y
        omega
      · cases e
    · simp only [Bool.and_eq_true] at e
      right
      refine ⟨?_, sx_ll_of H (fun w hw => h1 w (List.mem_cons_of_mem _ hw)) (fun w hw => h2 w (List.mem_cons_of_mem _ hw)) e.2⟩
      show x = y
      have hb : -2147483648 ≤ y ∧ y ≤ 2147483647 ∨ True := Or.inr trivial
      rcases (Bool.or_eq_true _ _).mp e.1 with g | g
      · rw [sx_veq_ok g, hy] at hx
        exact (Option.some.inj hx).symm
      · split at g
        · next r s hr hs' =>
          simp only [Bool.and_eq_true] at g
          have e1 := sx_beq_ok g.1
          have e2 := sx_beq_ok g.2.1
          have e3 := sx_beq_ok g.2.2
          have := sx_r_at H.2.1 hr hx
          have := sx_r_at H.2.1 hs' hy
          omega
        · cases g
  | [], _, _, _, hs => by cases hs
  | _ :: _, [], _, _, hs => by cases hs
theorem sx_wk_ok (HJ : sx_HJ G J dp) (hC : ∀ pc, ∀ C ∈ cs pc, sx_CV G J C cal) (hpc : ∀ pc en, ri_look2 q.2 pc = some en → pc ≠ 70000) {kp : List Nat} (hkp : kp.any (Nat.beq 70000) = false) {sps : Nat → List sx_Y} (hs70 : sps 70000 = []) {r0 : List sx_v} {p1 : List Int} (hr0 : sx_def p1 r0)
    (hcut : ∀ (c : sx_K) (e : List Int) (lo : List (Nat × Value)) (st : List Value) (h : ri_H), c ∈ ks → sx_S G J (p0 ++ e) c.2.1 lo st h → sx_Fr p0 M h0 h → sx_ll (sx_ns p1 r0) (sx_ns (p0 ++ e) c.2.2) → sx_Gd (ri_st [] cal (ri_bud md) q) G J p0 M h0 xs (c.1, lo, st, h, 0, 0))
    (hkd : ∀ c ∈ ks, ∀ p h lo st, sx_S G J p c.2.1 lo st h → sx_def p c.2.2) :
    ∀ (fuel : Nat) (first : Bool) (pc : Nat) (A : sx_A) (e1 : List Int) (lo : List (Nat × Value)) (st : List Value) (h : ri_H), (∃ e0, p1 ++ e1 = p0 ++ e0) → sx_wk G dp p0.length sps (ri_look2 q.2) q.1.2.2.2.1 xs ks kp r0 (fun en pc A => sx_step G dp p0.length M (cs pc) (ri_bud md) q.1 en pc A) fuel first pc A = true → sx_S G J (p1 ++ e1) A lo st h → sx_Fr p0 M h0 h → sx_Gd (ri_st [] cal (ri_bud md) q) G J p0 M h0 xs (pc, lo, st, h, 0, 0)
  | 0, _, _, _, _, _, _, _, _, hs, _, _ => by cases hs
  | fuel + 1, first, pc, A, e1, lo, st, h, ⟨e0, hp⟩, hs, HS, hF => by
    have hs : (match sx_sp G (sps pc) A with
      | some L => L.all (fun A' => sx_wk G dp p0.length sps (ri_look2 q.2) q.1.2.2.2.1 xs ks kp r0 (fun en pc A => sx_step G dp p0.length M (cs pc) (ri_bud md) q.1 en pc A) fuel first pc A')
      | none => bif !first && kp.any (Nat.beq pc) then sx_cut G dp p0.length r0 pc A ks else match ri_look2 q.2 pc with
      | some en => bif ri_isR en.1 then sx_fin G dp p0.length q.1.2.2.2.1 en.1 A xs else (match sx_step G dp p0.length M (cs pc) (ri_bud md) q.1 en pc A with
        | some L => L.all (fun x => sx_wk G dp p0.length sps (ri_look2 q.2) q.1.2.2.2.1 xs ks kp r0 (fun en pc A => sx_step G dp p0.length M (cs pc) (ri_bud md) q.1 en pc A) fuel false x.1 x.2)
        | none => false)
      | none => false) = true := hs
    split at hs
    · next L hL =>
      obtain ⟨A', a1, e2, a2⟩ := sx_sp_ok HS hL
      exact sx_wk_ok HJ hC hpc hkp hs70 hr0 hcut hkd fuel first pc A' (e1 ++ e2) lo st h ⟨e0 ++ e2, by rw [← List.append_assoc, hp, List.append_assoc]⟩ (List.all_eq_true.mp hs A' a1) (by rw [← List.append_assoc]; exact a2) hF
    cases hb : (!first && kp.any (Nat.beq pc)) with
    | true =>
      rw [hb] at hs
      dsimp only [cond_true] at hs
      have : ∀ cs : List sx_K, (∀ c ∈ cs, c ∈ ks) → sx_cut G dp p0.length r0 pc A cs = true → sx_Gd (ri_st [] cal (ri_bud md) q) G J p0 M h0 xs (pc, lo, st, h, 0, 0) := by
        intro cs
        induction cs with
        | nil => intro _ hc; cases hc
        | cons c cs ih =>
          intro hin hc
          unfold sx_cut at hc
          rcases (Bool.or_eq_true _ _).mp hc with g | g
          · simp only [Bool.and_eq_true] at g
            have g1 : c.1 = pc := Nat.eq_of_beq_eq_true g.1
            have g2 := g.2.2
            split at g2
            · next w hw =>
              simp only [Bool.and_eq_true] at g2
              obtain ⟨e2, k1, k2, k3⟩ := sx_mat_ok HJ HS.2.2 HS.1 HS.2.1 hw
              have hp2 : p1 ++ e1 ++ e2 = [] ++ p0 ++ (e0 ++ e2) := by rw [hp, List.nil_append, List.append_assoc]
              obtain ⟨e', he'⟩ := sx_idn_ok (q0 := []) (q1 := p0) (e := e0 ++ e2) rfl rfl g2.1
              rw [← hp2] at he'
              rw [he'] at k3
              rw [← g1]
              refine hcut c e' lo st h (hin c List.mem_cons_self) k3 hF ?_
              have hd1 : sx_def (p1 ++ e1 ++ e2) r0 := fun t ht => by
                obtain ⟨y, hy⟩ := hr0 t ht
                exact ⟨y, sx_n_ext e2 (sx_n_ext e1 hy)⟩
              have hd2 : sx_def (p1 ++ e1 ++ e2) (c.2.2.map (sx_sb w.1)) := fun t ht => by
                obtain ⟨u, u1, rfl⟩ := List.mem_map.mp ht
                obtain ⟨y, hy⟩ := hkd c (hin c List.mem_cons_self) _ _ _ _ k3 u u1
                exact ⟨y, by rw [sx_sb_n k2, he']; exact hy⟩
              have := sx_ll_of k1 hd1 hd2 g2.2
              have e3 : sx_ns (p1 ++ e1 ++ e2) r0 = sx_ns p1 r0 := by
                rw [List.append_assoc]
                exact (sx_ns_ext hr0).2
              have e4 : sx_ns (p1 ++ e1 ++ e2) (c.2.2.map (sx_sb w.1)) = sx_ns (p0 ++ e') c.2.2 := by
                unfold sx_ns
                rw [List.map_map]
                apply List.map_congr_left
                intro t _
                show (sx_n (p1 ++ e1 ++ e2) (sx_sb w.1 t)).getD 0 = _
                rw [sx_sb_n k2, he']
              rw [e3, e4] at this
              exact this
            · cases g2
          · exact ih (fun c hc => hin c (List.mem_cons_of_mem _ hc)) g
      exact this ks (fun c hc => hc) hs
    | false =>
      rw [hb] at hs
      dsimp only [cond_false] at hs
      split at hs
      · next en hen =>
        have hne : pc ≠ 70000 := hpc pc en hen
        have hst : ri_st [] cal (ri_bud md) q (pc, lo, st, h, 0, 0) = (bif ri_isR en.1 then (match ri_ret q.1.2.2.2.1 en.1 st with
            | some r => some (70000, [], r, h, 0, 0)
            | none => none) else (match ri_step [] cal (ri_bud md) q.1 en pc lo st h 0 0 with
            | some f' => bif Nat.beq f'.1 70000 then none else some f'
            | none => none)) := by
          unfold ri_st
          dsimp only
          rw [show Nat.beq pc 70000 = false by
            cases hh : Nat.beq pc 70000 with
            | false => rfl
            | true => exact absurd (Nat.eq_of_beq_eq_true hh) hne, hen]
          rfl
        cases hR : ri_isR en.1 with
        | true =>
          rw [hR] at hs hst
          dsimp only [cond_true] at hs hst
          unfold sx_fin at hs
          simp only [Bool.and_eq_true] at hs
          obtain ⟨f1, f2⟩ := hs
          obtain ⟨x, x1, x2⟩ := List.any_eq_true.mp f2
          simp only [Bool.and_eq_true] at x2
          obtain ⟨x0, x2⟩ := x2
          split at x2
          · next w hw =>
            obtain ⟨e2, k1, k2, k3⟩ := sx_mat_ok HJ HS.2.2 HS.1 HS.2.1 hw
            have hp2 : p1 ++ e1 ++ e2 = [] ++ p0 ++ (e0 ++ e2) := by rw [hp, List.nil_append, List.append_assoc]
            obtain ⟨e', he'⟩ := sx_idn_ok (q0 := []) (q1 := p0) (e := e0 ++ e2) rfl rfl x2
            rw [← hp2] at he'
            rw [he'] at k3
            have hret : ri_ret q.1.2.2.2.1 en.1 st = some st ∧ st.length ≤ 1 := by
              split at f1
              · next ei =>
                rw [ei]
                split at f1
                · next v hv =>
                  simp only [Bool.and_eq_true] at f1
                  have h2 := HS.2.1
                  rw [hv] at h2
                  obtain ⟨a, s, rfl, h3, h5⟩ := h2.c1
                  cases s with
                  | cons _ _ => exact h5.elim
                  | nil =>
                    obtain ⟨X, rfl, hx⟩ := sx_g_isn f1.1 h3
                    refine ⟨?_, Nat.le_refl _⟩
                    unfold ri_ret
                    dsimp only
                    have f3 := f1.2
                    split at f3
                    · next er => rw [er]; rfl
                    · next er =>
                      rw [er]
                      obtain ⟨w', w1, w2, w3⟩ := sx_r_of HS.2.2.2.1 hx
                      rw [w1] at f3
                      simp only [Bool.and_eq_true, sx_ble_iff] at f3
                      rcases sx_01 (x := X) (by omega) (by omega) with rfl | rfl <;> rfl
                    · cases f3
                · cases f1
              · next ei =>
                rw [ei]
                split at f1
                · next er hv =>
                  rw [er]
                  have h2 := HS.2.1
                  rw [hv] at h2
                  cases st with
                  | cons _ _ => exact h2.elim
                  | nil => exact ⟨rfl, Nat.zero_le _⟩
                · cases f1
              · cases f1
            rw [hret.1] at hst
            refine sx_Gd.step hne hst ⟨0, _, rfl, rfl, rfl, rfl, hret.2, x, x1, e', ⟨?_, k3.2⟩, hF⟩
            intro y hy
            have : x.1 = [] := List.isEmpty_iff.mp x0
            rw [this] at hy
            simp at hy
          · cases x2
        | false =>
          rw [hR] at hs hst
          dsimp only [cond_false] at hs hst
          split at hs
          · next L hL =>
            obtain ⟨x, x1, e2, lo', st', h', s1, s2, s3⟩ := sx_step_ok (dc := []) (cal := cal) HJ (hC pc) hp HS hL
            rw [s1] at hst
            dsimp only at hst
            have ih := sx_wk_ok HJ hC hpc hkp hs70 hr0 hcut hkd fuel false x.1 x.2 (e1 ++ e2) lo' st' h' ⟨e0 ++ e2, by rw [← List.append_assoc, hp, List.append_assoc]⟩ (List.all_eq_true.mp hs x x1) (by rw [← List.append_assoc]; exact s2) (hF.tr s3)
            by_cases h7 : x.1 = 70000
            · exfalso
              have hx := List.all_eq_true.mp hs x x1
              rw [h7] at hx
              cases fuel with
              | zero => cases hx
              | succ m =>
                have hx : (match sx_sp G (sps 70000) x.2 with
                  | some L => L.all (fun A' => sx_wk G dp p0.length sps (ri_look2 q.2) q.1.2.2.2.1 xs ks kp r0 (fun en pc A => sx_step G dp p0.length M (cs pc) (ri_bud md) q.1 en pc A) m false 70000 A')
                  | none => bif !false && kp.any (Nat.beq 70000) then sx_cut G dp p0.length r0 70000 x.2 ks else match ri_look2 q.2 70000 with
                  | some en => bif ri_isR en.1 then sx_fin G dp p0.length q.1.2.2.2.1 en.1 x.2 xs else (match sx_step G dp p0.length M (cs 70000) (ri_bud md) q.1 en 70000 x.2 with
                    | some L => L.all (fun x => sx_wk G dp p0.length sps (ri_look2 q.2) q.1.2.2.2.1 xs ks kp r0 (fun en pc A => sx_step G dp p0.length M (cs pc) (ri_bud md) q.1 en pc A) m false x.1 x.2)
                    | none => false)
                  | none => false) = true := hx
                rw [hs70] at hx
                dsimp only [sx_sp] at hx
                rw [hkp] at hx
                simp only [Bool.not_false, Bool.and_false, cond_false] at hx
                split at hx
                · next en' hen' => exact hpc _ _ hen' rfl
                · cases hx
            · rw [show Nat.beq x.1 70000 = false by
                cases hh : Nat.beq x.1 70000 with
                | false => rfl
                | true => exact absurd (Nat.eq_of_beq_eq_true hh) h7] at hst
              exact sx_Gd.step hne hst ih
          · cases hs
      · cases hs
end SXJ
