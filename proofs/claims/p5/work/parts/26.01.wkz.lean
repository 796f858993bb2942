/-! a walk that may also stop where Z holds -/
section SXZ
variable {G : sx_G} {J : Nat → ri_H → Prop} {dp : sx_D} {p p0 e0 : List Int} {M : sx_M} {A : sx_A} {B B' : sx_B} {L : List (Nat × sx_A)} {lo : List (Nat × Value)} {st : List Value} {h h0 : ri_H} {pc n d : Nat} {cs : Nat → List sx_C} {en : ri_En} {q : ri_M × ri_T} {md : List (ri_M × ri_T)} {cal : Nat → List Value → ri_H → Option (Option Value × ri_H)} {xs : List sx_A} {ks : List sx_K} {Z : ri_F → Prop}
def sx_GZ (Z : ri_F → Prop) (stp : ri_F → Option ri_F) (G : sx_G) (J : Nat → ri_H → Prop) (p0 : List Int) (M : sx_M) (h0 : ri_H) (xs : List sx_A) (f : ri_F) : Prop := ∃ n f', ri_go stp n f = some f' ∧ (sx_Po G J p0 M h0 xs f' ∨ Z f')
theorem sx_GZ.step {stp : ri_F → Option ri_F} {f f1 : ri_F} (hf : f.1 ≠ 70000) (h1 : stp f = some f1) (H : sx_GZ Z stp G J p0 M h0 xs f1) : sx_GZ Z stp G J p0 M h0 xs f := by
  obtain ⟨n, f', g1, g2⟩ := H
  refine ⟨n + 1, f', ?_, g2⟩
  unfold ri_go
  rw [show Nat.beq f.1 70000 = false by
    cases hh : Nat.beq f.1 70000 with
    | false => rfl
    | true => exact absurd (Nat.eq_of_beq_eq_true hh) hf, h1]
  exact g1
theorem sx_wz_ok (HJ : sx_HJ G J dp) (hC : ∀ pc, ∀ C ∈ cs pc, sx_CV G J C cal) (hpc : ∀ pc en, ri_look2 q.2 pc = some en → pc ≠ 70000) {kp : List Nat} (hkp : kp.any (Nat.beq 70000) = false) {sps : Nat → List sx_Y} (hs70 : sps 70000 = []) {r0 : List sx_v} {p1 : List Int} (hr0 : sx_def p1 r0)
    (hcut : ∀ (c : sx_K) (e : List Int) (lo : List (Nat × Value)) (st : List Value) (h : ri_H), c ∈ ks → sx_S G J (p0 ++ e) c.2.1 lo st h → sx_Fr p0 M h0 h → sx_ll (sx_ns p1 r0) (sx_ns (p0 ++ e) c.2.2) → sx_GZ Z (ri_st [] cal (ri_bud md) q) G J p0 M h0 xs (c.1, lo, st, h, 0, 0))
    (hkd : ∀ c ∈ ks, ∀ p h lo st, sx_S G J p c.2.1 lo st h → sx_def p c.2.2) :
    ∀ (fuel : Nat) (first : Bool) (pc : Nat) (A : sx_A) (e1 : List Int) (lo : List (Nat × Value)) (st : List Value) (h : ri_H), (∃ e0, p1 ++ e1 = p0 ++ e0) → sx_wk G dp p0.length sps (ri_look2 q.2) q.1.2.2.2.1 xs ks kp r0 (fun en pc A => sx_step G dp p0.length M (cs pc) (ri_bud md) q.1 en pc A) fuel first pc A = true → sx_S G J (p1 ++ e1) A lo st h → sx_Fr p0 M h0 h → sx_GZ Z (ri_st [] cal (ri_bud md) q) G J p0 M h0 xs (pc, lo, st, h, 0, 0)
  | 0, _, _, _, _, _, _, _, _, hs, _, _ => by cases hs
  | fuel + 1, first, pc, A, e1, lo, st, h, ⟨e0, hp⟩, hs, HS, hF => by
    have hs : (match sx_sp G (sps pc) A with
      | some L => L.all (fun A' => sx_wk G dp p0.length sps (ri_look2 q.2) q.1.2.2.2.1 xs ks kp r0 (fun en pc A => sx_step G dp p0.length M (cs pc) (ri_bud md) q.1 en pc A) fuel first pc A')
      | none => bif !first && kp.any (Nat.beq pc) then sx_cut G dp p0.length r0 pc A ks else match ri_look2 q.2 pc with
      | some en => bif ri_isR en.1 then sx_fin G dp p0.length q.1.2.2.2.1 en.1 A xs else (match sx_step G dp p0.length M (cs pc) (ri_bud md) q.1 en pc A with
        | some L => L.all (fun x => sx_wk G dp p0.length sps (ri_look2 q.2) q.1.2.2.2.1 xs ks kp r0 (fun en pc A => sx_step G dp p0.length M (cs pc) (ri_bud md) q.1 en pc A) fuel false x.1 x.2)
        | none => false)
      | none => false) = true := hs
    split at hs
    · next L hL =>
      obtain ⟨A', a1, e2, a2⟩ := sx_sp_ok HS hL
      exact sx_wz_ok HJ hC hpc hkp hs70 hr0 hcut hkd fuel first pc A' (e1 ++ e2) lo st h ⟨e0 ++ e2, by rw [← List.append_assoc, hp, List.append_assoc]⟩ (List.all_eq_true.mp hs A' a1) (by rw [← List.append_assoc]; exact a2) hF
    cases hb : (!first && kp.any (Nat.beq pc)) with
    | true =>
      rw [hb] at hs
      dsimp only [cond_true] at hs
      have : ∀ cs : List sx_K, (∀ c ∈ cs, c ∈ ks) → sx_cut G dp p0.length r0 pc A cs = true → sx_GZ Z (ri_st [] cal (ri_bud md) q) G J p0 M h0 xs (pc, lo, st, h, 0, 0) := by
        intro cs
        induction cs with
        | nil => intro _ hc; cases hc
        | cons c cs ih =>
          intro hin hc
          unfold sx_cut at hc
          rcases (Bool.or_eq_true _ _).mp hc with g | g
          · simp only [Bool.and_eq_true] at g
            have g1 : c.1 = pc := Nat.eq_of_beq_eq_true g.1
            have g2 := g.2.2
            split at g2
            · next w hw =>
              simp only [Bool.and_eq_true] at g2
              obtain ⟨e2, k1, k2, k3⟩ := sx_mat_ok HJ HS.2.2 HS.1 HS.2.1 hw
              have hp2 : p1 ++ e1 ++ e2 = [] ++ p0 ++ (e0 ++ e2) := by rw [hp, List.nil_append, List.append_assoc]
              obtain ⟨e', he'⟩ := sx_idn_ok (q0 := []) (q1 := p0) (e := e0 ++ e2) rfl rfl g2.1
              rw [← hp2] at he'
              rw [he'] at k3
              rw [← g1]
              refine hcut c e' lo st h (hin c List.mem_cons_self) k3 hF ?_
              have hd1 : sx_def (p1 ++ e1 ++ e2) r0 := fun t ht => by
                obtain ⟨y, hy⟩ := hr0 t ht
                exact ⟨y, sx_n_ext e2 (sx_n_ext e1 hy)⟩
              have hd2 : sx_def (p1 ++ e1 ++ e2) (c.2.2.map (sx_sb w.1)) := fun t ht => by
                obtain ⟨u, u1, rfl⟩ := List.mem_map.mp ht
                obtain ⟨y, hy⟩ := hkd c (hin c List.mem_cons_self) _ _ _ _ k3 u u1
                exact ⟨y, by rw [sx_sb_n k2, he']; exact hy⟩
              have := sx_ll_of k1 hd1 hd2 g2.2
              have e3 : sx_ns (p1 ++ e1 ++ e2) r0 = sx_ns p1 r0 := by
                rw [List.append_assoc]
                exact (sx_ns_ext hr0).2
              have e4 : sx_ns (p1 ++ e1 ++ e2) (c.2.2.map (sx_sb w.1)) = sx_ns (p0 ++ e') c.2.2 := by
                unfold sx_ns
                rw [List.map_map]
                apply List.map_congr_left
                intro t _
                show (sx_n (p1 ++ e1 ++ e2) (sx_sb w.1 t)).getD 0 = _
                rw [sx_sb_n k2, he']
              rw [e3, e4] at this
              exact this
            · cases g2
          · exact ih (fun c hc => hin c (List.mem_cons_of_mem _ hc)) g
      exact this ks (fun c hc => hc) hs
    | false =>
      rw [hb] at hs
      dsimp only [cond_false] at hs
      split at hs
      · next en hen =>
        have hne : pc ≠ 70000 := hpc pc en hen
        have hst : ri_st [] cal (ri_bud md) q (pc, lo, st, h, 0, 0) = (bif ri_isR en.1 then (match ri_ret q.1.2.2.2.1 en.1 st with
            | some r => some (70000, [], r, h, 0, 0)
            | none => none) else (match ri_step [] cal (ri_bud md) q.1 en pc lo st h 0 0 with
            | some f' => bif Nat.beq f'.1 70000 then none else some f'
            | none => none)) := by
          unfold ri_st
          dsimp only
          rw [show Nat.beq pc 70000 = false by
            cases hh : Nat.beq pc 70000 with
            | false => rfl
            | true => exact absurd (Nat.eq_of_beq_eq_true hh) hne, hen]
          rfl
        cases hR : ri_isR en.1 with
        | true =>
          rw [hR] at hs hst
          dsimp only [cond_true] at hs hst
          unfold sx_fin at hs
          simp only [Bool.and_eq_true] at hs
          obtain ⟨f1, f2⟩ := hs
          obtain ⟨x, x1, x2⟩ := List.any_eq_true.mp f2
          simp only [Bool.and_eq_true] at x2
          obtain ⟨x0, x2⟩ := x2
          split at x2
          · next w hw =>
            obtain ⟨e2, k1, k2, k3⟩ := sx_mat_ok HJ HS.2.2 HS.1 HS.2.1 hw
            have hp2 : p1 ++ e1 ++ e2 = [] ++ p0 ++ (e0 ++ e2) := by rw [hp, List.nil_append, List.append_assoc]
            obtain ⟨e', he'⟩ := sx_idn_ok (q0 := []) (q1 := p0) (e := e0 ++ e2) rfl rfl x2
            rw [← hp2] at he'
            rw [he'] at k3
            have hret : ri_ret q.1.2.2.2.1 en.1 st = some st ∧ st.length ≤ 1 := by
              split at f1
              · next ei =>
                rw [ei]
                split at f1
                · next v hv =>
                  simp only [Bool.and_eq_true] at f1
                  have h2 := HS.2.1
                  rw [hv] at h2
                  obtain ⟨a, s, rfl, h3, h5⟩ := h2.c1
                  cases s with
                  | cons _ _ => exact h5.elim
                  | nil =>
                    obtain ⟨X, rfl, hx⟩ := sx_g_isn f1.1 h3
                    refine ⟨?_, Nat.le_refl _⟩
                    unfold ri_ret
                    dsimp only
                    have f3 := f1.2
                    split at f3
                    · next er => rw [er]; rfl
                    · next er =>
                      rw [er]
                      obtain ⟨w', w1, w2, w3⟩ := sx_r_of HS.2.2.2.1 hx
                      rw [w1] at f3
                      simp only [Bool.and_eq_true, sx_ble_iff] at f3
                      rcases sx_01 (x := X) (by omega) (by omega) with rfl | rfl <;> rfl
                    · cases f3
                · cases f1
              · next ei =>
                rw [ei]
                split at f1
                · next er hv =>
                  rw [er]
                  have h2 := HS.2.1
                  rw [hv] at h2
                  cases st with
                  | cons _ _ => exact h2.elim
                  | nil => exact ⟨rfl, Nat.zero_le _⟩
                · cases f1
              · cases f1
            rw [hret.1] at hst
            refine sx_GZ.step hne hst ⟨0, _, rfl, Or.inl ⟨rfl, rfl, rfl, hret.2, x, x1, e', ⟨?_, k3.2⟩, hF⟩⟩
            intro y hy
            have : x.1 = [] := List.isEmpty_iff.mp x0
            rw [this] at hy
            simp at hy
          · cases x2
        | false =>
          rw [hR] at hs hst
          dsimp only [cond_false] at hs hst
          split at hs
          · next L hL =>
            obtain ⟨x, x1, e2, lo', st', h', s1, s2, s3⟩ := sx_step_ok (dc := []) (cal := cal) HJ (hC pc) hp HS hL
            rw [s1] at hst
            dsimp only at hst
            have ih := sx_wz_ok HJ hC hpc hkp hs70 hr0 hcut hkd fuel false x.1 x.2 (e1 ++ e2) lo' st' h' ⟨e0 ++ e2, by rw [← List.append_assoc, hp, List.append_assoc]⟩ (List.all_eq_true.mp hs x x1) (by rw [← List.append_assoc]; exact s2) (hF.tr s3)
            by_cases h7 : x.1 = 70000
            · exfalso
              have hx := List.all_eq_true.mp hs x x1
              rw [h7] at hx
              cases fuel with
              | zero => cases hx
              | succ m =>
                have hx : (match sx_sp G (sps 70000) x.2 with
                  | some L => L.all (fun A' => sx_wk G dp p0.length sps (ri_look2 q.2) q.1.2.2.2.1 xs ks kp r0 (fun en pc A => sx_step G dp p0.length M (cs pc) (ri_bud md) q.1 en pc A) m false 70000 A')
                  | none => bif !false && kp.any (Nat.beq 70000) then sx_cut G dp p0.length r0 70000 x.2 ks else match ri_look2 q.2 70000 with
                  | some en => bif ri_isR en.1 then sx_fin G dp p0.length q.1.2.2.2.1 en.1 x.2 xs else (match sx_step G dp p0.length M (cs 70000) (ri_bud md) q.1 en 70000 x.2 with
                    | some L => L.all (fun x => sx_wk G dp p0.length sps (ri_look2 q.2) q.1.2.2.2.1 xs ks kp r0 (fun en pc A => sx_step G dp p0.length M (cs pc) (ri_bud md) q.1 en pc A) m false x.1 x.2)
                    | none => false)
                  | none => false) = true := hx
                rw [hs70] at hx
                dsimp only [sx_sp] at hx
                rw [hkp] at hx
                simp only [Bool.not_false, Bool.and_false, cond_false] at hx
                split at hx
                · next en' hen' => exact hpc _ _ hen' rfl
                · cases hx
            · rw [show Nat.beq x.1 70000 = false by
                cases hh : Nat.beq x.1 70000 with
                | false => rfl
                | true => exact absurd (Nat.eq_of_beq_eq_true hh) h7] at hst
              exact sx_GZ.step hne hst ih
          · cases hs
      · cases hs
end SXZ
