/-! a LINE, all LINES, on both sides -/
section LINES
variable {d e n m c : Nat} {b : Nat → Int32} {hc hc' hm hm' : ri_H} {x1 x2 : Int32} {q : Nat → Nat} {o : Nat}
theorem Wd_inj : ∀ (j k : Fin 24), lx_Wd j.val = lx_Wd k.val → j.val = k.val := by decide +kernel
theorem J_line (J : JT n c (eh_V hc) (eh_V hm)) (hk0 : ¬ eh_i (eh_V hc) 2 5 = 0) (D : DR q q o (eo q) (eh_V hc) (eh_V hm)) (ic : iC b n m (eh_V hc)) (im : iM b n m (eh_V hm)) (E1 : (¬ eh_i (eh_V hc) 2 5 = 2 ∧ ri_calE ri_md (d + 6) 44 [.ref 4, .int (-1)] hc = some (some (.int x1), hc')) ∨ (eh_i (eh_V hc) 2 5 = 2 ∧ (eh_i (eh_V hc) 2 7).toInt < 5 ∧ ri_calE ri_md (d + 6) 44 [.ref 4, .int (eh_i (eh_V hc) 2 7)] hc = some (some (.int x1), hc')) ∨ (eh_i (eh_V hc) 2 5 = 2 ∧ ¬ (eh_i (eh_V hc) 2 7).toInt < 5 ∧ ri_calE ri_md (d + 6) 46 [.ref 4, .int (eh_i (eh_V hc) 2 7 - 5)] hc = some (some (.int x1), hc'))) (E2 : ri_calE ri_md (e + 6) 170 [.ref 0] hm = some (some (.int x2), hm')) : LO n (c + 1) x1 x2 (eh_V hc') (eh_V hm') := by
  obtain ⟨rs2, hrs2, E2⟩ := eh_in E2 (q := md_170) rfl
  have hx2 : ∀ {y : Int32}, rs2 = [.int y] → x2 = y := fun {y} h => by
    rw [h] at hrs2
    cases hrs2
    rfl
  have cf1 : ¬ eh_i (eh_V hc) 2 5 = 2 → x1 = 0 ∧ eh_V hc' = flt (eh_V hc) 1 := fun hk => by
    rcases E1 with ⟨-, E⟩ | ⟨k, -⟩ | ⟨k, -⟩
    · have km : (-1 : Int32).toInt = -1 := by decide
      have z := sp_44 E rfl ic
      rw [km] at z
      rcases z with ⟨-, r1, r2, -, -⟩ | ⟨_, _, _, _, w, -⟩ | ⟨_, _, _, _, _, _, _, w, -⟩ | ⟨_, _, _, _, _, _, _, w, -⟩ | ⟨_, _, _, _, w, -⟩ | ⟨w, -⟩ | ⟨_, _, _, _, w, -⟩ | ⟨_, _, _, _, w, -⟩ | ⟨w, -⟩ | ⟨w, -⟩ | ⟨w, -⟩
      · cases r1
        exact ⟨rfl, r2⟩
      all_goals exact absurd (by decide) w
    · exact absurd k hk
    · exact absurd k hk
  have fl : ∀ {f : Int32}, rs2 = [.int 0] → eh_V hm' = fltM (eh_V hm) f → ¬ f = 0 → x1 = 0 ∧ eh_V hc' = flt (eh_V hc) f → LO n (c + 1) x1 x2 (eh_V hc') (eh_V hm') := fun {f} r1 r2 hf h => by
    obtain ⟨f1, -, -⟩ := J.fl h.2 r2 hf
    exact Or.inl ⟨h.1, hx2 r1, f1⟩
  have key : ∀ {k : Nat}, k < 24 → eh_i (eh_V hc) 2 5 = 2 → eh_i (eh_V hc) 2 7 = nI k → (k < 5 ∧ ri_calE ri_md (d + 6) 44 [.ref 4, .int (nI k)] hc = some (some (.int x1), hc')) ∨ (5 ≤ k ∧ ri_calE ri_md (d + 6) 46 [.ref 4, .int (nI (k - 5))] hc = some (some (.int x1), hc')) := fun {k} hk k2 kv => by
    rw [kv, lx_i (a := k) (by omega)] at E1
    rcases E1 with ⟨w, -⟩ | ⟨-, w, E⟩ | ⟨-, w, E⟩
    · exact absurd k2 w
    · exact Or.inl ⟨by omega, E⟩
    · rw [show nI k - 5 = nI (k - 5) from lx_sub (b := 5) (by omega)] at E
      exact Or.inr ⟨by omega, E⟩
  have word : ∀ {j : Nat}, j < 9 → eh_i (eh_V hm) 0 11 = 1 → eh_l (eh_V hm) 0 17 = lx_Wd j → eh_i (eh_V hc) 2 5 = 2 ∧ eh_i (eh_V hc) 2 7 = nI j := fun {j} hj t1 w => by
    rcases J.ks with ⟨a, z⟩ | ⟨a, z⟩ | ⟨a, z, k, k1, k2, k3⟩ | ⟨a, z, -, k1⟩ | ⟨a, z, -⟩ | ⟨a, z, -⟩
    · rw [z] at t1; exact absurd t1 (by decide)
    · rw [z] at t1; exact absurd t1 (by decide)
    · have := Wd_inj ⟨j, by omega⟩ ⟨k, k1⟩ (w.symm.trans k3)
      dsimp only at this
      subst this
      exact ⟨a, k2⟩
    · exact absurd w (k1 j (by omega))
    · rw [z] at t1; exact absurd t1 (by decide)
    · rw [z] at t1; exact absurd t1 (by decide)
  have z := ln_d E2 rfl im rfl
  rcases z with ⟨t1, r1, r2, -, -⟩ | ⟨t1, n0, n1, n2, n3, n4, n5, n6, n7, n8, r1, r2, -, -⟩ | ⟨t1, -, -, -, -, -, -, -, -, w, hz, loz, E3, V3, -, i3, l0⟩ | ⟨t1, -, -, -, -, -, -, -, w, hz, loz, E3, V3, -, i3, l0⟩ | ⟨t1, -, -, -, -, -, -, w, hz, loz, E3, V3, -, i3, l0⟩ | ⟨t1, -, -, -, -, -, w, hz, loz, E3, V3, -, i3, l0⟩ | ⟨t1, -, -, -, -, w, hz, loz, E3, V3, -, i3, l0⟩ | ⟨t1, -, -, -, w, hz, loz, E3, V3, -, i3, l0⟩ | ⟨t1, -, -, w, hz, loz, E3, V3, -, i3, l0⟩ | ⟨t1, -, w, hz, loz, E3, V3, -, i3, l0⟩ | ⟨t1, w, hz, loz, E3, V3, -, i3, l0⟩
  · refine fl r1 r2 (by decide) (cf1 (fun a => ?_))
    rcases J.ks with ⟨a', z⟩ | ⟨a', z⟩ | ⟨-, z, -⟩ | ⟨-, z, -⟩ | ⟨a', z, -⟩ | ⟨a', z, -⟩
    · rw [a'] at a; exact absurd a (by decide)
    · rw [a'] at a; exact absurd a (by decide)
    · exact t1 z
    · exact t1 z
    · rw [a'] at a; exact absurd a (by decide)
    · rw [a'] at a; exact absurd a (by decide)
  · by_cases k2 : eh_i (eh_V hc) 2 5 = 2
    · rcases J.ks with ⟨a, z⟩ | ⟨a, z⟩ | ⟨a, z, k, k1, k3, k4⟩ | ⟨a, z, -, -⟩ | ⟨a, z, -⟩ | ⟨a, z, -⟩
      · rw [a] at k2; exact absurd k2 (by decide)
      · rw [a] at k2; exact absurd k2 (by decide)
      · have k9 : 9 ≤ k := by
          apply Nat.le_of_not_lt
          intro hlt
          match k, hlt with
          | 0, _ => exact n0 k4
          | 1, _ => exact n1 k4
          | 2, _ => exact n2 k4
          | 3, _ => exact n3 k4
          | 4, _ => exact n4 k4
          | 5, _ => exact n5 k4
          | 6, _ => exact n6 k4
          | 7, _ => exact n7 k4
          | 8, _ => exact n8 k4
        rcases key k1 a k3 with ⟨w, -⟩ | ⟨-, E⟩
        · omega
        · have ki : (nI (k - 5)).toInt = ((k - 5 : Nat) : Int) := lx_i (by omega)
          have z := sp_46 E rfl ic
          rw [ki] at z
          rcases z with ⟨w, -⟩ | ⟨_, _, -, w, -⟩ | ⟨_, _, _, _, -, w, -⟩ | ⟨_, _, _, _, _, _, -, w, -⟩ | ⟨_, _, _, _, _, _, -, w, -⟩ | ⟨_, _, _, _, _, _, -, w, -⟩ | ⟨_, _, -, w, -⟩ | ⟨_, _, -, w, -⟩ | ⟨_, _, -, w, -⟩ | ⟨_, -, w, -⟩ | ⟨-, w, -⟩ | ⟨-, -, s1, s2, -, -⟩
          · omega
          · omega
          · omega
          · omega
          · omega
          · omega
          · omega
          · omega
          · omega
          · omega
          · omega
          · cases s1
            exact fl r1 r2 (by decide) ⟨rfl, s2⟩
      · rw [a] at k2; exact absurd k2 (by decide)
      · rw [a] at k2; exact absurd k2 (by decide)
      · rw [a] at k2; exact absurd k2 (by decide)
    · exact fl r1 r2 (by decide) (cf1 k2)
  · skip
    obtain ⟨k2, k7⟩ := word (j := 8) (by decide) t1 w
    rcases key (k := 8) (by decide) k2 k7 with ⟨w5, -⟩ | ⟨-, E⟩
    · omega
    · rcases ln_8 E3 V3 im l0 with ⟨h3, h6, x10, h8, w1, v3, X3, i6, X4, i8, y0, r1, r2, -, -⟩ | ⟨h3, h6, x10, h8, x14, h12, w1, v3, X3, i6, X4, i8, y0, X5, i12, y1, r1, r2, -, -⟩ | ⟨h3, h6, x10, h8, x14, h12, w1, v3, X3, i6, X4, i8, y0, X5, i12, y1, r1, r2, -, -⟩ | ⟨w1, r1, r2, -, -⟩
      · exact J_boat (e := e + 1) (by rw [V3]; exact J) k2 (by rw [V3]; exact D) ic (by rw [V3]; exact im) E (Or.inr ⟨by rw [V3]; exact w1, h3, h6, x10, h8, by rw [V3]; exact v3, X3, i6, by rw [V3]; exact X4, Or.inl ⟨y0, hx2 r1, r2⟩⟩)
      · exact J_boat (e := e + 1) (by rw [V3]; exact J) k2 (by rw [V3]; exact D) ic (by rw [V3]; exact im) E (Or.inr ⟨by rw [V3]; exact w1, h3, h6, x10, h8, by rw [V3]; exact v3, X3, i6, by rw [V3]; exact X4, Or.inr ⟨y0, x14, h12, by rw [V3]; exact X5, Or.inr ⟨y1, hx2 r1, r2⟩⟩⟩)
      · exact J_boat (e := e + 1) (by rw [V3]; exact J) k2 (by rw [V3]; exact D) ic (by rw [V3]; exact im) E (Or.inr ⟨by rw [V3]; exact w1, h3, h6, x10, h8, by rw [V3]; exact v3, X3, i6, by rw [V3]; exact X4, Or.inr ⟨y0, x14, h12, by rw [V3]; exact X5, Or.inl ⟨y1, hx2 r1, r2⟩⟩⟩)
      · exact J_boat (e := e + 1) (by rw [V3]; exact J) k2 (by rw [V3]; exact D) ic (by rw [V3]; exact im) E (Or.inl ⟨by rw [V3]; exact w1, hx2 r1, by rw [V3]; exact r2⟩)
  · skip
    obtain ⟨k2, k7⟩ := word (j := 7) (by decide) t1 w
    rcases key (k := 7) (by decide) k2 k7 with ⟨w5, -⟩ | ⟨-, E⟩
    · omega
    · rcases ln_7 E3 V3 im l0 with ⟨h2, x6, h4, w1, X3, i2, X4, i4, y0, r1, r2, -, -⟩ | ⟨h2, x6, h4, w1, X3, i2, X4, i4, y0, r1, r2, -, -⟩ | ⟨w1, r1, r2, -, -⟩
      · exact J_cue (e := e + 2) (t := 2) (Or.inr rfl) (by rw [V3]; exact J) k2 (by rw [V3]; exact D) ic (by rw [V3]; exact im) E (Or.inr ⟨by rw [V3]; exact w1, h2, x6, h4, X3, i2, X4, Or.inr ⟨y0, hx2 r1, r2⟩⟩)
      · exact J_cue (e := e + 2) (t := 2) (Or.inr rfl) (by rw [V3]; exact J) k2 (by rw [V3]; exact D) ic (by rw [V3]; exact im) E (Or.inr ⟨by rw [V3]; exact w1, h2, x6, h4, X3, i2, X4, Or.inl ⟨y0, hx2 r1, r2⟩⟩)
      · exact J_cue (e := e + 2) (t := 2) (Or.inr rfl) (by rw [V3]; exact J) k2 (by rw [V3]; exact D) ic (by rw [V3]; exact im) E (Or.inl ⟨by rw [V3]; exact w1, hx2 r1, by rw [V3]; exact r2⟩)
  · skip
    obtain ⟨k2, k7⟩ := word (j := 6) (by decide) t1 w
    rcases key (k := 6) (by decide) k2 k7 with ⟨w5, -⟩ | ⟨-, E⟩
    · omega
    · obtain ⟨x3, h1, X3, i1, r1, r2, -, -⟩ := ln_6 E3 V3 im l0
      have ex := hx2 r1
      subst ex
      have L := J_lesson (by rw [V3]; exact J) k2 (by rw [V3]; exact D) ic (by rw [V3]; exact im) E X3
      rw [r2]
      exact L
  · skip
    obtain ⟨k2, k7⟩ := word (j := 5) (by decide) t1 w
    rcases key (k := 5) (by decide) k2 k7 with ⟨w5, -⟩ | ⟨-, E⟩
    · omega
    · rcases ln_5 E3 V3 im l0 with ⟨h2, x6, h4, w1, X3, i2, X4, i4, y0, r1, r2, -, -⟩ | ⟨h2, x6, h4, w1, X3, i2, X4, i4, y0, r1, r2, -, -⟩ | ⟨w1, r1, r2, -, -⟩
      · exact J_cue (e := e + 2) (t := 0) (Or.inl rfl) (by rw [V3]; exact J) k2 (by rw [V3]; exact D) ic (by rw [V3]; exact im) E (Or.inr ⟨by rw [V3]; exact w1, h2, x6, h4, X3, i2, X4, Or.inr ⟨y0, hx2 r1, r2⟩⟩)
      · exact J_cue (e := e + 2) (t := 0) (Or.inl rfl) (by rw [V3]; exact J) k2 (by rw [V3]; exact D) ic (by rw [V3]; exact im) E (Or.inr ⟨by rw [V3]; exact w1, h2, x6, h4, X3, i2, X4, Or.inl ⟨y0, hx2 r1, r2⟩⟩)
      · exact J_cue (e := e + 2) (t := 0) (Or.inl rfl) (by rw [V3]; exact J) k2 (by rw [V3]; exact D) ic (by rw [V3]; exact im) E (Or.inl ⟨by rw [V3]; exact w1, hx2 r1, by rw [V3]; exact r2⟩)
  · skip
    obtain ⟨k2, k7⟩ := word (j := 4) (by decide) t1 w
    rcases key (k := 4) (by decide) k2 k7 with ⟨-, E⟩ | ⟨w5, -⟩
    · rcases ln_4 E3 V3 im l0 with ⟨x3, h1, X3, i1, y0, r1, r2, -, -⟩ | ⟨x3, h1, x7, h5, X3, i1, y0, X4, i5, y1, r1, r2, -, -⟩ | ⟨x3, h1, x7, h5, x12, h10, X3, i1, y0, X4, i5, y1, f5, X5, -, y2, r1, r2, -, -⟩ | ⟨x3, h1, x7, h5, x12, h10, X3, i1, y0, X4, i5, y1, f5, X5, -, y2, r1, r2, -, -⟩ | ⟨x3, h1, x7, h5, x12, h10, X3, i1, y0, X4, i5, y1, f5, X5, -, y2, r1, r2, -, -⟩ | ⟨x3, h1, x7, h5, x12, h10, X3, i1, y0, X4, i5, y1, f5, X5, -, y2, r1, r2, -, -⟩
      · exact J_ice (e := e + 1) (by rw [V3]; exact J) k2 (by rw [V3]; exact D) ic (by rw [V3]; exact im) E (Or.inl ⟨x3, h1, X3, y0, hx2 r1, r2⟩)
      · exact J_ice (e := e + 1) (by rw [V3]; exact J) k2 (by rw [V3]; exact D) ic (by rw [V3]; exact im) E (Or.inr ⟨x3, h1, x7, h5, X3, i1, y0, X4, Or.inl ⟨y1, hx2 r1, r2⟩⟩)
      · exact J_ice (e := e + 1) (by rw [V3]; exact J) k2 (by rw [V3]; exact D) ic (by rw [V3]; exact im) E (Or.inr ⟨x3, h1, x7, h5, X3, i1, y0, X4, Or.inr ⟨y1, x12, h10, by rw [if_neg f5]; exact X5, Or.inl ⟨y2, hx2 r1⟩, r2⟩⟩)
      · exact J_ice (e := e + 1) (by rw [V3]; exact J) k2 (by rw [V3]; exact D) ic (by rw [V3]; exact im) E (Or.inr ⟨x3, h1, x7, h5, X3, i1, y0, X4, Or.inr ⟨y1, x12, h10, by rw [if_neg f5]; exact X5, Or.inr ⟨y2, hx2 r1⟩, r2⟩⟩)
      · exact J_ice (e := e + 1) (by rw [V3]; exact J) k2 (by rw [V3]; exact D) ic (by rw [V3]; exact im) E (Or.inr ⟨x3, h1, x7, h5, X3, i1, y0, X4, Or.inr ⟨y1, x12, h10, by rw [if_pos f5]; exact X5, Or.inl ⟨y2, hx2 r1⟩, r2⟩⟩)
      · exact J_ice (e := e + 1) (by rw [V3]; exact J) k2 (by rw [V3]; exact D) ic (by rw [V3]; exact im) E (Or.inr ⟨x3, h1, x7, h5, X3, i1, y0, X4, Or.inr ⟨y1, x12, h10, by rw [if_pos f5]; exact X5, Or.inr ⟨y2, hx2 r1⟩, r2⟩⟩)
    · omega
  · skip
    obtain ⟨k2, k7⟩ := word (j := 3) (by decide) t1 w
    rcases key (k := 3) (by decide) k2 k7 with ⟨-, E⟩ | ⟨w5, -⟩
    · rcases ln_3 E3 V3 im l0 with ⟨x3, h1, X3, i1, y0, r1, r2, -, -⟩ | ⟨x3, h1, x7, h5, X3, i1, y0, X4, i5, y1, r1, r2, -, -⟩ | ⟨x3, h1, x7, h5, X3, i1, y0, X4, i5, y1, r1, r2, -, -⟩
      · exact J_set (e := e + 1) (k := 3) (to := 7) (by decide) (by rw [V3]; exact J) k2 (by rw [V3]; exact D) ic (by rw [V3]; exact im) E (by decide) (Or.inl ⟨x3, h1, X3, y0, hx2 r1, r2⟩)
      · exact J_set (e := e + 1) (k := 3) (to := 7) (by decide) (by rw [V3]; exact J) k2 (by rw [V3]; exact D) ic (by rw [V3]; exact im) E (by decide) (Or.inr ⟨x3, h1, x7, h5, X3, i1, y0, X4, Or.inl ⟨y1, hx2 r1⟩, r2⟩)
      · exact J_set (e := e + 1) (k := 3) (to := 7) (by decide) (by rw [V3]; exact J) k2 (by rw [V3]; exact D) ic (by rw [V3]; exact im) E (by decide) (Or.inr ⟨x3, h1, x7, h5, X3, i1, y0, X4, Or.inr ⟨y1, hx2 r1⟩, r2⟩)
    · omega
  · skip
    obtain ⟨k2, k7⟩ := word (j := 2) (by decide) t1 w
    rcases key (k := 2) (by decide) k2 k7 with ⟨-, E⟩ | ⟨w5, -⟩
    · rcases ln_2 E3 V3 im l0 with ⟨x3, h1, X3, i1, y0, r1, r2, -, -⟩ | ⟨x3, h1, x7, h5, X3, i1, y0, X4, i5, y1, r1, r2, -, -⟩ | ⟨x3, h1, x7, h5, X3, i1, y0, X4, i5, y1, r1, r2, -, -⟩
      · exact J_set (e := e + 1) (k := 2) (to := 2) (by decide) (by rw [V3]; exact J) k2 (by rw [V3]; exact D) ic (by rw [V3]; exact im) E (by decide) (Or.inl ⟨x3, h1, X3, y0, hx2 r1, r2⟩)
      · exact J_set (e := e + 1) (k := 2) (to := 2) (by decide) (by rw [V3]; exact J) k2 (by rw [V3]; exact D) ic (by rw [V3]; exact im) E (by decide) (Or.inr ⟨x3, h1, x7, h5, X3, i1, y0, X4, Or.inl ⟨y1, hx2 r1⟩, r2⟩)
      · exact J_set (e := e + 1) (k := 2) (to := 2) (by decide) (by rw [V3]; exact J) k2 (by rw [V3]; exact D) ic (by rw [V3]; exact im) E (by decide) (Or.inr ⟨x3, h1, x7, h5, X3, i1, y0, X4, Or.inr ⟨y1, hx2 r1⟩, r2⟩)
    · omega
  · skip
    obtain ⟨k2, k7⟩ := word (j := 1) (by decide) t1 w
    rcases key (k := 1) (by decide) k2 k7 with ⟨-, E⟩ | ⟨w5, -⟩
    · rcases ln_1 E3 V3 im l0 with ⟨x3, h1, X3, i1, y0, r1, r2, -, -⟩ | ⟨x3, h1, x7, h5, X3, i1, y0, X4, i5, y1, r1, r2, -, -⟩ | ⟨x3, h1, x7, h5, X3, i1, y0, X4, i5, y1, r1, r2, -, -⟩
      · exact J_set (e := e + 1) (k := 1) (to := 1) (by decide) (by rw [V3]; exact J) k2 (by rw [V3]; exact D) ic (by rw [V3]; exact im) E (by decide) (Or.inl ⟨x3, h1, X3, y0, hx2 r1, r2⟩)
      · exact J_set (e := e + 1) (k := 1) (to := 1) (by decide) (by rw [V3]; exact J) k2 (by rw [V3]; exact D) ic (by rw [V3]; exact im) E (by decide) (Or.inr ⟨x3, h1, x7, h5, X3, i1, y0, X4, Or.inl ⟨y1, hx2 r1⟩, r2⟩)
      · exact J_set (e := e + 1) (k := 1) (to := 1) (by decide) (by rw [V3]; exact J) k2 (by rw [V3]; exact D) ic (by rw [V3]; exact im) E (by decide) (Or.inr ⟨x3, h1, x7, h5, X3, i1, y0, X4, Or.inr ⟨y1, hx2 r1⟩, r2⟩)
    · omega
  · skip
    obtain ⟨k2, k7⟩ := word (j := 0) (by decide) t1 w
    rcases key (k := 0) (by decide) k2 k7 with ⟨-, E⟩ | ⟨w5, -⟩
    · rcases ln_0 E3 V3 im l0 with ⟨x3, h1, X3, i1, y0, r1, r2, -, -⟩ | ⟨x3, h1, x7, h5, X3, i1, y0, X4, i5, y1, r1, r2, -, -⟩ | ⟨x3, h1, x7, h5, X3, i1, y0, X4, i5, y1, r1, r2, -, -⟩
      · exact J_set (e := e + 1) (k := 0) (to := 0) (by decide) (by rw [V3]; exact J) k2 (by rw [V3]; exact D) ic (by rw [V3]; exact im) E (by decide) (Or.inl ⟨x3, h1, X3, y0, hx2 r1, r2⟩)
      · exact J_set (e := e + 1) (k := 0) (to := 0) (by decide) (by rw [V3]; exact J) k2 (by rw [V3]; exact D) ic (by rw [V3]; exact im) E (by decide) (Or.inr ⟨x3, h1, x7, h5, X3, i1, y0, X4, Or.inl ⟨y1, hx2 r1⟩, r2⟩)
      · exact J_set (e := e + 1) (k := 0) (to := 0) (by decide) (by rw [V3]; exact J) k2 (by rw [V3]; exact D) ic (by rw [V3]; exact im) E (by decide) (Or.inr ⟨x3, h1, x7, h5, X3, i1, y0, X4, Or.inr ⟨y1, hx2 r1⟩, r2⟩)
    · omega
/-- all LINES -/
theorem J_lines {rs1 rs2 : List Value} : ∀ (f i : Nat) (lo1 lo2 : List (Nat × Value)) (h1 h2 : ri_H) (Gc Gm : eh_W) (q : Nat → Nat) (o : Nat) (b : Nat → Int32), i + f = 901 → eh_e (ri_calE ri_md (d + 6)) md_43 14 lo1 [] h1 rs1 hc' → eh_V h1 = Gc → iC b n m Gc → ri_lk lo1 0 = some (.ref 4) → ri_lk lo1 1 = some (.int (nI i)) → eh_e (ri_calE ri_md (e + 6)) md_172 35 lo2 [] h2 rs2 hm' → eh_V h2 = Gm → iM b n m Gm → ri_lk lo2 0 = some (.ref 0) → JT n (2 * i) Gc Gm → DR q q o (eo q) Gc Gm → b 940 = nI i → (rs1 = [.int (-1)] ∧ rs2 = [.int (-1 - eh_i (eh_V hm') 0 16)] ∧ FL (eh_V hc') (eh_V hm') ∧ ∀ k i, k = 2 ∨ (7 ≤ k ∧ k < 100) → i < 1000 → eh_i (eh_V hm') k i = b (1000 * k + i)) ∨ (∃ (L : Nat) (q' : Nat → Nat) (o' : Nat) (hz : ri_H) (loz : List (Nat × Value)), L ≤ 900 ∧ rs1 = [.int (nI L)] ∧ eh_e (ri_calE ri_md (e + 6)) md_172 78 loz [] hz rs2 hm' ∧ (∃ b' : Nat → Int32, iM b' n m (eh_V hz) ∧ iC b' n m (eh_V hc') ∧ ∀ j, 940 < j → b' j = b j) ∧ ri_lk loz 0 = some (.ref 0) ∧ eh_i (eh_V hz) 0 19 = nI L ∧ DR q' q' o' (eo q') (eh_V hc') (eh_V hz)) := by
  intro f
  induction f with
  | zero =>
    intro i lo1 lo2 h1 h2 Gc Gm q o b hf E1 V1 ic a0 a1 E2 V2 im b0 J D hs
    exfalso
    obtain ⟨-, x, w1, w2, -⟩ := J
    have := ic.2.1.2.2.1
    omega
  | succ f ih =>
    intro i lo1 lo2 h1 h2 Gc Gm q o b hf E1 V1 ic a0 a1 E2 V2 im b0 J D hs
    have z1 := ll_i E1 V1 ic a0 a1
    have z2 := mk_i E2 V2 im b0
    rw [lx_i (a := i) (by omega)] at z1
    rcases J.k0 with ⟨k1, k2⟩ | ⟨k1, k2⟩
    · have c1 : rs1 = [.int (nI i)] ∧ eh_V hc' = Gc := by
        rcases z1 with ⟨w, -⟩ | ⟨_, _, -, w, -⟩ | ⟨_, _, _, _, -, w, -⟩ | ⟨_, _, _, _, -, w, -⟩ | ⟨_, _, -, w, -⟩ | ⟨_, _, _, _, -, w, -⟩ | ⟨_, _, _, _, -, w, -⟩ | ⟨_, _, -, w, -⟩ | ⟨_, _, _, _, -, w, -⟩ | ⟨_, _, _, _, -, w, -⟩ | ⟨-, -, r1, r2, -, -⟩
        · omega
        all_goals first | exact absurd k1 w | exact ⟨r1, r2⟩
      obtain ⟨r1, r2⟩ := c1
      rcases z2 with ⟨-, hz, loz, w1, w2, -, w4, w5⟩ | ⟨_, _, w, -⟩ | ⟨_, _, _, _, w, -⟩ | ⟨_, _, _, _, w, -⟩
      · exact Or.inr ⟨i, q, o, hz, loz, by omega, r1, w1, ⟨b, by rw [w2]; exact w4, by rw [r2]; exact ic, fun _ _ => rfl⟩, w5, by rw [w2]; exact im.2.1.2.2.2.2.2.2.2.1.trans hs, by rw [r2, w2]; exact D⟩
      · exact absurd k2 w
      · exact absurd k2 w
      · exact absurd k2 w
    · have c1 : ∃ (x5 : Int32) (h5 : ri_H), iC b n m (eh_V h5) ∧ ((¬ eh_i (eh_V h1) 2 5 = 2 ∧ ri_calE ri_md (d + 6) 44 [.ref 4, .int (-1)] h1 = some (some (.int x5), h5)) ∨ (eh_i (eh_V h1) 2 5 = 2 ∧ (eh_i (eh_V h1) 2 7).toInt < 5 ∧ ri_calE ri_md (d + 6) 44 [.ref 4, .int (eh_i (eh_V h1) 2 7)] h1 = some (some (.int x5), h5)) ∨ (eh_i (eh_V h1) 2 5 = 2 ∧ ¬ (eh_i (eh_V h1) 2 7).toInt < 5 ∧ ri_calE ri_md (d + 6) 46 [.ref 4, .int (eh_i (eh_V h1) 2 7 - 5)] h1 = some (some (.int x5), h5))) ∧ ((x5 = 0 ∧ rs1 = [.int (-1)] ∧ eh_V hc' = eh_V h5) ∨ (¬ x5 = 0 ∧ ∃ (x12 : Int32) (h10 : ri_H), ri_calE ri_md (d + 6) 82 [.ref 2, .int 59] h5 = some (some (.int x12), h10) ∧ iC b n m (eh_V h10) ∧ ((x12 = 0 ∧ rs1 = [.int (-1)] ∧ eh_V hc' = eh_V h10) ∨ (¬ x12 = 0 ∧ ∃ hz loz, eh_e (ri_calE ri_md (d + 6)) md_43 14 loz [] hz rs1 hc' ∧ eh_V hz = eh_V h10 ∧ ri_lk loz 0 = some (.ref 4) ∧ ri_lk loz 1 = some (.int (nI i + 1)))))) := by
        rw [V1]
        rcases z1 with ⟨w, -⟩ | ⟨x, g, -, -, y2, X, i5, y3, r1, r2, -, -⟩ | ⟨x, g, y, g2, -, -, y2, X, i5, y3, X2, i10, y4, hz, loz, w1, w2, -, -, w5, w6, -, -⟩ | ⟨x, g, y, g2, -, -, y2, X, i5, y3, X2, i10, y4, r1, r2, -, -⟩ | ⟨x, g, -, -, y2, y5, X, i5, y3, r1, r2, -, -⟩ | ⟨x, g, y, g2, -, -, y2, y5, X, i5, y3, X2, i10, y4, hz, loz, w1, w2, -, -, w5, w6, -, -⟩ | ⟨x, g, y, g2, -, -, y2, y5, X, i5, y3, X2, i10, y4, r1, r2, -, -⟩ | ⟨x, g, -, -, y2, y5, X, i5, y3, r1, r2, -, -⟩ | ⟨x, g, y, g2, -, -, y2, y5, X, i5, y3, X2, i10, y4, hz, loz, w1, w2, -, -, w5, w6, -, -⟩ | ⟨x, g, y, g2, -, -, y2, y5, X, i5, y3, X2, i10, y4, r1, r2, -, -⟩ | ⟨-, w, -⟩
        · omega
        · exact ⟨x, g, i5, Or.inl ⟨y2, X⟩, Or.inl ⟨y3, r1, r2⟩⟩
        · exact ⟨x, g, i5, Or.inl ⟨y2, X⟩, Or.inr ⟨y3, y, g2, X2, i10, Or.inr ⟨y4, hz, loz, w1, w2, w5, w6⟩⟩⟩
        · exact ⟨x, g, i5, Or.inl ⟨y2, X⟩, Or.inr ⟨y3, y, g2, X2, i10, Or.inl ⟨y4, r1, r2⟩⟩⟩
        · exact ⟨x, g, i5, Or.inr (Or.inl ⟨y2, y5, X⟩), Or.inl ⟨y3, r1, r2⟩⟩
        · exact ⟨x, g, i5, Or.inr (Or.inl ⟨y2, y5, X⟩), Or.inr ⟨y3, y, g2, X2, i10, Or.inr ⟨y4, hz, loz, w1, w2, w5, w6⟩⟩⟩
        · exact ⟨x, g, i5, Or.inr (Or.inl ⟨y2, y5, X⟩), Or.inr ⟨y3, y, g2, X2, i10, Or.inl ⟨y4, r1, r2⟩⟩⟩
        · exact ⟨x, g, i5, Or.inr (Or.inr ⟨y2, y5, X⟩), Or.inl ⟨y3, r1, r2⟩⟩
        · exact ⟨x, g, i5, Or.inr (Or.inr ⟨y2, y5, X⟩), Or.inr ⟨y3, y, g2, X2, i10, Or.inr ⟨y4, hz, loz, w1, w2, w5, w6⟩⟩⟩
        · exact ⟨x, g, i5, Or.inr (Or.inr ⟨y2, y5, X⟩), Or.inr ⟨y3, y, g2, X2, i10, Or.inl ⟨y4, r1, r2⟩⟩⟩
        · exact absurd w k1
      obtain ⟨x5, h5, i5, X, fin⟩ := c1
      have ln : ∀ {x4 : Int32} {h2' : ri_H}, ri_calE ri_md (e + 6) 170 [.ref 0] h2 = some (some (.int x4), h2') → LO n (2 * i + 1) x5 x4 (eh_V h5) (eh_V h2') := fun Y => J_line (by rw [V1, V2]; exact J) (by rw [V1]; exact k1) (by rw [V1, V2]; exact D) (by rw [V1]; exact ic) (by rw [V2]; exact im) X Y
      have fr : ∀ {g : ri_H}, iM b n m (eh_V g) → eh_V hm' = eh_V g → ∀ k i, k = 2 ∨ (7 ≤ k ∧ k < 100) → i < 1000 → eh_i (eh_V hm') k i = b (1000 * k + i) := fun {g} h1 h2 => by
        rw [h2]
        exact h1.2.1.2.2.2.2.2.2.2.2
      rcases z2 with ⟨w, -⟩ | ⟨x4, g2, -, Y, j2, y4, s1, s2, -, j0⟩ | ⟨x4, g2, x8, g6, -, Y, j2, y4, Y2, j6, y8, hz2, loz2, e1, e2, -, e4, e5⟩ | ⟨x4, g2, x8, g6, -, Y, j2, y4, Y2, j6, y8, s1, s2, -, j0⟩
      · exact absurd w k2
      · rcases ln Y with ⟨l1, -, l3⟩ | ⟨-, l2, -⟩ | ⟨l1, -, l3, l4, l5⟩
        · rcases fin with ⟨-, r1, r2⟩ | ⟨w, -⟩
          · exact Or.inl ⟨r1, by rw [s1, s2], by rw [r2, s2]; exact l3, fr j0 s2⟩
          · exact absurd l1 w
        · rw [y4] at l2
          exact absurd l2 (by decide)
        · rcases fin with ⟨w, -⟩ | ⟨-, x12, h10, X2, i10, fin⟩
          · rw [w] at l1
            exact absurd l1 (by decide)
          · have out : x12 = 0 ∧ eh_V h10 = flt (eh_V h5) 1 := by
              rcases sp_82 X2 rfl i5 with ⟨-, r1, r2, -, -⟩ | ⟨-, -, r1, r2, -, -⟩ | ⟨_, _, w1, w2, -⟩
              · cases r1
                exact ⟨rfl, r2⟩
              · cases r1
                exact ⟨rfl, r2⟩
              · exact absurd ⟨w1, w2⟩ l5
            rcases fin with ⟨-, r1, r2⟩ | ⟨w, -⟩
            · refine Or.inl ⟨r1, by rw [s1, s2], ?_⟩
              rw [r2, s2, out.2]
              exact ⟨⟨l3.symm, l4, (show ¬ (1 : Int32) = 0 by decide)⟩, by rw [← s2]; exact fr j0 s2⟩
            · exact absurd out.1 w
      · rcases ln Y with ⟨-, l2, -⟩ | ⟨l1, -, l3, q', o', l4⟩ | ⟨-, l2, -⟩
        · exact absurd l2 y4
        · rcases fin with ⟨w, -⟩ | ⟨-, x12, h10, X2, i10, fin⟩
          · rw [w] at l1
            exact absurd l1 (by decide)
          · obtain ⟨f1, f2, -, -, y⟩ := J_sign l3 X2 Y2 i5 j2
            rcases y with ⟨-, w, -⟩ | ⟨w1, -, J2⟩
            · exact absurd w y8
            · rcases fin with ⟨w, -⟩ | ⟨-, hz, loz, u1, u2, u3, u4⟩
              · rw [w] at w1
                exact absurd w1 (by decide)
              · rw [lx_a1] at u4
                have D2 := DR_fr l4 (f1.mo pC_fd) (f2.mo pM_fd)
                obtain ⟨hz3, loz3, g1, g2', -, -, g5⟩ := mk_s e1 e2 e4.1 e5
                have en : eh_i (eh_V g6) 0 19 + 1 = nI (i + 1) := by rw [e4.2.1.2.2.2.2.2.2.2.1, hs, lx_a1]
                rw [en] at g2'
                have z9 := ih (i + 1) _ _ _ _ _ _ q' o' (bc b (nI (i + 1))) (by omega) u1 u2 (iC_c i10) u3 u4 g1 g2' (iM_c e4) g5 (J2.mo (by omega)) (DR_fr D2 eh_fr.rf (eh_fr.rf.up rfl)) bc_at
                rcases z9 with ⟨v1, v2, v3, v4⟩ | ⟨L, q1, o1, hz9, loz9, v1, v2, v3, ⟨b', v4, v5, v6⟩, v7⟩
                · exact Or.inl ⟨v1, v2, v3, fun k i' a c => (v4 k i' a c).trans (bc_gt (by omega))⟩
                · exact Or.inr ⟨L, q1, o1, hz9, loz9, v1, v2, v3, ⟨b', v4, v5, fun j hj => (v6 j hj).trans (bc_gt hj)⟩, v7⟩
        · exact absurd l2 y4
      · rcases ln Y with ⟨-, l2, -⟩ | ⟨l1, -, l3, q', o', l4⟩ | ⟨-, l2, -⟩
        · exact absurd l2 y4
        · rcases fin with ⟨w, -⟩ | ⟨-, x12, h10, X2, i10, fin⟩
          · rw [w] at l1
            exact absurd l1 (by decide)
          · obtain ⟨f1, f2, -, -, y⟩ := J_sign l3 X2 Y2 i5 j2
            rcases y with ⟨w1, -, w3⟩ | ⟨-, w, -⟩
            · rcases fin with ⟨-, r1, r2⟩ | ⟨w, -⟩
              · exact Or.inl ⟨r1, by rw [s1, s2], by rw [r2, s2]; exact w3, fr j0 s2⟩
              · exact absurd w1 w
            · rw [y8] at w
              exact absurd w (by decide)
        · exact absurd l2 y4
end LINES
