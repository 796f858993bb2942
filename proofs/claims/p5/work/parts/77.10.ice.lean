/-! ice, on both sides -/
section ICE
variable {d e n m c : Nat} {b : Nat → Int32} {hc hc' hm hm' : ri_H} {x1 x2 : Int32} {q : Nat → Nat} {o : Nat}
/-- LONG -/
theorem J_iceL {h19 h23 h5 h10 : ri_H} {f x25 x12 w : Int32} {o' : Nat} (J : JT n c (eh_V h19) (eh_V h5)) (ic : iC b n m (eh_V h19)) (im : iM b n m (eh_V h5)) (D : DR q q o' (eo q) (eh_V h19) (eh_V h5)) (h8 : eh_i (eh_V h5) 3 8 = f) (h84 : eh_i (eh_V h19) 6 4 = f) (f0 : 0 ≤ f.toInt) (f99 : f.toInt ≤ 99) (E1 : ri_calE ri_md (d + 4) 45 [.ref 4, .int f] h19 = some (some (.int x25), h23)) (E2 : ri_calE ri_md (e + 4) 165 [.ref 0, .int 9, .int 1, .int w] h5 = some (some (.int x12), h10)) (hw : w = if 50 < f.toInt then 100 - f else 50) :
    (x25 = 0 ∧ x12 = 0 ∧ FL (eh_V h23) (eh_V h10)) ∨ (x25 = 1 ∧ x12 = 1 ∧ JT n c (eh_V h23) (eh_V h10) ∧ DR q q o' (eo q) (eh_V h23) (eh_V h10)) := by
  have e100 : (100 - f).toInt = 100 - f.toInt := by
    rw [Int32.toInt_sub]
    have : (100 : Int32).toInt = 100 := by decide
    rw [this]
    exact Int.bmod_eq_of_le (by omega) (by omega)
  have t9 : (9 : Int32).toNatClampNeg = 9 := by decide
  have fin : ∀ {g : ri_H} {y : Int32}, ri_calE ri_md (d + 3) 83 [.ref 2, .int 1, .int w] h19 = some (some (.int y), g) → ((y = -1 ∧ x25 = 0 ∧ eh_V h23 = eh_V g) ∨ (¬ y = -1 ∧ x25 = 1 ∧ eh_V h23 = eh_u (eh_V g) 5 1 (.int y))) → (x25 = 0 ∧ x12 = 0 ∧ FL (eh_V h23) (eh_V h10)) ∨ (x25 = 1 ∧ x12 = 1 ∧ JT n c (eh_V h23) (eh_V h10) ∧ DR q q o' (eo q) (eh_V h23) (eh_V h10)) := fun {g} {y0} X z => by
    obtain ⟨i1, f1, y⟩ := J_puts J X E2 ic im
    rcases y with ⟨a1, a2, a3⟩ | ⟨a1, a2, a3, a4, a5, hn, in1, f4, J2, v5⟩
    · rcases z with ⟨-, z2, z3⟩ | ⟨z1, -⟩
      · exact Or.inl ⟨z2, a2, by rw [z3]; exact a3⟩
      · exact absurd a1 z1
    · rcases z with ⟨z1, -⟩ | ⟨-, z2, z3⟩
      · exact absurd z1 a1
      · rw [t9] at v5
        have D3 := DR_fr D (f1.mo pC_fd) (f4.mo pM_fd)
        have n8 : eh_i (eh_V hn) 3 8 = f := (f4.i rfl).trans h8
        have n84 : eh_i (eh_V g) 6 4 = f := (f1.i rfl).trans h84
        have D4 := D_long (x := y0) D3 (by rw [n8]; exact f0) (by rw [n8, n84])
        refine Or.inr ⟨z2, a2, ?_, by rw [z3, v5]; exact D4⟩
        rw [z3, v5]
        exact J2.mo (by omega)
  rcases sp_45 E1 rfl ic with ⟨y, g, a1, X, i1, a2, r1, r2, -, -⟩ | ⟨y, g, a1, X, i1, a2, r1, r2, -, -⟩ | ⟨y, g, a1, X, i1, a2, r1, r2, -, -⟩ | ⟨y, g, a1, X, i1, a2, r1, r2, -, -⟩
  · rw [if_pos (by omega)] at hw
    subst hw
    cases r1
    exact fin X (Or.inr ⟨a2, rfl, r2⟩)
  · rw [if_pos (by omega)] at hw
    subst hw
    cases r1
    exact fin X (Or.inl ⟨a2, rfl, r2⟩)
  · rw [if_neg (by omega)] at hw
    subst hw
    cases r1
    exact fin X (Or.inr ⟨a2, rfl, r2⟩)
  · rw [if_neg (by omega)] at hw
    subst hw
    cases r1
    exact fin X (Or.inl ⟨a2, rfl, r2⟩)
theorem J_ice (J : JT n c (eh_V hc) (eh_V hm)) (hkd : eh_i (eh_V hc) 2 5 = 2) (D : DR q q o (eo q) (eh_V hc) (eh_V hm)) (ic : iC b n m (eh_V hc)) (im : iM b n m (eh_V hm)) (E1 : ri_calE ri_md (d + 5) 44 [.ref 4, .int (nI 4)] hc = some (some (.int x1), hc'))
    (E2 : (∃ (x3 : Int32) (h1 : ri_H), ri_calE ri_md (e + 4) 169 [.ref 0, .int (nI 4)] hm = some (some (.int x3), h1) ∧ x3 = 0 ∧ x2 = 0 ∧ eh_V hm' = eh_V h1) ∨ (∃ (x3 : Int32) (h1 : ri_H) (x7 : Int32) (h5 : ri_H), ri_calE ri_md (e + 4) 169 [.ref 0, .int (nI 4)] hm = some (some (.int x3), h1) ∧ iM b n m (eh_V h1) ∧ ¬ x3 = 0 ∧ ri_calE ri_md (e + 4) 165 [.ref 0, .int 8, .int 0, .int 99] h1 = some (some (.int x7), h5) ∧ ((x7 = 0 ∧ x2 = 0 ∧ eh_V hm' = eh_V h5) ∨ (¬ x7 = 0 ∧ ∃ (x12 : Int32) (h10 : ri_H), ri_calE ri_md (e + 4) 165 [.ref 0, .int 9, .int 1, .int (if 50 < (eh_i (eh_V h5) 3 8).toInt then 100 - eh_i (eh_V h5) 3 8 else 50)] h5 = some (some (.int x12), h10) ∧ ((x12 = 0 ∧ x2 = 0) ∨ (¬ x12 = 0 ∧ x2 = 1)) ∧ eh_V hm' = eh_V h10)))) : LO n (c + 1) x1 x2 (eh_V hc') (eh_V hm') := by
  have k4 : (nI 4 : Int32) = 4 := rfl
  have ki : (nI 4).toInt = 4 := by decide
  have kc : (nI 4).toNatClampNeg = 4 := by decide
  have x34 : eh_x 3 4 = 0 := by decide
  have x44 : eh_x 4 4 = 99 := by decide
  have z := sp_44 E1 rfl ic
  rw [ki, kc, x34, x44] at z
  have hit : ((4 = 0 ∧ eo q = 1) ∨ (eh_i (eh_V hc) 4 2 >>> (nI 4 &&& 31)) &&& 1 = 1) → x1 = 0 ∧ eh_V hc' = eh_u (eh_u (eh_V hc) 2 9 (.int 3)) 2 10 (.int (eh_i (eh_V hc) 2 6)) := fun w => by
    have w : (eh_i (eh_V hc) 4 2 >>> (nI 4 &&& 31)) &&& 1 = 1 := w.elim (fun x => absurd x.1 (by decide)) id
    rcases z with ⟨c, -⟩ | ⟨h9, h12, x16, h14, -, -, a1, a2, -⟩ | ⟨h9, h12, x16, h14, h19, x25, h23, -, -, a1, a2, -⟩ | ⟨h9, h12, x16, h14, h19, x25, h23, -, -, a1, a2, -⟩ | ⟨h9, h12, x16, h14, -, -, a1, a2, -⟩ | ⟨-, -, a1, a2, r1, r2, -, -⟩ | ⟨h9, h12, x16, h14, -, -, a1, -⟩ | ⟨h9, h12, x16, h14, -, -, a1, -⟩ | ⟨-, -, a1, -⟩ | ⟨-, -, a1, -⟩ | ⟨-, c, -⟩
    · omega
    · exact absurd w a2
    · exact absurd w a2
    · exact absurd w a2
    · exact absurd w a2
    · cases r1
      exact ⟨rfl, r2⟩
    · exact absurd a1 (by decide)
    · exact absurd a1 (by decide)
    · exact absurd a1 (by decide)
    · exact absurd a1 (by decide)
    · omega
  have mis : ¬ ((4 = 0 ∧ eo q = 1) ∨ (eh_i (eh_V hc) 4 2 >>> (nI 4 &&& 31)) &&& 1 = 1) → ∃ (h9 h12 : ri_H) (x16 : Int32) (h14 : ri_H), eh_V h9 = eh_u (eh_V hc) 4 2 (.int (eh_i (eh_V hc) 4 2 ||| (1 <<< (nI 4 &&& 31)))) ∧ ri_calE ri_md (d + 4) 74 [.ref 2] h9 = some (none, h12) ∧ iC b n m (eh_V h12) ∧ ri_calE ri_md (d + 4) 83 [.ref 2, .int (eh_x 3 4), .int (eh_x 4 4)] h12 = some (some (.int x16), h14) ∧ ((x16 = -1 ∧ x1 = 0 ∧ eh_V hc' = eh_V h14) ∨ (¬ x16 = -1 ∧ ∃ (h19 : ri_H) (x25 : Int32) (h23 : ri_H), eh_V h19 = eh_u (eh_V h14) 6 4 (.int x16) ∧ ri_calE ri_md (d + 4) 45 [.ref 4, .int x16] h19 = some (some (.int x25), h23) ∧ ((x25 = 0 ∧ x1 = 0) ∨ (¬ x25 = 0 ∧ x1 = 1)) ∧ eh_V hc' = eh_V h23)) := fun w => by
    rw [x34, x44]
    rcases z with ⟨c, -⟩ | ⟨h9, h12, x16, h14, -, -, a1, a2, a3, a4, a5, a6, a7, a8, a9, -⟩ | ⟨h9, h12, x16, h14, h19, x25, h23, -, -, a1, a2, a3, a4, a5, a6, a7, a8, a9, b1, b2, b3, b4, r1, r2, -, -⟩ | ⟨h9, h12, x16, h14, h19, x25, h23, -, -, a1, a2, a3, a4, a5, a6, a7, a8, a9, b1, b2, b3, b4, r1, r2, -, -⟩ | ⟨h9, h12, x16, h14, -, -, a1, a2, a3, a4, a5, a6, a7, a8, r1, r2, -, -⟩ | ⟨-, -, a1, a2, -⟩ | ⟨h9, h12, x16, h14, -, -, a1, -⟩ | ⟨h9, h12, x16, h14, -, -, a1, -⟩ | ⟨-, -, a1, -⟩ | ⟨-, -, a1, -⟩ | ⟨-, c, -⟩
    · omega
    · exact absurd k4 a9
    · cases r1
      exact ⟨h9, h12, x16, h14, a3, a4, a5, a6, Or.inr ⟨a8, h19, x25, h23, b1, b2, Or.inl ⟨b4, rfl⟩, r2⟩⟩
    · cases r1
      exact ⟨h9, h12, x16, h14, a3, a4, a5, a6, Or.inr ⟨a8, h19, x25, h23, b1, b2, Or.inr ⟨b4, rfl⟩, r2⟩⟩
    · cases r1
      exact ⟨h9, h12, x16, h14, a3, a4, a5, a6, Or.inl ⟨a8, rfl, r2⟩⟩
    · exact absurd (Or.inr a2) w
    · exact absurd a1 (by decide)
    · exact absurd a1 (by decide)
    · exact absurd a1 (by decide)
    · exact absurd a1 (by decide)
    · omega
  rcases E2 with ⟨x3, h1, X3, y1, y2, y3⟩ | ⟨x3, h1, x7, h5, X3, i1, y1, X4, y2⟩
  · rcases J_once (k := 4) (by omega) D X3 im with ⟨w, -, w2⟩ | ⟨-, w1, -⟩
    · obtain ⟨u1, u2⟩ := hit w
      obtain ⟨f1, -, -⟩ := J.fl u2 (y3.trans w2) (by decide)
      exact Or.inl ⟨u1, y2, f1⟩
    · rw [y1] at w1
      exact absurd w1 (by decide)
  · rcases J_once (k := 4) (by omega) D X3 im with ⟨-, w1, -⟩ | ⟨w, -, h8, h9', v8, X5, i9, v6⟩
    · exact absurd w1 y1
    · obtain ⟨h9, h12, x16, h14, v9, X1, i12, X2, fin⟩ := mis w
      rcases J_setM (k := 4) (by omega) J hkd D ic im v9 X1 i12 X2 v8 X5 i9 v6 (by rw [x34, x44]; exact X4) (by decide) (fun x => absurd x (by decide)) with ⟨s1, s2, s3⟩ | ⟨s1, s2, s3, s4, s5, s6, s7, s8, s9⟩
      · rcases fin with ⟨-, t2, t3⟩ | ⟨t1, -⟩
        · rcases y2 with ⟨-, u2, u3⟩ | ⟨u1, -⟩
          · exact Or.inl ⟨t2, u2, by rw [t3, u3]; exact s3⟩
          · exact absurd s2 u1
        · exact absurd s1 t1
      · rcases fin with ⟨t1, -⟩ | ⟨-, h19, x25, h23, t2, t3, t4, t5⟩
        · exact absurd t1 s1
        · rcases y2 with ⟨u1, -⟩ | ⟨-, x12, h10, u2, u3, u4⟩
          · rw [u1] at s2
            exact absurd s2 (by decide)
          · rw [x44] at s6
            have s9 : eh_i (eh_V h5) 3 8 = x16 := s9
            have f99 : x16.toInt ≤ 99 := by
              have : (99 : Int32).toInt = 99 := by decide
              omega
            rcases J_iceL (f := x16) (by rw [t2]; exact s3) (by rw [t2]; exact s7) s8 (by rw [t2]; exact s4) s9 (by rw [t2]; exact eh_i_self _ _ _ _) s5 f99 t3 u2 (by rw [s9]) with ⟨v1, v2, v3⟩ | ⟨v1, v2, v3, v4⟩
            · rcases t4 with ⟨-, t6⟩ | ⟨t6, -⟩
              · rcases u3 with ⟨-, u5⟩ | ⟨u5, -⟩
                · exact Or.inl ⟨t6, u5, by rw [t5, u4]; exact v3⟩
                · exact absurd v2 u5
              · exact absurd v1 t6
            · rcases t4 with ⟨t6, -⟩ | ⟨-, t6⟩
              · rw [t6] at v1
                exact absurd v1 (by decide)
              · rcases u3 with ⟨u5, -⟩ | ⟨-, u5⟩
                · rw [u5] at v2
                  exact absurd v2 (by decide)
                · exact Or.inr (Or.inl ⟨t6, u5, by rw [t5, u4]; exact v3, q, _, by rw [t5, u4]; exact v4⟩)
end ICE
