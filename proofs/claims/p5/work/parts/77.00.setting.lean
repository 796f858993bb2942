/-! a LINE that tells a setting, on both sides -/
def eo (q : Nat → Nat) : Nat := if q 1 + q 3 = 0 then 0 else 1
/-- how a LINE ends on both sides -/
def LO (n c : Nat) (x1 x2 : Int32) (Gc Gm : eh_W) : Prop := (x1 = 0 ∧ x2 = 0 ∧ FL Gc Gm) ∨ (x1 = 1 ∧ x2 = 1 ∧ JT n c Gc Gm ∧ ∃ q o, DR q q o (eo q) Gc Gm) ∨ (x1 = 1 ∧ x2 = 0 ∧ eh_i Gm 0 15 = 1 ∧ eh_i Gc 2 6 = eh_i Gm 0 16 ∧ ¬ (eh_i Gc 2 5 = 5 ∧ eh_i Gc 2 7 = 59))
theorem pC_td (k i : Nat) (h : pCd k i = false) : pCt k i = false := pC_tf k i (pC_fd k i h)
theorem pM_td (k i : Nat) (h : pMd k i = false) : pMt k i = false := pM_tf k i (pM_fd k i h)
section LINE
variable {d e n m c : Nat} {b : Nat → Int32} {hc hc' hm hm' : ri_H} {x1 x2 lo hi to : Int32} {q : Nat → Nat} {o : Nat}
theorem J_puts (J : JT n c (eh_V hc) (eh_V hm)) (E1 : ri_calE ri_md (d + 3) 83 [.ref 2, .int lo, .int hi] hc = some (some (.int x1), hc')) (E2 : ri_calE ri_md (e + 4) 165 [.ref 0, .int to, .int lo, .int hi] hm = some (some (.int x2), hm')) (ic : iC b n m (eh_V hc)) (im : iM b n m (eh_V hm)) :
    iC b n m (eh_V hc') ∧ eh_fr pCf (eh_V hc) (eh_V hc') ∧ ((x1 = -1 ∧ x2 = 0 ∧ FL (eh_V hc') (eh_V hm')) ∨ (¬ x1 = -1 ∧ x2 = 1 ∧ lo.toInt ≤ x1.toInt ∧ x1.toInt ≤ hi.toInt ∧ 0 ≤ x1.toInt ∧ ∃ hn : ri_H, iM b n m (eh_V hn) ∧ eh_fr pMf (eh_V hm) (eh_V hn) ∧ JT n (c + 1) (eh_V hc') (eh_V hn) ∧ eh_V hm' = eh_u (eh_V hn) 3 to.toNatClampNeg (.int x1))) := by
  rcases sp_165 E2 rfl im with ⟨y, g1, X, i1, y0, r1, r2, -, -⟩ | ⟨y, g1, X, i1, y0, r1, r2, -, -⟩
  · obtain ⟨f1, f2, i2, i3, z⟩ := J_num J E1 X ic im
    refine ⟨i2, f1, ?_⟩
    rcases z with ⟨-, a2, -⟩ | ⟨a1, a2, a3, a4, a5, a6, a7⟩
    · exact absurd a2 y0
    · cases r1
      exact Or.inr ⟨fun x => by rw [x] at a6; exact absurd a6 (by decide), rfl, a4, a5, a6, g1, i1, f2, a7, by rw [r2, a3]⟩
  · obtain ⟨f1, f2, i2, i3, z⟩ := J_num J E1 X ic im
    refine ⟨i2, f1, ?_⟩
    rcases z with ⟨a1, a2, a3⟩ | ⟨a1, a2, -⟩
    · cases r1
      exact Or.inl ⟨a1, rfl, by rw [r2]; exact a3⟩
    · rw [y0] at a2
      exact absurd a2 (by decide)
theorem J_once {k : Nat} {p : Nat → Nat} {e' : Nat} (hk : k < 5) (D : DR q p o e' (eh_V hc) (eh_V hm)) (E2 : ri_calE ri_md (e + 3) 169 [.ref 0, .int (nI k)] hm = some (some (.int x2), hm')) (im : iM b n m (eh_V hm)) :
    (((k = 0 ∧ e' = 1) ∨ (eh_i (eh_V hc) 4 2 >>> (nI k &&& 31)) &&& 1 = 1) ∧ x2 = 0 ∧ eh_V hm' = eh_u (eh_u (eh_V hm) 0 15 (.int 3)) 0 16 (.int (eh_i (eh_V hm) 0 12))) ∨ (¬ ((k = 0 ∧ e' = 1) ∨ (eh_i (eh_V hc) 4 2 >>> (nI k &&& 31)) &&& 1 = 1) ∧ x2 = 1 ∧ ∃ h8 h9 : ri_H, eh_V h8 = eh_u (eh_V hm) 0 20 (.int (eh_i (eh_V hm) 0 20 ||| (1 <<< (nI k &&& 31)))) ∧ ri_calE ri_md (e + 2) 158 [.ref 0] h8 = some (none, h9) ∧ iM b n m (eh_V h9) ∧ eh_V hm' = eh_V h9) := by
  obtain ⟨o1, o2, o3, o4⟩ := D.2.2.2.2.2
  have z := (once_bit ⟨o, o1⟩ ⟨e', o2⟩ ⟨k, hk⟩).1
  dsimp only at z
  rw [o3]
  rcases sp_169 E2 rfl im with ⟨h8, h9, a1, a2, a3, a4, r1, r2, -, -⟩ | ⟨a1, r1, r2, -, -⟩
  · rw [o4] at a1
    cases r1
    exact Or.inr ⟨fun x => a1 (z.mpr x), rfl, h8, h9, a2, a3, a4, r2⟩
  · rw [o4] at a1
    cases r1
    exact Or.inl ⟨z.mp a1, rfl, r2⟩
theorem J_setM {k d2 e2 : Nat} {h9 h12 h14 h8 g1 g2 h5 : ri_H} {x16 x7 : Int32} {v2 : Option Value} (hk : k < 5) (J : JT n c (eh_V hc) (eh_V hm)) (hkd : eh_i (eh_V hc) 2 5 = 2) (D : DR q q o (eo q) (eh_V hc) (eh_V hm)) (ic : iC b n m (eh_V hc)) (im : iM b n m (eh_V hm))
    (v9 : eh_V h9 = eh_u (eh_V hc) 4 2 (.int (eh_i (eh_V hc) 4 2 ||| (1 <<< (nI k &&& 31))))) (X1 : ri_calE ri_md (d + 2) 74 [.ref 2] h9 = some (none, h12)) (i12 : iC b n m (eh_V h12)) (X2 : ri_calE ri_md (d2 + 3) 83 [.ref 2, .int (eh_x 3 k), .int (eh_x 4 k)] h12 = some (some (.int x16), h14))
    (v8 : eh_V h8 = eh_u (eh_V hm) 0 20 (.int (eh_i (eh_V hm) 0 20 ||| (1 <<< (nI k &&& 31))))) (X3 : ri_calE ri_md (e + 2) 158 [.ref 0] h8 = some (v2, g1)) (ig : iM b n m (eh_V g1)) (vg : eh_V g2 = eh_V g1) (X4 : ri_calE ri_md (e2 + 4) 165 [.ref 0, .int to, .int (eh_x 3 k), .int (eh_x 4 k)] g2 = some (some (.int x7), h5)) (hto : to.toNatClampNeg = ms k) (hz : k = 0 → ¬ eo q = 1) :
    (x16 = -1 ∧ x7 = 0 ∧ FL (eh_V h14) (eh_V h5)) ∨ (¬ x16 = -1 ∧ x7 = 1 ∧ JT n (c + 1) (eh_u (eh_V h14) 6 k (.int x16)) (eh_V h5) ∧ DR q q (o ||| 1 <<< k) (eo q) (eh_u (eh_V h14) 6 k (.int x16)) (eh_V h5) ∧ 0 ≤ x16.toInt ∧ x16.toInt ≤ (eh_x 4 k).toInt ∧ iC b n m (eh_u (eh_V h14) 6 k (.int x16)) ∧ iM b n m (eh_V h5) ∧ eh_i (eh_V h5) 3 (ms k) = x16) := by
  have i9 : iC b n m (eh_V h9) := by
    rw [v9]
    exact iC_u ic (ic.1.ui rfl) rfl
  have i8 : iM b n m (eh_V h8) := by
    rw [v8]
    exact iM_u im (im.1.ui rfl) rfl
  have D1 : DR q q (o ||| 1 <<< k) (eo q) (eh_V h9) (eh_V h8) := by
    rw [v9, v8]
    exact D_once hk D
  obtain ⟨J1, f1, f2⟩ := J_next J (by rw [hkd]; decide) X1 X3 i9 i8 (by rw [v9]; rfl) (by rw [v8]; rfl)
  have D2 := DR_fr D1 (f1.mo pC_td) (f2.mo pM_td)
  obtain ⟨i14, f3, z⟩ := J_puts (by rw [vg]; exact J1) X2 X4 i12 (by rw [vg]; exact ig)
  rcases z with z | ⟨a1, a2, a3, a4, a5, hn, in1, f4, J2, v5⟩
  · exact Or.inl z
  · rw [hto] at v5
    rw [vg] at f4
    have D3 := DR_fr D2 (f3.mo pC_fd) (f4.mo pM_fd)
    have s19 : eh_i (eh_V h14) 5 1 = eh_i (eh_V hn) 3 9 := by
      rcases D3.1.2.2.2.2.2.2 with ⟨-, y2, -, y4⟩ | ⟨-, -, y3⟩
      · rw [y2, y4]
      · exact y3
    have D4 := D_set (x := x16) hk D3 a5 (fun hk0 => by
      subst hk0
      have e1 : (eh_x 3 0).toInt = 1 := by decide
      have e2 : (eh_x 4 0).toInt = 8 := by decide
      omega) (fun _ => s19) (fun x => by
      have := hz x
      unfold eo at this
      split at this <;> omega)
    refine Or.inr ⟨a1, a2, ?_, by rw [v5]; exact D4, a5, a4, iC_u i14 (i14.1.ui rfl) rfl, ?_, by rw [v5]; exact eh_i_self _ _ _ _⟩
    · rw [v5]
      exact J2.mo (by omega)
    · rw [v5]
      exact iM_u in1 (in1.1.ui rfl) rfl
/-- one of the first four settings -/
theorem J_set {k : Nat} (hk : k < 4) (J : JT n c (eh_V hc) (eh_V hm)) (hkd : eh_i (eh_V hc) 2 5 = 2) (D : DR q q o (eo q) (eh_V hc) (eh_V hm)) (ic : iC b n m (eh_V hc)) (im : iM b n m (eh_V hm)) (E1 : ri_calE ri_md (d + 5) 44 [.ref 4, .int (nI k)] hc = some (some (.int x1), hc')) (hto : to.toNatClampNeg = ms k)
    (E2 : (∃ (x3 : Int32) (h1 : ri_H), ri_calE ri_md (e + 4) 169 [.ref 0, .int (nI k)] hm = some (some (.int x3), h1) ∧ x3 = 0 ∧ x2 = 0 ∧ eh_V hm' = eh_V h1) ∨ (∃ (x3 : Int32) (h1 : ri_H) (x7 : Int32) (h5 : ri_H), ri_calE ri_md (e + 4) 169 [.ref 0, .int (nI k)] hm = some (some (.int x3), h1) ∧ iM b n m (eh_V h1) ∧ ¬ x3 = 0 ∧ ri_calE ri_md (e + 4) 165 [.ref 0, .int to, .int (eh_x 3 k), .int (eh_x 4 k)] h1 = some (some (.int x7), h5) ∧ ((x7 = 0 ∧ x2 = 0) ∨ (¬ x7 = 0 ∧ x2 = 1)) ∧ eh_V hm' = eh_V h5)) : LO n (c + 1) x1 x2 (eh_V hc') (eh_V hm') := by
  obtain ⟨q7, q5⟩ := D.2.1
  have m1 : mx 1 = 8 := rfl
  have m3 : mx 3 = 6 := rfl
  have c1 := q7 1 (by decide)
  have c3 := q7 3 (by decide)
  have late : 0 < (eh_i (eh_V hc) 7 1 + eh_i (eh_V hc) 7 3).toInt ↔ eo q = 1 := by
    rw [c1.1, c3.1, show nI (q 1) + nI (q 3) = nI (q 1 + q 3) from (Int32.ofNat_add _ _).symm, lx_i (by omega)]
    unfold eo
    split <;> omega
  have k0 : nI k = 0 ↔ k = 0 := ⟨fun x => lx_inj (b := 0) (by omega) (by omega) x, fun x => by rw [x]; rfl⟩
  have k4 : nI k = 4 → k = 4 := fun x => lx_inj (b := 4) (by omega) (by omega) x
  have ki : (nI k).toInt = (k : Int) := lx_i (by omega)
  have z := sp_44 E1 rfl ic
  rw [ki, lx_cl (a := k) (by omega)] at z
  have hit : ((k = 0 ∧ eo q = 1) ∨ (eh_i (eh_V hc) 4 2 >>> (nI k &&& 31)) &&& 1 = 1) → x1 = 0 ∧ eh_V hc' = eh_u (eh_u (eh_V hc) 2 9 (.int 3)) 2 10 (.int (eh_i (eh_V hc) 2 6)) := fun w => by
    rcases z with ⟨c, -⟩ | ⟨h9, h12, x16, h14, -, -, a1, a2, -⟩ | ⟨h9, h12, x16, h14, h19, x25, h23, -, -, a1, a2, -⟩ | ⟨h9, h12, x16, h14, h19, x25, h23, -, -, a1, a2, -⟩ | ⟨h9, h12, x16, h14, -, -, a1, a2, -⟩ | ⟨-, -, a1, a2, r1, r2, -, -⟩ | ⟨h9, h12, x16, h14, -, -, a1, a2, a3, -⟩ | ⟨h9, h12, x16, h14, -, -, a1, a2, a3, -⟩ | ⟨-, -, a1, a2, a3, r1, r2, -, -⟩ | ⟨-, -, a1, a2, r1, r2, -, -⟩ | ⟨-, c, -⟩
    · omega
    · rcases w with w | w
      · exact absurd (k0.mpr w.1) a1
      · exact absurd w a2
    · rcases w with w | w
      · exact absurd (k0.mpr w.1) a1
      · exact absurd w a2
    · rcases w with w | w
      · exact absurd (k0.mpr w.1) a1
      · exact absurd w a2
    · rcases w with w | w
      · exact absurd (k0.mpr w.1) a1
      · exact absurd w a2
    · cases r1
      exact ⟨rfl, r2⟩
    · rcases w with w | w
      · exact absurd (late.mpr w.2) a2
      · exact absurd w a3
    · rcases w with w | w
      · exact absurd (late.mpr w.2) a2
      · exact absurd w a3
    · cases r1
      exact ⟨rfl, r2⟩
    · cases r1
      exact ⟨rfl, r2⟩
    · omega
  have mis : ¬ ((k = 0 ∧ eo q = 1) ∨ (eh_i (eh_V hc) 4 2 >>> (nI k &&& 31)) &&& 1 = 1) → ∃ (h9 h12 : ri_H) (x16 : Int32) (h14 : ri_H), eh_V h9 = eh_u (eh_V hc) 4 2 (.int (eh_i (eh_V hc) 4 2 ||| (1 <<< (nI k &&& 31)))) ∧ ri_calE ri_md (d + 4) 74 [.ref 2] h9 = some (none, h12) ∧ iC b n m (eh_V h12) ∧ ri_calE ri_md (d + 4) 83 [.ref 2, .int (eh_x 3 k), .int (eh_x 4 k)] h12 = some (some (.int x16), h14) ∧ ((x16 = -1 ∧ x1 = 0 ∧ eh_V hc' = eh_V h14) ∨ (¬ x16 = -1 ∧ x1 = 1 ∧ eh_V hc' = eh_u (eh_V h14) 6 k (.int x16))) := fun w => by
    rcases z with ⟨c, -⟩ | ⟨h9, h12, x16, h14, -, -, a1, a2, a3, a4, a5, a6, a7, a8, a9, r1, r2, -, -⟩ | ⟨h9, h12, x16, h14, h19, x25, h23, -, -, a1, a2, a3, a4, a5, a6, a7, a8, a9, -⟩ | ⟨h9, h12, x16, h14, h19, x25, h23, -, -, a1, a2, a3, a4, a5, a6, a7, a8, a9, -⟩ | ⟨h9, h12, x16, h14, -, -, a1, a2, a3, a4, a5, a6, a7, a8, r1, r2, -, -⟩ | ⟨-, -, a1, a2, -⟩ | ⟨h9, h12, x16, h14, -, -, a1, a2, a22, a3, a4, a5, a6, a7, a8, r1, r2, -, -⟩ | ⟨h9, h12, x16, h14, -, -, a1, a2, a22, a3, a4, a5, a6, a7, a8, r1, r2, -, -⟩ | ⟨-, -, a1, a2, a3, -⟩ | ⟨-, -, a1, a2, -⟩ | ⟨-, c, -⟩
    · omega
    · cases r1
      exact ⟨h9, h12, x16, h14, a3, a4, a5, a6, Or.inr ⟨a8, rfl, r2⟩⟩
    · have := k4 a9
      omega
    · have := k4 a9
      omega
    · cases r1
      exact ⟨h9, h12, x16, h14, a3, a4, a5, a6, Or.inl ⟨a8, rfl, r2⟩⟩
    · exact absurd (Or.inr a2) w
    · cases r1
      exact ⟨h9, h12, x16, h14, a3, a4, a5, a6, Or.inr ⟨a8, rfl, r2⟩⟩
    · cases r1
      exact ⟨h9, h12, x16, h14, a3, a4, a5, a6, Or.inl ⟨a8, rfl, r2⟩⟩
    · exact absurd (Or.inr a3) w
    · exact absurd (Or.inl ⟨k0.mp a1, late.mp a2⟩) w
    · omega
  rcases E2 with ⟨x3, h1, X3, y1, y2, y3⟩ | ⟨x3, h1, x7, h5, X3, i1, y1, X4, y2, y3⟩
  · rcases J_once (k := k) (by omega) D X3 im with ⟨w, -, w2⟩ | ⟨-, w1, -⟩
    · obtain ⟨u1, u2⟩ := hit w
      obtain ⟨f1, -, -⟩ := J.fl u2 (y3.trans w2) (by decide)
      exact Or.inl ⟨u1, y2, f1⟩
    · rw [y1] at w1
      exact absurd w1 (by decide)
  · rcases J_once (k := k) (by omega) D X3 im with ⟨-, w1, -⟩ | ⟨w, -, h8, h9', v8, X5, i9, v6⟩
    · exact absurd w1 y1
    · obtain ⟨h9, h12, x16, h14, v9, X1, i12, X2, fin⟩ := mis w
      rcases J_setM (k := k) (by omega) J hkd D ic im v9 X1 i12 X2 v8 X5 i9 v6 X4 hto (fun x y => w (Or.inl ⟨x, y⟩)) with ⟨s1, s2, s3⟩ | ⟨s1, s2, s3, s4, -, -, -, -, -⟩
      · rcases fin with ⟨t1, t2, t3⟩ | ⟨t1, -⟩
        · rcases y2 with ⟨-, u2⟩ | ⟨u1, -⟩
          · exact Or.inl ⟨t2, u2, by rw [t3, y3]; exact s3⟩
          · exact absurd s2 u1
        · exact absurd s1 t1
      · rcases fin with ⟨t1, -⟩ | ⟨-, t2, t3⟩
        · exact absurd t1 s1
        · rcases y2 with ⟨u1, -⟩ | ⟨-, u2⟩
          · rw [u1] at s2
            exact absurd s2 (by decide)
          · exact Or.inr (Or.inl ⟨t2, u2, by rw [t3, y3]; exact s3, q, _, by rw [t3, y3]; exact s4⟩)
end LINE
