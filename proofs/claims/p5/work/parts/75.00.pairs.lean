/-! pairs of methods: TOKENS, FAULTS, numbers, signs -/
section JKS
variable {n c : Nat} {Gc Gm : eh_W}
theorem JT.mo {c' : Nat} (J : JT n c Gc Gm) (h : c' ≤ c) : JT n c' Gc Gm := by
  obtain ⟨a, x, x1, x2, x3⟩ := J
  refine ⟨a, x, x1, by omega, ?_⟩
  rcases x3 with y | y | ⟨y0, y⟩
  · exact Or.inl y
  · exact Or.inr (Or.inl y)
  · exact Or.inr (Or.inr ⟨by omega, y⟩)
theorem JT.ks (J : JT n c Gc Gm) : (eh_i Gc 2 5 = 0 ∧ eh_i Gm 0 11 = 0) ∨ (eh_i Gc 2 5 = 1 ∧ eh_i Gm 0 11 = 4) ∨ (eh_i Gc 2 5 = 2 ∧ eh_i Gm 0 11 = 1 ∧ ∃ k, k < 24 ∧ eh_i Gc 2 7 = nI k ∧ eh_l Gm 0 17 = lx_Wd k) ∨ (eh_i Gc 2 5 = 3 ∧ eh_i Gm 0 11 = 1 ∧ VW (eh_l Gc 2 8) (eh_l Gm 0 17) ∧ ∀ k, k < 24 → eh_l Gm 0 17 ≠ lx_Wd k) ∨ (eh_i Gc 2 5 = 4 ∧ eh_i Gm 0 11 = 2 ∧ eh_i Gm 0 14 = eh_i Gc 2 7 ∧ 0 ≤ (eh_i Gc 2 7).toInt ∧ (eh_i Gc 2 7).toInt ≤ 999) ∨ (eh_i Gc 2 5 = 5 ∧ eh_i Gm 0 11 = 3 ∧ eh_i Gm 0 14 = eh_i Gc 2 7) := by
  obtain ⟨-, x, -, -, y | y | ⟨-, -, -, y | y | y | y⟩⟩ := J
  · exact Or.inl y
  · exact Or.inr (Or.inl y)
  · exact Or.inr (Or.inr (Or.inl y))
  · exact Or.inr (Or.inr (Or.inr (Or.inl y)))
  · exact Or.inr (Or.inr (Or.inr (Or.inr (Or.inl y))))
  · exact Or.inr (Or.inr (Or.inr (Or.inr (Or.inr y))))
theorem JT.k4 (J : JT n c Gc Gm) : (eh_i Gc 2 5 = 4 ∧ eh_i Gm 0 11 = 2 ∧ eh_i Gm 0 14 = eh_i Gc 2 7 ∧ 0 ≤ (eh_i Gc 2 7).toInt ∧ (eh_i Gc 2 7).toInt ≤ 999) ∨ (¬ eh_i Gc 2 5 = 4 ∧ ¬ eh_i Gm 0 11 = 2) := by
  rcases J.ks with ⟨a, b⟩ | ⟨a, b⟩ | ⟨a, b, -⟩ | ⟨a, b, -⟩ | ⟨a, b, d⟩ | ⟨a, b, -⟩
  all_goals first | exact Or.inl ⟨a, b, d⟩ | exact Or.inr ⟨by rw [a]; decide, by rw [b]; decide⟩
theorem JT.k5 (J : JT n c Gc Gm) : (eh_i Gc 2 5 = 5 ∧ eh_i Gm 0 11 = 3 ∧ eh_i Gm 0 14 = eh_i Gc 2 7) ∨ (¬ eh_i Gc 2 5 = 5 ∧ ¬ eh_i Gm 0 11 = 3) := by
  rcases J.ks with ⟨a, b⟩ | ⟨a, b⟩ | ⟨a, b, -⟩ | ⟨a, b, -⟩ | ⟨a, b, -⟩ | ⟨a, b, d⟩
  all_goals first | exact Or.inl ⟨a, b, d⟩ | exact Or.inr ⟨by rw [a]; decide, by rw [b]; decide⟩
theorem JT.k0 (J : JT n c Gc Gm) : (eh_i Gc 2 5 = 0 ∧ eh_i Gm 0 11 = 0) ∨ (¬ eh_i Gc 2 5 = 0 ∧ ¬ eh_i Gm 0 11 = 0) := by
  rcases J.ks with ⟨a, b⟩ | ⟨a, b⟩ | ⟨a, b, -⟩ | ⟨a, b, -⟩ | ⟨a, b, -⟩ | ⟨a, b, -⟩
  all_goals first | exact Or.inl ⟨a, b⟩ | exact Or.inr ⟨by rw [a]; decide, by rw [b]; decide⟩
theorem JT.k3 (J : JT n c Gc Gm) : (eh_i Gc 2 5 = 3 ∧ eh_i Gm 0 11 = 1 ∧ VW (eh_l Gc 2 8) (eh_l Gm 0 17) ∧ ∀ k, k < 24 → eh_l Gm 0 17 ≠ lx_Wd k) ∨ (¬ eh_i Gc 2 5 = 3 ∧ ¬ (eh_i Gm 0 11 = 1 ∧ ∀ k, k < 24 → eh_l Gm 0 17 ≠ lx_Wd k)) := by
  rcases J.ks with ⟨a, b⟩ | ⟨a, b⟩ | ⟨a, b, k, k1, k2, k3⟩ | ⟨a, b, d⟩ | ⟨a, b, -⟩ | ⟨a, b, -⟩
  · exact Or.inr ⟨by rw [a]; decide, fun e => by rw [b] at e; exact absurd e.1 (by decide)⟩
  · exact Or.inr ⟨by rw [a]; decide, fun e => by rw [b] at e; exact absurd e.1 (by decide)⟩
  · exact Or.inr ⟨by rw [a]; decide, fun e => e.2 k k1 k3⟩
  · exact Or.inl ⟨a, b, d⟩
  · exact Or.inr ⟨by rw [a]; decide, fun e => by rw [b] at e; exact absurd e.1 (by decide)⟩
  · exact Or.inr ⟨by rw [a]; decide, fun e => by rw [b] at e; exact absurd e.1 (by decide)⟩
/-- a FAULT is told alike -/
def FL (Gc Gm : eh_W) : Prop := eh_i Gc 2 9 = eh_i Gm 0 15 ∧ eh_i Gc 2 10 = eh_i Gm 0 16 ∧ ¬ eh_i Gc 2 9 = 0
theorem JT.fl (J : JT n c Gc Gm) {Hc Hm : eh_W} {f : Int32} (h1 : Hc = eh_u (eh_u Gc 2 9 (.int f)) 2 10 (.int (eh_i Gc 2 6))) (h2 : Hm = eh_u (eh_u Gm 0 15 (.int f)) 0 16 (.int (eh_i Gm 0 12))) (hf : ¬ f = 0) : FL Hc Hm ∧ eh_fr pCf Gc Hc ∧ eh_fr pMf Gm Hm := by
  subst h1 h2
  exact ⟨⟨rfl, J.1, hf⟩, (eh_fr.rf.up rfl).up rfl, (eh_fr.rf.up rfl).up rfl⟩
end JKS
section JNS
variable {d e n m c : Nat} {b : Nat → Int32} {hc hc' hm hm' : ri_H} {Gc Gm : eh_W} {v1 v2 : Option Value}
/-- the next TOKEN -/
theorem J_next (J : JT n c Gc Gm) (hk : 2 ≤ (eh_i Gc 2 5).toInt) (E1 : ri_calE ri_md (d + 2) 74 [.ref 2] hc = some (v1, hc')) (E2 : ri_calE ri_md (e + 2) 158 [.ref 0] hm = some (v2, hm')) (ic : iC b n m (eh_V hc)) (im : iM b n m (eh_V hm)) (h4 : eh_i (eh_V hc) 2 4 = eh_i Gc 2 4) (h4' : eh_i (eh_V hm) 0 4 = eh_i Gm 0 4) : JT n (c + 1) (eh_V hc') (eh_V hm') ∧ eh_fr pCt (eh_V hc) (eh_V hc') ∧ eh_fr pMt (eh_V hm) (eh_V hm') := by
  obtain ⟨-, x, x1, x2, y | y | ⟨y1, y2, y3, -⟩⟩ := J
  · rw [y.1] at hk
    exact absurd hk (by decide)
  · rw [y.1] at hk
    exact absurd hk (by decide)
  · obtain ⟨-, f1, -, -, T1⟩ := sp_74 E1 rfl ic (h4.trans y2) x1
    obtain ⟨-, f2, -, -, T2⟩ := sp_158 E2 rfl im (h4'.trans y3) x1
    exact ⟨(jt_lex ic.2.1.2.2.1 ic.2.1.2.2.2.1 x1 T1 T2).mo y1, f1, f2⟩
theorem J_first (E1 : ri_calE ri_md (d + 2) 74 [.ref 2] hc = some (v1, hc')) (E2 : ri_calE ri_md (e + 2) 158 [.ref 0] hm = some (v2, hm')) (ic : iC b n m (eh_V hc)) (im : iM b n m (eh_V hm)) (h4 : eh_i (eh_V hc) 2 4 = nI 0) (h4' : eh_i (eh_V hm) 0 4 = nI 0) : JT n 0 (eh_V hc') (eh_V hm') ∧ eh_fr pCt (eh_V hc) (eh_V hc') ∧ eh_fr pMt (eh_V hm) (eh_V hm') := by
  obtain ⟨-, f1, -, -, T1⟩ := sp_74 E1 rfl ic h4 (Nat.zero_le _)
  obtain ⟨-, f2, -, -, T2⟩ := sp_158 E2 rfl im h4' (Nat.zero_le _)
  exact ⟨jt_lex ic.2.1.2.2.1 ic.2.1.2.2.2.1 (Nat.zero_le _) T1 T2, f1, f2⟩
variable {lo hi x1 x2 w : Int32}
/-- a NUMBER -/
theorem J_num (J : JT n c (eh_V hc) (eh_V hm)) (E1 : ri_calE ri_md (d + 3) 83 [.ref 2, .int lo, .int hi] hc = some (some (.int x1), hc')) (E2 : ri_calE ri_md (e + 3) 164 [.ref 0, .int lo, .int hi] hm = some (some (.int x2), hm')) (ic : iC b n m (eh_V hc)) (im : iM b n m (eh_V hm)) :
    eh_fr pCf (eh_V hc) (eh_V hc') ∧ eh_fr pMf (eh_V hm) (eh_V hm') ∧ iC b n m (eh_V hc') ∧ iM b n m (eh_V hm') ∧ ((x1 = -1 ∧ x2 = 0 ∧ FL (eh_V hc') (eh_V hm')) ∨ (x1 = eh_i (eh_V hc) 2 7 ∧ x2 = 1 ∧ eh_i (eh_V hm') 0 18 = x1 ∧ lo.toInt ≤ x1.toInt ∧ x1.toInt ≤ hi.toInt ∧ 0 ≤ x1.toInt ∧ JT n (c + 1) (eh_V hc') (eh_V hm'))) := by
  have z1 := sp_83 E1 rfl ic
  have z2 := sp_164 E2 rfl im
  rcases J.k4 with ⟨k1, k2, k3, k4, -⟩ | ⟨k1, k2⟩
  · rw [k3] at z2
    rcases z1 with ⟨-, a1, r1, r2, -, r4⟩ | ⟨h8, -, a1, a2, X1, i8, r1, r2, -, r4⟩ | ⟨-, a1, a2, r1, r2, -, r4⟩ | ⟨a0, -⟩
    · rcases z2 with ⟨-, b1, s1, s2, -, s4⟩ | ⟨-, b1, -⟩ | ⟨g1, g2, -, b1, -⟩ | ⟨b0, -⟩
      · obtain ⟨f1, f2, f3⟩ := J.fl r2 s2 (by decide)
        cases r1
        cases s1
        exact ⟨f2, f3, by rw [r2]; exact r4, by rw [s2]; exact s4, Or.inl ⟨rfl, rfl, f1⟩⟩
      · omega
      · omega
      · exact absurd k2 b0
    · rcases z2 with ⟨-, b1, -⟩ | ⟨-, b1, b2, -⟩ | ⟨g1, g2, -, b1, b2, v20, X2, i23, s1, s2, -, s4⟩ | ⟨b0, -⟩
      · omega
      · omega
      · cases r1
        cases s1
        have im1 : iM b n m (eh_V g1) := by
          rw [v20]
          exact iM_u im (im.1.ui rfl) rfl
        obtain ⟨J2, f1, f2⟩ := J_next J (by rw [k1]; decide) X1 X2 ic im1 rfl (by rw [v20]; rfl)
        have e1 : eh_V hc' = eh_V h8 := r2
        have e2 : eh_V hm' = eh_V g2 := s2
        rw [e1, e2]
        have f0 : eh_fr pMf (eh_V hm) (eh_V g1) := by
          rw [v20]
          exact eh_fr.rf.up rfl
        refine ⟨f1.mo pC_tf, f0.tr (f2.mo pM_tf), i8, i23, Or.inr ⟨rfl, rfl, ?_, by omega, by omega, k4, J2⟩⟩
        rw [f2.i rfl, v20]
        rfl
      · exact absurd k2 b0
    · rcases z2 with ⟨-, b1, -⟩ | ⟨-, b1, b2, s1, s2, -, s4⟩ | ⟨g1, g2, -, b1, b2, -⟩ | ⟨b0, -⟩
      · omega
      · obtain ⟨f1, f2, f3⟩ := J.fl r2 s2 (by decide)
        cases r1
        cases s1
        exact ⟨f2, f3, by rw [r2]; exact r4, by rw [s2]; exact s4, Or.inl ⟨rfl, rfl, f1⟩⟩
      · omega
      · exact absurd k2 b0
    · exact absurd k1 a0
  · rcases z1 with ⟨a0, -⟩ | ⟨h8, a0, -⟩ | ⟨a0, -⟩ | ⟨-, r1, r2, -, r4⟩
    · exact absurd a0 k1
    · exact absurd a0 k1
    · exact absurd a0 k1
    · rcases z2 with ⟨b0, -⟩ | ⟨b0, -⟩ | ⟨g1, g2, b0, -⟩ | ⟨-, s1, s2, -, s4⟩
      · exact absurd b0 k2
      · exact absurd b0 k2
      · exact absurd b0 k2
      · obtain ⟨f1, f2, f3⟩ := J.fl r2 s2 (by decide)
        cases r1
        cases s1
        exact ⟨f2, f3, by rw [r2]; exact r4, by rw [s2]; exact s4, Or.inl ⟨rfl, rfl, f1⟩⟩
/-- a sign -/
theorem J_sign (J : JT n c (eh_V hc) (eh_V hm)) (E1 : ri_calE ri_md (d + 3) 82 [.ref 2, .int w] hc = some (some (.int x1), hc')) (E2 : ri_calE ri_md (e + 3) 162 [.ref 0, .int w] hm = some (some (.int x2), hm')) (ic : iC b n m (eh_V hc)) (im : iM b n m (eh_V hm)) :
    eh_fr pCf (eh_V hc) (eh_V hc') ∧ eh_fr pMf (eh_V hm) (eh_V hm') ∧ iC b n m (eh_V hc') ∧ iM b n m (eh_V hm') ∧ ((x1 = 0 ∧ x2 = 0 ∧ FL (eh_V hc') (eh_V hm')) ∨ (x1 = 1 ∧ x2 = 1 ∧ JT n (c + 1) (eh_V hc') (eh_V hm'))) := by
  have z1 := sp_82 E1 rfl ic
  have z2 := sp_162 E2 rfl im
  rcases J.k5 with ⟨k1, k2, k3⟩ | ⟨k1, k2⟩
  · rw [k3] at z2
    rcases z1 with ⟨a0, -⟩ | ⟨-, a1, r1, r2, -, r4⟩ | ⟨g1, g2, -, a1, v1, X1, i1, r1, r2, -, r4⟩
    · exact absurd k1 a0
    · rcases z2 with ⟨b0, -⟩ | ⟨-, b1, s1, s2, -, s4⟩ | ⟨g1, g2, -, b1, -⟩
      · exact absurd k2 b0
      · obtain ⟨f1, f2, f3⟩ := J.fl r2 s2 (by decide)
        cases r1
        cases s1
        exact ⟨f2, f3, by rw [r2]; exact r4, by rw [s2]; exact s4, Or.inl ⟨rfl, rfl, f1⟩⟩
      · exact absurd b1 a1
    · rcases z2 with ⟨b0, -⟩ | ⟨-, b1, -⟩ | ⟨g3, g4, -, b1, v3, X2, i2, s1, s2, -, s4⟩
      · exact absurd k2 b0
      · exact absurd a1 b1
      · cases r1
        cases s1
        have e1 : eh_V hc' = eh_V g2 := r2
        have e2 : eh_V hm' = eh_V g4 := s2
        obtain ⟨J2, f1, f2⟩ := J_next J (by rw [k1]; decide) X1 X2 (by rw [v1]; exact ic) (by rw [v3]; exact im) (by rw [v1]) (by rw [v3])
        rw [v1] at f1
        rw [v3] at f2
        rw [e1, e2]
        exact ⟨f1.mo pC_tf, f2.mo pM_tf, i1, i2, Or.inr ⟨rfl, rfl, J2⟩⟩
  · rcases z1 with ⟨-, r1, r2, -, r4⟩ | ⟨a0, -⟩ | ⟨g1, g2, a0, -⟩
    · rcases z2 with ⟨-, s1, s2, -, s4⟩ | ⟨b0, -⟩ | ⟨g1, g2, b0, -⟩
      · obtain ⟨f1, f2, f3⟩ := J.fl r2 s2 (by decide)
        cases r1
        cases s1
        exact ⟨f2, f3, by rw [r2]; exact r4, by rw [s2]; exact s4, Or.inl ⟨rfl, rfl, f1⟩⟩
      · exact absurd b0 k2
      · exact absurd b0 k2
    · exact absurd a0 k1
    · exact absurd a0 k1
end JNS
