/-! readRun, keyOf, isSign, advance: by hand around their loops -/
def lx_F (b : Nat → Int32) (n a : Nat) : Int32 × Int32 × Int64 := lx_f b a (lx_rl b (n - a) a)
def lx_L (b : Nat → Int32) (n a : Nat) : Nat := lx_rl b (n - a) a
def lx_R (b : Nat → Int32) (n a : Nat) (vl kd' vl' : Int32) (cd' : Int64) : Prop := cd' = (lx_F b n a).2.2 ∧ (((lx_F b n a).1 = 0 ∧ lx_L b n a ≤ 7 ∧ kd' = 3 ∧ vl' = vl) ∨ (¬ ((lx_F b n a).1 = 0 ∧ lx_L b n a ≤ 7) ∧ (lx_F b n a).1 = nI (lx_L b n a) ∧ lx_L b n a ≤ 3 ∧ kd' = 4 ∧ vl' = (lx_F b n a).2.1) ∨ (¬ ((lx_F b n a).1 = 0 ∧ lx_L b n a ≤ 7) ∧ ¬ ((lx_F b n a).1 = nI (lx_L b n a) ∧ lx_L b n a ≤ 3) ∧ kd' = 1 ∧ vl' = vl))
abbrev rr_P (cal : eh_K) (rs : List Value) (h' : ri_H) (b : Nat → Int32) (s f k : Nat) (h : ri_H) (G : eh_W) : Prop := ∃ h1 lo1, eh_e cal md_75 103 lo1 [] h1 rs h' ∧ eh_fr pCr G (eh_V h1) ∧ eh_ty tC (eh_V h1) ∧ eh_N h1 = eh_N h ∧ eh_i (eh_V h1) 2 4 = nI (s + (k + lx_rl b f (s + k))) ∧ eh_l (eh_V h1) 2 8 = (lx_f b s (k + lx_rl b f (s + k))).2.2 ∧ ri_lk lo1 0 = some (.ref 2) ∧ ri_lk lo1 1 = some (.int (lx_f b s (k + lx_rl b f (s + k))).1) ∧ ri_lk lo1 2 = some (.int (lx_f b s (k + lx_rl b f (s + k))).2.1)
section RRL
variable {cal : eh_K} {rs : List Value} {h' : ri_H} {b : Nat → Int32} {n s : Nat}
theorem rr_lp (hn : n ≤ 940) : ∀ (f k : Nat) (lo : List (Nat × Value)) (h : ri_H) (G : eh_W), s + k + f = n → eh_e cal md_75 9 lo [] h rs h' → eh_V h = G → eh_ty tC G → eh_i G 2 2 = nI n → eh_i G 2 4 = nI (s + k) → eh_l G 2 8 = (lx_f b s k).2.2 → (∀ i, i < n → eh_i G 1 i = b i) → ri_lk lo 0 = some (.ref 2) → ri_lk lo 1 = some (.int (lx_f b s k).1) → ri_lk lo 2 = some (.int (lx_f b s k).2.1) →
    rr_P cal rs h' b s f k h G := by
  intro f
  induction f with
  | zero =>
    intro k lo h G hf E hV ty h2 h4 h8 hb l0 l1 l2
    have z := rr_i E hV ty l0 l1 l2
    rw [h4, h2, lx_i (a := s + k) (by omega), lx_i (a := n) (by omega)] at z
    rcases z with ⟨-, h1, lo1, E1, a1, a2, a3, a4, a5, a6⟩ | ⟨c, -⟩ | ⟨c, -⟩ | ⟨c, -⟩ | ⟨c, -⟩ | ⟨c, -⟩ | ⟨c, -⟩ | ⟨c, -⟩
    · exact ⟨h1, lo1, E1, by rw [a1]; exact eh_fr.rf, by rw [a1]; exact a3, a2, by rw [a1]; exact h4, by rw [a1]; exact h8, a4, a5, a6⟩
    all_goals omega
  | succ f ih =>
    intro k lo h G hf E hV ty h2 h4 h8 hb l0 l1 l2
    have hs : (lx_lt (b (s + k)) || lx_dg (b (s + k))) = true → lx_rl b (f + 1) (s + k) = lx_rl b f (s + (k + 1)) + 1 := fun e => by
      show (bif (lx_lt (b (s + k)) || lx_dg (b (s + k))) then lx_rl b f (s + k + 1) + 1 else 0) = _
      rw [e]
      rfl
    have ht : (lx_lt (b (s + k)) || lx_dg (b (s + k))) = false → lx_rl b (f + 1) (s + k) = 0 := fun e => by
      show (bif (lx_lt (b (s + k)) || lx_dg (b (s + k))) then lx_rl b f (s + k + 1) + 1 else 0) = _
      rw [e]
      rfl
    have fd : lx_dg (b (s + k)) = true → lx_f b s (k + 1) = ((lx_f b s k).1 + 1, (lx_f b s k).2.1 * 10 + (b (s + k) - 48), (lx_f b s k).2.2) := fun e => by
      show (bif lx_dg (b (s + k)) then _ else _) = _
      rw [e]
      rfl
    have ff : lx_dg (b (s + k)) = false → lx_f b s (k + 1) = ((lx_f b s k).1, (lx_f b s k).2.1, (lx_f b s k).2.2 * 32 + Int32.toInt64 (b (s + k) - 97 + 1)) := fun e => by
      show (bif lx_dg (b (s + k)) then _ else _) = _
      rw [e]
      rfl
    have nxt : ∀ (h1 : ri_H) (lo1 : List (Nat × Value)) (G1 : eh_W), (lx_lt (b (s + k)) || lx_dg (b (s + k))) = true → eh_e cal md_75 9 lo1 [] h1 rs h' → eh_V h1 = G1 → eh_fr pCr G G1 → eh_N h1 = eh_N h → eh_ty tC G1 → eh_i G1 2 4 = nI (s + k) + 1 → eh_l G1 2 8 = (lx_f b s (k + 1)).2.2 → ri_lk lo1 0 = some (.ref 2) → ri_lk lo1 1 = some (.int (lx_f b s (k + 1)).1) → ri_lk lo1 2 = some (.int (lx_f b s (k + 1)).2.1) → rr_P cal rs h' b s (f + 1) k h G := fun h1 lo1 G1 e E1 v1 fr n1 t1 g4 g8 m0 m1 m2 => by
      rw [lx_a1] at g4
      obtain ⟨h3, lo3, r1, r2, r3, r4, r5⟩ := ih (k + 1) lo1 h1 G1 (by omega) E1 v1 t1 ((fr.i rfl).trans h2) g4 g8 (fun i hi => (fr.i rfl).trans (hb i hi)) m0 m1 m2
      rw [show k + 1 + lx_rl b f (s + (k + 1)) = k + lx_rl b (f + 1) (s + k) by rw [hs e]; omega] at r5
      exact ⟨h3, lo3, r1, fr.tr r2, r3, r4.trans n1, r5⟩
    have stp : ∀ (h1 : ri_H) (lo1 : List (Nat × Value)), (lx_lt (b (s + k)) || lx_dg (b (s + k))) = false → eh_e cal md_75 103 lo1 [] h1 rs h' → eh_V h1 = G → eh_N h1 = eh_N h → eh_ty tC G → ri_lk lo1 0 = some (.ref 2) → ri_lk lo1 1 = some (.int (lx_f b s k).1) → ri_lk lo1 2 = some (.int (lx_f b s k).2.1) → rr_P cal rs h' b s (f + 1) k h G := fun h1 lo1 e E1 v1 n1 t1 m0 m1 m2 => by
      unfold rr_P
      rw [ht e]
      exact ⟨h1, lo1, E1, by rw [v1]; exact eh_fr.rf, by rw [v1]; exact t1, n1, by rw [v1]; exact h4, by rw [v1]; exact h8, m0, m1, m2⟩
    have z := rr_i E hV ty l0 l1 l2
    rw [h4, h2, lx_i (a := s + k) (by omega), lx_i (a := n) (by omega), lx_cl (a := s + k) (by omega), hb (s + k) (by omega), h8] at z
    rcases z with ⟨c, -⟩ | ⟨c, c1, c2, h1, lo1, E1, a1, a2, a3, a4, a5, a6, a7⟩ | ⟨c, c1, c2, c3, h1, lo1, E1, a1, a2, a3, a4, a5, a6, a7⟩ | ⟨c, c1, c2, c3, h1, lo1, E1, a1, a2, a3, a4, a5, a6, a7⟩ | ⟨c, c1, c2, c3, h1, lo1, E1, a1, a2, a3, a4, a5, a6, a7⟩ | ⟨c, c1, c2, c3, c4, h1, lo1, E1, a1, a2, a3, a4, a5, a6, a7⟩ | ⟨c, c1, c2, c3, c4, h1, lo1, E1, a1, a2, a3, a4, a5, a6, a7⟩ | ⟨c, c1, c2, h1, lo1, E1, a1, a2, a3, a4, a5, a6, a7⟩
    · omega
    · exact stp h1 lo1 (lx_nld (by omega) (by omega)) E1 a1 a2 ty a4 a5 a6
    · exact stp h1 lo1 (lx_nld (by omega) (by omega)) E1 a1 a2 ty a4 a5 a6
    · have e1 : lx_dg (b (s + k)) = false := lx_no (fun e => by have := lx_dg_iff.mp e; omega)
      have e2 : lx_lt (b (s + k)) = true := lx_lt_iff.mpr (by omega)
      exact nxt h1 lo1 _ (by rw [e2]; rfl) E1 a1 ((eh_fr.rf.up rfl).up rfl) a2 a3 rfl (by rw [ff e1]; rfl) a4 (by rw [ff e1]; exact a5) (by rw [ff e1]; exact a6)
    · exact stp h1 lo1 (lx_nld (by omega) (by omega)) E1 a1 a2 ty a4 a5 a6
    · exact stp h1 lo1 (lx_nld (by omega) (by omega)) E1 a1 a2 ty a4 a5 a6
    · have e1 : lx_dg (b (s + k)) = false := lx_no (fun e => by have := lx_dg_iff.mp e; omega)
      have e2 : lx_lt (b (s + k)) = true := lx_lt_iff.mpr (by omega)
      exact nxt h1 lo1 _ (by rw [e2]; rfl) E1 a1 ((eh_fr.rf.up rfl).up rfl) a2 a3 rfl (by rw [ff e1]; rfl) a4 (by rw [ff e1]; exact a5) (by rw [ff e1]; exact a6)
    · have e1 : lx_dg (b (s + k)) = true := lx_dg_iff.mpr (by omega)
      exact nxt h1 lo1 _ (by rw [e1, Bool.or_true]) E1 a1 (eh_fr.rf.up rfl) a2 a3 rfl (by rw [fd e1]; exact h8) a4 (by rw [fd e1]; exact a5) (by rw [fd e1]; exact a6)
end RRL
abbrev P_75 (b : Nat → Int32) (n a : Nat) (G : eh_W) (h h' : ri_H) (v : Option Value) : Prop := v = none ∧ eh_fr pCt G (eh_V h') ∧ eh_ty tC (eh_V h') ∧ eh_N h' = eh_N h ∧ eh_i (eh_V h') 2 6 = nI a ∧ eh_i (eh_V h') 2 4 = nI (a + lx_L b n a) ∧ lx_R b n a (eh_i G 2 7) (eh_i (eh_V h') 2 5) (eh_i (eh_V h') 2 7) (eh_l (eh_V h') 2 8)
theorem sp_75 {d : Nat} {h h' : ri_H} {v : Option Value} {G : eh_W} {b : Nat → Int32} {n a : Nat} (E : ri_calE ri_md (d + 1) 75 [.ref 2] h = some (v, h')) (hV : eh_V h = G) (ty : eh_ty tC G) (h2 : eh_i G 2 2 = nI n) (h4 : eh_i G 2 4 = nI a) (h6 : eh_i G 2 6 = nI a) (hb : ∀ i, i < n → eh_i G 1 i = b i) (hn : n ≤ 940) (ha : a ≤ n) : P_75 b n a G h h' v := by
  obtain ⟨rs, hrs, E⟩ := eh_in E (q := md_75) rfl
  obtain ⟨h1, lo1, E, hV, n1, t1, l0, l1, l2⟩ := rr_a E hV ty rfl
  obtain ⟨h3, lo2, E, fr, t2, n2, g4, g8, l0, l1, l2⟩ := rr_lp (s := a) (b := b) hn (n - a) 0 lo1 h1 _ (by omega) E hV t1 h2 h4 rfl hb l0 l1 l2
  rw [Nat.zero_add, Nat.add_zero] at g4 g8 l1 l2
  have hL : lx_L b n a ≤ n - a := lx_rl_le _ _ _
  have g4 : eh_i (eh_V h3) 2 4 = nI (a + lx_L b n a) := g4
  have g6 : eh_i (eh_V h3) 2 6 = nI a := (fr.i rfl).trans h6
  have g7 : eh_i (eh_V h3) 2 7 = eh_i G 2 7 := fr.i rfl
  have es : nI (a + lx_L b n a) - nI a = nI (lx_L b n a) := by
    rw [lx_sub (Nat.le_add_right _ _)]
    congr 1
    omega
  have ei : (nI (lx_L b n a)).toInt = (lx_L b n a : Int) := lx_i (by omega)
  have z := rr_z E rfl t2 l0 l1 l2
  rw [g4, g6, es, ei] at z
  have fd : (lx_f b a (lx_rl b (n - a) a)) = lx_F b n a := rfl
  rw [fd] at z g8
  have d3 : (lx_F b n a).1 = nI (lx_L b n a) → (lx_F b n a).1.toInt = (lx_L b n a : Int) := fun e => by rw [e]; exact ei
  have fr0 : eh_fr pCt G (eh_u G 2 8 (.long 0)) := eh_fr.rf.up rfl
  have fin : ∀ {G1 : eh_W}, rs = [] → eh_V h' = G1 → eh_N h' = eh_N h3 → eh_fr pCt (eh_V h3) G1 → eh_ty tC G1 → eh_i G1 2 6 = eh_i (eh_V h3) 2 6 → eh_i G1 2 4 = eh_i (eh_V h3) 2 4 → lx_R b n a (eh_i (eh_V h3) 2 7) (eh_i G1 2 5) (eh_i G1 2 7) (eh_l G1 2 8) → P_75 b n a G h h' v := fun {G1} r1 r2 r3 f1 t3 q6 q4 q => by
    subst r2
    refine ⟨by rw [← hrs, r1]; rfl, (fr0.tr (fr.mo pC_rt)).tr f1, t3, by rw [r3, n2, n1], q6.trans g6, q4.trans g4, ?_⟩
    rw [g7] at q
    exact q
  rcases z with ⟨c1, c2, r1, r2, r3⟩ | ⟨c1, c2, c3, r1, r2, r3⟩ | ⟨c1, c2, c3, r1, r2, r3⟩ | ⟨c1, c2, c3, r1, r2, r3⟩ | ⟨c1, c2, c3, c4, r1, r2, r3⟩ | ⟨c1, c2, c3, c4, r1, r2, r3⟩ | ⟨c1, c2, r1, r2, r3⟩
  · exact fin r1 r2 r3 (eh_fr.rf.up rfl) (t2.ui rfl) rfl rfl ⟨g8, Or.inr (Or.inr ⟨fun e => c1 e.1, fun e => c2 e.1, rfl, rfl⟩)⟩
  · exact fin r1 r2 r3 (eh_fr.rf.up rfl) (t2.ui rfl) rfl rfl ⟨g8, Or.inr (Or.inr ⟨fun e => c1 e.1, fun e => by have := d3 c2; omega, rfl, rfl⟩)⟩
  · exact fin r1 r2 r3 (((eh_fr.rf.up rfl).up rfl).up rfl) (((t2.ui rfl).ui rfl).ui rfl) rfl rfl ⟨g8, Or.inr (Or.inl ⟨fun e => c1 e.1, c2, by have := d3 c2; omega, rfl, rfl⟩)⟩
  · exact fin r1 r2 r3 (eh_fr.rf.up rfl) (t2.ui rfl) rfl rfl ⟨g8, Or.inr (Or.inr ⟨fun e => by omega, fun e => c3 e.1, rfl, rfl⟩)⟩
  · exact fin r1 r2 r3 (eh_fr.rf.up rfl) (t2.ui rfl) rfl rfl ⟨g8, Or.inr (Or.inr ⟨fun e => by omega, fun e => by have := d3 c3; omega, rfl, rfl⟩)⟩
  · exfalso
    have := d3 c3
    omega
  · exact fin r1 r2 r3 ((eh_fr.rf.up rfl).up rfl) ((t2.ui rfl).ui rfl) rfl rfl ⟨g8, Or.inl ⟨c1, by omega, rfl, rfl⟩⟩
/-- which key -/
def lx_k (G : eh_W) (co : Int64) (u : Int32) : Prop := (∃ k : Nat, k < 24 ∧ co = eh_l G 3 k ∧ u = nI k) ∨ ((∀ k, k < 24 → co ≠ eh_l G 3 k) ∧ u = -1)
section KKL
variable {cal : eh_K} {rs : List Value} {h' : ri_H} {G : eh_W} {co : Int64}
theorem kk_lp : ∀ (f k : Nat) (lo : List (Nat × Value)) (h : ri_H), k + f = 24 → (∀ i, i < k → co ≠ eh_l G 3 i) → eh_e cal md_76 2 lo [] h rs h' → eh_V h = G → eh_ty tC G → ri_lk lo 0 = some (.ref 2) → ri_lk lo 1 = some (.long co) → ri_lk lo 3 = some (.int (nI k)) → ∃ u, lx_k G co u ∧ rs = [.int u] ∧ eh_V h' = G ∧ eh_N h' = eh_N h := by
  intro f
  induction f with
  | zero =>
    intro k lo h hf hx E hV ty l0 l1 l3
    have z := kk_i E hV ty l0 l1 l3
    rw [lx_i (a := k) (by omega), lx_cl (a := k) (by omega)] at z
    rcases z with ⟨c, r1, r2, r3⟩ | ⟨c, -⟩ | ⟨c, -⟩
    · exact ⟨-1, Or.inr ⟨fun i hi => hx i (by omega), rfl⟩, r1, r2, r3⟩
    · omega
    · omega
  | succ f ih =>
    intro k lo h hf hx E hV ty l0 l1 l3
    have z := kk_i E hV ty l0 l1 l3
    rw [lx_i (a := k) (by omega), lx_cl (a := k) (by omega)] at z
    rcases z with ⟨c, r1, r2, r3⟩ | ⟨c, c2, h1, lo1, E1, a1, a2, a3, a4, a5, a6⟩ | ⟨c, c2, r1, r2, r3⟩
    · omega
    · rw [lx_a1] at a6
      have := ih (k + 1) lo1 h1 (by omega) (fun i hi => by
        by_cases e : i = k
        · subst e
          exact fun e => c2 e.symm
        · exact hx i (by omega)) E1 a1 a3 a4 a5 a6
      rw [a2] at this
      exact this
    · exact ⟨nI k, Or.inl ⟨k, by omega, c2.symm, rfl⟩, r1, r2, r3⟩
end KKL
theorem sp_76 {d : Nat} {h h' : ri_H} {v : Option Value} {G : eh_W} {co : Int64} (E : ri_calE ri_md (d + 1) 76 [.ref 2, .long co] h = some (v, h')) (hV : eh_V h = G) (ty : eh_ty tC G) : ∃ u : Int32, lx_k G co u ∧ v = some (.int u) ∧ eh_V h' = G ∧ eh_N h' = eh_N h := by
  obtain ⟨rs, hrs, E⟩ := eh_in E (q := md_76) rfl
  obtain ⟨h1, lo1, E, hV, n1, t1, l0, l1, l3⟩ := kk_a E hV ty rfl rfl
  obtain ⟨u, u1, u2, u3, u4⟩ := kk_lp 24 0 lo1 h1 rfl (fun i hi => absurd hi (Nat.not_lt_zero i)) E hV t1 l0 l1 l3
  exact ⟨u, u1, by rw [← hrs, u2]; rfl, u3, by rw [u4, n1]⟩
theorem sp_77 {d : Nat} {h h' : ri_H} {v : Option Value} {G : eh_W} {w : Int32} (E : ri_calE ri_md (d + 1) 77 [.int w] h = some (v, h')) (hV : eh_V h = G) (ty : eh_ty tC G) : (lx_sg w ∧ v = some (.int 1) ∧ eh_V h' = G ∧ eh_N h' = eh_N h) ∨ (¬ (lx_sg w) ∧ v = some (.int 0) ∧ eh_V h' = G ∧ eh_N h' = eh_N h) := by
  unfold lx_sg
  rcases sg_77 E hV ty with ⟨c1, r⟩ | ⟨c1, c2, r⟩ | ⟨c1, c2, c3, r⟩ | ⟨c1, c2, c3, c4, r⟩ | ⟨c1, c2, c3, c4, c5, r⟩ | ⟨c1, c2, c3, c4, c5, c6, r⟩ | ⟨c1, c2, c3, c4, c5, c6, r⟩
  · exact Or.inl ⟨Or.inl c1, r⟩
  · exact Or.inl ⟨Or.inr (Or.inl c2), r⟩
  · exact Or.inl ⟨Or.inr (Or.inr (Or.inl c3)), r⟩
  · exact Or.inl ⟨Or.inr (Or.inr (Or.inr (Or.inl c4))), r⟩
  · exact Or.inl ⟨Or.inr (Or.inr (Or.inr (Or.inr (Or.inl c5)))), r⟩
  · refine Or.inr ⟨fun e => ?_, r⟩
    rcases e with e | e | e | e | e | e
    · exact c1 e
    · exact c2 e
    · exact c3 e
    · exact c4 e
    · exact c5 e
    · exact c6 e
  · exact Or.inl ⟨Or.inr (Or.inr (Or.inr (Or.inr (Or.inr c6)))), r⟩
abbrev ad_P (cal : eh_K) (rs : List Value) (h' : ri_H) (b : Nat → Int32) (s f a : Nat) (h : ri_H) (G : eh_W) : Prop := ∃ h1 lo1, eh_e cal md_74 61 lo1 [] h1 rs h' ∧ eh_fr (fun k i => Nat.beq k 2 && Nat.beq i 4) G (eh_V h1) ∧ eh_ty tC (eh_V h1) ∧ eh_N h1 = eh_N h ∧ eh_i (eh_V h1) 2 4 = nI (lx_sk b f a) ∧ ri_lk lo1 0 = some (.ref 2) ∧ ri_lk lo1 1 = some (.int (nI s))
section ADL
variable {cal : eh_K} {rs : List Value} {h' : ri_H} {b : Nat → Int32} {n s : Nat}
theorem ad_lp (hs : s ≤ n) (hn : n ≤ 940) : ∀ (f a : Nat) (lo : List (Nat × Value)) (h : ri_H) (G : eh_W), a ≤ n → f = s - a → eh_e cal md_74 12 lo [] h rs h' → eh_V h = G → eh_ty tC G → eh_i G 2 4 = nI a → (∀ i, i < n → eh_i G 1 i = b i) → ri_lk lo 0 = some (.ref 2) → ri_lk lo 1 = some (.int (nI s)) →
    ad_P cal rs h' b s f a h G := by
  intro f
  induction f with
  | zero =>
    intro a lo h G han hf E hV ty h4 hb l0 l1
    have z := ad_i E hV ty l0 l1
    rw [h4, lx_i (a := a) (by omega), lx_i (a := s) (by omega)] at z
    rcases z with ⟨-, h1, lo1, E1, a1, a2, a3, a4, a5⟩ | ⟨c, -⟩ | ⟨c, -⟩ | ⟨c, -⟩
    · exact ⟨h1, lo1, E1, by rw [a1]; exact eh_fr.rf, by rw [a1]; exact a3, a2, by rw [a1]; exact h4, a4, a5⟩
    all_goals omega
  | succ f ih =>
    intro a lo h G han hf E hV ty h4 hb l0 l1
    have z := ad_i E hV ty l0 l1
    rw [h4, lx_i (a := a) (by omega), lx_i (a := s) (by omega), lx_cl (a := a) (by omega), hb a (by omega)] at z
    have nxt : ∀ (h1 : ri_H) (lo1 : List (Nat × Value)), lx_bl (b a) = true → eh_e cal md_74 12 lo1 [] h1 rs h' → eh_V h1 = eh_u G 2 4 (.int (nI a + 1)) → eh_N h1 = eh_N h → eh_ty tC (eh_u G 2 4 (.int (nI a + 1))) → ri_lk lo1 0 = some (.ref 2) → ri_lk lo1 1 = some (.int (nI s)) → ad_P cal rs h' b s (f + 1) a h G := fun h1 lo1 e E1 v1 n1 t1 m0 m1 => by
      have fr : eh_fr (fun k i => Nat.beq k 2 && Nat.beq i 4) G (eh_u G 2 4 (.int (nI a + 1))) := eh_fr.rf.up rfl
      obtain ⟨h3, lo3, r1, r2, r3, r4, r5⟩ := ih (a + 1) lo1 h1 _ (by omega) (by omega) E1 v1 t1 (lx_a1 a) (fun i hi => (fr.i rfl).trans (hb i hi)) m0 m1
      rw [show lx_sk b f (a + 1) = lx_sk b (f + 1) a by
        show _ = bif lx_bl (b a) then lx_sk b f (a + 1) else a
        rw [e]
        rfl] at r5
      exact ⟨h3, lo3, r1, fr.tr r2, r3, r4.trans n1, r5⟩
    rcases z with ⟨c, -⟩ | ⟨c, c1, h1, lo1, E1, a1, a2, a3, a4, a5⟩ | ⟨c, c1, c2, h1, lo1, E1, a1, a2, a3, a4, a5⟩ | ⟨c, c1, c2, h1, lo1, E1, a1, a2, a3, a4, a5⟩
    · omega
    · exact nxt h1 lo1 (lx_bl_iff.mpr (Or.inl c1)) E1 a1 a2 a3 a4 a5
    · unfold ad_P
      rw [show lx_sk b (f + 1) a = a by
        show (bif lx_bl (b a) then lx_sk b f (a + 1) else a) = _
        rw [lx_no (fun e => (lx_bl_iff.mp e).elim c1 c2)]
        rfl]
      exact ⟨h1, lo1, E1, by rw [a1]; exact eh_fr.rf, by rw [a1]; exact a3, a2, by rw [a1]; exact h4, a4, a5⟩
    · exact nxt h1 lo1 (lx_bl_iff.mpr (Or.inr c2)) E1 a1 a2 a3 a4 a5
end ADL
