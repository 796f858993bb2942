/-! all LINES, on both sides: the names that were -/
theorem CN_D {q : Nat → Nat} {o : Nat} {Gc Gm : eh_W} (D : DR q q o (eo q) Gc Gm) : CN Gm := fun t ht => ⟨q t, Nat.le_trans (D.2.1.1 t ht).2.2 (mx_le ht), (D.2.1.1 t ht).2.1⟩
section LINES
variable {d e n m c : Nat} {b : Nat → Int32} {hc hc' hm hm' : ri_H} {x1 x2 : Int32} {q : Nat → Nat} {o : Nat}
theorem K_lines {rs1 rs2 : List Value} : ∀ (f i : Nat) (lo1 lo2 : List (Nat × Value)) (h1 h2 : ri_H) (Gc Gm : eh_W) (q : Nat → Nat) (o : Nat) (b : Nat → Int32), i + f = 901 → eh_e (ri_calE ri_md (d + 6)) md_43 14 lo1 [] h1 rs1 hc' → eh_V h1 = Gc → iC b n m Gc → ri_lk lo1 0 = some (.ref 4) → ri_lk lo1 1 = some (.int (nI i)) → eh_e (ri_calE ri_md (e + 6)) md_172 35 lo2 [] h2 rs2 hm' → eh_V h2 = Gm → iM b n m Gm → ri_lk lo2 0 = some (.ref 0) → JT n (2 * i) Gc Gm → DR q q o (eo q) Gc Gm → b 940 = nI i → (rs1 = [.int (-1)] ∧ rs2 = [.int (-1 - eh_i (eh_V hm') 0 16)] ∧ FL (eh_V hc') (eh_V hm') ∧ (∀ k i, k = 2 ∨ (7 ≤ k ∧ k < 100) → i < 1000 → eh_i (eh_V hm') k i = b (1000 * k + i)) ∧ KN Gm (eh_V hm')) ∨ (∃ (L : Nat) (q' : Nat → Nat) (o' : Nat) (hz : ri_H) (loz : List (Nat × Value)), L ≤ 900 ∧ rs1 = [.int (nI L)] ∧ eh_e (ri_calE ri_md (e + 6)) md_172 78 loz [] hz rs2 hm' ∧ (∃ b' : Nat → Int32, iM b' n m (eh_V hz) ∧ iC b' n m (eh_V hc') ∧ ∀ j, 940 < j → b' j = b j) ∧ ri_lk loz 0 = some (.ref 0) ∧ eh_i (eh_V hz) 0 19 = nI L ∧ DR q' q' o' (eo q') (eh_V hc') (eh_V hz) ∧ KN Gm (eh_V hz) ∧ NFm Gm (eh_V hz)) := by
  intro f
  induction f with
  | zero =>
    intro i lo1 lo2 h1 h2 Gc Gm q o b hf E1 V1 ic a0 a1 E2 V2 im b0 J D hs
    exfalso
    obtain ⟨-, x, w1, w2, -⟩ := J
    have := ic.2.1.2.2.1
    omega
  | succ f ih =>
    intro i lo1 lo2 h1 h2 Gc Gm q o b hf E1 V1 ic a0 a1 E2 V2 im b0 J D hs
    have z1 := ll_i E1 V1 ic a0 a1
    have z2 := mk_i E2 V2 im b0
    rw [lx_i (a := i) (by omega)] at z1
    rcases J.k0 with ⟨k1, k2⟩ | ⟨k1, k2⟩
    · have c1 : rs1 = [.int (nI i)] ∧ eh_V hc' = Gc := by
        rcases z1 with ⟨w, -⟩ | ⟨_, _, -, w, -⟩ | ⟨_, _, _, _, -, w, -⟩ | ⟨_, _, _, _, -, w, -⟩ | ⟨_, _, -, w, -⟩ | ⟨_, _, _, _, -, w, -⟩ | ⟨_, _, _, _, -, w, -⟩ | ⟨_, _, -, w, -⟩ | ⟨_, _, _, _, -, w, -⟩ | ⟨_, _, _, _, -, w, -⟩ | ⟨-, -, r1, r2, -, -⟩
        · omega
        all_goals first | exact absurd k1 w | exact ⟨r1, r2⟩
      obtain ⟨r1, r2⟩ := c1
      rcases z2 with ⟨-, hz, loz, w1, w2, -, w4, w5⟩ | ⟨_, _, w, -⟩ | ⟨_, _, _, _, w, -⟩ | ⟨_, _, _, _, w, -⟩
      · exact Or.inr ⟨i, q, o, hz, loz, by omega, r1, w1, ⟨b, by rw [w2]; exact w4, by rw [r2]; exact ic, fun _ _ => rfl⟩, w5, by rw [w2]; exact im.2.1.2.2.2.2.2.2.2.1.trans hs, by rw [r2, w2]; exact D, by rw [w2]; exact KN.rf, by rw [w2]; exact NFm.rf⟩
      · exact absurd k2 w
      · exact absurd k2 w
      · exact absurd k2 w
    · have c1 : ∃ (x5 : Int32) (h5 : ri_H), iC b n m (eh_V h5) ∧ ((¬ eh_i (eh_V h1) 2 5 = 2 ∧ ri_calE ri_md (d + 6) 44 [.ref 4, .int (-1)] h1 = some (some (.int x5), h5)) ∨ (eh_i (eh_V h1) 2 5 = 2 ∧ (eh_i (eh_V h1) 2 7).toInt < 5 ∧ ri_calE ri_md (d + 6) 44 [.ref 4, .int (eh_i (eh_V h1) 2 7)] h1 = some (some (.int x5), h5)) ∨ (eh_i (eh_V h1) 2 5 = 2 ∧ ¬ (eh_i (eh_V h1) 2 7).toInt < 5 ∧ ri_calE ri_md (d + 6) 46 [.ref 4, .int (eh_i (eh_V h1) 2 7 - 5)] h1 = some (some (.int x5), h5))) ∧ ((x5 = 0 ∧ rs1 = [.int (-1)] ∧ eh_V hc' = eh_V h5) ∨ (¬ x5 = 0 ∧ ∃ (x12 : Int32) (h10 : ri_H), ri_calE ri_md (d + 6) 82 [.ref 2, .int 59] h5 = some (some (.int x12), h10) ∧ iC b n m (eh_V h10) ∧ ((x12 = 0 ∧ rs1 = [.int (-1)] ∧ eh_V hc' = eh_V h10) ∨ (¬ x12 = 0 ∧ ∃ hz loz, eh_e (ri_calE ri_md (d + 6)) md_43 14 loz [] hz rs1 hc' ∧ eh_V hz = eh_V h10 ∧ ri_lk loz 0 = some (.ref 4) ∧ ri_lk loz 1 = some (.int (nI i + 1)))))) := by
        rw [V1]
        rcases z1 with ⟨w, -⟩ | ⟨x, g, -, -, y2, X, i5, y3, r1, r2, -, -⟩ | ⟨x, g, y, g2, -, -, y2, X, i5, y3, X2, i10, y4, hz, loz, w1, w2, -, -, w5, w6, -, -⟩ | ⟨x, g, y, g2, -, -, y2, X, i5, y3, X2, i10, y4, r1, r2, -, -⟩ | ⟨x, g, -, -, y2, y5, X, i5, y3, r1, r2, -, -⟩ | ⟨x, g, y, g2, -, -, y2, y5, X, i5, y3, X2, i10, y4, hz, loz, w1, w2, -, -, w5, w6, -, -⟩ | ⟨x, g, y, g2, -, -, y2, y5, X, i5, y3, X2, i10, y4, r1, r2, -, -⟩ | ⟨x, g, -, -, y2, y5, X, i5, y3, r1, r2, -, -⟩ | ⟨x, g, y, g2, -, -, y2, y5, X, i5, y3, X2, i10, y4, hz, loz, w1, w2, -, -, w5, w6, -, -⟩ | ⟨x, g, y, g2, -, -, y2, y5, X, i5, y3, X2, i10, y4, r1, r2, -, -⟩ | ⟨-, w, -⟩
        · omega
        · exact ⟨x, g, i5, Or.inl ⟨y2, X⟩, Or.inl ⟨y3, r1, r2⟩⟩
        · exact ⟨x, g, i5, Or.inl ⟨y2, X⟩, Or.inr ⟨y3, y, g2, X2, i10, Or.inr ⟨y4, hz, loz, w1, w2, w5, w6⟩⟩⟩
        · exact ⟨x, g, i5, Or.inl ⟨y2, X⟩, Or.inr ⟨y3, y, g2, X2, i10, Or.inl ⟨y4, r1, r2⟩⟩⟩
        · exact ⟨x, g, i5, Or.inr (Or.inl ⟨y2, y5, X⟩), Or.inl ⟨y3, r1, r2⟩⟩
        · exact ⟨x, g, i5, Or.inr (Or.inl ⟨y2, y5, X⟩), Or.inr ⟨y3, y, g2, X2, i10, Or.inr ⟨y4, hz, loz, w1, w2, w5, w6⟩⟩⟩
        · exact ⟨x, g, i5, Or.inr (Or.inl ⟨y2, y5, X⟩), Or.inr ⟨y3, y, g2, X2, i10, Or.inl ⟨y4, r1, r2⟩⟩⟩
        · exact ⟨x, g, i5, Or.inr (Or.inr ⟨y2, y5, X⟩), Or.inl ⟨y3, r1, r2⟩⟩
        · exact ⟨x, g, i5, Or.inr (Or.inr ⟨y2, y5, X⟩), Or.inr ⟨y3, y, g2, X2, i10, Or.inr ⟨y4, hz, loz, w1, w2, w5, w6⟩⟩⟩
        · exact ⟨x, g, i5, Or.inr (Or.inr ⟨y2, y5, X⟩), Or.inr ⟨y3, y, g2, X2, i10, Or.inl ⟨y4, r1, r2⟩⟩⟩
        · exact absurd w k1
      obtain ⟨x5, h5, i5, X, fin⟩ := c1
      have ln : ∀ {x4 : Int32} {h2' : ri_H}, ri_calE ri_md (e + 6) 170 [.ref 0] h2 = some (some (.int x4), h2') → LO n (2 * i + 1) x5 x4 (eh_V h5) (eh_V h2') := fun Y => J_line (by rw [V1, V2]; exact J) (by rw [V1]; exact k1) (by rw [V1, V2]; exact D) (by rw [V1]; exact ic) (by rw [V2]; exact im) X Y
      have kY : ∀ {x4 : Int32} {h2' : ri_H}, ri_calE ri_md (e + 6) 170 [.ref 0] h2 = some (some (.int x4), h2') → KN Gm (eh_V h2') := fun Y => by
        have := kn_170 Y (by rw [V2]; exact im) (by rw [V2]; exact CN_D D)
        rw [V2] at this
        exact this
      have nY : ∀ {x4 : Int32} {h2' : ri_H}, ri_calE ri_md (e + 6) 170 [.ref 0] h2 = some (some (.int x4), h2') → ¬ x4 = 0 → NFm Gm (eh_V h2') := fun Y y => by
        rcases nfm_170 Y (by rw [V2]; exact im) with z | z
        · cases z
          exact absurd rfl y
        · rw [V2] at z
          exact z
      have fr : ∀ {g : ri_H}, iM b n m (eh_V g) → eh_V hm' = eh_V g → ∀ k i, k = 2 ∨ (7 ≤ k ∧ k < 100) → i < 1000 → eh_i (eh_V hm') k i = b (1000 * k + i) := fun {g} h1 h2 => by
        rw [h2]
        exact h1.2.1.2.2.2.2.2.2.2.2
      rcases z2 with ⟨w, -⟩ | ⟨x4, g2, -, Y, j2, y4, s1, s2, -, j0⟩ | ⟨x4, g2, x8, g6, -, Y, j2, y4, Y2, j6, y8, hz2, loz2, e1, e2, -, e4, e5⟩ | ⟨x4, g2, x8, g6, -, Y, j2, y4, Y2, j6, y8, s1, s2, -, j0⟩
      · exact absurd w k2
      · rcases ln Y with ⟨l1, -, l3⟩ | ⟨-, l2, -⟩ | ⟨l1, -, l3, l4, l5⟩
        · rcases fin with ⟨-, r1, r2⟩ | ⟨w, -⟩
          · exact Or.inl ⟨r1, by rw [s1, s2], by rw [r2, s2]; exact l3, fr j0 s2, by rw [s2]; exact kY Y⟩
          · exact absurd l1 w
        · rw [y4] at l2
          exact absurd l2 (by decide)
        · rcases fin with ⟨w, -⟩ | ⟨-, x12, h10, X2, i10, fin⟩
          · rw [w] at l1
            exact absurd l1 (by decide)
          · have out : x12 = 0 ∧ eh_V h10 = flt (eh_V h5) 1 := by
              rcases sp_82 X2 rfl i5 with ⟨-, r1, r2, -, -⟩ | ⟨-, -, r1, r2, -, -⟩ | ⟨_, _, w1, w2, -⟩
              · cases r1
                exact ⟨rfl, r2⟩
              · cases r1
                exact ⟨rfl, r2⟩
              · exact absurd ⟨w1, w2⟩ l5
            rcases fin with ⟨-, r1, r2⟩ | ⟨w, -⟩
            · refine Or.inl ⟨r1, by rw [s1, s2], ?_⟩
              rw [r2, s2, out.2]
              exact ⟨⟨l3.symm, l4, (show ¬ (1 : Int32) = 0 by decide)⟩, (by rw [← s2]; exact fr j0 s2), kY Y⟩
            · exact absurd out.1 w
      · rcases ln Y with ⟨-, l2, -⟩ | ⟨l1, -, l3, q', o', l4⟩ | ⟨-, l2, -⟩
        · exact absurd l2 y4
        · rcases fin with ⟨w, -⟩ | ⟨-, x12, h10, X2, i10, fin⟩
          · rw [w] at l1
            exact absurd l1 (by decide)
          · obtain ⟨f1, f2, -, -, y⟩ := J_sign l3 X2 Y2 i5 j2
            rcases y with ⟨-, w, -⟩ | ⟨w1, -, J2⟩
            · exact absurd w y8
            · rcases fin with ⟨w, -⟩ | ⟨-, hz, loz, u1, u2, u3, u4⟩
              · rw [w] at w1
                exact absurd w1 (by decide)
              · rw [lx_a1] at u4
                have D2 := DR_fr l4 (f1.mo pC_fd) (f2.mo pM_fd)
                obtain ⟨hz3, loz3, g1, g2', -, -, g5⟩ := mk_s e1 e2 e4.1 e5
                have en : eh_i (eh_V g6) 0 19 + 1 = nI (i + 1) := by rw [e4.2.1.2.2.2.2.2.2.2.1, hs, lx_a1]
                rw [en] at g2'
                have z9 := ih (i + 1) _ _ _ _ _ _ q' o' (bc b (nI (i + 1))) (by omega) u1 u2 (iC_c i10) u3 u4 g1 g2' (iM_c e4) g5 (J2.mo (by omega)) (DR_fr D2 eh_fr.rf (eh_fr.rf.up rfl)) bc_at
                have k9 : ∀ {v : Value}, KN Gm (eh_u (eh_V g6) 0 19 v) := (kY Y).tr ((kn_162 Y2 j2).tr (KN.rf.u (Or.inl (by decide))))
                have n9 : ∀ {v : Value}, NFm Gm (eh_u (eh_V g6) 0 19 v) := by
                  intro v
                  refine NFm.u ((nY Y y4).tr ?_) (Or.inr (by decide))
                  rcases nfm_162 Y2 j2 with z | z
                  · cases z
                    exact absurd rfl y8
                  · exact z
                rcases z9 with ⟨v1, v2, v3, v4, v8⟩ | ⟨L, q1, o1, hz9, loz9, v1, v2, v3, ⟨b', v4, v5, v6⟩, v7, v8, v9, v10, v11⟩
                · exact Or.inl ⟨v1, v2, v3, fun k i' a c => (v4 k i' a c).trans (bc_gt (by omega)), k9.tr v8⟩
                · exact Or.inr ⟨L, q1, o1, hz9, loz9, v1, v2, v3, ⟨b', v4, v5, fun j hj => (v6 j hj).trans (bc_gt hj)⟩, v7, v8, v9, k9.tr v10, n9.tr v11⟩
        · exact absurd l2 y4
      · rcases ln Y with ⟨-, l2, -⟩ | ⟨l1, -, l3, q', o', l4⟩ | ⟨-, l2, -⟩
        · exact absurd l2 y4
        · rcases fin with ⟨w, -⟩ | ⟨-, x12, h10, X2, i10, fin⟩
          · rw [w] at l1
            exact absurd l1 (by decide)
          · obtain ⟨f1, f2, -, -, y⟩ := J_sign l3 X2 Y2 i5 j2
            rcases y with ⟨w1, -, w3⟩ | ⟨-, w, -⟩
            · rcases fin with ⟨-, r1, r2⟩ | ⟨w, -⟩
              · exact Or.inl ⟨r1, by rw [s1, s2], by rw [r2, s2]; exact w3, fr j0 s2, by rw [s2]; exact (kY Y).tr (kn_162 Y2 j2)⟩
              · exact absurd w1 w
            · rw [y8] at w
              exact absurd w (by decide)
        · exact absurd l2 y4
end LINES
