/-! the lakes alike between two calls: the lake, the images' -/
def LQ (Gc Gm : eh_W) : Prop := (∃ q, LI q 23 2 0 Gc Gm) ∧ (eh_i Gc 143 3 = 0 ↔ eh_i Gm 17 0 = 0) ∧ (eh_i Gc 171 3 = 0 ↔ eh_i Gm 17 1 = 0) ∧ (¬ eh_i Gm 17 0 = 0 → ∃ q, LI q 144 15 0 Gc Gm) ∧ (¬ eh_i Gm 17 1 = 0 → ∃ q, LI q 172 15 355 Gc Gm)
/-- nothing of a lake at B has changed -/
theorem LI_kp {q : Nat → Nat} {B a o : Nat} {Gc Gm Hc Hm : eh_W} (h : LI q B a o Gc Gm) (c : ∀ k i, B ≤ k → k ≤ B + 8 → i < 64 → eh_i Hc k i = eh_i Gc k i) (m : ∀ j, j < 96 → eh_i Hm a (o + j) = eh_i Gm a (o + j)) : LI q B a o Hc Hm := LI_mv h (EC_of (fun k i h1 h2 h3 => by
  show eh_i Hc (B + k - 5) i = eh_i Gc (B + k - 5) i
  exact c _ i (by omega) (by omega) h3)) m
theorem LQ_kp {Gc Gm Hc Hm : eh_W} (h : LQ Gc Gm) (c : ∀ k i, (23 ≤ k ∧ k ≤ 31) ∨ (143 ≤ k ∧ k ≤ 152) ∨ (171 ≤ k ∧ k ≤ 180) → i < 64 → eh_i Hc k i = eh_i Gc k i) (m2 : ∀ j, j < 96 → eh_i Hm 2 j = eh_i Gm 2 j) (m15 : ∀ j, j < 451 → eh_i Hm 15 j = eh_i Gm 15 j) (m17 : ∀ j, j < 2 → eh_i Hm 17 j = eh_i Gm 17 j) : LQ Hc Hm := by
  obtain ⟨⟨q, h1⟩, h2, h3, h4, h5⟩ := h
  refine ⟨⟨q, LI_kp h1 (fun k i a b d => c k i (by omega) d) (fun j hj => by rw [Nat.zero_add]; exact m2 j hj)⟩, ?_, ?_, fun x => ?_, fun x => ?_⟩
  · rw [c 143 3 (by decide) (by decide), m17 0 (by decide)]
    exact h2
  · rw [c 171 3 (by decide) (by decide), m17 1 (by decide)]
    exact h3
  · rw [m17 0 (by decide)] at x
    obtain ⟨q', h6⟩ := h4 x
    exact ⟨q', LI_kp h6 (fun k i a b d => c k i (by omega) d) (fun j hj => m15 _ (by omega))⟩
  · rw [m17 1 (by decide)] at x
    obtain ⟨q', h6⟩ := h5 x
    exact ⟨q', LI_kp h6 (fun k i a b d => c k i (by omega) d) (fun j hj => m15 _ (by omega))⟩
section JIR
variable {d e : Nat} {hc hc' hm hm' : ri_H} {v1 v2 : Option Value} {y : Int32}
theorem y_cases (y : Int32) : y.toInt < 0 ∨ y = 0 ∨ y = 1 ∨ (¬ y.toInt < 0 ∧ ¬ y.toInt < 2 ∧ 1 < y.toInt) := by
  by_cases h0 : y.toInt < 0
  · exact Or.inl h0
  · by_cases h1 : y.toInt = 0
    · exact Or.inr (Or.inl (Int32.toInt_inj.mp h1))
    · by_cases h2 : y.toInt = 1
      · exact Or.inr (Or.inr (Or.inl (Int32.toInt_inj.mp h2)))
      · exact Or.inr (Or.inr (Or.inr ⟨h0, by omega, by omega⟩))
/-- image -/
theorem J_img (E1 : ri_calE ri_md (d + 2) 141 [.ref 0, .int y] hc = some (v1, hc')) (E2 : ri_calE ri_md (e + 2) 252 [.ref 0, .int y] hm = some (v2, hm')) (tc : eh_ty tC (eh_V hc)) (tm : eh_ty tM (eh_V hm)) (hl : (eh_N hc).take 209 = NCl) (Q : LQ (eh_V hc) (eh_V hm)) : LQ (eh_V hc') (eh_V hm') := by
  rcases y_cases y with h | rfl | rfl | ⟨h0, h1, h2⟩
  · obtain ⟨-, r1, -⟩ := imc_lo E1 rfl tc h hl
    obtain ⟨-, r2, -⟩ := imm_lo E2 rfl tm h
    rw [r1, r2]
    exact LQ_kp Q (fun _ _ _ _ => rfl) (fun _ _ => rfl) (fun _ _ => rfl) (fun _ _ => rfl)
  · obtain ⟨f, c, c3⟩ := c_im0 E1 rfl tc hl
    obtain ⟨m1, m2, m3, m4, m5⟩ := m_im0 E2 rfl tm
    obtain ⟨⟨q, q1⟩, q2, q3, q4, q5⟩ := Q
    refine ⟨⟨q, LI_kp q1 (fun k i a b _ => f.i (pR_out (Or.inl (by omega)))) (fun j _ => m3 _)⟩, ?_, ?_, fun _ => ⟨q, LI_mv q1 c (fun j hj => ?_)⟩, fun x => ?_⟩
    · rw [c3, m4]
    · rw [f.i (pR_out (Or.inr (by decide))), m5 1 (by decide)]
      exact q3
    · rw [m1 j (by omega), Nat.zero_add]
    · rw [m5 1 (by decide)] at x
      obtain ⟨q', q6⟩ := q5 x
      exact ⟨q', LI_kp q6 (fun k i a b _ => f.i (pR_out (Or.inr (by omega)))) (fun j hj => m2 _ (Or.inr (by omega)))⟩
  · obtain ⟨f, c, c3⟩ := c_im1 E1 rfl tc hl
    obtain ⟨m1, m2, m3, m4, m5⟩ := m_im1 E2 rfl tm
    obtain ⟨⟨q, q1⟩, q2, q3, q4, q5⟩ := Q
    refine ⟨⟨q, LI_kp q1 (fun k i a b _ => f.i (pR_out (Or.inl (by omega)))) (fun j _ => m3 _)⟩, ?_, ?_, fun x => ?_, fun _ => ⟨q, LI_mv q1 c (fun j hj => ?_)⟩⟩
    · rw [f.i (pR_out (Or.inl (by decide))), m5 0 (by decide)]
      exact q2
    · rw [c3, m4]
    · rw [m5 0 (by decide)] at x
      obtain ⟨q', q6⟩ := q4 x
      exact ⟨q', LI_kp q6 (fun k i a b _ => f.i (pR_out (Or.inl (by omega)))) (fun j hj => m2 _ (Or.inl (by omega)))⟩
    · rw [m1 j (by omega), Nat.zero_add]
  · obtain ⟨-, r1, -⟩ := imc_hi E1 rfl tc h0 h1 h2 hl
    obtain ⟨-, r2, -⟩ := imm_hi E2 rfl tm h0 h1 h2
    rw [r1, r2]
    exact LQ_kp Q (fun _ _ _ _ => rfl) (fun _ _ => rfl) (fun _ _ => rfl) (fun _ _ => rfl)
/-- restore -/
theorem J_rst (E1 : ri_calE ri_md (d + 2) 142 [.ref 0, .int y] hc = some (v1, hc')) (E2 : ri_calE ri_md (e + 2) 253 [.ref 0, .int y] hm = some (v2, hm')) (tc : eh_ty tC (eh_V hc)) (tm : eh_ty tM (eh_V hm)) (hl : (eh_N hc).take 209 = NCl) (Q : LQ (eh_V hc) (eh_V hm)) : LQ (eh_V hc') (eh_V hm') := by
  have im : eh_fr (pR 17 142) (eh_V hc) (eh_V hc') → (∀ i, eh_i (eh_V hm') 15 i = eh_i (eh_V hm) 15 i) → (∀ i, eh_i (eh_V hm') 17 i = eh_i (eh_V hm) 17 i) → (∃ q, LI q 23 2 0 (eh_V hc') (eh_V hm')) → LQ (eh_V hc') (eh_V hm') := fun f m15 m17 q1 => by
    obtain ⟨-, q2, q3, q4, q5⟩ := Q
    refine ⟨q1, ?_, ?_, fun x => ?_, fun x => ?_⟩
    · rw [f.i (pR_out (Or.inr (by decide))), m17]
      exact q2
    · rw [f.i (pR_out (Or.inr (by decide))), m17]
      exact q3
    · rw [m17] at x
      obtain ⟨q', q6⟩ := q4 x
      exact ⟨q', LI_kp q6 (fun k i a b _ => f.i (pR_out (Or.inr (by omega)))) (fun j _ => m15 _)⟩
    · rw [m17] at x
      obtain ⟨q', q6⟩ := q5 x
      exact ⟨q', LI_kp q6 (fun k i a b _ => f.i (pR_out (Or.inr (by omega)))) (fun j _ => m15 _)⟩
  rcases y_cases y with h | rfl | rfl | ⟨h0, h1, h2⟩
  · obtain ⟨-, r1, -⟩ := rec_lo E1 rfl tc h hl
    obtain ⟨-, r2, -⟩ := rem_lo E2 rfl tm h
    rw [r1, r2]
    exact LQ_kp Q (fun _ _ _ _ => rfl) (fun _ _ => rfl) (fun _ _ => rfl) (fun _ _ => rfl)
  · obtain ⟨f, c⟩ := c_re0 E1 rfl tc hl
    obtain ⟨m1, m2, m3⟩ := m_re0 E2 rfl tm
    refine im f m1 m2 ?_
    rcases c with ⟨z, c⟩ | ⟨z, c⟩
    · rcases m3 with ⟨-, m3⟩ | ⟨w, -⟩
      · obtain ⟨q, q1⟩ := Q.1
        exact ⟨q, LI_kp q1 (fun k i _ _ _ => by rw [c]) (fun j _ => m3 _)⟩
      · exact absurd (Q.2.1.mp z) w
    · rcases m3 with ⟨w, -⟩ | ⟨w, m3⟩
      · exact absurd (Q.2.1.mpr w) z
      · obtain ⟨q, q1⟩ := Q.2.2.2.1 w
        exact ⟨q, LI_mv q1 c (fun j hj => by rw [Nat.zero_add j, m3 j (by omega), Nat.zero_add])⟩
  · obtain ⟨f, c⟩ := c_re1 E1 rfl tc hl
    obtain ⟨m1, m2, m3⟩ := m_re1 E2 rfl tm
    refine im f m1 m2 ?_
    rcases c with ⟨z, c⟩ | ⟨z, c⟩
    · rcases m3 with ⟨-, m3⟩ | ⟨w, -⟩
      · obtain ⟨q, q1⟩ := Q.1
        exact ⟨q, LI_kp q1 (fun k i _ _ _ => by rw [c]) (fun j _ => m3 _)⟩
      · exact absurd (Q.2.2.1.mp z) w
    · rcases m3 with ⟨w, -⟩ | ⟨w, m3⟩
      · exact absurd (Q.2.2.1.mpr w) z
      · obtain ⟨q, q1⟩ := Q.2.2.2.2 w
        exact ⟨q, LI_mv q1 c (fun j hj => by rw [Nat.zero_add j, m3 j (by omega)])⟩
  · obtain ⟨-, r1, -⟩ := rec_hi E1 rfl tc h0 h1 h2 hl
    obtain ⟨-, r2, -⟩ := rem_hi E2 rfl tm h0 h1 h2
    rw [r1, r2]
    exact LQ_kp Q (fun _ _ _ _ => rfl) (fun _ _ => rfl) (fun _ _ => rfl) (fun _ _ => rfl)
/-- count answers alike -/
theorem J_cnt (E1 : ri_calE ri_md (d + 1) 143 [.ref 0, .int y] hc = some (v1, hc')) (E2 : ri_calE ri_md (e + 2) 254 [.ref 0, .int y] hm = some (v2, hm')) (tc : eh_ty tC (eh_V hc)) (tm : eh_ty tM (eh_V hm)) (Q : LQ (eh_V hc) (eh_V hm)) (hn : eh_i (eh_V hc) 0 1 = eh_i (eh_V hm) 0 2) : v1 = v2 := by
  obtain ⟨⟨q, ⟨s1, -, -, s2, s3, -⟩, ⟨s4, -⟩, -⟩, -⟩ := Q
  have s1 : eh_i (eh_V hc) 24 0 = eh_i (eh_V hm) 2 0 := s1
  have s2 : eh_i (eh_V hc) 24 1 = eh_i (eh_V hm) 2 1 := s2
  have s3 : eh_i (eh_V hc) 24 2 = eh_i (eh_V hm) 2 2 := s3
  have c4 : ∀ t, t < 4 → eh_i (eh_V hc) 25 t = eh_i (eh_V hm) 2 (0 + (3 + t)) := fun t ht => (s4 t ht).1.trans (s4 t ht).2.1.symm
  have k7 : y = 7 ↔ y.toInt = 7 := ⟨fun h => by rw [h]; decide, fun h => Int32.toInt_inj.mp h⟩
  have cl : ∀ k : Nat, y.toInt = k → k ≤ 7 → y.toNatClampNeg = k := fun k h _ => by
    show y.toInt.toNat = k
    omega
  have z1 := co_c E1 rfl tc
  have z2 := co_m E2 rfl tm
  rw [k7] at z2
  rcases z2 with ⟨a, b, r2, -⟩ | ⟨a, b, b2, r2, -⟩ | ⟨a, b, b2, r2, -⟩ | ⟨a, r2, -⟩
  · rcases z1 with ⟨-, r1, -⟩ | ⟨w, -⟩ | ⟨w, -⟩ | ⟨w, -⟩ | ⟨w, -⟩ | ⟨w, -⟩ | ⟨w, -⟩ | ⟨w, -⟩ | ⟨w, -⟩
    · rw [r1, r2]
    all_goals omega
  · rcases z1 with ⟨-, r1, -⟩ | ⟨w, -⟩ | ⟨w, -⟩ | ⟨w, -⟩ | ⟨w, -⟩ | ⟨w, -⟩ | ⟨w, -⟩ | ⟨w, -⟩ | ⟨w, -⟩
    · rw [r1, r2]
    all_goals omega
  · rcases z1 with ⟨w, -⟩ | ⟨w, r1, -⟩ | ⟨w, r1, -⟩ | ⟨w, r1, -⟩ | ⟨w, r1, -⟩ | ⟨w, r1, -⟩ | ⟨w, r1, -⟩ | ⟨w, r1, -⟩ | ⟨w, -⟩
    · omega
    · rw [r1, r2, cl 0 w (by decide), s1]
    · rw [r1, r2, cl 1 w (by decide), s2]
    · rw [r1, r2, cl 2 w (by decide), s3]
    · rw [r1, r2, cl 3 w (by decide), c4 0 (by decide)]
    · rw [r1, r2, cl 4 w (by decide), c4 1 (by decide)]
    · rw [r1, r2, cl 5 w (by decide), c4 2 (by decide)]
    · rw [r1, r2, cl 6 w (by decide), c4 3 (by decide)]
    · omega
  · rcases z1 with ⟨w, -⟩ | ⟨w, -⟩ | ⟨w, -⟩ | ⟨w, -⟩ | ⟨w, -⟩ | ⟨w, -⟩ | ⟨w, -⟩ | ⟨w, -⟩ | ⟨w, r1, -⟩
    · omega
    · omega
    · omega
    · omega
    · omega
    · omega
    · omega
    · omega
    · rw [r1, r2, hn]
end JIR
