/-! names alike between two calls: the lake, the images' -/
def NK (q : Nat → Nat) (B a o : Nat) (nm : Nat → Int64) (Gc Gm : eh_W) : Prop := NB q ∧ (∀ t, t < 4 → eh_i Gm a (o + (3 + t)) = nI (q t)) ∧ NL q B Gc nm
def NQ (Gc Gm : eh_W) : Prop := (∃ q, NK q 23 2 0 (fun j => eh_l Gm 5 j) Gc Gm) ∧ (¬ eh_i Gm 17 0 = 0 → ∃ q, NK q 144 15 0 (fun j => eh_l Gm 16 (0 + j)) Gc Gm) ∧ (¬ eh_i Gm 17 1 = 0 → ∃ q, NK q 172 15 355 (fun j => eh_l Gm 16 (24 + j)) Gc Gm)
theorem NK_mv {q : Nat → Nat} {B a o B' a' o' : Nat} {nm nm' : Nat → Int64} {Gc Gm Hc Hm : eh_W} (h : NK q B a o nm Gc Gm) (c9 : ∀ i, i < 24 → eh_l Hc (B' + 9) i = eh_l Gc (B + 9) i) (c10 : ∀ i, i < 24 → eh_i Hc (B' + 10) i = eh_i Gc (B + 10) i) (c11 : ∀ i, i < 24 → eh_i Hc (B' + 11) i = eh_i Gc (B + 11) i) (m : ∀ j, j < 7 → eh_i Hm a' (o' + j) = eh_i Gm a (o + j)) (n : ∀ j, j < 24 → nm' j = nm j) : NK q B' a' o' nm' Hc Hm := ⟨h.1, fun t ht => (m (3 + t) (by omega)).trans (h.2.1 t ht), NL_mv h.1 h.2.2 c9 c10 c11 n⟩
theorem NQ_kp {Gc Gm Hc Hm : eh_W} (h : NQ Gc Gm) (c : ∀ k i, k = 32 ∨ k = 153 ∨ k = 181 → i < 24 → eh_l Hc k i = eh_l Gc k i) (c' : ∀ k i, k = 33 ∨ k = 34 ∨ k = 154 ∨ k = 155 ∨ k = 182 ∨ k = 183 → i < 24 → eh_i Hc k i = eh_i Gc k i) (m2 : ∀ j, j < 7 → eh_i Hm 2 j = eh_i Gm 2 j) (m15 : ∀ j, j < 362 → eh_i Hm 15 j = eh_i Gm 15 j) (m17 : ∀ j, j < 2 → eh_i Hm 17 j = eh_i Gm 17 j) (n5 : ∀ j, j < 24 → eh_l Hm 5 j = eh_l Gm 5 j) (n16 : ∀ j, j < 48 → eh_l Hm 16 j = eh_l Gm 16 j) : NQ Hc Hm := by
  obtain ⟨⟨q, h1⟩, h2, h3⟩ := h
  refine ⟨⟨q, NK_mv h1 (fun i hi => c _ i (by decide) hi) (fun i hi => c' _ i (by decide) hi) (fun i hi => c' _ i (by decide) hi) (fun j hj => by rw [Nat.zero_add]; exact m2 j hj) n5⟩, fun x => ?_, fun x => ?_⟩
  · rw [m17 0 (by decide)] at x
    obtain ⟨q', h6⟩ := h2 x
    exact ⟨q', NK_mv h6 (fun i hi => c _ i (by decide) hi) (fun i hi => c' _ i (by decide) hi) (fun i hi => c' _ i (by decide) hi) (fun j hj => m15 _ (by omega)) (fun j hj => n16 _ (by omega))⟩
  · rw [m17 1 (by decide)] at x
    obtain ⟨q', h6⟩ := h3 x
    exact ⟨q', NK_mv h6 (fun i hi => c _ i (by decide) hi) (fun i hi => c' _ i (by decide) hi) (fun i hi => c' _ i (by decide) hi) (fun j hj => m15 _ (by omega)) (fun j hj => n16 _ (by omega))⟩
section NIR
variable {d e : Nat} {hc hc' hm hm' : ri_H} {v1 v2 : Option Value} {y : Int32}
theorem N_img (E1 : ri_calE ri_md (d + 2) 141 [.ref 0, .int y] hc = some (v1, hc')) (E2 : ri_calE ri_md (e + 2) 252 [.ref 0, .int y] hm = some (v2, hm')) (tc : eh_ty tC (eh_V hc)) (tm : eh_ty tM (eh_V hm)) (hl : (eh_N hc).take 209 = NCl) (Q : NQ (eh_V hc) (eh_V hm)) : NQ (eh_V hc') (eh_V hm') := by
  rcases y_cases y with h | rfl | rfl | ⟨h0, h1, h2⟩
  · obtain ⟨-, r1, -⟩ := imc_lo E1 rfl tc h hl
    obtain ⟨-, r2, -⟩ := imm_lo E2 rfl tm h
    rw [r1, r2]
    exact Q
  · obtain ⟨f, -, -⟩ := c_im0 E1 rfl tc hl
    have nc := nc_im0 E1 rfl tc hl
    obtain ⟨m1, m2, m3, -, m5⟩ := m_im0 E2 rfl tm
    obtain ⟨k1, k2, k3⟩ := n_im0 E2 rfl tm
    obtain ⟨⟨q, q1⟩, q4, q5⟩ := Q
    refine ⟨⟨q, NK_mv q1 (fun i _ => f.l (pR_out (Or.inl (by decide)))) (fun i _ => f.i (pR_out (Or.inl (by decide)))) (fun i _ => f.i (pR_out (Or.inl (by decide)))) (fun j _ => m3 _) (fun j _ => k3 j)⟩, fun _ => ⟨q, NK_mv q1 (fun i hi => el_eq (nc i hi).1) (fun i hi => ei_eq (nc i hi).2.1) (fun i hi => ei_eq (nc i hi).2.2) (fun j hj => by rw [m1 j (by omega), Nat.zero_add]) (fun j hj => k1 j hj)⟩, fun x => ?_⟩
    rw [m5 1 (by decide)] at x
    obtain ⟨q', q6⟩ := q5 x
    exact ⟨q', NK_mv q6 (fun i _ => f.l (pR_out (Or.inr (by decide)))) (fun i _ => f.i (pR_out (Or.inr (by decide)))) (fun i _ => f.i (pR_out (Or.inr (by decide)))) (fun j hj => m2 _ (Or.inr (by omega))) (fun j hj => k2 _ (Or.inr (by omega)))⟩
  · obtain ⟨f, -, -⟩ := c_im1 E1 rfl tc hl
    have nc := nc_im1 E1 rfl tc hl
    obtain ⟨m1, m2, m3, -, m5⟩ := m_im1 E2 rfl tm
    obtain ⟨k1, k2, k3⟩ := n_im1 E2 rfl tm
    obtain ⟨⟨q, q1⟩, q4, q5⟩ := Q
    refine ⟨⟨q, NK_mv q1 (fun i _ => f.l (pR_out (Or.inl (by decide)))) (fun i _ => f.i (pR_out (Or.inl (by decide)))) (fun i _ => f.i (pR_out (Or.inl (by decide)))) (fun j _ => m3 _) (fun j _ => k3 j)⟩, fun x => ?_, fun _ => ⟨q, NK_mv q1 (fun i hi => el_eq (nc i hi).1) (fun i hi => ei_eq (nc i hi).2.1) (fun i hi => ei_eq (nc i hi).2.2) (fun j hj => by rw [m1 j (by omega), Nat.zero_add]) (fun j hj => k1 j hj)⟩⟩
    rw [m5 0 (by decide)] at x
    obtain ⟨q', q6⟩ := q4 x
    exact ⟨q', NK_mv q6 (fun i _ => f.l (pR_out (Or.inl (by decide)))) (fun i _ => f.i (pR_out (Or.inl (by decide)))) (fun i _ => f.i (pR_out (Or.inl (by decide)))) (fun j hj => m2 _ (Or.inl (by omega))) (fun j hj => k2 _ (Or.inl (by omega)))⟩
  · obtain ⟨-, r1, -⟩ := imc_hi E1 rfl tc h0 h1 h2 hl
    obtain ⟨-, r2, -⟩ := imm_hi E2 rfl tm h0 h1 h2
    rw [r1, r2]
    exact Q
theorem N_rst (E1 : ri_calE ri_md (d + 2) 142 [.ref 0, .int y] hc = some (v1, hc')) (E2 : ri_calE ri_md (e + 2) 253 [.ref 0, .int y] hm = some (v2, hm')) (tc : eh_ty tC (eh_V hc)) (tm : eh_ty tM (eh_V hm)) (hl : (eh_N hc).take 209 = NCl) (L : LQ (eh_V hc) (eh_V hm)) (Q : NQ (eh_V hc) (eh_V hm)) : NQ (eh_V hc') (eh_V hm') := by
  have im : eh_fr (pR 17 142) (eh_V hc) (eh_V hc') → (∀ i, eh_i (eh_V hm') 15 i = eh_i (eh_V hm) 15 i) → (∀ i, eh_i (eh_V hm') 17 i = eh_i (eh_V hm) 17 i) → (∀ i, eh_l (eh_V hm') 16 i = eh_l (eh_V hm) 16 i) → (∃ q, NK q 23 2 0 (fun j => eh_l (eh_V hm') 5 j) (eh_V hc') (eh_V hm')) → NQ (eh_V hc') (eh_V hm') := fun f m15 m17 m16 q1 => by
    obtain ⟨-, q4, q5⟩ := Q
    refine ⟨q1, fun x => ?_, fun x => ?_⟩
    · rw [m17] at x
      obtain ⟨q', q6⟩ := q4 x
      exact ⟨q', NK_mv q6 (fun i _ => f.l (pR_out (Or.inr (by decide)))) (fun i _ => f.i (pR_out (Or.inr (by decide)))) (fun i _ => f.i (pR_out (Or.inr (by decide)))) (fun j hj => m15 _) (fun j hj => m16 _)⟩
    · rw [m17] at x
      obtain ⟨q', q6⟩ := q5 x
      exact ⟨q', NK_mv q6 (fun i _ => f.l (pR_out (Or.inr (by decide)))) (fun i _ => f.i (pR_out (Or.inr (by decide)))) (fun i _ => f.i (pR_out (Or.inr (by decide)))) (fun j hj => m15 _) (fun j hj => m16 _)⟩
  rcases y_cases y with h | rfl | rfl | ⟨h0, h1, h2⟩
  · obtain ⟨-, r1, -⟩ := rec_lo E1 rfl tc h hl
    obtain ⟨-, r2, -⟩ := rem_lo E2 rfl tm h
    rw [r1, r2]
    exact Q
  · obtain ⟨f, -⟩ := c_re0 E1 rfl tc hl
    have nc := nc_re0 E1 rfl tc hl
    obtain ⟨m1, m2, m3⟩ := m_re0 E2 rfl tm
    obtain ⟨k1, k2⟩ := n_re0 E2 rfl tm
    refine im f m1 m2 k1 ?_
    rcases nc with ⟨z, c⟩ | ⟨z, c⟩
    · rcases m3 with ⟨-, m3⟩ | ⟨w, -⟩
      · rcases k2 with ⟨-, k2⟩ | ⟨w, -⟩
        · obtain ⟨q, q1⟩ := Q.1
          exact ⟨q, NK_mv q1 (fun i _ => by rw [c]) (fun i _ => by rw [c]) (fun i _ => by rw [c]) (fun j _ => m3 _) (fun j _ => k2 j)⟩
        · exact absurd (L.2.1.mp z) w
      · exact absurd (L.2.1.mp z) w
    · rcases m3 with ⟨w, -⟩ | ⟨w, m3⟩
      · exact absurd (L.2.1.mpr w) z
      · rcases k2 with ⟨w2, -⟩ | ⟨-, k2⟩
        · exact absurd w2 w
        · obtain ⟨q, q1⟩ := Q.2.1 w
          exact ⟨q, NK_mv q1 (fun i hi => el_eq (c i hi).1) (fun i hi => ei_eq (c i hi).2.1) (fun i hi => ei_eq (c i hi).2.2) (fun j hj => (show eh_i (eh_V hm') 2 (0 + j) = eh_i (eh_V hm') 2 j by rw [Nat.zero_add]).trans (m3 j (by omega))) (fun j hj => k2 j hj)⟩
  · obtain ⟨f, -⟩ := c_re1 E1 rfl tc hl
    have nc := nc_re1 E1 rfl tc hl
    obtain ⟨m1, m2, m3⟩ := m_re1 E2 rfl tm
    obtain ⟨k1, k2⟩ := n_re1 E2 rfl tm
    refine im f m1 m2 k1 ?_
    rcases nc with ⟨z, c⟩ | ⟨z, c⟩
    · rcases m3 with ⟨-, m3⟩ | ⟨w, -⟩
      · rcases k2 with ⟨-, k2⟩ | ⟨w, -⟩
        · obtain ⟨q, q1⟩ := Q.1
          exact ⟨q, NK_mv q1 (fun i _ => by rw [c]) (fun i _ => by rw [c]) (fun i _ => by rw [c]) (fun j _ => m3 _) (fun j _ => k2 j)⟩
        · exact absurd (L.2.2.1.mp z) w
      · exact absurd (L.2.2.1.mp z) w
    · rcases m3 with ⟨w, -⟩ | ⟨w, m3⟩
      · exact absurd (L.2.2.1.mpr w) z
      · rcases k2 with ⟨w2, -⟩ | ⟨-, k2⟩
        · exact absurd w2 w
        · obtain ⟨q, q1⟩ := Q.2.2 w
          exact ⟨q, NK_mv q1 (fun i hi => el_eq (c i hi).1) (fun i hi => ei_eq (c i hi).2.1) (fun i hi => ei_eq (c i hi).2.2) (fun j hj => (show eh_i (eh_V hm') 2 (0 + j) = eh_i (eh_V hm') 2 j by rw [Nat.zero_add]).trans (m3 j (by omega))) (fun j hj => k2 j hj)⟩
  · obtain ⟨-, r1, -⟩ := rec_hi E1 rfl tc h0 h1 h2 hl
    obtain ⟨-, r2, -⟩ := rem_hi E2 rfl tm h0 h1 h2
    rw [r1, r2]
    exact Q
end NIR
