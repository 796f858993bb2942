/-! the reference's names[0 .. 23] stay while LINES are read -/
def KN (G G' : eh_W) : Prop := ∀ j, j < 24 → G' 5 j = G 5 j
theorem KN.rf {G : eh_W} : KN G G := fun _ _ => rfl
theorem KN.tr {G G1 G2 : eh_W} (a : KN G G1) (b : KN G1 G2) : KN G G2 := fun j hj => (b j hj).trans (a j hj)
theorem KN.u {G G1 : eh_W} {k i : Nat} {v : Value} (a : KN G G1) (h : k ≠ 5 ∨ 24 ≤ i) : KN G (eh_u G1 k i v) := fun j hj => by
  rw [eh_u_ne G1 v (by omega)]
  exact a j hj
theorem KN.fr {p : Nat → Nat → Bool} {G G1 : eh_W} (f : eh_fr p G G1) (h : ∀ j, p 5 j = false) : KN G G1 := fun j _ => f 5 j (h j)
theorem kn_158 {d : Nat} {h h' : ri_H} {v : Option Value} {b : Nat → Int32} {n m : Nat} (E : ri_calE ri_md (d + 2) 158 [.ref 0] h = some (v, h')) (iv : iM b n m (eh_V h)) : KN (eh_V h) (eh_V h') := by
  obtain ⟨a, an, a4⟩ := iv.2.2
  obtain ⟨-, f, -⟩ := sp_158 E rfl iv a4 an
  exact KN.fr f (fun _ => rfl)
theorem nI_24 {a k : Nat} (ha : 24 ≤ a) (a9 : a ≤ 42) (hk : k ≤ 8) : 24 ≤ (nI a + nI k).toNatClampNeg := by
  rw [show nI a + nI k = nI (a + k) from lx_add a k, lx_cl (by omega)]
  omega
/-- the counts are small -/
def CN (G : eh_W) : Prop := ∀ t, t < 4 → ∃ k, k ≤ 8 ∧ eh_i G 3 (3 + t) = nI k
theorem cn_24 {G : eh_W} (h : CN G) : 24 ≤ (24 + eh_i G 3 3).toNatClampNeg ∧ 24 ≤ (30 + eh_i G 3 4).toNatClampNeg ∧ 24 ≤ (38 + eh_i G 3 5).toNatClampNeg ∧ 24 ≤ (42 + eh_i G 3 6).toNatClampNeg := by
  obtain ⟨a, a8, ea⟩ := h 0 (by decide)
  obtain ⟨b, b8, eb⟩ := h 1 (by decide)
  obtain ⟨c, c8, ec⟩ := h 2 (by decide)
  obtain ⟨d, d8, ed⟩ := h 3 (by decide)
  rw [show eh_i G 3 3 = nI a from ea, show eh_i G 3 4 = nI b from eb, show eh_i G 3 5 = nI c from ec, show eh_i G 3 6 = nI d from ed]
  exact ⟨nI_24 (a := 24) (by decide) (by decide) a8, nI_24 (a := 30) (by decide) (by decide) b8, nI_24 (a := 38) (by decide) (by decide) c8, nI_24 (a := 42) (by decide) (by decide) d8⟩
theorem kq_158 {d : Nat} {h h' : ri_H} {v : Option Value} {b : Nat → Int32} {n m : Nat} (E : ri_calE ri_md (d + 2) 158 [.ref 0] h = some (v, h')) (iv : iM b n m (eh_V h)) (H : CN (eh_V h)) : CN (eh_V h') := by
  obtain ⟨a, an, a4⟩ := iv.2.2
  obtain ⟨-, f, -⟩ := sp_158 E rfl iv a4 an
  exact fun t ht => by
    rw [f.i rfl]
    exact H t ht
theorem kn_162 {d : Nat} {h h' : ri_H} {v : Option Value} {b : Nat → Int32} {n m : Nat} {w : Int32} (E : ri_calE ri_md (d + 3) 162 [.ref 0, .int w] h = some (v, h')) (iv : iM b n m (eh_V h)) : KN (eh_V h) (eh_V h') := by
  rcases sp_162 E rfl iv with ⟨c0, r1, r2, -, -⟩ | ⟨c0, c1, r1, r2, -, -⟩ | ⟨h1, h19, c0, c1, c2, c3, c4, r1, r2, -, -⟩
  · rw [r2]
    exact (((KN.rf : KN (eh_V h) (eh_V h)).u (Or.inl (by decide))).u (Or.inl (by decide)))
  · rw [r2]
    exact (((KN.rf : KN (eh_V h) (eh_V h)).u (Or.inl (by decide))).u (Or.inl (by decide)))
  · have q2 : KN (eh_V h) (eh_V h1) := by
      rw [c2]
      exact (KN.rf : KN (eh_V h) (eh_V h))
    have q3 : KN (eh_V h) (eh_V h19) := q2.tr (kn_158 (d := d + 0) c3 (by rw [c2]; exact iv))
    rw [r2]
    exact q3
theorem kn_164 {d : Nat} {h h' : ri_H} {v : Option Value} {b : Nat → Int32} {n m : Nat} {w0 : Int32} {w1 : Int32} (E : ri_calE ri_md (d + 3) 164 [.ref 0, .int w0, .int w1] h = some (v, h')) (iv : iM b n m (eh_V h)) : KN (eh_V h) (eh_V h') := by
  rcases sp_164 E rfl iv with ⟨c0, c1, r1, r2, -, -⟩ | ⟨c0, c1, c2, r1, r2, -, -⟩ | ⟨h20, h23, c0, c1, c2, c3, c4, c5, r1, r2, -, -⟩ | ⟨c0, r1, r2, -, -⟩
  · rw [r2]
    exact (((KN.rf : KN (eh_V h) (eh_V h)).u (Or.inl (by decide))).u (Or.inl (by decide)))
  · rw [r2]
    exact (((KN.rf : KN (eh_V h) (eh_V h)).u (Or.inl (by decide))).u (Or.inl (by decide)))
  · have q3 : KN (eh_V h) (eh_V h20) := by
      rw [c3]
      exact ((KN.rf : KN (eh_V h) (eh_V h)).u (Or.inl (by decide)))
    have q4 : KN (eh_V h) (eh_V h23) := q3.tr (kn_158 (d := d + 0) c4 (by rw [c3]; exact (iM_u iv (iv.1.u rfl ⟨_, rfl⟩) rfl)))
    rw [r2]
    exact q4
  · rw [r2]
    exact (((KN.rf : KN (eh_V h) (eh_V h)).u (Or.inl (by decide))).u (Or.inl (by decide)))
theorem kn_165 {d : Nat} {h h' : ri_H} {v : Option Value} {b : Nat → Int32} {n m : Nat} {to : Int32} {w0 : Int32} {w1 : Int32} (E : ri_calE ri_md (d + 4) 165 [.ref 0, .int to, .int w0, .int w1] h = some (v, h')) (iv : iM b n m (eh_V h)) : KN (eh_V h) (eh_V h') := by
  rcases sp_165 E rfl iv with ⟨x3, h1, c0, c1, c2, r1, r2, -, -⟩ | ⟨x3, h1, c0, c1, c2, r1, r2, -, -⟩
  · have q0 : KN (eh_V h) (eh_V h1) := (KN.rf : KN (eh_V h) (eh_V h)).tr (kn_164 (d := d + 0) c0 iv)
    rw [r2]
    exact (q0.u (Or.inl (by decide)))
  · have q0 : KN (eh_V h) (eh_V h1) := (KN.rf : KN (eh_V h) (eh_V h)).tr (kn_164 (d := d + 0) c0 iv)
    rw [r2]
    exact q0
theorem kn_169 {d : Nat} {h h' : ri_H} {v : Option Value} {b : Nat → Int32} {n m : Nat} {k : Int32} (E : ri_calE ri_md (d + 3) 169 [.ref 0, .int k] h = some (v, h')) (iv : iM b n m (eh_V h)) : KN (eh_V h) (eh_V h') := by
  rcases sp_169 E rfl iv with ⟨h8, h11, c0, c1, c2, c3, r1, r2, -, -⟩ | ⟨c0, r1, r2, -, -⟩
  · have q1 : KN (eh_V h) (eh_V h8) := by
      rw [c1]
      exact ((KN.rf : KN (eh_V h) (eh_V h)).u (Or.inl (by decide)))
    have q2 : KN (eh_V h) (eh_V h11) := q1.tr (kn_158 (d := d + 0) c2 (by rw [c1]; exact (iM_u iv (iv.1.u rfl ⟨_, rfl⟩) rfl)))
    rw [r2]
    exact q2
  · rw [r2]
    exact (((KN.rf : KN (eh_V h) (eh_V h)).u (Or.inl (by decide))).u (Or.inl (by decide)))
theorem kn_167 {d : Nat} {h h' : ri_H} {v : Option Value} {b : Nat → Int32} {n m : Nat} {to : Int32} (E : ri_calE ri_md (d + 3) 167 [.ref 0, .int to] h = some (v, h')) (iv : iM b n m (eh_V h)) (h24 : 24 ≤ to.toNatClampNeg) : KN (eh_V h) (eh_V h') := by
  rcases sp_167 E rfl iv with ⟨x9, c0, c1, c2, r1, r2, -, -⟩ | ⟨x9, x18, c0, c1, c2, c3, c4, r1, r2, -, -⟩ | ⟨x9, x18, x27, c0, c1, c2, c3, c4, c5, c6, r1, r2, -, -⟩ | ⟨x9, x18, x27, x36, h41, h44, c0, c1, c2, c3, c4, c5, c6, c7, c8, c9, c10, c11, r1, r2, -, -⟩ | ⟨x9, x18, x27, x36, c0, c1, c2, c3, c4, c5, c6, c7, c8, r1, r2, -, -⟩ | ⟨c0, r1, r2, -, -⟩
  · rw [r2]
    exact (((KN.rf : KN (eh_V h) (eh_V h)).u (Or.inl (by decide))).u (Or.inl (by decide)))
  · rw [r2]
    exact (((KN.rf : KN (eh_V h) (eh_V h)).u (Or.inl (by decide))).u (Or.inl (by decide)))
  · rw [r2]
    exact (((KN.rf : KN (eh_V h) (eh_V h)).u (Or.inl (by decide))).u (Or.inl (by decide)))
  · have q9 : KN (eh_V h) (eh_V h41) := by
      rw [c9]
      exact ((KN.rf : KN (eh_V h) (eh_V h)).u (Or.inr h24))
    have q10 : KN (eh_V h) (eh_V h44) := q9.tr (kn_158 (d := d + 0) c10 (by rw [c9]; exact (iM_u iv (iv.1.u rfl ⟨_, rfl⟩) rfl)))
    rw [r2]
    exact q10
  · rw [r2]
    exact (((KN.rf : KN (eh_V h) (eh_V h)).u (Or.inl (by decide))).u (Or.inl (by decide)))
  · rw [r2]
    exact (((KN.rf : KN (eh_V h) (eh_V h)).u (Or.inl (by decide))).u (Or.inl (by decide)))
theorem kn_168 {d : Nat} {h h' : ri_H} {v : Option Value} {b : Nat → Int32} {n m : Nat} {fr : Int32} {ma : Int32} (E : ri_calE ri_md (d + 2) 168 [.ref 0, .int fr, .int ma] h = some (v, h')) (iv : iM b n m (eh_V h)) : KN (eh_V h) (eh_V h') := by
  rcases sp_168 E rfl iv with ⟨x9, c0, c1, c2, r1, r2, -, -⟩ | ⟨x9, c0, c1, c2, r1, r2, -, -⟩ | ⟨c0, r1, r2, -, -⟩
  · rw [r2]
    exact ((KN.rf : KN (eh_V h) (eh_V h)).u (Or.inl (by decide)))
  · rw [r2]
    exact ((((KN.rf : KN (eh_V h) (eh_V h)).u (Or.inl (by decide))).u (Or.inl (by decide))).u (Or.inl (by decide)))
  · rw [r2]
    exact (((KN.rf : KN (eh_V h) (eh_V h)).u (Or.inl (by decide))).u (Or.inl (by decide)))
theorem kn_ln_0 {d : Nat} {lo : List (Nat × Value)} {h h' : ri_H} {rs : List Value} {b : Nat → Int32} {n m : Nat} (E : eh_e (ri_calE ri_md (d + 4)) md_170 10 lo [] h rs h') (iv : iM b n m (eh_V h)) (l0 : ri_lk lo 0 = some (.ref 0)) : KN (eh_V h) (eh_V h') := by
  rcases ln_0 E rfl iv l0 with ⟨x3, h1, c0, c1, c2, r1, r2, -, -⟩ | ⟨x3, h1, x7, h5, c0, c1, c2, c3, c4, c5, r1, r2, -, -⟩ | ⟨x3, h1, x7, h5, c0, c1, c2, c3, c4, c5, r1, r2, -, -⟩
  · have q0 : KN (eh_V h) (eh_V h1) := (KN.rf : KN (eh_V h) (eh_V h)).tr (kn_169 (d := d + 1) c0 iv)
    rw [r2]
    exact q0
  · have q0 : KN (eh_V h) (eh_V h1) := (KN.rf : KN (eh_V h) (eh_V h)).tr (kn_169 (d := d + 1) c0 iv)
    have q3 : KN (eh_V h) (eh_V h5) := q0.tr (kn_165 (d := d + 0) c3 c1)
    rw [r2]
    exact q3
  · have q0 : KN (eh_V h) (eh_V h1) := (KN.rf : KN (eh_V h) (eh_V h)).tr (kn_169 (d := d + 1) c0 iv)
    have q3 : KN (eh_V h) (eh_V h5) := q0.tr (kn_165 (d := d + 0) c3 c1)
    rw [r2]
    exact q3
theorem kn_ln_1 {d : Nat} {lo : List (Nat × Value)} {h h' : ri_H} {rs : List Value} {b : Nat → Int32} {n m : Nat} (E : eh_e (ri_calE ri_md (d + 4)) md_170 45 lo [] h rs h') (iv : iM b n m (eh_V h)) (l0 : ri_lk lo 0 = some (.ref 0)) : KN (eh_V h) (eh_V h') := by
  rcases ln_1 E rfl iv l0 with ⟨x3, h1, c0, c1, c2, r1, r2, -, -⟩ | ⟨x3, h1, x7, h5, c0, c1, c2, c3, c4, c5, r1, r2, -, -⟩ | ⟨x3, h1, x7, h5, c0, c1, c2, c3, c4, c5, r1, r2, -, -⟩
  · have q0 : KN (eh_V h) (eh_V h1) := (KN.rf : KN (eh_V h) (eh_V h)).tr (kn_169 (d := d + 1) c0 iv)
    rw [r2]
    exact q0
  · have q0 : KN (eh_V h) (eh_V h1) := (KN.rf : KN (eh_V h) (eh_V h)).tr (kn_169 (d := d + 1) c0 iv)
    have q3 : KN (eh_V h) (eh_V h5) := q0.tr (kn_165 (d := d + 0) c3 c1)
    rw [r2]
    exact q3
  · have q0 : KN (eh_V h) (eh_V h1) := (KN.rf : KN (eh_V h) (eh_V h)).tr (kn_169 (d := d + 1) c0 iv)
    have q3 : KN (eh_V h) (eh_V h5) := q0.tr (kn_165 (d := d + 0) c3 c1)
    rw [r2]
    exact q3
theorem kn_ln_2 {d : Nat} {lo : List (Nat × Value)} {h h' : ri_H} {rs : List Value} {b : Nat → Int32} {n m : Nat} (E : eh_e (ri_calE ri_md (d + 4)) md_170 80 lo [] h rs h') (iv : iM b n m (eh_V h)) (l0 : ri_lk lo 0 = some (.ref 0)) : KN (eh_V h) (eh_V h') := by
  rcases ln_2 E rfl iv l0 with ⟨x3, h1, c0, c1, c2, r1, r2, -, -⟩ | ⟨x3, h1, x7, h5, c0, c1, c2, c3, c4, c5, r1, r2, -, -⟩ | ⟨x3, h1, x7, h5, c0, c1, c2, c3, c4, c5, r1, r2, -, -⟩
  · have q0 : KN (eh_V h) (eh_V h1) := (KN.rf : KN (eh_V h) (eh_V h)).tr (kn_169 (d := d + 1) c0 iv)
    rw [r2]
    exact q0
  · have q0 : KN (eh_V h) (eh_V h1) := (KN.rf : KN (eh_V h) (eh_V h)).tr (kn_169 (d := d + 1) c0 iv)
    have q3 : KN (eh_V h) (eh_V h5) := q0.tr (kn_165 (d := d + 0) c3 c1)
    rw [r2]
    exact q3
  · have q0 : KN (eh_V h) (eh_V h1) := (KN.rf : KN (eh_V h) (eh_V h)).tr (kn_169 (d := d + 1) c0 iv)
    have q3 : KN (eh_V h) (eh_V h5) := q0.tr (kn_165 (d := d + 0) c3 c1)
    rw [r2]
    exact q3
theorem kn_ln_3 {d : Nat} {lo : List (Nat × Value)} {h h' : ri_H} {rs : List Value} {b : Nat → Int32} {n m : Nat} (E : eh_e (ri_calE ri_md (d + 4)) md_170 115 lo [] h rs h') (iv : iM b n m (eh_V h)) (l0 : ri_lk lo 0 = some (.ref 0)) : KN (eh_V h) (eh_V h') := by
  rcases ln_3 E rfl iv l0 with ⟨x3, h1, c0, c1, c2, r1, r2, -, -⟩ | ⟨x3, h1, x7, h5, c0, c1, c2, c3, c4, c5, r1, r2, -, -⟩ | ⟨x3, h1, x7, h5, c0, c1, c2, c3, c4, c5, r1, r2, -, -⟩
  · have q0 : KN (eh_V h) (eh_V h1) := (KN.rf : KN (eh_V h) (eh_V h)).tr (kn_169 (d := d + 1) c0 iv)
    rw [r2]
    exact q0
  · have q0 : KN (eh_V h) (eh_V h1) := (KN.rf : KN (eh_V h) (eh_V h)).tr (kn_169 (d := d + 1) c0 iv)
    have q3 : KN (eh_V h) (eh_V h5) := q0.tr (kn_165 (d := d + 0) c3 c1)
    rw [r2]
    exact q3
  · have q0 : KN (eh_V h) (eh_V h1) := (KN.rf : KN (eh_V h) (eh_V h)).tr (kn_169 (d := d + 1) c0 iv)
    have q3 : KN (eh_V h) (eh_V h5) := q0.tr (kn_165 (d := d + 0) c3 c1)
    rw [r2]
    exact q3
theorem kn_ln_4 {d : Nat} {lo : List (Nat × Value)} {h h' : ri_H} {rs : List Value} {b : Nat → Int32} {n m : Nat} (E : eh_e (ri_calE ri_md (d + 4)) md_170 151 lo [] h rs h') (iv : iM b n m (eh_V h)) (l0 : ri_lk lo 0 = some (.ref 0)) : KN (eh_V h) (eh_V h') := by
  rcases ln_4 E rfl iv l0 with ⟨x3, h1, c0, c1, c2, r1, r2, -, -⟩ | ⟨x3, h1, x7, h5, c0, c1, c2, c3, c4, c5, r1, r2, -, -⟩ | ⟨x3, h1, x7, h5, x12, h10, c0, c1, c2, c3, c4, c5, c6, c7, c8, c9, r1, r2, -, -⟩ | ⟨x3, h1, x7, h5, x12, h10, c0, c1, c2, c3, c4, c5, c6, c7, c8, c9, r1, r2, -, -⟩ | ⟨x3, h1, x7, h5, x16, h14, c0, c1, c2, c3, c4, c5, c6, c7, c8, c9, r1, r2, -, -⟩ | ⟨x3, h1, x7, h5, x16, h14, c0, c1, c2, c3, c4, c5, c6, c7, c8, c9, r1, r2, -, -⟩
  · have q0 : KN (eh_V h) (eh_V h1) := (KN.rf : KN (eh_V h) (eh_V h)).tr (kn_169 (d := d + 1) c0 iv)
    rw [r2]
    exact q0
  · have q0 : KN (eh_V h) (eh_V h1) := (KN.rf : KN (eh_V h) (eh_V h)).tr (kn_169 (d := d + 1) c0 iv)
    have q3 : KN (eh_V h) (eh_V h5) := q0.tr (kn_165 (d := d + 0) c3 c1)
    rw [r2]
    exact q3
  · have q0 : KN (eh_V h) (eh_V h1) := (KN.rf : KN (eh_V h) (eh_V h)).tr (kn_169 (d := d + 1) c0 iv)
    have q3 : KN (eh_V h) (eh_V h5) := q0.tr (kn_165 (d := d + 0) c3 c1)
    have q7 : KN (eh_V h) (eh_V h10) := q3.tr (kn_165 (d := d + 0) c7 c4)
    rw [r2]
    exact q7
  · have q0 : KN (eh_V h) (eh_V h1) := (KN.rf : KN (eh_V h) (eh_V h)).tr (kn_169 (d := d + 1) c0 iv)
    have q3 : KN (eh_V h) (eh_V h5) := q0.tr (kn_165 (d := d + 0) c3 c1)
    have q7 : KN (eh_V h) (eh_V h10) := q3.tr (kn_165 (d := d + 0) c7 c4)
    rw [r2]
    exact q7
  · have q0 : KN (eh_V h) (eh_V h1) := (KN.rf : KN (eh_V h) (eh_V h)).tr (kn_169 (d := d + 1) c0 iv)
    have q3 : KN (eh_V h) (eh_V h5) := q0.tr (kn_165 (d := d + 0) c3 c1)
    have q7 : KN (eh_V h) (eh_V h14) := q3.tr (kn_165 (d := d + 0) c7 c4)
    rw [r2]
    exact q7
  · have q0 : KN (eh_V h) (eh_V h1) := (KN.rf : KN (eh_V h) (eh_V h)).tr (kn_169 (d := d + 1) c0 iv)
    have q3 : KN (eh_V h) (eh_V h5) := q0.tr (kn_165 (d := d + 0) c3 c1)
    have q7 : KN (eh_V h) (eh_V h14) := q3.tr (kn_165 (d := d + 0) c7 c4)
    rw [r2]
    exact q7
theorem kn_ln_5 {d : Nat} {lo : List (Nat × Value)} {h h' : ri_H} {rs : List Value} {b : Nat → Int32} {n m : Nat} (E : eh_e (ri_calE ri_md (d + 3)) md_170 224 lo [] h rs h') (iv : iM b n m (eh_V h)) (l0 : ri_lk lo 0 = some (.ref 0)) (HC : CN (eh_V h)) : KN (eh_V h) (eh_V h') := by
  rcases ln_5 E rfl iv l0 with ⟨h2, x6, h4, c0, c1, c2, c3, c4, c5, r1, r2, -, -⟩ | ⟨h2, x6, h4, c0, c1, c2, c3, c4, c5, r1, r2, -, -⟩ | ⟨c0, r1, r2, -, -⟩
  · have q1 : KN (eh_V h) (eh_V h2) := (KN.rf : KN (eh_V h) (eh_V h)).tr (kn_158 (d := d + 1) c1 iv)
    have q3 : KN (eh_V h) (eh_V h4) := q1.tr (kn_167 (d := d + 0) c3 c2 (cn_24 (kq_158 (d := d + 1) c1 iv HC)).1)
    rw [r2]
    exact (q3.u (Or.inl (by decide)))
  · have q1 : KN (eh_V h) (eh_V h2) := (KN.rf : KN (eh_V h) (eh_V h)).tr (kn_158 (d := d + 1) c1 iv)
    have q3 : KN (eh_V h) (eh_V h4) := q1.tr (kn_167 (d := d + 0) c3 c2 (cn_24 (kq_158 (d := d + 1) c1 iv HC)).1)
    rw [r2]
    exact q3
  · rw [r2]
    exact (((KN.rf : KN (eh_V h) (eh_V h)).u (Or.inl (by decide))).u (Or.inl (by decide)))
theorem kn_ln_7 {d : Nat} {lo : List (Nat × Value)} {h h' : ri_H} {rs : List Value} {b : Nat → Int32} {n m : Nat} (E : eh_e (ri_calE ri_md (d + 3)) md_170 300 lo [] h rs h') (iv : iM b n m (eh_V h)) (l0 : ri_lk lo 0 = some (.ref 0)) (HC : CN (eh_V h)) : KN (eh_V h) (eh_V h') := by
  rcases ln_7 E rfl iv l0 with ⟨h2, x6, h4, c0, c1, c2, c3, c4, c5, r1, r2, -, -⟩ | ⟨h2, x6, h4, c0, c1, c2, c3, c4, c5, r1, r2, -, -⟩ | ⟨c0, r1, r2, -, -⟩
  · have q1 : KN (eh_V h) (eh_V h2) := (KN.rf : KN (eh_V h) (eh_V h)).tr (kn_158 (d := d + 1) c1 iv)
    have q3 : KN (eh_V h) (eh_V h4) := q1.tr (kn_167 (d := d + 0) c3 c2 (cn_24 (kq_158 (d := d + 1) c1 iv HC)).2.2.1)
    rw [r2]
    exact (q3.u (Or.inl (by decide)))
  · have q1 : KN (eh_V h) (eh_V h2) := (KN.rf : KN (eh_V h) (eh_V h)).tr (kn_158 (d := d + 1) c1 iv)
    have q3 : KN (eh_V h) (eh_V h4) := q1.tr (kn_167 (d := d + 0) c3 c2 (cn_24 (kq_158 (d := d + 1) c1 iv HC)).2.2.1)
    rw [r2]
    exact q3
  · rw [r2]
    exact (((KN.rf : KN (eh_V h) (eh_V h)).u (Or.inl (by decide))).u (Or.inl (by decide)))
theorem kn_ln_8 {d : Nat} {lo : List (Nat × Value)} {h h' : ri_H} {rs : List Value} {b : Nat → Int32} {n m : Nat} (E : eh_e (ri_calE ri_md (d + 4)) md_170 366 lo [] h rs h') (iv : iM b n m (eh_V h)) (l0 : ri_lk lo 0 = some (.ref 0)) (HC : CN (eh_V h)) : KN (eh_V h) (eh_V h') := by
  rcases ln_8 E rfl iv l0 with ⟨h3, h6, x10, h8, c0, c1, c2, c3, c4, c5, c6, r1, r2, -, -⟩ | ⟨h3, h6, x10, h8, x14, h12, c0, c1, c2, c3, c4, c5, c6, c7, c8, c9, r1, r2, -, -⟩ | ⟨h3, h6, x10, h8, x14, h12, c0, c1, c2, c3, c4, c5, c6, c7, c8, c9, r1, r2, -, -⟩ | ⟨c0, r1, r2, -, -⟩
  · have q1 : KN (eh_V h) (eh_V h3) := by
      rw [c1]
      exact ((KN.rf : KN (eh_V h) (eh_V h)).u (Or.inl (by decide)))
    have q2 : KN (eh_V h) (eh_V h6) := q1.tr (kn_158 (d := d + 2) c2 (by rw [c1]; exact (iM_u iv (iv.1.u rfl ⟨_, rfl⟩) rfl)))
    have q4 : KN (eh_V h) (eh_V h8) := q2.tr (kn_167 (d := d + 1) c4 c3 (cn_24 HC).2.2.2)
    rw [r2]
    exact q4
  · have q1 : KN (eh_V h) (eh_V h3) := by
      rw [c1]
      exact ((KN.rf : KN (eh_V h) (eh_V h)).u (Or.inl (by decide)))
    have q2 : KN (eh_V h) (eh_V h6) := q1.tr (kn_158 (d := d + 2) c2 (by rw [c1]; exact (iM_u iv (iv.1.u rfl ⟨_, rfl⟩) rfl)))
    have q4 : KN (eh_V h) (eh_V h8) := q2.tr (kn_167 (d := d + 1) c4 c3 (cn_24 HC).2.2.2)
    have q7 : KN (eh_V h) (eh_V h12) := q4.tr (kn_165 (d := d + 0) c7 c5)
    rw [r2]
    exact (q7.u (Or.inl (by decide)))
  · have q1 : KN (eh_V h) (eh_V h3) := by
      rw [c1]
      exact ((KN.rf : KN (eh_V h) (eh_V h)).u (Or.inl (by decide)))
    have q2 : KN (eh_V h) (eh_V h6) := q1.tr (kn_158 (d := d + 2) c2 (by rw [c1]; exact (iM_u iv (iv.1.u rfl ⟨_, rfl⟩) rfl)))
    have q4 : KN (eh_V h) (eh_V h8) := q2.tr (kn_167 (d := d + 1) c4 c3 (cn_24 HC).2.2.2)
    have q7 : KN (eh_V h) (eh_V h12) := q4.tr (kn_165 (d := d + 0) c7 c5)
    rw [r2]
    exact q7
  · rw [r2]
    exact (((KN.rf : KN (eh_V h) (eh_V h)).u (Or.inl (by decide))).u (Or.inl (by decide)))
theorem kn_ml_a {d : Nat} {lo : List (Nat × Value)} {h h' : ri_H} {rs : List Value} {b : Nat → Int32} {n m : Nat} (E : eh_e (ri_calE ri_md (d + 3)) md_171 0 lo [] h rs h') (iv : iM b n m (eh_V h)) (l0 : ri_lk lo 0 = some (.ref 0)) (HC : CN (eh_V h)) : KN (eh_V h) (eh_V h') ∨ (∃ hz loz, eh_e (ri_calE ri_md (d + 3)) md_171 80 loz [] hz rs h' ∧ KN (eh_V h) (eh_V hz) ∧ iM b n m (eh_V hz) ∧ ri_lk loz 0 = some (.ref 0) ∧ ri_lk loz 1 = some (.int (eh_i (eh_V h) 3 4)) ∧ ri_lk loz 2 = some (.int 0)) := by
  rcases ml_a E rfl iv l0 with ⟨h3, h6, x10, h8, c0, c1, c2, c3, c4, c5, c6, r1, r2, -, -⟩ | ⟨h3, h6, x10, h8, x14, h12, h16, h19, c0, c1, c2, c3, c4, c5, c6, c7, c8, c9, c10, c11, c12, hz, loz, E1, a1, -, a3, b0, b1, b2⟩ | ⟨h3, h6, x10, h8, x14, h12, c0, c1, c2, c3, c4, c5, c6, c7, c8, c9, r1, r2, -, -⟩ | ⟨c0, r1, r2, -, -⟩
  · have q1 : KN (eh_V h) (eh_V h3) := by
      rw [c1]
      exact ((KN.rf : KN (eh_V h) (eh_V h)).u (Or.inl (by decide)))
    have q2 : KN (eh_V h) (eh_V h6) := q1.tr (kn_158 (d := d + 1) c2 (by rw [c1]; exact (iM_u iv (iv.1.u rfl ⟨_, rfl⟩) rfl)))
    have q4 : KN (eh_V h) (eh_V h8) := q2.tr (kn_167 (d := d + 0) c4 c3 (cn_24 HC).2.1)
    exact Or.inl (by rw [r2]; exact q4)
  · have q1 : KN (eh_V h) (eh_V h3) := by
      rw [c1]
      exact ((KN.rf : KN (eh_V h) (eh_V h)).u (Or.inl (by decide)))
    have q2 : KN (eh_V h) (eh_V h6) := q1.tr (kn_158 (d := d + 1) c2 (by rw [c1]; exact (iM_u iv (iv.1.u rfl ⟨_, rfl⟩) rfl)))
    have q4 : KN (eh_V h) (eh_V h8) := q2.tr (kn_167 (d := d + 0) c4 c3 (cn_24 HC).2.1)
    have q7 : KN (eh_V h) (eh_V h12) := q4.tr (kn_168 (d := d + 1) c7 c5)
    have q10 : KN (eh_V h) (eh_V h16) := by
      rw [c10]
      exact (q7.u (Or.inl (by decide)))
    have q11 : KN (eh_V h) (eh_V h19) := q10.tr (kn_158 (d := d + 1) c11 (by rw [c10]; exact (iM_u c8 (c8.1.u rfl ⟨_, rfl⟩) rfl)))
    exact Or.inr ⟨hz, loz, E1, (by rw [a1]; exact q11), (by rw [a1]; exact a3), b0, b1, b2⟩
  · have q1 : KN (eh_V h) (eh_V h3) := by
      rw [c1]
      exact ((KN.rf : KN (eh_V h) (eh_V h)).u (Or.inl (by decide)))
    have q2 : KN (eh_V h) (eh_V h6) := q1.tr (kn_158 (d := d + 1) c2 (by rw [c1]; exact (iM_u iv (iv.1.u rfl ⟨_, rfl⟩) rfl)))
    have q4 : KN (eh_V h) (eh_V h8) := q2.tr (kn_167 (d := d + 0) c4 c3 (cn_24 HC).2.1)
    have q7 : KN (eh_V h) (eh_V h12) := q4.tr (kn_168 (d := d + 1) c7 c5)
    exact Or.inl (by rw [r2]; exact q7)
  · exact Or.inl (by rw [r2]; exact (((KN.rf : KN (eh_V h) (eh_V h)).u (Or.inl (by decide))).u (Or.inl (by decide))))
theorem kn_ml_i {d : Nat} {lo : List (Nat × Value)} {h h' : ri_H} {rs : List Value} {b : Nat → Int32} {n m : Nat} {k : Int32} {i : Int32} (E : eh_e (ri_calE ri_md (d + 3)) md_171 80 lo [] h rs h') (iv : iM b n m (eh_V h)) (l0 : ri_lk lo 0 = some (.ref 0)) (l1 : ri_lk lo 1 = some (.int k)) (l2 : ri_lk lo 2 = some (.int i)) : KN (eh_V h) (eh_V h') ∨ (∃ hz loz, eh_e (ri_calE ri_md (d + 3)) md_171 80 loz [] hz rs h' ∧ KN (eh_V h) (eh_V hz) ∧ iM b n m (eh_V hz) ∧ ri_lk loz 0 = some (.ref 0) ∧ ri_lk loz 1 = some (.int k) ∧ ri_lk loz 2 = some (.int (i + 1))) := by
  rcases ml_i E rfl iv l0 l1 l2 with ⟨h1, x17, h15, x22, h20, c0, c1, c2, c3, c4, c5, c6, c7, c8, c9, hz, loz, E1, a1, -, a3, b0, b1, b2, b3⟩ | ⟨h1, x17, h15, x22, h20, c0, c1, c2, c3, c4, c5, c6, c7, c8, c9, r1, r2, -, -⟩ | ⟨h1, x17, h15, c0, c1, c2, c3, c4, c5, c6, r1, r2, -, -⟩ | ⟨c0, c1, c2, r1, r2, -, -⟩ | ⟨c0, c1, r1, r2, -, -⟩ | ⟨c0, c1, r1, r2, -, -⟩ | ⟨c0, c1, r1, r2, -, -⟩
  · have q3 : KN (eh_V h) (eh_V h1) := by
      rw [c3]
      exact (KN.rf : KN (eh_V h) (eh_V h))
    have q4 : KN (eh_V h) (eh_V h15) := q3.tr (kn_164 (d := d + 0) c4 (by rw [c3]; exact iv))
    have q7 : KN (eh_V h) (eh_V h20) := q4.tr (kn_164 (d := d + 0) c7 c5)
    exact Or.inr ⟨hz, loz, E1, (by rw [a1]; exact (q7.u (Or.inl (by decide)))), (by rw [a1]; exact a3), b0, b1, b2⟩
  · have q3 : KN (eh_V h) (eh_V h1) := by
      rw [c3]
      exact (KN.rf : KN (eh_V h) (eh_V h))
    have q4 : KN (eh_V h) (eh_V h15) := q3.tr (kn_164 (d := d + 0) c4 (by rw [c3]; exact iv))
    have q7 : KN (eh_V h) (eh_V h20) := q4.tr (kn_164 (d := d + 0) c7 c5)
    exact Or.inl (by rw [r2]; exact q7)
  · have q3 : KN (eh_V h) (eh_V h1) := by
      rw [c3]
      exact (KN.rf : KN (eh_V h) (eh_V h))
    have q4 : KN (eh_V h) (eh_V h15) := q3.tr (kn_164 (d := d + 0) c4 (by rw [c3]; exact iv))
    exact Or.inl (by rw [r2]; exact q4)
  · exact Or.inl (by rw [r2]; exact (((KN.rf : KN (eh_V h) (eh_V h)).u (Or.inl (by decide))).u (Or.inl (by decide))))
  · exact Or.inl (by rw [r2]; exact (((KN.rf : KN (eh_V h) (eh_V h)).u (Or.inl (by decide))).u (Or.inl (by decide))))
  · exact Or.inl (by rw [r2]; exact (((KN.rf : KN (eh_V h) (eh_V h)).u (Or.inl (by decide))).u (Or.inl (by decide))))
  · exact Or.inl (by rw [r2]; exact (((KN.rf : KN (eh_V h) (eh_V h)).u (Or.inl (by decide))).u (Or.inl (by decide))))
section KNL
variable {d : Nat} {rs : List Value} {h' : ri_H} {b : Nat → Int32} {n m : Nat} {kk : Int32}
theorem kn_ml : ∀ (f k : Nat) (lo : List (Nat × Value)) (h : ri_H), k + f = 8 → eh_e (ri_calE ri_md (d + 3)) md_171 80 lo [] h rs h' → iM b n m (eh_V h) → ri_lk lo 0 = some (.ref 0) → ri_lk lo 1 = some (.int kk) → ri_lk lo 2 = some (.int (nI k)) → KN (eh_V h) (eh_V h') := by
  intro f
  induction f with
  | zero =>
    intro k lo h hf E iv l0 l1 l2
    have e8 : nI k = 8 := by rw [show k = 8 by omega]; rfl
    rcases ml_i E rfl iv l0 l1 l2 with ⟨_, _, _, _, _, -, -, c, -⟩ | ⟨_, _, _, _, _, -, -, c, -⟩ | ⟨_, _, _, -, -, c, -⟩ | ⟨-, -, -, r1, r2, r3, r4⟩ | ⟨-, -, r1, r2, r3, r4⟩ | ⟨-, -, r1, r2, r3, r4⟩ | ⟨-, -, r1, r2, r3, r4⟩
    · exact absurd e8 c
    · exact absurd e8 c
    · exact absurd e8 c
    all_goals
      rw [r2]
      first | exact KN.rf | exact (KN.rf.u (Or.inl (by decide))).u (Or.inl (by decide))
  | succ f ih =>
    intro k lo h hf E iv l0 l1 l2
    rcases kn_ml_i E iv l0 l1 l2 with z | ⟨hz, loz, E1, a1, a3, a4, a5, a6⟩
    · exact z
    · rw [lx_a1] at a6
      exact a1.tr (ih (k + 1) loz hz (by omega) E1 a3 a4 a5 a6)
end KNL
theorem kn_171 {d : Nat} {h h' : ri_H} {v : Option Value} {b : Nat → Int32} {n m : Nat} (E : ri_calE ri_md (d + 5) 171 [.ref 0] h = some (v, h')) (iv : iM b n m (eh_V h)) (HC : CN (eh_V h)) : KN (eh_V h) (eh_V h') := by
  obtain ⟨rs, hrs, E⟩ := eh_in E (q := md_171) rfl
  rcases kn_ml_a E iv rfl HC with z | ⟨hz, loz, E1, a1, a3, a4, a5, a6⟩
  · exact z
  · exact a1.tr (kn_ml 8 0 loz hz rfl E1 a3 a4 a5 a6)
theorem kn_ln_6 {d : Nat} {lo : List (Nat × Value)} {h h' : ri_H} {rs : List Value} {b : Nat → Int32} {n m : Nat} (E : eh_e (ri_calE ri_md (d + 5)) md_170 285 lo [] h rs h') (iv : iM b n m (eh_V h)) (l0 : ri_lk lo 0 = some (.ref 0)) (HC : CN (eh_V h)) : KN (eh_V h) (eh_V h') := by
  obtain ⟨x3, h1, c0, c1, r1, r2, -, -⟩ := ln_6 E rfl iv l0
  have q0 : KN (eh_V h) (eh_V h1) := (KN.rf : KN (eh_V h) (eh_V h)).tr (kn_171 (d := d + 0) c0 iv HC)
  rw [r2]
  exact q0
theorem kn_170 {d : Nat} {h h' : ri_H} {v : Option Value} {b : Nat → Int32} {n m : Nat} (E : ri_calE ri_md (d + 6) 170 [.ref 0] h = some (v, h')) (iv : iM b n m (eh_V h)) (HC : CN (eh_V h)) : KN (eh_V h) (eh_V h') := by
  obtain ⟨rs, hrs, E⟩ := eh_in E (q := md_170) rfl
  have z := ln_d E rfl iv rfl
  rcases z with ⟨-, r1, r2, r3, r4⟩ | ⟨-, -, -, -, -, -, -, -, -, -, r1, r2, r3, r4⟩ | ⟨-, -, -, -, -, -, -, -, -, -, h1, lo1, E1, a1, a2, a3, a4⟩ | ⟨-, -, -, -, -, -, -, -, -, h1, lo1, E1, a1, a2, a3, a4⟩ | ⟨-, -, -, -, -, -, -, -, h1, lo1, E1, a1, a2, a3, a4⟩ | ⟨-, -, -, -, -, -, -, h1, lo1, E1, a1, a2, a3, a4⟩ | ⟨-, -, -, -, -, -, h1, lo1, E1, a1, a2, a3, a4⟩ | ⟨-, -, -, -, -, h1, lo1, E1, a1, a2, a3, a4⟩ | ⟨-, -, -, -, h1, lo1, E1, a1, a2, a3, a4⟩ | ⟨-, -, -, h1, lo1, E1, a1, a2, a3, a4⟩ | ⟨-, -, h1, lo1, E1, a1, a2, a3, a4⟩
  · rw [r2]
    exact (KN.rf.u (Or.inl (by decide))).u (Or.inl (by decide))
  · rw [r2]
    exact (KN.rf.u (Or.inl (by decide))).u (Or.inl (by decide))
  all_goals
    rw [← a1] at HC a3 ⊢
    first
    | exact kn_ln_8 E1 a3 a4 HC
    | exact kn_ln_7 E1 a3 a4 HC
    | exact kn_ln_6 E1 a3 a4 HC
    | exact kn_ln_5 E1 a3 a4 HC
    | exact kn_ln_4 E1 a3 a4
    | exact kn_ln_3 E1 a3 a4
    | exact kn_ln_2 E1 a3 a4
    | exact kn_ln_1 E1 a3 a4
    | exact kn_ln_0 E1 a3 a4
