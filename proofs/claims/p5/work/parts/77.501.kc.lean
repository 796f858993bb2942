/-! the class's cells from 17 on stay while LINES are read -/
def pKC (k _i : Nat) : Bool := Nat.ble k 16
def KC (G G' : eh_W) : Prop := eh_fr pKC G G'
theorem KC.rf {G : eh_W} : KC G G := eh_fr.rf
theorem KC.tr {G G1 G2 : eh_W} (a : KC G G1) (b : KC G1 G2) : KC G G2 := eh_fr.tr a b
theorem KC.u {G G1 : eh_W} {k i : Nat} {v : Value} (a : KC G G1) (h : k ≤ 16) : KC G (eh_u G1 k i v) := eh_fr.up a (Nat.ble_eq.mpr h)
theorem pC_kc (k i : Nat) (h : pKC k i = false) : pCt k i = false := by
  unfold pKC at h
  unfold pCt
  rw [eh_bf (show k ≠ 2 from fun e => by
    rw [e] at h
    cases h)]
  rfl
theorem kw_74 {d : Nat} {h h' : ri_H} {v : Option Value} {b : Nat → Int32} {n m : Nat} (E : ri_calE ri_md (d + 2) 74 [.ref 2] h = some (v, h')) (iv : iC b n m (eh_V h)) : KC (eh_V h) (eh_V h') := by
  obtain ⟨a, an, a4⟩ := iv.2.2
  obtain ⟨-, f, -⟩ := sp_74 E rfl iv a4 an
  exact f.mo pC_kc
theorem kw_82 {d : Nat} {h h' : ri_H} {v : Option Value} {b : Nat → Int32} {n m : Nat} {w : Int32} (E : ri_calE ri_md (d + 3) 82 [.ref 2, .int w] h = some (v, h')) (iv : iC b n m (eh_V h)) : KC (eh_V h) (eh_V h') := by
  rcases sp_82 E rfl iv with ⟨c0, r1, r2, -, -⟩ | ⟨c0, c1, r1, r2, -, -⟩ | ⟨h1, h19, c0, c1, c2, c3, c4, r1, r2, -, -⟩
  · rw [r2]
    exact (((KC.rf : KC (eh_V h) (eh_V h)).u (by decide)).u (by decide))
  · rw [r2]
    exact (((KC.rf : KC (eh_V h) (eh_V h)).u (by decide)).u (by decide))
  · have q2 : KC (eh_V h) (eh_V h1) := by
      rw [c2]
      exact (KC.rf : KC (eh_V h) (eh_V h))
    have q3 : KC (eh_V h) (eh_V h19) := q2.tr (kw_74 (d := d + 0) c3 (by rw [c2]; exact iv))
    rw [r2]
    exact q3
theorem kw_83 {d : Nat} {h h' : ri_H} {v : Option Value} {b : Nat → Int32} {n m : Nat} {w0 : Int32} {w1 : Int32} (E : ri_calE ri_md (d + 3) 83 [.ref 2, .int w0, .int w1] h = some (v, h')) (iv : iC b n m (eh_V h)) : KC (eh_V h) (eh_V h') := by
  rcases sp_83 E rfl iv with ⟨c0, c1, r1, r2, -, -⟩ | ⟨h8, c0, c1, c2, c3, c4, r1, r2, -, -⟩ | ⟨c0, c1, c2, r1, r2, -, -⟩ | ⟨c0, r1, r2, -, -⟩
  · rw [r2]
    exact (((KC.rf : KC (eh_V h) (eh_V h)).u (by decide)).u (by decide))
  · have q3 : KC (eh_V h) (eh_V h8) := (KC.rf : KC (eh_V h) (eh_V h)).tr (kw_74 (d := d + 0) c3 iv)
    rw [r2]
    exact q3
  · rw [r2]
    exact (((KC.rf : KC (eh_V h) (eh_V h)).u (by decide)).u (by decide))
  · rw [r2]
    exact (((KC.rf : KC (eh_V h) (eh_V h)).u (by decide)).u (by decide))
theorem kw_84 {d : Nat} {h h' : ri_H} {v : Option Value} {b : Nat → Int32} {n m : Nat} {so : Int32} (E : ri_calE ri_md (d + 3) 84 [.ref 2, .ref 5, .int so] h = some (v, h')) (iv : iC b n m (eh_V h)) : KC (eh_V h) (eh_V h') := by
  rcases sp_84 E rfl iv with ⟨x3, c0, c1, c2, r1, r2, -, -⟩ | ⟨x3, h2, h13, c0, c1, c2, c3, c4, c5, c6, r1, r2, -, -⟩ | ⟨x3, c0, c1, c2, c3, r1, r2, -, -⟩ | ⟨c0, r1, r2, -, -⟩
  · rw [r2]
    exact (((KC.rf : KC (eh_V h) (eh_V h)).u (by decide)).u (by decide))
  · have q4 : KC (eh_V h) (eh_V h2) := by
      rw [c4]
      exact (KC.rf : KC (eh_V h) (eh_V h))
    have q5 : KC (eh_V h) (eh_V h13) := q4.tr (kw_74 (d := d + 0) c5 (by rw [c4]; exact iv))
    rw [r2]
    exact q5
  · rw [r2]
    exact (((KC.rf : KC (eh_V h) (eh_V h)).u (by decide)).u (by decide))
  · rw [r2]
    exact (((KC.rf : KC (eh_V h) (eh_V h)).u (by decide)).u (by decide))
theorem kw_49 {d : Nat} {h h' : ri_H} {v : Option Value} {b : Nat → Int32} {n m : Nat} {q : Int32} (E : ri_calE ri_md (d + 4) 49 [.ref 4, .int q] h = some (v, h')) (iv : iC b n m (eh_V h)) : KC (eh_V h) (eh_V h') := by
  rcases sp_49 E rfl iv with ⟨x3, h1, c0, c1, c2, r1, r2, -, -⟩ | ⟨x3, h1, c0, c1, c2, r1, r2, -, -⟩
  · have q0 : KC (eh_V h) (eh_V h1) := (KC.rf : KC (eh_V h) (eh_V h)).tr (kw_83 (d := d + 0) c0 iv)
    rw [r2]
    exact (q0.u (by decide))
  · have q0 : KC (eh_V h) (eh_V h1) := (KC.rf : KC (eh_V h) (eh_V h)).tr (kw_83 (d := d + 0) c0 iv)
    rw [r2]
    exact q0
theorem kw_48 {d : Nat} {h h' : ri_H} {v : Option Value} {b : Nat → Int32} {n m : Nat} {l : Int32} (E : ri_calE ri_md (d + 4) 48 [.ref 4, .int l] h = some (v, h')) (iv : iC b n m (eh_V h)) : KC (eh_V h) (eh_V h') := by
  rcases sp_48 E rfl iv with ⟨x3, h1, x8, h6, c0, c1, c2, c3, c4, c5, c6, r1, r2, -, -⟩ | ⟨x3, h1, x8, h6, c0, c1, c2, c3, c4, c5, c6, r1, r2, -, -⟩ | ⟨x3, h1, x8, h6, c0, c1, c2, c3, c4, c5, r1, r2, -, -⟩ | ⟨x3, h1, c0, c1, c2, r1, r2, -, -⟩
  · have q0 : KC (eh_V h) (eh_V h1) := (KC.rf : KC (eh_V h) (eh_V h)).tr (kw_83 (d := d + 0) c0 iv)
    have q3 : KC (eh_V h) (eh_V h6) := q0.tr (kw_83 (d := d + 0) c3 c1)
    rw [r2]
    exact q3
  · have q0 : KC (eh_V h) (eh_V h1) := (KC.rf : KC (eh_V h) (eh_V h)).tr (kw_83 (d := d + 0) c0 iv)
    have q3 : KC (eh_V h) (eh_V h6) := q0.tr (kw_83 (d := d + 0) c3 c1)
    rw [r2]
    exact (((q3.u (by decide)).u (by decide)).u (by decide))
  · have q0 : KC (eh_V h) (eh_V h1) := (KC.rf : KC (eh_V h) (eh_V h)).tr (kw_83 (d := d + 0) c0 iv)
    have q3 : KC (eh_V h) (eh_V h6) := q0.tr (kw_83 (d := d + 0) c3 c1)
    rw [r2]
    exact q3
  · have q0 : KC (eh_V h) (eh_V h1) := (KC.rf : KC (eh_V h) (eh_V h)).tr (kw_83 (d := d + 0) c0 iv)
    rw [r2]
    exact q0
theorem kw_45 {d : Nat} {h h' : ri_H} {v : Option Value} {b : Nat → Int32} {n m : Nat} {f : Int32} (E : ri_calE ri_md (d + 4) 45 [.ref 4, .int f] h = some (v, h')) (iv : iC b n m (eh_V h)) : KC (eh_V h) (eh_V h') := by
  rcases sp_45 E rfl iv with ⟨x4, h2, c0, c1, c2, c3, r1, r2, -, -⟩ | ⟨x4, h2, c0, c1, c2, c3, r1, r2, -, -⟩ | ⟨x12, h10, c0, c1, c2, c3, r1, r2, -, -⟩ | ⟨x12, h10, c0, c1, c2, c3, r1, r2, -, -⟩
  · have q1 : KC (eh_V h) (eh_V h2) := (KC.rf : KC (eh_V h) (eh_V h)).tr (kw_83 (d := d + 0) c1 iv)
    rw [r2]
    exact (q1.u (by decide))
  · have q1 : KC (eh_V h) (eh_V h2) := (KC.rf : KC (eh_V h) (eh_V h)).tr (kw_83 (d := d + 0) c1 iv)
    rw [r2]
    exact q1
  · have q1 : KC (eh_V h) (eh_V h10) := (KC.rf : KC (eh_V h) (eh_V h)).tr (kw_83 (d := d + 0) c1 iv)
    rw [r2]
    exact (q1.u (by decide))
  · have q1 : KC (eh_V h) (eh_V h10) := (KC.rf : KC (eh_V h) (eh_V h)).tr (kw_83 (d := d + 0) c1 iv)
    rw [r2]
    exact q1
theorem kw_44 {d : Nat} {h h' : ri_H} {v : Option Value} {b : Nat → Int32} {n m : Nat} {k : Int32} (E : ri_calE ri_md (d + 5) 44 [.ref 4, .int k] h = some (v, h')) (iv : iC b n m (eh_V h)) : KC (eh_V h) (eh_V h') := by
  rcases sp_44 E rfl iv with ⟨c0, r1, r2, -, -⟩ | ⟨h9, h12, x16, h14, c0, c1, c2, c3, c4, c5, c6, c7, c8, c9, c10, r1, r2, -, -⟩ | ⟨h9, h12, x16, h14, h19, x25, h23, c0, c1, c2, c3, c4, c5, c6, c7, c8, c9, c10, c11, c12, c13, c14, r1, r2, -, -⟩ | ⟨h9, h12, x16, h14, h19, x25, h23, c0, c1, c2, c3, c4, c5, c6, c7, c8, c9, c10, c11, c12, c13, c14, r1, r2, -, -⟩ | ⟨h9, h12, x16, h14, c0, c1, c2, c3, c4, c5, c6, c7, c8, c9, r1, r2, -, -⟩ | ⟨c0, c1, c2, c3, r1, r2, -, -⟩ | ⟨h33, h36, x40, h38, c0, c1, c2, c3, c4, c5, c6, c7, c8, c9, c10, r1, r2, -, -⟩ | ⟨h33, h36, x40, h38, c0, c1, c2, c3, c4, c5, c6, c7, c8, c9, c10, r1, r2, -, -⟩ | ⟨c0, c1, c2, c3, c4, r1, r2, -, -⟩ | ⟨c0, c1, c2, c3, r1, r2, -, -⟩ | ⟨c0, c1, r1, r2, -, -⟩
  · rw [r2]
    exact (((KC.rf : KC (eh_V h) (eh_V h)).u (by decide)).u (by decide))
  · have q4 : KC (eh_V h) (eh_V h9) := by
      rw [c4]
      exact ((KC.rf : KC (eh_V h) (eh_V h)).u (by decide))
    have q5 : KC (eh_V h) (eh_V h12) := q4.tr (kw_74 (d := d + 2) c5 (by rw [c4]; have j0 : iC b n m (eh_u (eh_V h) 4 2 (.int ((eh_i (eh_V h) 4 2) ||| (1 <<< (k &&& 31))))) := iC_u iv (iv.1.u rfl ⟨_, rfl⟩) rfl; exact j0))
    have q7 : KC (eh_V h) (eh_V h14) := q5.tr (kw_83 (d := d + 1) c7 c6)
    rw [r2]
    exact (q7.u (by decide))
  · have q4 : KC (eh_V h) (eh_V h9) := by
      rw [c4]
      exact ((KC.rf : KC (eh_V h) (eh_V h)).u (by decide))
    have q5 : KC (eh_V h) (eh_V h12) := q4.tr (kw_74 (d := d + 2) c5 (by rw [c4]; have j0 : iC b n m (eh_u (eh_V h) 4 2 (.int ((eh_i (eh_V h) 4 2) ||| (1 <<< (k &&& 31))))) := iC_u iv (iv.1.u rfl ⟨_, rfl⟩) rfl; exact j0))
    have q7 : KC (eh_V h) (eh_V h14) := q5.tr (kw_83 (d := d + 1) c7 c6)
    have q11 : KC (eh_V h) (eh_V h19) := by
      rw [c11]
      exact (q7.u (by decide))
    have q12 : KC (eh_V h) (eh_V h23) := q11.tr (kw_45 (d := d + 0) c12 (by rw [c11]; have j0 : iC b n m (eh_u (eh_V h14) 6 (k).toNatClampNeg (.int x16)) := iC_u c8 (c8.1.u rfl ⟨_, rfl⟩) rfl; exact j0))
    rw [r2]
    exact q12
  · have q4 : KC (eh_V h) (eh_V h9) := by
      rw [c4]
      exact ((KC.rf : KC (eh_V h) (eh_V h)).u (by decide))
    have q5 : KC (eh_V h) (eh_V h12) := q4.tr (kw_74 (d := d + 2) c5 (by rw [c4]; have j0 : iC b n m (eh_u (eh_V h) 4 2 (.int ((eh_i (eh_V h) 4 2) ||| (1 <<< (k &&& 31))))) := iC_u iv (iv.1.u rfl ⟨_, rfl⟩) rfl; exact j0))
    have q7 : KC (eh_V h) (eh_V h14) := q5.tr (kw_83 (d := d + 1) c7 c6)
    have q11 : KC (eh_V h) (eh_V h19) := by
      rw [c11]
      exact (q7.u (by decide))
    have q12 : KC (eh_V h) (eh_V h23) := q11.tr (kw_45 (d := d + 0) c12 (by rw [c11]; have j0 : iC b n m (eh_u (eh_V h14) 6 (k).toNatClampNeg (.int x16)) := iC_u c8 (c8.1.u rfl ⟨_, rfl⟩) rfl; exact j0))
    rw [r2]
    exact q12
  · have q4 : KC (eh_V h) (eh_V h9) := by
      rw [c4]
      exact ((KC.rf : KC (eh_V h) (eh_V h)).u (by decide))
    have q5 : KC (eh_V h) (eh_V h12) := q4.tr (kw_74 (d := d + 2) c5 (by rw [c4]; have j0 : iC b n m (eh_u (eh_V h) 4 2 (.int ((eh_i (eh_V h) 4 2) ||| (1 <<< (k &&& 31))))) := iC_u iv (iv.1.u rfl ⟨_, rfl⟩) rfl; exact j0))
    have q7 : KC (eh_V h) (eh_V h14) := q5.tr (kw_83 (d := d + 1) c7 c6)
    rw [r2]
    exact q7
  · rw [r2]
    exact (((KC.rf : KC (eh_V h) (eh_V h)).u (by decide)).u (by decide))
  · have q5 : KC (eh_V h) (eh_V h33) := by
      rw [c5]
      exact ((KC.rf : KC (eh_V h) (eh_V h)).u (by decide))
    have q6 : KC (eh_V h) (eh_V h36) := q5.tr (kw_74 (d := d + 2) c6 (by rw [c5]; have j0 : iC b n m (eh_u (eh_V h) 4 2 (.int ((eh_i (eh_V h) 4 2) ||| (1 <<< (k &&& 31))))) := iC_u iv (iv.1.u rfl ⟨_, rfl⟩) rfl; exact j0))
    have q8 : KC (eh_V h) (eh_V h38) := q6.tr (kw_83 (d := d + 1) c8 c7)
    rw [r2]
    exact (q8.u (by decide))
  · have q5 : KC (eh_V h) (eh_V h33) := by
      rw [c5]
      exact ((KC.rf : KC (eh_V h) (eh_V h)).u (by decide))
    have q6 : KC (eh_V h) (eh_V h36) := q5.tr (kw_74 (d := d + 2) c6 (by rw [c5]; have j0 : iC b n m (eh_u (eh_V h) 4 2 (.int ((eh_i (eh_V h) 4 2) ||| (1 <<< (k &&& 31))))) := iC_u iv (iv.1.u rfl ⟨_, rfl⟩) rfl; exact j0))
    have q8 : KC (eh_V h) (eh_V h38) := q6.tr (kw_83 (d := d + 1) c8 c7)
    rw [r2]
    exact q8
  · rw [r2]
    exact (((KC.rf : KC (eh_V h) (eh_V h)).u (by decide)).u (by decide))
  · rw [r2]
    exact (((KC.rf : KC (eh_V h) (eh_V h)).u (by decide)).u (by decide))
  · rw [r2]
    exact (((KC.rf : KC (eh_V h) (eh_V h)).u (by decide)).u (by decide))
theorem kw_le_a {d : Nat} {lo : List (Nat × Value)} {h h' : ri_H} {rs : List Value} {b : Nat → Int32} {n m : Nat} {l : Int32} (E : eh_e (ri_calE ri_md (d + 3)) md_47 0 lo [] h rs h') (iv : iC b n m (eh_V h)) (l0 : ri_lk lo 0 = some (.ref 4)) (l1 : ri_lk lo 1 = some (.int l)) : KC (eh_V h) (eh_V h') ∨ (∃ hz loz, eh_e (ri_calE ri_md (d + 3)) md_47 47 loz [] hz rs h' ∧ KC (eh_V h) (eh_V hz) ∧ iC b n m (eh_V hz) ∧ ri_lk loz 0 = some (.ref 4) ∧ ri_lk loz 1 = some (.int l) ∧ (∃ cu : Int32, ri_lk loz 2 = some (.int cu)) ∧ ri_lk loz 3 = some (.int 0)) := by
  rcases le_a E rfl iv l0 l1 with ⟨x3, h1, c0, c1, c2, hz, loz, E1, a1, -, a3, b0, b1, b2, b3⟩ | ⟨x3, h1, c0, c1, c2, r1, r2, -, -⟩
  · have q0 : KC (eh_V h) (eh_V h1) := (KC.rf : KC (eh_V h) (eh_V h)).tr (kw_84 (d := d + 0) c0 iv)
    exact Or.inr ⟨hz, loz, E1, (by rw [a1]; exact ((q0.u (by decide)).u (by decide))), (by rw [a1]; exact a3), b0, b1, ⟨_, b2⟩, b3⟩
  · have q0 : KC (eh_V h) (eh_V h1) := (KC.rf : KC (eh_V h) (eh_V h)).tr (kw_84 (d := d + 0) c0 iv)
    exact Or.inl (by rw [r2]; exact q0)
theorem kw_le_i {d : Nat} {lo : List (Nat × Value)} {h h' : ri_H} {rs : List Value} {b : Nat → Int32} {n m : Nat} {l : Int32} {cu : Int32} {i : Int32} (E : eh_e (ri_calE ri_md (d + 4)) md_47 47 lo [] h rs h') (iv : iC b n m (eh_V h)) (l0 : ri_lk lo 0 = some (.ref 4)) (l1 : ri_lk lo 1 = some (.int l)) (l2 : ri_lk lo 2 = some (.int cu)) (l3 : ri_lk lo 3 = some (.int i)) : KC (eh_V h) (eh_V h') ∨ (∃ hz loz, eh_e (ri_calE ri_md (d + 4)) md_47 47 loz [] hz rs h' ∧ KC (eh_V h) (eh_V hz) ∧ iC b n m (eh_V hz) ∧ ri_lk loz 0 = some (.ref 4) ∧ ri_lk loz 1 = some (.int l) ∧ ri_lk loz 2 = some (.int cu) ∧ ri_lk loz 3 = some (.int (i + 1))) := by
  rcases le_i E rfl iv l0 l1 l2 l3 with ⟨c0, c1, r1, r2, -, -⟩ | ⟨c0, c1, r1, r2, -, -⟩ | ⟨c0, c1, r1, r2, -, -⟩ | ⟨x9, h7, c0, c1, c2, c3, c4, hz, loz, E1, a1, -, a3, b0, b1, b2, b3⟩ | ⟨x9, h7, c0, c1, c2, c3, c4, r1, r2, -, -⟩
  · exact Or.inl (by rw [r2]; exact (KC.rf : KC (eh_V h) (eh_V h)))
  · exact Or.inl (by rw [r2]; exact (((KC.rf : KC (eh_V h) (eh_V h)).u (by decide)).u (by decide)))
  · exact Or.inl (by rw [r2]; exact (KC.rf : KC (eh_V h) (eh_V h)))
  · have q2 : KC (eh_V h) (eh_V h7) := (KC.rf : KC (eh_V h) (eh_V h)).tr (kw_48 (d := d + 0) c2 iv)
    exact Or.inr ⟨hz, loz, E1, (by rw [a1]; exact q2), (by rw [a1]; exact a3), b0, b1, b2, b3⟩
  · have q2 : KC (eh_V h) (eh_V h7) := (KC.rf : KC (eh_V h) (eh_V h)).tr (kw_48 (d := d + 0) c2 iv)
    exact Or.inl (by rw [r2]; exact q2)
section KWL
variable {d : Nat} {rs : List Value} {h' : ri_H} {b : Nat → Int32} {n m : Nat} {l cu : Int32}
theorem kw_le : ∀ (f k : Nat) (lo : List (Nat × Value)) (h : ri_H), k + f = 8 → eh_e (ri_calE ri_md (d + 4)) md_47 47 lo [] h rs h' → iC b n m (eh_V h) → ri_lk lo 0 = some (.ref 4) → ri_lk lo 1 = some (.int l) → ri_lk lo 2 = some (.int cu) → ri_lk lo 3 = some (.int (nI k)) → KC (eh_V h) (eh_V h') := by
  intro f
  induction f with
  | zero =>
    intro k lo h hf E iv l0 l1 l2 l3
    have e8 : (nI k).toInt = 8 := by rw [lx_i (a := k) (by omega)]; omega
    rcases le_i E rfl iv l0 l1 l2 l3 with ⟨-, -, r1, r2, -, -⟩ | ⟨-, -, r1, r2, -, -⟩ | ⟨c, -⟩ | ⟨_, _, c, -⟩ | ⟨_, _, c, -⟩
    · rw [r2]
      exact KC.rf
    · rw [r2]
      exact (KC.rf.u (by decide)).u (by decide)
    all_goals omega
  | succ f ih =>
    intro k lo h hf E iv l0 l1 l2 l3
    rcases kw_le_i E iv l0 l1 l2 l3 with z | ⟨hz, loz, E1, a1, a3, a4, a5, a6, a7⟩
    · exact z
    · rw [lx_a1] at a7
      exact a1.tr (ih (k + 1) loz hz (by omega) E1 a3 a4 a5 a6 a7)
end KWL
theorem kw_47 {d : Nat} {h h' : ri_H} {v : Option Value} {b : Nat → Int32} {n m : Nat} {l : Int32} (E : ri_calE ri_md (d + 5) 47 [.ref 4, .int l] h = some (v, h')) (iv : iC b n m (eh_V h)) : KC (eh_V h) (eh_V h') := by
  obtain ⟨rs, hrs, E⟩ := eh_in E (q := md_47) rfl
  rcases kw_le_a (d := d + 1) E iv rfl rfl with z | ⟨hz, loz, E1, a1, a3, a4, a5, ⟨cu, a6⟩, a7⟩
  · exact z
  · exact a1.tr (kw_le 8 0 loz hz rfl E1 a3 a4 a5 a6 a7)
theorem kw_46 {d : Nat} {h h' : ri_H} {v : Option Value} {b : Nat → Int32} {n m : Nat} {so : Int32} (E : ri_calE ri_md (d + 6) 46 [.ref 4, .int so] h = some (v, h')) (iv : iC b n m (eh_V h)) : KC (eh_V h) (eh_V h') := by
  rcases sp_46 E rfl iv with ⟨c0, r1, r2, -, -⟩ | ⟨h7, x11, c0, c1, c2, c3, c4, c5, c6, c7, c8, r1, r2, -, -⟩ | ⟨h7, x11, h16, h34, c0, c1, c2, c3, c4, c5, c6, c7, c8, c9, c10, c11, c12, c13, c14, c15, r1, r2, -, -⟩ | ⟨h7, x11, h16, h34, x40, h38, c0, c1, c2, c3, c4, c5, c6, c7, c8, c9, c10, c11, c12, c13, c14, c15, c16, c17, c18, r1, r2, -, -⟩ | ⟨h7, x11, h16, h34, x40, h38, c0, c1, c2, c3, c4, c5, c6, c7, c8, c9, c10, c11, c12, c13, c14, c15, c16, c17, c18, r1, r2, -, -⟩ | ⟨h7, x11, h16, h34, x44, h42, c0, c1, c2, c3, c4, c5, c6, c7, c8, c9, c10, c11, c12, c13, c14, c15, c16, r1, r2, -, -⟩ | ⟨h7, x11, c0, c1, c2, c3, c4, c5, c6, c7, c8, c9, c10, r1, r2, -, -⟩ | ⟨h7, x11, c0, c1, c2, c3, c4, c5, c6, c7, c8, c9, r1, r2, -, -⟩ | ⟨h7, x11, c0, c1, c2, c3, c4, c5, c6, c7, r1, r2, -, -⟩ | ⟨h7, c0, c1, c2, c3, c4, c5, r1, r2, -, -⟩ | ⟨c0, c1, c2, r1, r2, -, -⟩ | ⟨c0, c1, r1, r2, -, -⟩
  · rw [r2]
    exact (((KC.rf : KC (eh_V h) (eh_V h)).u (by decide)).u (by decide))
  · have q3 : KC (eh_V h) (eh_V h7) := (KC.rf : KC (eh_V h) (eh_V h)).tr (kw_74 (d := d + 3) c3 iv)
    rw [r2]
    exact ((q3.u (by decide)).u (by decide))
  · have q3 : KC (eh_V h) (eh_V h7) := (KC.rf : KC (eh_V h) (eh_V h)).tr (kw_74 (d := d + 3) c3 iv)
    have q11 : KC (eh_V h) (eh_V h16) := by
      rw [c11]
      exact (((((q3.u (by decide)).u (by decide)).u (by decide)).u (by decide)).u (by decide))
    have q12 : KC (eh_V h) (eh_V h34) := q11.tr (kw_74 (d := d + 3) c12 (by rw [c11]; have j0 : iC b n m (eh_u (eh_V h7) 14 (eh_i (eh_V h7) 5 12).toNatClampNeg (.long (eh_l (eh_V h7) 2 8))) := iC_u c4 (c4.1.u rfl ⟨_, rfl⟩) rfl; have j1 : iC b n m (eh_u (eh_u (eh_V h7) 14 (eh_i (eh_V h7) 5 12).toNatClampNeg (.long (eh_l (eh_V h7) 2 8))) 15 (eh_i (eh_V h7) 5 12).toNatClampNeg (.int so)) := iC_u j0 (j0.1.u rfl ⟨_, rfl⟩) rfl; have j2 : iC b n m (eh_u (eh_u (eh_u (eh_V h7) 14 (eh_i (eh_V h7) 5 12).toNatClampNeg (.long (eh_l (eh_V h7) 2 8))) 15 (eh_i (eh_V h7) 5 12).toNatClampNeg (.int so)) 16 (eh_i (eh_V h7) 5 12).toNatClampNeg (.int (eh_i (eh_V h7) 7 (so).toNatClampNeg))) := iC_u j1 (j1.1.u rfl ⟨_, rfl⟩) rfl; have j3 : iC b n m (eh_u (eh_u (eh_u (eh_u (eh_V h7) 14 (eh_i (eh_V h7) 5 12).toNatClampNeg (.long (eh_l (eh_V h7) 2 8))) 15 (eh_i (eh_V h7) 5 12).toNatClampNeg (.int so)) 16 (eh_i (eh_V h7) 5 12).toNatClampNeg (.int (eh_i (eh_V h7) 7 (so).toNatClampNeg))) 5 12 (.int ((eh_i (eh_V h7) 5 12) + 1))) := iC_u j2 (j2.1.u rfl ⟨_, rfl⟩) rfl; have j4 : iC b n m (eh_u (eh_u (eh_u (eh_u (eh_u (eh_V h7) 14 (eh_i (eh_V h7) 5 12).toNatClampNeg (.long (eh_l (eh_V h7) 2 8))) 15 (eh_i (eh_V h7) 5 12).toNatClampNeg (.int so)) 16 (eh_i (eh_V h7) 5 12).toNatClampNeg (.int (eh_i (eh_V h7) 7 (so).toNatClampNeg))) 5 12 (.int ((eh_i (eh_V h7) 5 12) + 1))) 7 (so).toNatClampNeg (.int ((eh_i (eh_V h7) 7 (so).toNatClampNeg) + 1))) := iC_u j3 (j3.1.u rfl ⟨_, rfl⟩) rfl; exact j4))
    rw [r2]
    exact q12
  · have q3 : KC (eh_V h) (eh_V h7) := (KC.rf : KC (eh_V h) (eh_V h)).tr (kw_74 (d := d + 3) c3 iv)
    have q11 : KC (eh_V h) (eh_V h16) := by
      rw [c11]
      exact (((((q3.u (by decide)).u (by decide)).u (by decide)).u (by decide)).u (by decide))
    have q12 : KC (eh_V h) (eh_V h34) := q11.tr (kw_74 (d := d + 3) c12 (by rw [c11]; have j0 : iC b n m (eh_u (eh_V h7) 14 (eh_i (eh_V h7) 5 12).toNatClampNeg (.long (eh_l (eh_V h7) 2 8))) := iC_u c4 (c4.1.u rfl ⟨_, rfl⟩) rfl; have j1 : iC b n m (eh_u (eh_u (eh_V h7) 14 (eh_i (eh_V h7) 5 12).toNatClampNeg (.long (eh_l (eh_V h7) 2 8))) 15 (eh_i (eh_V h7) 5 12).toNatClampNeg (.int so)) := iC_u j0 (j0.1.u rfl ⟨_, rfl⟩) rfl; have j2 : iC b n m (eh_u (eh_u (eh_u (eh_V h7) 14 (eh_i (eh_V h7) 5 12).toNatClampNeg (.long (eh_l (eh_V h7) 2 8))) 15 (eh_i (eh_V h7) 5 12).toNatClampNeg (.int so)) 16 (eh_i (eh_V h7) 5 12).toNatClampNeg (.int (eh_i (eh_V h7) 7 (so).toNatClampNeg))) := iC_u j1 (j1.1.u rfl ⟨_, rfl⟩) rfl; have j3 : iC b n m (eh_u (eh_u (eh_u (eh_u (eh_V h7) 14 (eh_i (eh_V h7) 5 12).toNatClampNeg (.long (eh_l (eh_V h7) 2 8))) 15 (eh_i (eh_V h7) 5 12).toNatClampNeg (.int so)) 16 (eh_i (eh_V h7) 5 12).toNatClampNeg (.int (eh_i (eh_V h7) 7 (so).toNatClampNeg))) 5 12 (.int ((eh_i (eh_V h7) 5 12) + 1))) := iC_u j2 (j2.1.u rfl ⟨_, rfl⟩) rfl; have j4 : iC b n m (eh_u (eh_u (eh_u (eh_u (eh_u (eh_V h7) 14 (eh_i (eh_V h7) 5 12).toNatClampNeg (.long (eh_l (eh_V h7) 2 8))) 15 (eh_i (eh_V h7) 5 12).toNatClampNeg (.int so)) 16 (eh_i (eh_V h7) 5 12).toNatClampNeg (.int (eh_i (eh_V h7) 7 (so).toNatClampNeg))) 5 12 (.int ((eh_i (eh_V h7) 5 12) + 1))) 7 (so).toNatClampNeg (.int ((eh_i (eh_V h7) 7 (so).toNatClampNeg) + 1))) := iC_u j3 (j3.1.u rfl ⟨_, rfl⟩) rfl; exact j4))
    have q16 : KC (eh_V h) (eh_V h38) := q12.tr (kw_49 (d := d + 1) c16 c13)
    rw [r2]
    exact q16
  · have q3 : KC (eh_V h) (eh_V h7) := (KC.rf : KC (eh_V h) (eh_V h)).tr (kw_74 (d := d + 3) c3 iv)
    have q11 : KC (eh_V h) (eh_V h16) := by
      rw [c11]
      exact (((((q3.u (by decide)).u (by decide)).u (by decide)).u (by decide)).u (by decide))
    have q12 : KC (eh_V h) (eh_V h34) := q11.tr (kw_74 (d := d + 3) c12 (by rw [c11]; have j0 : iC b n m (eh_u (eh_V h7) 14 (eh_i (eh_V h7) 5 12).toNatClampNeg (.long (eh_l (eh_V h7) 2 8))) := iC_u c4 (c4.1.u rfl ⟨_, rfl⟩) rfl; have j1 : iC b n m (eh_u (eh_u (eh_V h7) 14 (eh_i (eh_V h7) 5 12).toNatClampNeg (.long (eh_l (eh_V h7) 2 8))) 15 (eh_i (eh_V h7) 5 12).toNatClampNeg (.int so)) := iC_u j0 (j0.1.u rfl ⟨_, rfl⟩) rfl; have j2 : iC b n m (eh_u (eh_u (eh_u (eh_V h7) 14 (eh_i (eh_V h7) 5 12).toNatClampNeg (.long (eh_l (eh_V h7) 2 8))) 15 (eh_i (eh_V h7) 5 12).toNatClampNeg (.int so)) 16 (eh_i (eh_V h7) 5 12).toNatClampNeg (.int (eh_i (eh_V h7) 7 (so).toNatClampNeg))) := iC_u j1 (j1.1.u rfl ⟨_, rfl⟩) rfl; have j3 : iC b n m (eh_u (eh_u (eh_u (eh_u (eh_V h7) 14 (eh_i (eh_V h7) 5 12).toNatClampNeg (.long (eh_l (eh_V h7) 2 8))) 15 (eh_i (eh_V h7) 5 12).toNatClampNeg (.int so)) 16 (eh_i (eh_V h7) 5 12).toNatClampNeg (.int (eh_i (eh_V h7) 7 (so).toNatClampNeg))) 5 12 (.int ((eh_i (eh_V h7) 5 12) + 1))) := iC_u j2 (j2.1.u rfl ⟨_, rfl⟩) rfl; have j4 : iC b n m (eh_u (eh_u (eh_u (eh_u (eh_u (eh_V h7) 14 (eh_i (eh_V h7) 5 12).toNatClampNeg (.long (eh_l (eh_V h7) 2 8))) 15 (eh_i (eh_V h7) 5 12).toNatClampNeg (.int so)) 16 (eh_i (eh_V h7) 5 12).toNatClampNeg (.int (eh_i (eh_V h7) 7 (so).toNatClampNeg))) 5 12 (.int ((eh_i (eh_V h7) 5 12) + 1))) 7 (so).toNatClampNeg (.int ((eh_i (eh_V h7) 7 (so).toNatClampNeg) + 1))) := iC_u j3 (j3.1.u rfl ⟨_, rfl⟩) rfl; exact j4))
    have q16 : KC (eh_V h) (eh_V h38) := q12.tr (kw_49 (d := d + 1) c16 c13)
    rw [r2]
    exact q16
  · have q3 : KC (eh_V h) (eh_V h7) := (KC.rf : KC (eh_V h) (eh_V h)).tr (kw_74 (d := d + 3) c3 iv)
    have q11 : KC (eh_V h) (eh_V h16) := by
      rw [c11]
      exact (((((q3.u (by decide)).u (by decide)).u (by decide)).u (by decide)).u (by decide))
    have q12 : KC (eh_V h) (eh_V h34) := q11.tr (kw_74 (d := d + 3) c12 (by rw [c11]; have j0 : iC b n m (eh_u (eh_V h7) 14 (eh_i (eh_V h7) 5 12).toNatClampNeg (.long (eh_l (eh_V h7) 2 8))) := iC_u c4 (c4.1.u rfl ⟨_, rfl⟩) rfl; have j1 : iC b n m (eh_u (eh_u (eh_V h7) 14 (eh_i (eh_V h7) 5 12).toNatClampNeg (.long (eh_l (eh_V h7) 2 8))) 15 (eh_i (eh_V h7) 5 12).toNatClampNeg (.int so)) := iC_u j0 (j0.1.u rfl ⟨_, rfl⟩) rfl; have j2 : iC b n m (eh_u (eh_u (eh_u (eh_V h7) 14 (eh_i (eh_V h7) 5 12).toNatClampNeg (.long (eh_l (eh_V h7) 2 8))) 15 (eh_i (eh_V h7) 5 12).toNatClampNeg (.int so)) 16 (eh_i (eh_V h7) 5 12).toNatClampNeg (.int (eh_i (eh_V h7) 7 (so).toNatClampNeg))) := iC_u j1 (j1.1.u rfl ⟨_, rfl⟩) rfl; have j3 : iC b n m (eh_u (eh_u (eh_u (eh_u (eh_V h7) 14 (eh_i (eh_V h7) 5 12).toNatClampNeg (.long (eh_l (eh_V h7) 2 8))) 15 (eh_i (eh_V h7) 5 12).toNatClampNeg (.int so)) 16 (eh_i (eh_V h7) 5 12).toNatClampNeg (.int (eh_i (eh_V h7) 7 (so).toNatClampNeg))) 5 12 (.int ((eh_i (eh_V h7) 5 12) + 1))) := iC_u j2 (j2.1.u rfl ⟨_, rfl⟩) rfl; have j4 : iC b n m (eh_u (eh_u (eh_u (eh_u (eh_u (eh_V h7) 14 (eh_i (eh_V h7) 5 12).toNatClampNeg (.long (eh_l (eh_V h7) 2 8))) 15 (eh_i (eh_V h7) 5 12).toNatClampNeg (.int so)) 16 (eh_i (eh_V h7) 5 12).toNatClampNeg (.int (eh_i (eh_V h7) 7 (so).toNatClampNeg))) 5 12 (.int ((eh_i (eh_V h7) 5 12) + 1))) 7 (so).toNatClampNeg (.int ((eh_i (eh_V h7) 7 (so).toNatClampNeg) + 1))) := iC_u j3 (j3.1.u rfl ⟨_, rfl⟩) rfl; exact j4))
    have q15 : KC (eh_V h) (eh_V h42) := q12.tr (kw_47 (d := d + 0) c15 c13)
    rw [r2]
    exact q15
  · have q3 : KC (eh_V h) (eh_V h7) := (KC.rf : KC (eh_V h) (eh_V h)).tr (kw_74 (d := d + 3) c3 iv)
    rw [r2]
    exact (((((((q3.u (by decide)).u (by decide)).u (by decide)).u (by decide)).u (by decide)).u (by decide)).u (by decide))
  · have q3 : KC (eh_V h) (eh_V h7) := (KC.rf : KC (eh_V h) (eh_V h)).tr (kw_74 (d := d + 3) c3 iv)
    rw [r2]
    exact ((q3.u (by decide)).u (by decide))
  · have q3 : KC (eh_V h) (eh_V h7) := (KC.rf : KC (eh_V h) (eh_V h)).tr (kw_74 (d := d + 3) c3 iv)
    rw [r2]
    exact ((q3.u (by decide)).u (by decide))
  · have q3 : KC (eh_V h) (eh_V h7) := (KC.rf : KC (eh_V h) (eh_V h)).tr (kw_74 (d := d + 3) c3 iv)
    rw [r2]
    exact ((q3.u (by decide)).u (by decide))
  · rw [r2]
    exact (((KC.rf : KC (eh_V h) (eh_V h)).u (by decide)).u (by decide))
  · rw [r2]
    exact (((KC.rf : KC (eh_V h) (eh_V h)).u (by decide)).u (by decide))
theorem kw_ll_i {d : Nat} {lo : List (Nat × Value)} {h h' : ri_H} {rs : List Value} {b : Nat → Int32} {n m : Nat} {i : Int32} (E : eh_e (ri_calE ri_md (d + 6)) md_43 14 lo [] h rs h') (iv : iC b n m (eh_V h)) (l0 : ri_lk lo 0 = some (.ref 4)) (l1 : ri_lk lo 1 = some (.int i)) : KC (eh_V h) (eh_V h') ∨ (∃ hz loz, eh_e (ri_calE ri_md (d + 6)) md_43 14 loz [] hz rs h' ∧ KC (eh_V h) (eh_V hz) ∧ iC b n m (eh_V hz) ∧ ri_lk loz 0 = some (.ref 4) ∧ ri_lk loz 1 = some (.int (i + 1))) := by
  rcases ll_i E rfl iv l0 l1 with ⟨c0, r1, r2, -, -⟩ | ⟨x7, h5, c0, c1, c2, c3, c4, c5, r1, r2, -, -⟩ | ⟨x7, h5, x12, h10, c0, c1, c2, c3, c4, c5, c6, c7, c8, hz, loz, E1, a1, -, a3, b0, b1, b2, b3⟩ | ⟨x7, h5, x12, h10, c0, c1, c2, c3, c4, c5, c6, c7, c8, r1, r2, -, -⟩ | ⟨x19, h17, c0, c1, c2, c3, c4, c5, c6, r1, r2, -, -⟩ | ⟨x19, h17, x24, h22, c0, c1, c2, c3, c4, c5, c6, c7, c8, c9, hz, loz, E1, a1, -, a3, b0, b1, b2, b3⟩ | ⟨x19, h17, x24, h22, c0, c1, c2, c3, c4, c5, c6, c7, c8, c9, r1, r2, -, -⟩ | ⟨x29, h27, c0, c1, c2, c3, c4, c5, c6, r1, r2, -, -⟩ | ⟨x29, h27, x34, h32, c0, c1, c2, c3, c4, c5, c6, c7, c8, c9, hz, loz, E1, a1, -, a3, b0, b1, b2, b3⟩ | ⟨x29, h27, x34, h32, c0, c1, c2, c3, c4, c5, c6, c7, c8, c9, r1, r2, -, -⟩ | ⟨c0, c1, r1, r2, -, -⟩
  · exact Or.inl (by rw [r2]; exact (KC.rf : KC (eh_V h) (eh_V h)))
  · have q3 : KC (eh_V h) (eh_V h5) := (KC.rf : KC (eh_V h) (eh_V h)).tr (kw_44 (d := d + 1) c3 iv)
    exact Or.inl (by rw [r2]; exact q3)
  · have q3 : KC (eh_V h) (eh_V h5) := (KC.rf : KC (eh_V h) (eh_V h)).tr (kw_44 (d := d + 1) c3 iv)
    have q6 : KC (eh_V h) (eh_V h10) := q3.tr (kw_82 (d := d + 3) c6 c4)
    exact Or.inr ⟨hz, loz, E1, (by rw [a1]; exact q6), (by rw [a1]; exact a3), b0, b1⟩
  · have q3 : KC (eh_V h) (eh_V h5) := (KC.rf : KC (eh_V h) (eh_V h)).tr (kw_44 (d := d + 1) c3 iv)
    have q6 : KC (eh_V h) (eh_V h10) := q3.tr (kw_82 (d := d + 3) c6 c4)
    exact Or.inl (by rw [r2]; exact q6)
  · have q4 : KC (eh_V h) (eh_V h17) := (KC.rf : KC (eh_V h) (eh_V h)).tr (kw_44 (d := d + 1) c4 iv)
    exact Or.inl (by rw [r2]; exact q4)
  · have q4 : KC (eh_V h) (eh_V h17) := (KC.rf : KC (eh_V h) (eh_V h)).tr (kw_44 (d := d + 1) c4 iv)
    have q7 : KC (eh_V h) (eh_V h22) := q4.tr (kw_82 (d := d + 3) c7 c5)
    exact Or.inr ⟨hz, loz, E1, (by rw [a1]; exact q7), (by rw [a1]; exact a3), b0, b1⟩
  · have q4 : KC (eh_V h) (eh_V h17) := (KC.rf : KC (eh_V h) (eh_V h)).tr (kw_44 (d := d + 1) c4 iv)
    have q7 : KC (eh_V h) (eh_V h22) := q4.tr (kw_82 (d := d + 3) c7 c5)
    exact Or.inl (by rw [r2]; exact q7)
  · have q4 : KC (eh_V h) (eh_V h27) := (KC.rf : KC (eh_V h) (eh_V h)).tr (kw_46 (d := d + 0) c4 iv)
    exact Or.inl (by rw [r2]; exact q4)
  · have q4 : KC (eh_V h) (eh_V h27) := (KC.rf : KC (eh_V h) (eh_V h)).tr (kw_46 (d := d + 0) c4 iv)
    have q7 : KC (eh_V h) (eh_V h32) := q4.tr (kw_82 (d := d + 3) c7 c5)
    exact Or.inr ⟨hz, loz, E1, (by rw [a1]; exact q7), (by rw [a1]; exact a3), b0, b1⟩
  · have q4 : KC (eh_V h) (eh_V h27) := (KC.rf : KC (eh_V h) (eh_V h)).tr (kw_46 (d := d + 0) c4 iv)
    have q7 : KC (eh_V h) (eh_V h32) := q4.tr (kw_82 (d := d + 3) c7 c5)
    exact Or.inl (by rw [r2]; exact q7)
  · exact Or.inl (by rw [r2]; exact (KC.rf : KC (eh_V h) (eh_V h)))
section KWM
variable {d : Nat} {rs : List Value} {h' : ri_H} {b : Nat → Int32} {n m : Nat}
theorem kw_ll : ∀ (f i : Nat) (lo : List (Nat × Value)) (h : ri_H), i + f = 901 → eh_e (ri_calE ri_md (d + 6)) md_43 14 lo [] h rs h' → iC b n m (eh_V h) → ri_lk lo 0 = some (.ref 4) → ri_lk lo 1 = some (.int (nI i)) → KC (eh_V h) (eh_V h') := by
  intro f
  induction f with
  | zero =>
    intro i lo h hf E iv l0 l1
    have z := ll_i E rfl iv l0 l1
    rw [lx_i (a := i) (by omega)] at z
    rcases z with ⟨-, r1, r2, -, -⟩ | ⟨_, _, w, -⟩ | ⟨_, _, _, _, w, -⟩ | ⟨_, _, _, _, w, -⟩ | ⟨_, _, w, -⟩ | ⟨_, _, _, _, w, -⟩ | ⟨_, _, _, _, w, -⟩ | ⟨_, _, w, -⟩ | ⟨_, _, _, _, w, -⟩ | ⟨_, _, _, _, w, -⟩ | ⟨w, -⟩
    · rw [r2]
      exact KC.rf
    all_goals omega
  | succ f ih =>
    intro i lo h hf E iv l0 l1
    rcases kw_ll_i E iv l0 l1 with z | ⟨hz, loz, E1, a1, a3, a4, a5⟩
    · exact z
    · rw [lx_a1] at a5
      exact a1.tr (ih (i + 1) loz hz (by omega) E1 a3 a4 a5)
end KWM
