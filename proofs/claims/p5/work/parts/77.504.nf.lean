/-! no FAULT unless it fails: the class's (cell 2, 9), the reference's (0, 15) -/
def NFc (G G' : eh_W) : Prop := eh_i G' 2 9 = eh_i G 2 9
theorem NFc.rf {G : eh_W} : NFc G G := rfl
theorem NFc.tr {G G1 G2 : eh_W} (a : NFc G G1) (b : NFc G1 G2) : NFc G G2 := Eq.trans b a
theorem NFc.u {G G1 : eh_W} {k i : Nat} {v : Value} (a : NFc G G1) (h : k ≠ 2 ∨ i ≠ 9) : NFc G (eh_u G1 k i v) := (eh_i_ne G1 v h).trans a
def NFm (G G' : eh_W) : Prop := eh_i G' 0 15 = eh_i G 0 15
theorem NFm.rf {G : eh_W} : NFm G G := rfl
theorem NFm.tr {G G1 G2 : eh_W} (a : NFm G G1) (b : NFm G1 G2) : NFm G G2 := Eq.trans b a
theorem NFm.u {G G1 : eh_W} {k i : Nat} {v : Value} (a : NFm G G1) (h : k ≠ 0 ∨ i ≠ 15) : NFm G (eh_u G1 k i v) := (eh_i_ne G1 v h).trans a
theorem nfc_74 {d : Nat} {h h' : ri_H} {v : Option Value} {b : Nat → Int32} {n m : Nat} (E : ri_calE ri_md (d + 2) 74 [.ref 2] h = some (v, h')) (iv : iC b n m (eh_V h)) : NFc (eh_V h) (eh_V h') := by
  obtain ⟨a, an, a4⟩ := iv.2.2
  obtain ⟨-, f, -⟩ := sp_74 E rfl iv a4 an
  exact f.i rfl
theorem nfm_158 {d : Nat} {h h' : ri_H} {v : Option Value} {b : Nat → Int32} {n m : Nat} (E : ri_calE ri_md (d + 2) 158 [.ref 0] h = some (v, h')) (iv : iM b n m (eh_V h)) : NFm (eh_V h) (eh_V h') := by
  obtain ⟨a, an, a4⟩ := iv.2.2
  obtain ⟨-, f, -⟩ := sp_158 E rfl iv a4 an
  exact f.i rfl
theorem nfc_82 {d : Nat} {h h' : ri_H} {v : Option Value} {b : Nat → Int32} {n m : Nat} {w : Int32} (E : ri_calE ri_md (d + 3) 82 [.ref 2, .int w] h = some (v, h')) (iv : iC b n m (eh_V h)) : v = some (.int 0) ∨ NFc (eh_V h) (eh_V h') := by
  rcases sp_82 E rfl iv with ⟨c0, r1, r2, -, -⟩ | ⟨c0, c1, r1, r2, -, -⟩ | ⟨h1, h19, c0, c1, c2, c3, c4, r1, r2, -, -⟩
  · exact Or.inl r1
  · exact Or.inl r1
  · refine Or.inr ?_
    have q2 : NFc (eh_V h) (eh_V h1) := by
      rw [c2]
      exact (NFc.rf : NFc (eh_V h) (eh_V h))
    have q3 : NFc (eh_V h) (eh_V h19) := q2.tr (nfc_74 (d := d + 0) c3 (by rw [c2]; exact iv))
    rw [r2]
    exact q3
theorem nfc_83 {d : Nat} {h h' : ri_H} {v : Option Value} {b : Nat → Int32} {n m : Nat} {w0 : Int32} {w1 : Int32} (E : ri_calE ri_md (d + 3) 83 [.ref 2, .int w0, .int w1] h = some (v, h')) (iv : iC b n m (eh_V h)) : v = some (.int (-1)) ∨ NFc (eh_V h) (eh_V h') := by
  rcases sp_83 E rfl iv with ⟨c0, c1, r1, r2, -, -⟩ | ⟨h8, c0, c1, c2, c3, c4, r1, r2, -, -⟩ | ⟨c0, c1, c2, r1, r2, -, -⟩ | ⟨c0, r1, r2, -, -⟩
  · exact Or.inl r1
  · refine Or.inr ?_
    have q3 : NFc (eh_V h) (eh_V h8) := (NFc.rf : NFc (eh_V h) (eh_V h)).tr (nfc_74 (d := d + 0) c3 iv)
    rw [r2]
    exact q3
  · exact Or.inl r1
  · exact Or.inl r1
theorem nfc_84 {d : Nat} {h h' : ri_H} {v : Option Value} {b : Nat → Int32} {n m : Nat} {so : Int32} (E : ri_calE ri_md (d + 3) 84 [.ref 2, .ref 5, .int so] h = some (v, h')) (iv : iC b n m (eh_V h)) : v = some (.int (-1)) ∨ NFc (eh_V h) (eh_V h') := by
  rcases sp_84 E rfl iv with ⟨x3, c0, c1, c2, r1, r2, -, -⟩ | ⟨x3, h2, h13, c0, c1, c2, c3, c4, c5, c6, r1, r2, -, -⟩ | ⟨x3, c0, c1, c2, c3, r1, r2, -, -⟩ | ⟨c0, r1, r2, -, -⟩
  · exact Or.inl r1
  · refine Or.inr ?_
    have q4 : NFc (eh_V h) (eh_V h2) := by
      rw [c4]
      exact (NFc.rf : NFc (eh_V h) (eh_V h))
    have q5 : NFc (eh_V h) (eh_V h13) := q4.tr (nfc_74 (d := d + 0) c5 (by rw [c4]; exact iv))
    rw [r2]
    exact q5
  · exact Or.inl r1
  · exact Or.inl r1
theorem nfc_49 {d : Nat} {h h' : ri_H} {v : Option Value} {b : Nat → Int32} {n m : Nat} {q : Int32} (E : ri_calE ri_md (d + 4) 49 [.ref 4, .int q] h = some (v, h')) (iv : iC b n m (eh_V h)) : v = some (.int 0) ∨ NFc (eh_V h) (eh_V h') := by
  rcases sp_49 E rfl iv with ⟨x3, h1, c0, c1, c2, r1, r2, -, -⟩ | ⟨x3, h1, c0, c1, c2, r1, r2, -, -⟩
  · refine Or.inr ?_
    have q0 : NFc (eh_V h) (eh_V h1) := by
      rcases nfc_83 (d := d + 0) c0 iv with z | z
      · cases z
        exact absurd rfl c2
      · exact (NFc.rf : NFc (eh_V h) (eh_V h)).tr z
    rw [r2]
    exact (q0.u (Or.inl (by decide)))
  · exact Or.inl r1
theorem nfc_48 {d : Nat} {h h' : ri_H} {v : Option Value} {b : Nat → Int32} {n m : Nat} {l : Int32} (E : ri_calE ri_md (d + 4) 48 [.ref 4, .int l] h = some (v, h')) (iv : iC b n m (eh_V h)) : v = some (.int 0) ∨ NFc (eh_V h) (eh_V h') := by
  rcases sp_48 E rfl iv with ⟨x3, h1, x8, h6, c0, c1, c2, c3, c4, c5, c6, r1, r2, -, -⟩ | ⟨x3, h1, x8, h6, c0, c1, c2, c3, c4, c5, c6, r1, r2, -, -⟩ | ⟨x3, h1, x8, h6, c0, c1, c2, c3, c4, c5, r1, r2, -, -⟩ | ⟨x3, h1, c0, c1, c2, r1, r2, -, -⟩
  · refine Or.inr ?_
    have q0 : NFc (eh_V h) (eh_V h1) := by
      rcases nfc_83 (d := d + 0) c0 iv with z | z
      · cases z
        exact absurd rfl c2
      · exact (NFc.rf : NFc (eh_V h) (eh_V h)).tr z
    have q3 : NFc (eh_V h) (eh_V h6) := by
      rcases nfc_83 (d := d + 0) c3 c1 with z | z
      · cases z
        exact absurd rfl c5
      · exact q0.tr z
    rw [r2]
    exact q3
  · refine Or.inr ?_
    have q0 : NFc (eh_V h) (eh_V h1) := by
      rcases nfc_83 (d := d + 0) c0 iv with z | z
      · cases z
        exact absurd rfl c2
      · exact (NFc.rf : NFc (eh_V h) (eh_V h)).tr z
    have q3 : NFc (eh_V h) (eh_V h6) := by
      rcases nfc_83 (d := d + 0) c3 c1 with z | z
      · cases z
        exact absurd rfl c5
      · exact q0.tr z
    rw [r2]
    exact (((q3.u (Or.inl (by decide))).u (Or.inl (by decide))).u (Or.inl (by decide)))
  · exact Or.inl r1
  · exact Or.inl r1
theorem nfc_45 {d : Nat} {h h' : ri_H} {v : Option Value} {b : Nat → Int32} {n m : Nat} {f : Int32} (E : ri_calE ri_md (d + 4) 45 [.ref 4, .int f] h = some (v, h')) (iv : iC b n m (eh_V h)) : v = some (.int 0) ∨ NFc (eh_V h) (eh_V h') := by
  rcases sp_45 E rfl iv with ⟨x4, h2, c0, c1, c2, c3, r1, r2, -, -⟩ | ⟨x4, h2, c0, c1, c2, c3, r1, r2, -, -⟩ | ⟨x12, h10, c0, c1, c2, c3, r1, r2, -, -⟩ | ⟨x12, h10, c0, c1, c2, c3, r1, r2, -, -⟩
  · refine Or.inr ?_
    have q1 : NFc (eh_V h) (eh_V h2) := by
      rcases nfc_83 (d := d + 0) c1 iv with z | z
      · cases z
        exact absurd rfl c3
      · exact (NFc.rf : NFc (eh_V h) (eh_V h)).tr z
    rw [r2]
    exact (q1.u (Or.inl (by decide)))
  · exact Or.inl r1
  · refine Or.inr ?_
    have q1 : NFc (eh_V h) (eh_V h10) := by
      rcases nfc_83 (d := d + 0) c1 iv with z | z
      · cases z
        exact absurd rfl c3
      · exact (NFc.rf : NFc (eh_V h) (eh_V h)).tr z
    rw [r2]
    exact (q1.u (Or.inl (by decide)))
  · exact Or.inl r1
theorem nfc_44 {d : Nat} {h h' : ri_H} {v : Option Value} {b : Nat → Int32} {n m : Nat} {k : Int32} (E : ri_calE ri_md (d + 5) 44 [.ref 4, .int k] h = some (v, h')) (iv : iC b n m (eh_V h)) : v = some (.int 0) ∨ NFc (eh_V h) (eh_V h') := by
  rcases sp_44 E rfl iv with ⟨c0, r1, r2, -, -⟩ | ⟨h9, h12, x16, h14, c0, c1, c2, c3, c4, c5, c6, c7, c8, c9, c10, r1, r2, -, -⟩ | ⟨h9, h12, x16, h14, h19, x25, h23, c0, c1, c2, c3, c4, c5, c6, c7, c8, c9, c10, c11, c12, c13, c14, r1, r2, -, -⟩ | ⟨h9, h12, x16, h14, h19, x25, h23, c0, c1, c2, c3, c4, c5, c6, c7, c8, c9, c10, c11, c12, c13, c14, r1, r2, -, -⟩ | ⟨h9, h12, x16, h14, c0, c1, c2, c3, c4, c5, c6, c7, c8, c9, r1, r2, -, -⟩ | ⟨c0, c1, c2, c3, r1, r2, -, -⟩ | ⟨h33, h36, x40, h38, c0, c1, c2, c3, c4, c5, c6, c7, c8, c9, c10, r1, r2, -, -⟩ | ⟨h33, h36, x40, h38, c0, c1, c2, c3, c4, c5, c6, c7, c8, c9, c10, r1, r2, -, -⟩ | ⟨c0, c1, c2, c3, c4, r1, r2, -, -⟩ | ⟨c0, c1, c2, c3, r1, r2, -, -⟩ | ⟨c0, c1, r1, r2, -, -⟩
  · exact Or.inl r1
  · refine Or.inr ?_
    have q4 : NFc (eh_V h) (eh_V h9) := by
      rw [c4]
      exact ((NFc.rf : NFc (eh_V h) (eh_V h)).u (Or.inl (by decide)))
    have q5 : NFc (eh_V h) (eh_V h12) := q4.tr (nfc_74 (d := d + 2) c5 (by rw [c4]; have j0 : iC b n m (eh_u (eh_V h) 4 2 (.int ((eh_i (eh_V h) 4 2) ||| (1 <<< (k &&& 31))))) := iC_u iv (iv.1.u rfl ⟨_, rfl⟩) rfl; exact j0))
    have q7 : NFc (eh_V h) (eh_V h14) := by
      rcases nfc_83 (d := d + 1) c7 c6 with z | z
      · cases z
        exact absurd rfl c9
      · exact q5.tr z
    rw [r2]
    exact (q7.u (Or.inl (by decide)))
  · exact Or.inl r1
  · refine Or.inr ?_
    have q4 : NFc (eh_V h) (eh_V h9) := by
      rw [c4]
      exact ((NFc.rf : NFc (eh_V h) (eh_V h)).u (Or.inl (by decide)))
    have q5 : NFc (eh_V h) (eh_V h12) := q4.tr (nfc_74 (d := d + 2) c5 (by rw [c4]; have j0 : iC b n m (eh_u (eh_V h) 4 2 (.int ((eh_i (eh_V h) 4 2) ||| (1 <<< (k &&& 31))))) := iC_u iv (iv.1.u rfl ⟨_, rfl⟩) rfl; exact j0))
    have q7 : NFc (eh_V h) (eh_V h14) := by
      rcases nfc_83 (d := d + 1) c7 c6 with z | z
      · cases z
        exact absurd rfl c9
      · exact q5.tr z
    have q11 : NFc (eh_V h) (eh_V h19) := by
      rw [c11]
      exact (q7.u (Or.inl (by decide)))
    have q12 : NFc (eh_V h) (eh_V h23) := by
      rcases nfc_45 (d := d + 0) c12 (by rw [c11]; have j0 : iC b n m (eh_u (eh_V h14) 6 (k).toNatClampNeg (.int x16)) := iC_u c8 (c8.1.u rfl ⟨_, rfl⟩) rfl; exact j0) with z | z
      · cases z
        exact absurd rfl c14
      · exact q11.tr z
    rw [r2]
    exact q12
  · exact Or.inl r1
  · exact Or.inl r1
  · refine Or.inr ?_
    have q5 : NFc (eh_V h) (eh_V h33) := by
      rw [c5]
      exact ((NFc.rf : NFc (eh_V h) (eh_V h)).u (Or.inl (by decide)))
    have q6 : NFc (eh_V h) (eh_V h36) := q5.tr (nfc_74 (d := d + 2) c6 (by rw [c5]; have j0 : iC b n m (eh_u (eh_V h) 4 2 (.int ((eh_i (eh_V h) 4 2) ||| (1 <<< (k &&& 31))))) := iC_u iv (iv.1.u rfl ⟨_, rfl⟩) rfl; exact j0))
    have q8 : NFc (eh_V h) (eh_V h38) := by
      rcases nfc_83 (d := d + 1) c8 c7 with z | z
      · cases z
        exact absurd rfl c10
      · exact q6.tr z
    rw [r2]
    exact (q8.u (Or.inl (by decide)))
  · exact Or.inl r1
  · exact Or.inl r1
  · exact Or.inl r1
  · exact Or.inl r1
theorem nfc_le_a {d : Nat} {lo : List (Nat × Value)} {h h' : ri_H} {rs : List Value} {b : Nat → Int32} {n m : Nat} {l : Int32} (E : eh_e (ri_calE ri_md (d + 3)) md_47 0 lo [] h rs h') (iv : iC b n m (eh_V h)) (l0 : ri_lk lo 0 = some (.ref 4)) (l1 : ri_lk lo 1 = some (.int l)) : (rs = [.int 0] ∨ NFc (eh_V h) (eh_V h')) ∨ (∃ hz loz, eh_e (ri_calE ri_md (d + 3)) md_47 47 loz [] hz rs h' ∧ NFc (eh_V h) (eh_V hz) ∧ iC b n m (eh_V hz) ∧ ri_lk loz 0 = some (.ref 4) ∧ ri_lk loz 1 = some (.int l) ∧ (∃ cu : Int32, ri_lk loz 2 = some (.int cu)) ∧ ri_lk loz 3 = some (.int 0)) := by
  rcases le_a E rfl iv l0 l1 with ⟨x3, h1, c0, c1, c2, hz, loz, E1, a1, -, a3, b0, b1, b2, b3⟩ | ⟨x3, h1, c0, c1, c2, r1, r2, -, -⟩
  · have q0 : NFc (eh_V h) (eh_V h1) := by
      rcases nfc_84 (d := d + 0) c0 iv with z | z
      · cases z
        exact absurd rfl c2
      · exact (NFc.rf : NFc (eh_V h) (eh_V h)).tr z
    exact Or.inr ⟨hz, loz, E1, (by rw [a1]; exact ((q0.u (Or.inl (by decide))).u (Or.inl (by decide)))), (by rw [a1]; exact a3), b0, b1, ⟨_, b2⟩, b3⟩
  · exact Or.inl (Or.inl r1)
theorem nfc_le_i {d : Nat} {lo : List (Nat × Value)} {h h' : ri_H} {rs : List Value} {b : Nat → Int32} {n m : Nat} {l : Int32} {cu : Int32} {i : Int32} (E : eh_e (ri_calE ri_md (d + 4)) md_47 47 lo [] h rs h') (iv : iC b n m (eh_V h)) (l0 : ri_lk lo 0 = some (.ref 4)) (l1 : ri_lk lo 1 = some (.int l)) (l2 : ri_lk lo 2 = some (.int cu)) (l3 : ri_lk lo 3 = some (.int i)) : (rs = [.int 0] ∨ NFc (eh_V h) (eh_V h')) ∨ (∃ hz loz, eh_e (ri_calE ri_md (d + 4)) md_47 47 loz [] hz rs h' ∧ NFc (eh_V h) (eh_V hz) ∧ iC b n m (eh_V hz) ∧ ri_lk loz 0 = some (.ref 4) ∧ ri_lk loz 1 = some (.int l) ∧ ri_lk loz 2 = some (.int cu) ∧ ri_lk loz 3 = some (.int (i + 1))) := by
  rcases le_i E rfl iv l0 l1 l2 l3 with ⟨c0, c1, r1, r2, -, -⟩ | ⟨c0, c1, r1, r2, -, -⟩ | ⟨c0, c1, r1, r2, -, -⟩ | ⟨x9, h7, c0, c1, c2, c3, c4, hz, loz, E1, a1, -, a3, b0, b1, b2, b3⟩ | ⟨x9, h7, c0, c1, c2, c3, c4, r1, r2, -, -⟩
  · exact Or.inl (Or.inr (by rw [r2]; exact (NFc.rf : NFc (eh_V h) (eh_V h))))
  · exact Or.inl (Or.inl r1)
  · exact Or.inl (Or.inr (by rw [r2]; exact (NFc.rf : NFc (eh_V h) (eh_V h))))
  · have q2 : NFc (eh_V h) (eh_V h7) := by
      rcases nfc_48 (d := d + 0) c2 iv with z | z
      · cases z
        exact absurd rfl c4
      · exact (NFc.rf : NFc (eh_V h) (eh_V h)).tr z
    exact Or.inr ⟨hz, loz, E1, (by rw [a1]; exact q2), (by rw [a1]; exact a3), b0, b1, b2, b3⟩
  · exact Or.inl (Or.inl r1)
section NFL
variable {d : Nat} {rs : List Value} {h' : ri_H} {b : Nat → Int32} {n m : Nat} {l cu : Int32}
theorem nfc_le : ∀ (f k : Nat) (lo : List (Nat × Value)) (h : ri_H), k + f = 8 → eh_e (ri_calE ri_md (d + 4)) md_47 47 lo [] h rs h' → iC b n m (eh_V h) → ri_lk lo 0 = some (.ref 4) → ri_lk lo 1 = some (.int l) → ri_lk lo 2 = some (.int cu) → ri_lk lo 3 = some (.int (nI k)) → rs = [.int 0] ∨ NFc (eh_V h) (eh_V h') := by
  intro f
  induction f with
  | zero =>
    intro k lo h hf E iv l0 l1 l2 l3
    have e8 : (nI k).toInt = 8 := by rw [lx_i (a := k) (by omega)]; omega
    rcases le_i E rfl iv l0 l1 l2 l3 with ⟨-, -, r1, r2, -, -⟩ | ⟨-, -, r1, r2, -, -⟩ | ⟨c, -⟩ | ⟨_, _, c, -⟩ | ⟨_, _, c, -⟩
    · rw [r2]
      exact Or.inr NFc.rf
    · exact Or.inl r1
    all_goals omega
  | succ f ih =>
    intro k lo h hf E iv l0 l1 l2 l3
    rcases nfc_le_i E iv l0 l1 l2 l3 with z | ⟨hz, loz, E1, a1, a3, a4, a5, a6, a7⟩
    · exact z
    · rw [lx_a1] at a7
      exact (ih (k + 1) loz hz (by omega) E1 a3 a4 a5 a6 a7).imp_right a1.tr
end NFL
theorem nfc_47 {d : Nat} {h h' : ri_H} {v : Option Value} {b : Nat → Int32} {n m : Nat} {l : Int32} (E : ri_calE ri_md (d + 5) 47 [.ref 4, .int l] h = some (v, h')) (iv : iC b n m (eh_V h)) : v = some (.int 0) ∨ NFc (eh_V h) (eh_V h') := by
  obtain ⟨rs, hrs, E⟩ := eh_in E (q := md_47) rfl
  have hv : rs = [.int 0] → v = some (.int 0) := fun e => by
    rw [← hrs, e]
    rfl
  rcases nfc_le_a (d := d + 1) E iv rfl rfl with z | ⟨hz, loz, E1, a1, a3, a4, a5, ⟨cu, a6⟩, a7⟩
  · exact z.imp_left hv
  · exact (nfc_le 8 0 loz hz rfl E1 a3 a4 a5 a6 a7).imp hv a1.tr
theorem nfc_46 {d : Nat} {h h' : ri_H} {v : Option Value} {b : Nat → Int32} {n m : Nat} {so : Int32} (E : ri_calE ri_md (d + 6) 46 [.ref 4, .int so] h = some (v, h')) (iv : iC b n m (eh_V h)) : v = some (.int 0) ∨ NFc (eh_V h) (eh_V h') := by
  rcases sp_46 E rfl iv with ⟨c0, r1, r2, -, -⟩ | ⟨h7, x11, c0, c1, c2, c3, c4, c5, c6, c7, c8, r1, r2, -, -⟩ | ⟨h7, x11, h16, h34, c0, c1, c2, c3, c4, c5, c6, c7, c8, c9, c10, c11, c12, c13, c14, c15, r1, r2, -, -⟩ | ⟨h7, x11, h16, h34, x40, h38, c0, c1, c2, c3, c4, c5, c6, c7, c8, c9, c10, c11, c12, c13, c14, c15, c16, c17, c18, r1, r2, -, -⟩ | ⟨h7, x11, h16, h34, x40, h38, c0, c1, c2, c3, c4, c5, c6, c7, c8, c9, c10, c11, c12, c13, c14, c15, c16, c17, c18, r1, r2, -, -⟩ | ⟨h7, x11, h16, h34, x44, h42, c0, c1, c2, c3, c4, c5, c6, c7, c8, c9, c10, c11, c12, c13, c14, c15, c16, r1, r2, -, -⟩ | ⟨h7, x11, c0, c1, c2, c3, c4, c5, c6, c7, c8, c9, c10, r1, r2, -, -⟩ | ⟨h7, x11, c0, c1, c2, c3, c4, c5, c6, c7, c8, c9, r1, r2, -, -⟩ | ⟨h7, x11, c0, c1, c2, c3, c4, c5, c6, c7, r1, r2, -, -⟩ | ⟨h7, c0, c1, c2, c3, c4, c5, r1, r2, -, -⟩ | ⟨c0, c1, c2, r1, r2, -, -⟩ | ⟨c0, c1, r1, r2, -, -⟩
  · exact Or.inl r1
  · exact Or.inl r1
  · refine Or.inr ?_
    have q3 : NFc (eh_V h) (eh_V h7) := (NFc.rf : NFc (eh_V h) (eh_V h)).tr (nfc_74 (d := d + 3) c3 iv)
    have q11 : NFc (eh_V h) (eh_V h16) := by
      rw [c11]
      exact (((((q3.u (Or.inl (by decide))).u (Or.inl (by decide))).u (Or.inl (by decide))).u (Or.inl (by decide))).u (Or.inl (by decide)))
    have q12 : NFc (eh_V h) (eh_V h34) := q11.tr (nfc_74 (d := d + 3) c12 (by rw [c11]; have j0 : iC b n m (eh_u (eh_V h7) 14 (eh_i (eh_V h7) 5 12).toNatClampNeg (.long (eh_l (eh_V h7) 2 8))) := iC_u c4 (c4.1.u rfl ⟨_, rfl⟩) rfl; have j1 : iC b n m (eh_u (eh_u (eh_V h7) 14 (eh_i (eh_V h7) 5 12).toNatClampNeg (.long (eh_l (eh_V h7) 2 8))) 15 (eh_i (eh_V h7) 5 12).toNatClampNeg (.int so)) := iC_u j0 (j0.1.u rfl ⟨_, rfl⟩) rfl; have j2 : iC b n m (eh_u (eh_u (eh_u (eh_V h7) 14 (eh_i (eh_V h7) 5 12).toNatClampNeg (.long (eh_l (eh_V h7) 2 8))) 15 (eh_i (eh_V h7) 5 12).toNatClampNeg (.int so)) 16 (eh_i (eh_V h7) 5 12).toNatClampNeg (.int (eh_i (eh_V h7) 7 (so).toNatClampNeg))) := iC_u j1 (j1.1.u rfl ⟨_, rfl⟩) rfl; have j3 : iC b n m (eh_u (eh_u (eh_u (eh_u (eh_V h7) 14 (eh_i (eh_V h7) 5 12).toNatClampNeg (.long (eh_l (eh_V h7) 2 8))) 15 (eh_i (eh_V h7) 5 12).toNatClampNeg (.int so)) 16 (eh_i (eh_V h7) 5 12).toNatClampNeg (.int (eh_i (eh_V h7) 7 (so).toNatClampNeg))) 5 12 (.int ((eh_i (eh_V h7) 5 12) + 1))) := iC_u j2 (j2.1.u rfl ⟨_, rfl⟩) rfl; have j4 : iC b n m (eh_u (eh_u (eh_u (eh_u (eh_u (eh_V h7) 14 (eh_i (eh_V h7) 5 12).toNatClampNeg (.long (eh_l (eh_V h7) 2 8))) 15 (eh_i (eh_V h7) 5 12).toNatClampNeg (.int so)) 16 (eh_i (eh_V h7) 5 12).toNatClampNeg (.int (eh_i (eh_V h7) 7 (so).toNatClampNeg))) 5 12 (.int ((eh_i (eh_V h7) 5 12) + 1))) 7 (so).toNatClampNeg (.int ((eh_i (eh_V h7) 7 (so).toNatClampNeg) + 1))) := iC_u j3 (j3.1.u rfl ⟨_, rfl⟩) rfl; exact j4))
    rw [r2]
    exact q12
  · exact Or.inl r1
  · refine Or.inr ?_
    have q3 : NFc (eh_V h) (eh_V h7) := (NFc.rf : NFc (eh_V h) (eh_V h)).tr (nfc_74 (d := d + 3) c3 iv)
    have q11 : NFc (eh_V h) (eh_V h16) := by
      rw [c11]
      exact (((((q3.u (Or.inl (by decide))).u (Or.inl (by decide))).u (Or.inl (by decide))).u (Or.inl (by decide))).u (Or.inl (by decide)))
    have q12 : NFc (eh_V h) (eh_V h34) := q11.tr (nfc_74 (d := d + 3) c12 (by rw [c11]; have j0 : iC b n m (eh_u (eh_V h7) 14 (eh_i (eh_V h7) 5 12).toNatClampNeg (.long (eh_l (eh_V h7) 2 8))) := iC_u c4 (c4.1.u rfl ⟨_, rfl⟩) rfl; have j1 : iC b n m (eh_u (eh_u (eh_V h7) 14 (eh_i (eh_V h7) 5 12).toNatClampNeg (.long (eh_l (eh_V h7) 2 8))) 15 (eh_i (eh_V h7) 5 12).toNatClampNeg (.int so)) := iC_u j0 (j0.1.u rfl ⟨_, rfl⟩) rfl; have j2 : iC b n m (eh_u (eh_u (eh_u (eh_V h7) 14 (eh_i (eh_V h7) 5 12).toNatClampNeg (.long (eh_l (eh_V h7) 2 8))) 15 (eh_i (eh_V h7) 5 12).toNatClampNeg (.int so)) 16 (eh_i (eh_V h7) 5 12).toNatClampNeg (.int (eh_i (eh_V h7) 7 (so).toNatClampNeg))) := iC_u j1 (j1.1.u rfl ⟨_, rfl⟩) rfl; have j3 : iC b n m (eh_u (eh_u (eh_u (eh_u (eh_V h7) 14 (eh_i (eh_V h7) 5 12).toNatClampNeg (.long (eh_l (eh_V h7) 2 8))) 15 (eh_i (eh_V h7) 5 12).toNatClampNeg (.int so)) 16 (eh_i (eh_V h7) 5 12).toNatClampNeg (.int (eh_i (eh_V h7) 7 (so).toNatClampNeg))) 5 12 (.int ((eh_i (eh_V h7) 5 12) + 1))) := iC_u j2 (j2.1.u rfl ⟨_, rfl⟩) rfl; have j4 : iC b n m (eh_u (eh_u (eh_u (eh_u (eh_u (eh_V h7) 14 (eh_i (eh_V h7) 5 12).toNatClampNeg (.long (eh_l (eh_V h7) 2 8))) 15 (eh_i (eh_V h7) 5 12).toNatClampNeg (.int so)) 16 (eh_i (eh_V h7) 5 12).toNatClampNeg (.int (eh_i (eh_V h7) 7 (so).toNatClampNeg))) 5 12 (.int ((eh_i (eh_V h7) 5 12) + 1))) 7 (so).toNatClampNeg (.int ((eh_i (eh_V h7) 7 (so).toNatClampNeg) + 1))) := iC_u j3 (j3.1.u rfl ⟨_, rfl⟩) rfl; exact j4))
    have q16 : NFc (eh_V h) (eh_V h38) := by
      rcases nfc_49 (d := d + 1) c16 c13 with z | z
      · cases z
        exact absurd rfl c18
      · exact q12.tr z
    rw [r2]
    exact q16
  · have q3 : NFc (eh_V h) (eh_V h7) := (NFc.rf : NFc (eh_V h) (eh_V h)).tr (nfc_74 (d := d + 3) c3 iv)
    have q11 : NFc (eh_V h) (eh_V h16) := by
      rw [c11]
      exact (((((q3.u (Or.inl (by decide))).u (Or.inl (by decide))).u (Or.inl (by decide))).u (Or.inl (by decide))).u (Or.inl (by decide)))
    have q12 : NFc (eh_V h) (eh_V h34) := q11.tr (nfc_74 (d := d + 3) c12 (by rw [c11]; have j0 : iC b n m (eh_u (eh_V h7) 14 (eh_i (eh_V h7) 5 12).toNatClampNeg (.long (eh_l (eh_V h7) 2 8))) := iC_u c4 (c4.1.u rfl ⟨_, rfl⟩) rfl; have j1 : iC b n m (eh_u (eh_u (eh_V h7) 14 (eh_i (eh_V h7) 5 12).toNatClampNeg (.long (eh_l (eh_V h7) 2 8))) 15 (eh_i (eh_V h7) 5 12).toNatClampNeg (.int so)) := iC_u j0 (j0.1.u rfl ⟨_, rfl⟩) rfl; have j2 : iC b n m (eh_u (eh_u (eh_u (eh_V h7) 14 (eh_i (eh_V h7) 5 12).toNatClampNeg (.long (eh_l (eh_V h7) 2 8))) 15 (eh_i (eh_V h7) 5 12).toNatClampNeg (.int so)) 16 (eh_i (eh_V h7) 5 12).toNatClampNeg (.int (eh_i (eh_V h7) 7 (so).toNatClampNeg))) := iC_u j1 (j1.1.u rfl ⟨_, rfl⟩) rfl; have j3 : iC b n m (eh_u (eh_u (eh_u (eh_u (eh_V h7) 14 (eh_i (eh_V h7) 5 12).toNatClampNeg (.long (eh_l (eh_V h7) 2 8))) 15 (eh_i (eh_V h7) 5 12).toNatClampNeg (.int so)) 16 (eh_i (eh_V h7) 5 12).toNatClampNeg (.int (eh_i (eh_V h7) 7 (so).toNatClampNeg))) 5 12 (.int ((eh_i (eh_V h7) 5 12) + 1))) := iC_u j2 (j2.1.u rfl ⟨_, rfl⟩) rfl; have j4 : iC b n m (eh_u (eh_u (eh_u (eh_u (eh_u (eh_V h7) 14 (eh_i (eh_V h7) 5 12).toNatClampNeg (.long (eh_l (eh_V h7) 2 8))) 15 (eh_i (eh_V h7) 5 12).toNatClampNeg (.int so)) 16 (eh_i (eh_V h7) 5 12).toNatClampNeg (.int (eh_i (eh_V h7) 7 (so).toNatClampNeg))) 5 12 (.int ((eh_i (eh_V h7) 5 12) + 1))) 7 (so).toNatClampNeg (.int ((eh_i (eh_V h7) 7 (so).toNatClampNeg) + 1))) := iC_u j3 (j3.1.u rfl ⟨_, rfl⟩) rfl; exact j4))
    rcases nfc_47 (d := d + 0) c15 c13 with z | z
    · cases z
      exact Or.inl r1
    · exact Or.inr (by rw [r2]; exact q12.tr z)
  · exact Or.inl r1
  · exact Or.inl r1
  · exact Or.inl r1
  · exact Or.inl r1
  · exact Or.inl r1
  · exact Or.inl r1
theorem nfc_ll_i {d : Nat} {lo : List (Nat × Value)} {h h' : ri_H} {rs : List Value} {b : Nat → Int32} {n m : Nat} {i : Int32} (E : eh_e (ri_calE ri_md (d + 6)) md_43 14 lo [] h rs h') (iv : iC b n m (eh_V h)) (l0 : ri_lk lo 0 = some (.ref 4)) (l1 : ri_lk lo 1 = some (.int i)) : (rs = [.int (-1)] ∨ NFc (eh_V h) (eh_V h')) ∨ (∃ hz loz, eh_e (ri_calE ri_md (d + 6)) md_43 14 loz [] hz rs h' ∧ NFc (eh_V h) (eh_V hz) ∧ iC b n m (eh_V hz) ∧ ri_lk loz 0 = some (.ref 4) ∧ ri_lk loz 1 = some (.int (i + 1))) := by
  rcases ll_i E rfl iv l0 l1 with ⟨c0, r1, r2, -, -⟩ | ⟨x7, h5, c0, c1, c2, c3, c4, c5, r1, r2, -, -⟩ | ⟨x7, h5, x12, h10, c0, c1, c2, c3, c4, c5, c6, c7, c8, hz, loz, E1, a1, -, a3, b0, b1, b2, b3⟩ | ⟨x7, h5, x12, h10, c0, c1, c2, c3, c4, c5, c6, c7, c8, r1, r2, -, -⟩ | ⟨x19, h17, c0, c1, c2, c3, c4, c5, c6, r1, r2, -, -⟩ | ⟨x19, h17, x24, h22, c0, c1, c2, c3, c4, c5, c6, c7, c8, c9, hz, loz, E1, a1, -, a3, b0, b1, b2, b3⟩ | ⟨x19, h17, x24, h22, c0, c1, c2, c3, c4, c5, c6, c7, c8, c9, r1, r2, -, -⟩ | ⟨x29, h27, c0, c1, c2, c3, c4, c5, c6, r1, r2, -, -⟩ | ⟨x29, h27, x34, h32, c0, c1, c2, c3, c4, c5, c6, c7, c8, c9, hz, loz, E1, a1, -, a3, b0, b1, b2, b3⟩ | ⟨x29, h27, x34, h32, c0, c1, c2, c3, c4, c5, c6, c7, c8, c9, r1, r2, -, -⟩ | ⟨c0, c1, r1, r2, -, -⟩
  · exact Or.inl (Or.inl r1)
  · exact Or.inl (Or.inl r1)
  · have q3 : NFc (eh_V h) (eh_V h5) := by
      rcases nfc_44 (d := d + 1) c3 iv with z | z
      · cases z
        exact absurd rfl c5
      · exact (NFc.rf : NFc (eh_V h) (eh_V h)).tr z
    have q6 : NFc (eh_V h) (eh_V h10) := by
      rcases nfc_82 (d := d + 3) c6 c4 with z | z
      · cases z
        exact absurd rfl c8
      · exact q3.tr z
    exact Or.inr ⟨hz, loz, E1, (by rw [a1]; exact q6), (by rw [a1]; exact a3), b0, b1⟩
  · exact Or.inl (Or.inl r1)
  · exact Or.inl (Or.inl r1)
  · have q4 : NFc (eh_V h) (eh_V h17) := by
      rcases nfc_44 (d := d + 1) c4 iv with z | z
      · cases z
        exact absurd rfl c6
      · exact (NFc.rf : NFc (eh_V h) (eh_V h)).tr z
    have q7 : NFc (eh_V h) (eh_V h22) := by
      rcases nfc_82 (d := d + 3) c7 c5 with z | z
      · cases z
        exact absurd rfl c9
      · exact q4.tr z
    exact Or.inr ⟨hz, loz, E1, (by rw [a1]; exact q7), (by rw [a1]; exact a3), b0, b1⟩
  · exact Or.inl (Or.inl r1)
  · exact Or.inl (Or.inl r1)
  · have q4 : NFc (eh_V h) (eh_V h27) := by
      rcases nfc_46 (d := d + 0) c4 iv with z | z
      · cases z
        exact absurd rfl c6
      · exact (NFc.rf : NFc (eh_V h) (eh_V h)).tr z
    have q7 : NFc (eh_V h) (eh_V h32) := by
      rcases nfc_82 (d := d + 3) c7 c5 with z | z
      · cases z
        exact absurd rfl c9
      · exact q4.tr z
    exact Or.inr ⟨hz, loz, E1, (by rw [a1]; exact q7), (by rw [a1]; exact a3), b0, b1⟩
  · exact Or.inl (Or.inl r1)
  · exact Or.inl (Or.inr (by rw [r2]; exact (NFc.rf : NFc (eh_V h) (eh_V h))))
section NFM
variable {d : Nat} {rs : List Value} {h' : ri_H} {b : Nat → Int32} {n m : Nat}
theorem nfc_ll : ∀ (f i : Nat) (lo : List (Nat × Value)) (h : ri_H), i + f = 901 → eh_e (ri_calE ri_md (d + 6)) md_43 14 lo [] h rs h' → iC b n m (eh_V h) → ri_lk lo 0 = some (.ref 4) → ri_lk lo 1 = some (.int (nI i)) → rs = [.int (-1)] ∨ NFc (eh_V h) (eh_V h') := by
  intro f
  induction f with
  | zero =>
    intro i lo h hf E iv l0 l1
    have z := ll_i E rfl iv l0 l1
    rw [lx_i (a := i) (by omega)] at z
    rcases z with ⟨-, r1, r2, -, -⟩ | ⟨_, _, w, -⟩ | ⟨_, _, _, _, w, -⟩ | ⟨_, _, _, _, w, -⟩ | ⟨_, _, w, -⟩ | ⟨_, _, _, _, w, -⟩ | ⟨_, _, _, _, w, -⟩ | ⟨_, _, w, -⟩ | ⟨_, _, _, _, w, -⟩ | ⟨_, _, _, _, w, -⟩ | ⟨w, -⟩
    · exact Or.inl r1
    all_goals omega
  | succ f ih =>
    intro i lo h hf E iv l0 l1
    rcases nfc_ll_i E iv l0 l1 with z | ⟨hz, loz, E1, a1, a3, a4, a5⟩
    · exact z
    · rw [lx_a1] at a5
      exact (ih (i + 1) loz hz (by omega) E1 a3 a4 a5).imp_right a1.tr
end NFM
theorem nfm_162 {d : Nat} {h h' : ri_H} {v : Option Value} {b : Nat → Int32} {n m : Nat} {w : Int32} (E : ri_calE ri_md (d + 3) 162 [.ref 0, .int w] h = some (v, h')) (iv : iM b n m (eh_V h)) : v = some (.int 0) ∨ NFm (eh_V h) (eh_V h') := by
  rcases sp_162 E rfl iv with ⟨c0, r1, r2, -, -⟩ | ⟨c0, c1, r1, r2, -, -⟩ | ⟨h1, h19, c0, c1, c2, c3, c4, r1, r2, -, -⟩
  · exact Or.inl r1
  · exact Or.inl r1
  · refine Or.inr ?_
    have q2 : NFm (eh_V h) (eh_V h1) := by
      rw [c2]
      exact (NFm.rf : NFm (eh_V h) (eh_V h))
    have q3 : NFm (eh_V h) (eh_V h19) := q2.tr (nfm_158 (d := d + 0) c3 (by rw [c2]; exact iv))
    rw [r2]
    exact q3
theorem nfm_164 {d : Nat} {h h' : ri_H} {v : Option Value} {b : Nat → Int32} {n m : Nat} {w0 : Int32} {w1 : Int32} (E : ri_calE ri_md (d + 3) 164 [.ref 0, .int w0, .int w1] h = some (v, h')) (iv : iM b n m (eh_V h)) : v = some (.int 0) ∨ NFm (eh_V h) (eh_V h') := by
  rcases sp_164 E rfl iv with ⟨c0, c1, r1, r2, -, -⟩ | ⟨c0, c1, c2, r1, r2, -, -⟩ | ⟨h20, h23, c0, c1, c2, c3, c4, c5, r1, r2, -, -⟩ | ⟨c0, r1, r2, -, -⟩
  · exact Or.inl r1
  · exact Or.inl r1
  · refine Or.inr ?_
    have q3 : NFm (eh_V h) (eh_V h20) := by
      rw [c3]
      exact ((NFm.rf : NFm (eh_V h) (eh_V h)).u (Or.inr (by decide)))
    have q4 : NFm (eh_V h) (eh_V h23) := q3.tr (nfm_158 (d := d + 0) c4 (by rw [c3]; have j0 : iM b n m (eh_u (eh_V h) 0 18 (.int (eh_i (eh_V h) 0 14))) := iM_u iv (iv.1.u rfl ⟨_, rfl⟩) rfl; exact j0))
    rw [r2]
    exact q4
  · exact Or.inl r1
theorem nfm_165 {d : Nat} {h h' : ri_H} {v : Option Value} {b : Nat → Int32} {n m : Nat} {to : Int32} {w0 : Int32} {w1 : Int32} (E : ri_calE ri_md (d + 4) 165 [.ref 0, .int to, .int w0, .int w1] h = some (v, h')) (iv : iM b n m (eh_V h)) : v = some (.int 0) ∨ NFm (eh_V h) (eh_V h') := by
  rcases sp_165 E rfl iv with ⟨x3, h1, c0, c1, c2, r1, r2, -, -⟩ | ⟨x3, h1, c0, c1, c2, r1, r2, -, -⟩
  · refine Or.inr ?_
    have q0 : NFm (eh_V h) (eh_V h1) := by
      rcases nfm_164 (d := d + 0) c0 iv with z | z
      · cases z
        exact absurd rfl c2
      · exact (NFm.rf : NFm (eh_V h) (eh_V h)).tr z
    rw [r2]
    exact (q0.u (Or.inl (by decide)))
  · exact Or.inl r1
theorem nfm_169 {d : Nat} {h h' : ri_H} {v : Option Value} {b : Nat → Int32} {n m : Nat} {k : Int32} (E : ri_calE ri_md (d + 3) 169 [.ref 0, .int k] h = some (v, h')) (iv : iM b n m (eh_V h)) : v = some (.int 0) ∨ NFm (eh_V h) (eh_V h') := by
  rcases sp_169 E rfl iv with ⟨h8, h11, c0, c1, c2, c3, r1, r2, -, -⟩ | ⟨c0, r1, r2, -, -⟩
  · refine Or.inr ?_
    have q1 : NFm (eh_V h) (eh_V h8) := by
      rw [c1]
      exact ((NFm.rf : NFm (eh_V h) (eh_V h)).u (Or.inr (by decide)))
    have q2 : NFm (eh_V h) (eh_V h11) := q1.tr (nfm_158 (d := d + 0) c2 (by rw [c1]; have j0 : iM b n m (eh_u (eh_V h) 0 20 (.int ((eh_i (eh_V h) 0 20) ||| (1 <<< (k &&& 31))))) := iM_u iv (iv.1.u rfl ⟨_, rfl⟩) rfl; exact j0))
    rw [r2]
    exact q2
  · exact Or.inl r1
theorem nfm_167 {d : Nat} {h h' : ri_H} {v : Option Value} {b : Nat → Int32} {n m : Nat} {to : Int32} (E : ri_calE ri_md (d + 3) 167 [.ref 0, .int to] h = some (v, h')) (iv : iM b n m (eh_V h)) : v = some (.int 0) ∨ NFm (eh_V h) (eh_V h') := by
  rcases sp_167 E rfl iv with ⟨x9, c0, c1, c2, r1, r2, -, -⟩ | ⟨x9, x18, c0, c1, c2, c3, c4, r1, r2, -, -⟩ | ⟨x9, x18, x27, c0, c1, c2, c3, c4, c5, c6, r1, r2, -, -⟩ | ⟨x9, x18, x27, x36, h41, h44, c0, c1, c2, c3, c4, c5, c6, c7, c8, c9, c10, c11, r1, r2, -, -⟩ | ⟨x9, x18, x27, x36, c0, c1, c2, c3, c4, c5, c6, c7, c8, r1, r2, -, -⟩ | ⟨c0, r1, r2, -, -⟩
  · exact Or.inl r1
  · exact Or.inl r1
  · exact Or.inl r1
  · refine Or.inr ?_
    have q9 : NFm (eh_V h) (eh_V h41) := by
      rw [c9]
      exact ((NFm.rf : NFm (eh_V h) (eh_V h)).u (Or.inl (by decide)))
    have q10 : NFm (eh_V h) (eh_V h44) := q9.tr (nfm_158 (d := d + 0) c10 (by rw [c9]; have j0 : iM b n m (eh_u (eh_V h) 5 (to).toNatClampNeg (.long (eh_l (eh_V h) 0 17))) := iM_u iv (iv.1.u rfl ⟨_, rfl⟩) rfl; exact j0))
    rw [r2]
    exact q10
  · exact Or.inl r1
  · exact Or.inl r1
theorem nfm_168 {d : Nat} {h h' : ri_H} {v : Option Value} {b : Nat → Int32} {n m : Nat} {fr : Int32} {ma : Int32} (E : ri_calE ri_md (d + 2) 168 [.ref 0, .int fr, .int ma] h = some (v, h')) (iv : iM b n m (eh_V h)) : v = some (.int 0) ∨ NFm (eh_V h) (eh_V h') := by
  rcases sp_168 E rfl iv with ⟨x9, c0, c1, c2, r1, r2, -, -⟩ | ⟨x9, c0, c1, c2, r1, r2, -, -⟩ | ⟨c0, r1, r2, -, -⟩
  · refine Or.inr ?_
    rw [r2]
    exact ((NFm.rf : NFm (eh_V h) (eh_V h)).u (Or.inr (by decide)))
  · exact Or.inl r1
  · exact Or.inl r1
theorem nfm_ln_0 {d : Nat} {lo : List (Nat × Value)} {h h' : ri_H} {rs : List Value} {b : Nat → Int32} {n m : Nat} (E : eh_e (ri_calE ri_md (d + 4)) md_170 10 lo [] h rs h') (iv : iM b n m (eh_V h)) (l0 : ri_lk lo 0 = some (.ref 0)) : (rs = [.int 0] ∨ NFm (eh_V h) (eh_V h')) := by
  rcases ln_0 E rfl iv l0 with ⟨x3, h1, c0, c1, c2, r1, r2, -, -⟩ | ⟨x3, h1, x7, h5, c0, c1, c2, c3, c4, c5, r1, r2, -, -⟩ | ⟨x3, h1, x7, h5, c0, c1, c2, c3, c4, c5, r1, r2, -, -⟩
  · exact Or.inl r1
  · exact Or.inl r1
  · have q0 : NFm (eh_V h) (eh_V h1) := by
      rcases nfm_169 (d := d + 1) c0 iv with z | z
      · cases z
        exact absurd rfl c2
      · exact (NFm.rf : NFm (eh_V h) (eh_V h)).tr z
    have q3 : NFm (eh_V h) (eh_V h5) := by
      rcases nfm_165 (d := d + 0) c3 c1 with z | z
      · cases z
        exact absurd rfl c5
      · exact q0.tr z
    exact Or.inr (by rw [r2]; exact q3)
theorem nfm_ln_1 {d : Nat} {lo : List (Nat × Value)} {h h' : ri_H} {rs : List Value} {b : Nat → Int32} {n m : Nat} (E : eh_e (ri_calE ri_md (d + 4)) md_170 45 lo [] h rs h') (iv : iM b n m (eh_V h)) (l0 : ri_lk lo 0 = some (.ref 0)) : (rs = [.int 0] ∨ NFm (eh_V h) (eh_V h')) := by
  rcases ln_1 E rfl iv l0 with ⟨x3, h1, c0, c1, c2, r1, r2, -, -⟩ | ⟨x3, h1, x7, h5, c0, c1, c2, c3, c4, c5, r1, r2, -, -⟩ | ⟨x3, h1, x7, h5, c0, c1, c2, c3, c4, c5, r1, r2, -, -⟩
  · exact Or.inl r1
  · exact Or.inl r1
  · have q0 : NFm (eh_V h) (eh_V h1) := by
      rcases nfm_169 (d := d + 1) c0 iv with z | z
      · cases z
        exact absurd rfl c2
      · exact (NFm.rf : NFm (eh_V h) (eh_V h)).tr z
    have q3 : NFm (eh_V h) (eh_V h5) := by
      rcases nfm_165 (d := d + 0) c3 c1 with z | z
      · cases z
        exact absurd rfl c5
      · exact q0.tr z
    exact Or.inr (by rw [r2]; exact q3)
theorem nfm_ln_2 {d : Nat} {lo : List (Nat × Value)} {h h' : ri_H} {rs : List Value} {b : Nat → Int32} {n m : Nat} (E : eh_e (ri_calE ri_md (d + 4)) md_170 80 lo [] h rs h') (iv : iM b n m (eh_V h)) (l0 : ri_lk lo 0 = some (.ref 0)) : (rs = [.int 0] ∨ NFm (eh_V h) (eh_V h')) := by
  rcases ln_2 E rfl iv l0 with ⟨x3, h1, c0, c1, c2, r1, r2, -, -⟩ | ⟨x3, h1, x7, h5, c0, c1, c2, c3, c4, c5, r1, r2, -, -⟩ | ⟨x3, h1, x7, h5, c0, c1, c2, c3, c4, c5, r1, r2, -, -⟩
  · exact Or.inl r1
  · exact Or.inl r1
  · have q0 : NFm (eh_V h) (eh_V h1) := by
      rcases nfm_169 (d := d + 1) c0 iv with z | z
      · cases z
        exact absurd rfl c2
      · exact (NFm.rf : NFm (eh_V h) (eh_V h)).tr z
    have q3 : NFm (eh_V h) (eh_V h5) := by
      rcases nfm_165 (d := d + 0) c3 c1 with z | z
      · cases z
        exact absurd rfl c5
      · exact q0.tr z
    exact Or.inr (by rw [r2]; exact q3)
theorem nfm_ln_3 {d : Nat} {lo : List (Nat × Value)} {h h' : ri_H} {rs : List Value} {b : Nat → Int32} {n m : Nat} (E : eh_e (ri_calE ri_md (d + 4)) md_170 115 lo [] h rs h') (iv : iM b n m (eh_V h)) (l0 : ri_lk lo 0 = some (.ref 0)) : (rs = [.int 0] ∨ NFm (eh_V h) (eh_V h')) := by
  rcases ln_3 E rfl iv l0 with ⟨x3, h1, c0, c1, c2, r1, r2, -, -⟩ | ⟨x3, h1, x7, h5, c0, c1, c2, c3, c4, c5, r1, r2, -, -⟩ | ⟨x3, h1, x7, h5, c0, c1, c2, c3, c4, c5, r1, r2, -, -⟩
  · exact Or.inl r1
  · exact Or.inl r1
  · have q0 : NFm (eh_V h) (eh_V h1) := by
      rcases nfm_169 (d := d + 1) c0 iv with z | z
      · cases z
        exact absurd rfl c2
      · exact (NFm.rf : NFm (eh_V h) (eh_V h)).tr z
    have q3 : NFm (eh_V h) (eh_V h5) := by
      rcases nfm_165 (d := d + 0) c3 c1 with z | z
      · cases z
        exact absurd rfl c5
      · exact q0.tr z
    exact Or.inr (by rw [r2]; exact q3)
theorem nfm_ln_4 {d : Nat} {lo : List (Nat × Value)} {h h' : ri_H} {rs : List Value} {b : Nat → Int32} {n m : Nat} (E : eh_e (ri_calE ri_md (d + 4)) md_170 151 lo [] h rs h') (iv : iM b n m (eh_V h)) (l0 : ri_lk lo 0 = some (.ref 0)) : (rs = [.int 0] ∨ NFm (eh_V h) (eh_V h')) := by
  rcases ln_4 E rfl iv l0 with ⟨x3, h1, c0, c1, c2, r1, r2, -, -⟩ | ⟨x3, h1, x7, h5, c0, c1, c2, c3, c4, c5, r1, r2, -, -⟩ | ⟨x3, h1, x7, h5, x12, h10, c0, c1, c2, c3, c4, c5, c6, c7, c8, c9, r1, r2, -, -⟩ | ⟨x3, h1, x7, h5, x12, h10, c0, c1, c2, c3, c4, c5, c6, c7, c8, c9, r1, r2, -, -⟩ | ⟨x3, h1, x7, h5, x16, h14, c0, c1, c2, c3, c4, c5, c6, c7, c8, c9, r1, r2, -, -⟩ | ⟨x3, h1, x7, h5, x16, h14, c0, c1, c2, c3, c4, c5, c6, c7, c8, c9, r1, r2, -, -⟩
  · exact Or.inl r1
  · exact Or.inl r1
  · exact Or.inl r1
  · have q0 : NFm (eh_V h) (eh_V h1) := by
      rcases nfm_169 (d := d + 1) c0 iv with z | z
      · cases z
        exact absurd rfl c2
      · exact (NFm.rf : NFm (eh_V h) (eh_V h)).tr z
    have q3 : NFm (eh_V h) (eh_V h5) := by
      rcases nfm_165 (d := d + 0) c3 c1 with z | z
      · cases z
        exact absurd rfl c5
      · exact q0.tr z
    have q7 : NFm (eh_V h) (eh_V h10) := by
      rcases nfm_165 (d := d + 0) c7 c4 with z | z
      · cases z
        exact absurd rfl c9
      · exact q3.tr z
    exact Or.inr (by rw [r2]; exact q7)
  · exact Or.inl r1
  · have q0 : NFm (eh_V h) (eh_V h1) := by
      rcases nfm_169 (d := d + 1) c0 iv with z | z
      · cases z
        exact absurd rfl c2
      · exact (NFm.rf : NFm (eh_V h) (eh_V h)).tr z
    have q3 : NFm (eh_V h) (eh_V h5) := by
      rcases nfm_165 (d := d + 0) c3 c1 with z | z
      · cases z
        exact absurd rfl c5
      · exact q0.tr z
    have q7 : NFm (eh_V h) (eh_V h14) := by
      rcases nfm_165 (d := d + 0) c7 c4 with z | z
      · cases z
        exact absurd rfl c9
      · exact q3.tr z
    exact Or.inr (by rw [r2]; exact q7)
theorem nfm_ln_5 {d : Nat} {lo : List (Nat × Value)} {h h' : ri_H} {rs : List Value} {b : Nat → Int32} {n m : Nat} (E : eh_e (ri_calE ri_md (d + 3)) md_170 224 lo [] h rs h') (iv : iM b n m (eh_V h)) (l0 : ri_lk lo 0 = some (.ref 0)) : (rs = [.int 0] ∨ NFm (eh_V h) (eh_V h')) := by
  rcases ln_5 E rfl iv l0 with ⟨h2, x6, h4, c0, c1, c2, c3, c4, c5, r1, r2, -, -⟩ | ⟨h2, x6, h4, c0, c1, c2, c3, c4, c5, r1, r2, -, -⟩ | ⟨c0, r1, r2, -, -⟩
  · have q1 : NFm (eh_V h) (eh_V h2) := (NFm.rf : NFm (eh_V h) (eh_V h)).tr (nfm_158 (d := d + 1) c1 iv)
    have q3 : NFm (eh_V h) (eh_V h4) := by
      rcases nfm_167 (d := d + 0) c3 c2 with z | z
      · cases z
        exact absurd rfl c5
      · exact q1.tr z
    exact Or.inr (by rw [r2]; exact (q3.u (Or.inl (by decide))))
  · exact Or.inl r1
  · exact Or.inl r1
theorem nfm_ln_7 {d : Nat} {lo : List (Nat × Value)} {h h' : ri_H} {rs : List Value} {b : Nat → Int32} {n m : Nat} (E : eh_e (ri_calE ri_md (d + 3)) md_170 300 lo [] h rs h') (iv : iM b n m (eh_V h)) (l0 : ri_lk lo 0 = some (.ref 0)) : (rs = [.int 0] ∨ NFm (eh_V h) (eh_V h')) := by
  rcases ln_7 E rfl iv l0 with ⟨h2, x6, h4, c0, c1, c2, c3, c4, c5, r1, r2, -, -⟩ | ⟨h2, x6, h4, c0, c1, c2, c3, c4, c5, r1, r2, -, -⟩ | ⟨c0, r1, r2, -, -⟩
  · have q1 : NFm (eh_V h) (eh_V h2) := (NFm.rf : NFm (eh_V h) (eh_V h)).tr (nfm_158 (d := d + 1) c1 iv)
    have q3 : NFm (eh_V h) (eh_V h4) := by
      rcases nfm_167 (d := d + 0) c3 c2 with z | z
      · cases z
        exact absurd rfl c5
      · exact q1.tr z
    exact Or.inr (by rw [r2]; exact (q3.u (Or.inl (by decide))))
  · exact Or.inl r1
  · exact Or.inl r1
theorem nfm_ln_8 {d : Nat} {lo : List (Nat × Value)} {h h' : ri_H} {rs : List Value} {b : Nat → Int32} {n m : Nat} (E : eh_e (ri_calE ri_md (d + 4)) md_170 366 lo [] h rs h') (iv : iM b n m (eh_V h)) (l0 : ri_lk lo 0 = some (.ref 0)) : (rs = [.int 0] ∨ NFm (eh_V h) (eh_V h')) := by
  rcases ln_8 E rfl iv l0 with ⟨h3, h6, x10, h8, c0, c1, c2, c3, c4, c5, c6, r1, r2, -, -⟩ | ⟨h3, h6, x10, h8, x14, h12, c0, c1, c2, c3, c4, c5, c6, c7, c8, c9, r1, r2, -, -⟩ | ⟨h3, h6, x10, h8, x14, h12, c0, c1, c2, c3, c4, c5, c6, c7, c8, c9, r1, r2, -, -⟩ | ⟨c0, r1, r2, -, -⟩
  · exact Or.inl r1
  · have q1 : NFm (eh_V h) (eh_V h3) := by
      rw [c1]
      exact ((NFm.rf : NFm (eh_V h) (eh_V h)).u (Or.inr (by decide)))
    have q2 : NFm (eh_V h) (eh_V h6) := q1.tr (nfm_158 (d := d + 2) c2 (by rw [c1]; have j0 : iM b n m (eh_u (eh_V h) 0 20 (.int ((eh_i (eh_V h) 0 20) ||| 1))) := iM_u iv (iv.1.u rfl ⟨_, rfl⟩) rfl; exact j0))
    have q4 : NFm (eh_V h) (eh_V h8) := by
      rcases nfm_167 (d := d + 1) c4 c3 with z | z
      · cases z
        exact absurd rfl c6
      · exact q2.tr z
    have q7 : NFm (eh_V h) (eh_V h12) := by
      rcases nfm_165 (d := d + 0) c7 c5 with z | z
      · cases z
        exact absurd rfl c9
      · exact q4.tr z
    exact Or.inr (by rw [r2]; exact (q7.u (Or.inl (by decide))))
  · exact Or.inl r1
  · exact Or.inl r1
theorem nfm_ml_a {d : Nat} {lo : List (Nat × Value)} {h h' : ri_H} {rs : List Value} {b : Nat → Int32} {n m : Nat} (E : eh_e (ri_calE ri_md (d + 3)) md_171 0 lo [] h rs h') (iv : iM b n m (eh_V h)) (l0 : ri_lk lo 0 = some (.ref 0)) : (rs = [.int 0] ∨ NFm (eh_V h) (eh_V h')) ∨ (∃ hz loz, eh_e (ri_calE ri_md (d + 3)) md_171 80 loz [] hz rs h' ∧ NFm (eh_V h) (eh_V hz) ∧ iM b n m (eh_V hz) ∧ ri_lk loz 0 = some (.ref 0) ∧ ri_lk loz 1 = some (.int (eh_i (eh_V h) 3 4)) ∧ ri_lk loz 2 = some (.int 0)) := by
  rcases ml_a E rfl iv l0 with ⟨h3, h6, x10, h8, c0, c1, c2, c3, c4, c5, c6, r1, r2, -, -⟩ | ⟨h3, h6, x10, h8, x14, h12, h16, h19, c0, c1, c2, c3, c4, c5, c6, c7, c8, c9, c10, c11, c12, hz, loz, E1, a1, -, a3, b0, b1, b2⟩ | ⟨h3, h6, x10, h8, x14, h12, c0, c1, c2, c3, c4, c5, c6, c7, c8, c9, r1, r2, -, -⟩ | ⟨c0, r1, r2, -, -⟩
  · exact Or.inl (Or.inl r1)
  · have q1 : NFm (eh_V h) (eh_V h3) := by
      rw [c1]
      exact ((NFm.rf : NFm (eh_V h) (eh_V h)).u (Or.inr (by decide)))
    have q2 : NFm (eh_V h) (eh_V h6) := q1.tr (nfm_158 (d := d + 1) c2 (by rw [c1]; have j0 : iM b n m (eh_u (eh_V h) 0 20 (.int ((eh_i (eh_V h) 0 20) ||| 1))) := iM_u iv (iv.1.u rfl ⟨_, rfl⟩) rfl; exact j0))
    have q4 : NFm (eh_V h) (eh_V h8) := by
      rcases nfm_167 (d := d + 0) c4 c3 with z | z
      · cases z
        exact absurd rfl c6
      · exact q2.tr z
    have q7 : NFm (eh_V h) (eh_V h12) := by
      rcases nfm_168 (d := d + 1) c7 c5 with z | z
      · cases z
        exact absurd rfl c9
      · exact q4.tr z
    have q10 : NFm (eh_V h) (eh_V h16) := by
      rw [c10]
      exact (q7.u (Or.inl (by decide)))
    have q11 : NFm (eh_V h) (eh_V h19) := q10.tr (nfm_158 (d := d + 1) c11 (by rw [c10]; have j0 : iM b n m (eh_u (eh_V h12) 3 (10 + (eh_i (eh_V h) 3 4)).toNatClampNeg (.int (eh_i (eh_V h12) 0 18))) := iM_u c8 (c8.1.u rfl ⟨_, rfl⟩) rfl; exact j0))
    exact Or.inr ⟨hz, loz, E1, (by rw [a1]; exact q11), (by rw [a1]; exact a3), b0, b1, b2⟩
  · exact Or.inl (Or.inl r1)
  · exact Or.inl (Or.inl r1)
theorem nfm_ml_i {d : Nat} {lo : List (Nat × Value)} {h h' : ri_H} {rs : List Value} {b : Nat → Int32} {n m : Nat} {k : Int32} {i : Int32} (E : eh_e (ri_calE ri_md (d + 3)) md_171 80 lo [] h rs h') (iv : iM b n m (eh_V h)) (l0 : ri_lk lo 0 = some (.ref 0)) (l1 : ri_lk lo 1 = some (.int k)) (l2 : ri_lk lo 2 = some (.int i)) : (rs = [.int 0] ∨ NFm (eh_V h) (eh_V h')) ∨ (∃ hz loz, eh_e (ri_calE ri_md (d + 3)) md_171 80 loz [] hz rs h' ∧ NFm (eh_V h) (eh_V hz) ∧ iM b n m (eh_V hz) ∧ ri_lk loz 0 = some (.ref 0) ∧ ri_lk loz 1 = some (.int k) ∧ ri_lk loz 2 = some (.int (i + 1))) := by
  rcases ml_i E rfl iv l0 l1 l2 with ⟨h1, x17, h15, x22, h20, c0, c1, c2, c3, c4, c5, c6, c7, c8, c9, hz, loz, E1, a1, -, a3, b0, b1, b2, b3⟩ | ⟨h1, x17, h15, x22, h20, c0, c1, c2, c3, c4, c5, c6, c7, c8, c9, r1, r2, -, -⟩ | ⟨h1, x17, h15, c0, c1, c2, c3, c4, c5, c6, r1, r2, -, -⟩ | ⟨c0, c1, c2, r1, r2, -, -⟩ | ⟨c0, c1, r1, r2, -, -⟩ | ⟨c0, c1, r1, r2, -, -⟩ | ⟨c0, c1, r1, r2, -, -⟩
  · have q3 : NFm (eh_V h) (eh_V h1) := by
      rw [c3]
      exact (NFm.rf : NFm (eh_V h) (eh_V h))
    have q4 : NFm (eh_V h) (eh_V h15) := by
      rcases nfm_164 (d := d + 0) c4 (by rw [c3]; exact iv) with z | z
      · cases z
        exact absurd rfl c6
      · exact q3.tr z
    have q7 : NFm (eh_V h) (eh_V h20) := by
      rcases nfm_164 (d := d + 0) c7 c5 with z | z
      · cases z
        exact absurd rfl c9
      · exact q4.tr z
    exact Or.inr ⟨hz, loz, E1, (by rw [a1]; exact (q7.u (Or.inl (by decide)))), (by rw [a1]; exact a3), b0, b1, b2⟩
  · exact Or.inl (Or.inl r1)
  · exact Or.inl (Or.inl r1)
  · exact Or.inl (Or.inl r1)
  · exact Or.inl (Or.inl r1)
  · exact Or.inl (Or.inl r1)
  · exact Or.inl (Or.inr (by rw [r2]; exact (((NFm.rf : NFm (eh_V h) (eh_V h)).u (Or.inl (by decide))).u (Or.inl (by decide)))))
section NFN
variable {d : Nat} {rs : List Value} {h' : ri_H} {b : Nat → Int32} {n m : Nat} {kk : Int32}
theorem nfm_ml : ∀ (f k : Nat) (lo : List (Nat × Value)) (h : ri_H), k + f = 8 → eh_e (ri_calE ri_md (d + 3)) md_171 80 lo [] h rs h' → iM b n m (eh_V h) → ri_lk lo 0 = some (.ref 0) → ri_lk lo 1 = some (.int kk) → ri_lk lo 2 = some (.int (nI k)) → rs = [.int 0] ∨ NFm (eh_V h) (eh_V h') := by
  intro f
  induction f with
  | zero =>
    intro k lo h hf E iv l0 l1 l2
    have e8 : nI k = 8 := by rw [show k = 8 by omega]; rfl
    rcases ml_i E rfl iv l0 l1 l2 with ⟨_, _, _, _, _, -, -, c, -⟩ | ⟨_, _, _, _, _, -, -, c, -⟩ | ⟨_, _, _, -, -, c, -⟩ | ⟨-, -, -, r1, r2, r3, r4⟩ | ⟨-, -, r1, r2, r3, r4⟩ | ⟨-, -, r1, r2, r3, r4⟩ | ⟨-, -, r1, r2, r3, r4⟩
    · exact absurd e8 c
    · exact absurd e8 c
    · exact absurd e8 c
    · exact Or.inl r1
    · exact Or.inl r1
    · exact Or.inl r1
    · rw [r2]
      exact Or.inr ((NFm.rf.u (Or.inl (by decide))).u (Or.inl (by decide)))
  | succ f ih =>
    intro k lo h hf E iv l0 l1 l2
    rcases nfm_ml_i E iv l0 l1 l2 with z | ⟨hz, loz, E1, a1, a3, a4, a5, a6⟩
    · exact z
    · rw [lx_a1] at a6
      exact (ih (k + 1) loz hz (by omega) E1 a3 a4 a5 a6).imp_right a1.tr
end NFN
theorem nfm_171 {d : Nat} {h h' : ri_H} {v : Option Value} {b : Nat → Int32} {n m : Nat} (E : ri_calE ri_md (d + 5) 171 [.ref 0] h = some (v, h')) (iv : iM b n m (eh_V h)) : v = some (.int 0) ∨ NFm (eh_V h) (eh_V h') := by
  obtain ⟨rs, hrs, E⟩ := eh_in E (q := md_171) rfl
  have hv : rs = [.int 0] → v = some (.int 0) := fun e => by
    rw [← hrs, e]
    rfl
  rcases nfm_ml_a E iv rfl with z | ⟨hz, loz, E1, a1, a3, a4, a5, a6⟩
  · exact z.imp_left hv
  · exact (nfm_ml 8 0 loz hz rfl E1 a3 a4 a5 a6).imp hv a1.tr
theorem nfm_ln_6 {d : Nat} {lo : List (Nat × Value)} {h h' : ri_H} {rs : List Value} {b : Nat → Int32} {n m : Nat} (E : eh_e (ri_calE ri_md (d + 5)) md_170 285 lo [] h rs h') (iv : iM b n m (eh_V h)) (l0 : ri_lk lo 0 = some (.ref 0)) : (rs = [.int 0] ∨ NFm (eh_V h) (eh_V h')) := by
  obtain ⟨x3, h1, c0, c1, r1, r2, -, -⟩ := ln_6 E rfl iv l0
  rcases nfm_171 (d := d + 0) c0 iv with z | z
  · cases z
    exact Or.inl r1
  · exact Or.inr (by rw [r2]; exact (NFm.rf : NFm (eh_V h) (eh_V h)).tr z)
theorem nfm_170 {d : Nat} {h h' : ri_H} {v : Option Value} {b : Nat → Int32} {n m : Nat} (E : ri_calE ri_md (d + 6) 170 [.ref 0] h = some (v, h')) (iv : iM b n m (eh_V h)) : v = some (.int 0) ∨ NFm (eh_V h) (eh_V h') := by
  obtain ⟨rs, hrs, E⟩ := eh_in E (q := md_170) rfl
  have hv : rs = [.int 0] → v = some (.int 0) := fun e => by
    rw [← hrs, e]
    rfl
  have z := ln_d E rfl iv rfl
  rcases z with ⟨-, r1, r2, r3, r4⟩ | ⟨-, -, -, -, -, -, -, -, -, -, r1, r2, r3, r4⟩ | ⟨-, -, -, -, -, -, -, -, -, -, h1, lo1, E1, a1, a2, a3, a4⟩ | ⟨-, -, -, -, -, -, -, -, -, h1, lo1, E1, a1, a2, a3, a4⟩ | ⟨-, -, -, -, -, -, -, -, h1, lo1, E1, a1, a2, a3, a4⟩ | ⟨-, -, -, -, -, -, -, h1, lo1, E1, a1, a2, a3, a4⟩ | ⟨-, -, -, -, -, -, h1, lo1, E1, a1, a2, a3, a4⟩ | ⟨-, -, -, -, -, h1, lo1, E1, a1, a2, a3, a4⟩ | ⟨-, -, -, -, h1, lo1, E1, a1, a2, a3, a4⟩ | ⟨-, -, -, h1, lo1, E1, a1, a2, a3, a4⟩ | ⟨-, -, h1, lo1, E1, a1, a2, a3, a4⟩
  · exact Or.inl (hv r1)
  · exact Or.inl (hv r1)
  all_goals
    rw [← a1] at a3 ⊢
    refine Or.imp_left hv ?_
    first
    | exact nfm_ln_8 E1 a3 a4
    | exact nfm_ln_7 E1 a3 a4
    | exact nfm_ln_6 E1 a3 a4
    | exact nfm_ln_5 E1 a3 a4
    | exact nfm_ln_4 E1 a3 a4
    | exact nfm_ln_3 E1 a3 a4
    | exact nfm_ln_2 E1 a3 a4
    | exact nfm_ln_1 E1 a3 a4
    | exact nfm_ln_0 E1 a3 a4
