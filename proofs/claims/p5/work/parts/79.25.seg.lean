def pR (lo hi k _i : Nat) : Bool := Nat.ble lo k && Nat.ble k hi
theorem pR_out {lo hi k i : Nat} (h : k < lo ∨ hi < k) : pR lo hi k i = false := by
  cases e : pR lo hi k i with
  | false => rfl
  | true =>
    unfold pR at e
    rw [Bool.and_eq_true] at e
    have e1 := Nat.ble_eq.mp e.1
    have e2 := Nat.ble_eq.mp e.2
    omega
/-- image at 0 (class) -/
theorem c_im0 {d : Nat} {h h' : ri_H} {v : Option Value} {G : eh_W} (E : ri_calE ri_md (d + 2) 141 [.ref 0, .int 0] h = some (v, h')) (hV : eh_V h = G) (ty : eh_ty tC G) (hl : (eh_N h).take 209 = NCl) : eh_fr (pR 143 170) G (eh_V h') ∧ EC (shC 23 G) (shC 144 (eh_V h')) ∧ eh_i (eh_V h') 143 3 = 1 := by
  obtain ⟨r1, r2, r3⟩ := im_0 E hV ty hl
  have c6 : ∀ i, i < 5 → eh_i (shC 144 (eh_V h')) 6 i = eh_i (shC 23 G) 6 i := fun i hi => ei_eq (G := eh_V h') (k := 145) (i := i) (G' := G) (k' := 24) (i' := i) (by
    rw [r2]
    exact (show _ = (bif Nat.blt i 5 then G 24 i else G 145 i) from rfl).trans (cp_b hi))
  have c7 : ∀ i, i < 4 → eh_i (shC 144 (eh_V h')) 7 i = eh_i (shC 23 G) 7 i := fun i hi => ei_eq (G := eh_V h') (k := 146) (i := i) (G' := G) (k' := 25) (i' := i) (by
    rw [r2]
    exact (show _ = (bif Nat.blt i 4 then G 25 i else G 146 i) from rfl).trans (cp_b hi))
  have c8 : ∀ i, i < 8 → eh_i (shC 144 (eh_V h')) 8 i = eh_i (shC 23 G) 8 i := fun i hi => ei_eq (G := eh_V h') (k := 147) (i := i) (G' := G) (k' := 26) (i' := i) (by
    rw [r2]
    exact (show _ = (bif Nat.blt i 8 then G 26 i else G 147 i) from rfl).trans (cp_b hi))
  have c9 : ∀ i, i < 6 → eh_i (shC 144 (eh_V h')) 9 i = eh_i (shC 23 G) 9 i := fun i hi => ei_eq (G := eh_V h') (k := 148) (i := i) (G' := G) (k' := 27) (i' := i) (by
    rw [r2]
    exact (show _ = (bif Nat.blt i 6 then G 27 i else G 148 i) from rfl).trans (cp_b hi))
  have c10 : ∀ i, i < 8 → eh_i (shC 144 (eh_V h')) 10 i = eh_i (shC 23 G) 10 i := fun i hi => ei_eq (G := eh_V h') (k := 149) (i := i) (G' := G) (k' := 28) (i' := i) (by
    rw [r2]
    exact (show _ = (bif Nat.blt i 8 then G 28 i else G 149 i) from rfl).trans (cp_b hi))
  have c11 : ∀ i, i < 64 → eh_i (shC 144 (eh_V h')) 11 i = eh_i (shC 23 G) 11 i := fun i hi => ei_eq (G := eh_V h') (k := 150) (i := i) (G' := G) (k' := 29) (i' := i) (by
    rw [r2]
    exact (show _ = (bif Nat.blt i 64 then G 29 i else G 150 i) from rfl).trans (cp_b hi))
  have c12 : ∀ i, i < 8 → eh_i (shC 144 (eh_V h')) 12 i = eh_i (shC 23 G) 12 i := fun i hi => ei_eq (G := eh_V h') (k := 151) (i := i) (G' := G) (k' := 30) (i' := i) (by
    rw [r2]
    exact (show _ = (bif Nat.blt i 8 then G 30 i else G 151 i) from rfl).trans (cp_b hi))
  have c13 : ∀ i, i < 6 → eh_i (shC 144 (eh_V h')) 13 i = eh_i (shC 23 G) 13 i := fun i hi => ei_eq (G := eh_V h') (k := 152) (i := i) (G' := G) (k' := 31) (i' := i) (by
    rw [r2]
    exact (show _ = (bif Nat.blt i 6 then G 31 i else G 152 i) from rfl).trans (cp_b hi))
  have n1 : eh_i (shC 144 (eh_V h')) 5 1 = eh_i (shC 23 G) 5 1 := by
    rw [r2]
    rfl
  have n12 : eh_i (shC 144 (eh_V h')) 5 12 = eh_i (shC 23 G) 5 12 := by
    rw [r2]
    rfl
  refine ⟨?_, ⟨n1, n12, c6, c7, c8, c9, c10, c11, c12, c13⟩, ?_⟩
  · rw [r2]
    exact (((((((((((((((((((((((((((((((((((eh_fr.rf.cp (fun _ => rfl)).up rfl).cp (fun _ => rfl)).cp (fun _ => rfl)).cp (fun _ => rfl)).cp (fun _ => rfl)).cp (fun _ => rfl)).cp (fun _ => rfl)).cp (fun _ => rfl)).cp (fun _ => rfl)).cp (fun _ => rfl)).cp (fun _ => rfl)).up rfl).up rfl).up rfl).up rfl).up rfl).up rfl).up rfl).up rfl).cp (fun _ => rfl)).cp (fun _ => rfl)).cp (fun _ => rfl)).cp (fun _ => rfl)).cp (fun _ => rfl)).cp (fun _ => rfl)).cp (fun _ => rfl)).cp (fun _ => rfl)).cp (fun _ => rfl)).up rfl).up rfl).cp (fun _ => rfl)).cp (fun _ => rfl)).cp (fun _ => rfl)).up rfl)
  · rw [r2]
    rfl
/-- restore at 0 (class) -/
theorem c_re0 {d : Nat} {h h' : ri_H} {v : Option Value} {G : eh_W} (E : ri_calE ri_md (d + 2) 142 [.ref 0, .int 0] h = some (v, h')) (hV : eh_V h = G) (ty : eh_ty tC G) (hl : (eh_N h).take 209 = NCl) : eh_fr (pR 17 142) G (eh_V h') ∧ ((eh_i G 143 3 = 0 ∧ eh_V h' = G) ∨ (¬ eh_i G 143 3 = 0 ∧ EC (shC 144 G) (shC 23 (eh_V h')))) := by
  rcases re_0 E hV ty hl with ⟨c, r1, r2, r3⟩ | ⟨c, r1, r2, r3⟩
  · have fr : eh_fr (pR 17 142) G (eh_V h') := by
      rw [r2]
      exact (((((((((((((((((((((((((((((((((((eh_fr.rf.cp (fun _ => rfl)).up rfl).cp (fun _ => rfl)).cp (fun _ => rfl)).cp (fun _ => rfl)).cp (fun _ => rfl)).cp (fun _ => rfl)).cp (fun _ => rfl)).cp (fun _ => rfl)).cp (fun _ => rfl)).cp (fun _ => rfl)).cp (fun _ => rfl)).up rfl).up rfl).up rfl).up rfl).up rfl).up rfl).up rfl).up rfl).cp (fun _ => rfl)).cp (fun _ => rfl)).cp (fun _ => rfl)).cp (fun _ => rfl)).cp (fun _ => rfl)).cp (fun _ => rfl)).cp (fun _ => rfl)).cp (fun _ => rfl)).cp (fun _ => rfl)).up rfl).up rfl).cp (fun _ => rfl)).cp (fun _ => rfl)).cp (fun _ => rfl)).up rfl)
    have c6 : ∀ i, i < 5 → eh_i (shC 23 (eh_V h')) 6 i = eh_i (shC 144 G) 6 i := fun i hi => ei_eq (G := eh_V h') (k := 24) (i := i) (G' := G) (k' := 145) (i' := i) (by
      rw [r2]
      exact (show _ = (bif Nat.blt i 5 then G 145 i else G 24 i) from rfl).trans (cp_b hi))
    have c7 : ∀ i, i < 4 → eh_i (shC 23 (eh_V h')) 7 i = eh_i (shC 144 G) 7 i := fun i hi => ei_eq (G := eh_V h') (k := 25) (i := i) (G' := G) (k' := 146) (i' := i) (by
      rw [r2]
      exact (show _ = (bif Nat.blt i 4 then G 146 i else G 25 i) from rfl).trans (cp_b hi))
    have c8 : ∀ i, i < 8 → eh_i (shC 23 (eh_V h')) 8 i = eh_i (shC 144 G) 8 i := fun i hi => ei_eq (G := eh_V h') (k := 26) (i := i) (G' := G) (k' := 147) (i' := i) (by
      rw [r2]
      exact (show _ = (bif Nat.blt i 8 then G 147 i else G 26 i) from rfl).trans (cp_b hi))
    have c9 : ∀ i, i < 6 → eh_i (shC 23 (eh_V h')) 9 i = eh_i (shC 144 G) 9 i := fun i hi => ei_eq (G := eh_V h') (k := 27) (i := i) (G' := G) (k' := 148) (i' := i) (by
      rw [r2]
      exact (show _ = (bif Nat.blt i 6 then G 148 i else G 27 i) from rfl).trans (cp_b hi))
    have c10 : ∀ i, i < 8 → eh_i (shC 23 (eh_V h')) 10 i = eh_i (shC 144 G) 10 i := fun i hi => ei_eq (G := eh_V h') (k := 28) (i := i) (G' := G) (k' := 149) (i' := i) (by
      rw [r2]
      exact (show _ = (bif Nat.blt i 8 then G 149 i else G 28 i) from rfl).trans (cp_b hi))
    have c11 : ∀ i, i < 64 → eh_i (shC 23 (eh_V h')) 11 i = eh_i (shC 144 G) 11 i := fun i hi => ei_eq (G := eh_V h') (k := 29) (i := i) (G' := G) (k' := 150) (i' := i) (by
      rw [r2]
      exact (show _ = (bif Nat.blt i 64 then G 150 i else G 29 i) from rfl).trans (cp_b hi))
    have c12 : ∀ i, i < 8 → eh_i (shC 23 (eh_V h')) 12 i = eh_i (shC 144 G) 12 i := fun i hi => ei_eq (G := eh_V h') (k := 30) (i := i) (G' := G) (k' := 151) (i' := i) (by
      rw [r2]
      exact (show _ = (bif Nat.blt i 8 then G 151 i else G 30 i) from rfl).trans (cp_b hi))
    have c13 : ∀ i, i < 6 → eh_i (shC 23 (eh_V h')) 13 i = eh_i (shC 144 G) 13 i := fun i hi => ei_eq (G := eh_V h') (k := 31) (i := i) (G' := G) (k' := 152) (i' := i) (by
      rw [r2]
      exact (show _ = (bif Nat.blt i 6 then G 152 i else G 31 i) from rfl).trans (cp_b hi))
    have n1 : eh_i (shC 23 (eh_V h')) 5 1 = eh_i (shC 144 G) 5 1 := by
      rw [r2]
      rfl
    have n12 : eh_i (shC 23 (eh_V h')) 5 12 = eh_i (shC 144 G) 5 12 := by
      rw [r2]
      rfl
    exact ⟨fr, Or.inr ⟨c, ⟨n1, n12, c6, c7, c8, c9, c10, c11, c12, c13⟩⟩⟩
  · rw [r2]
    exact ⟨eh_fr.rf, Or.inl ⟨c, rfl⟩⟩
/-- image at 1 (class) -/
theorem c_im1 {d : Nat} {h h' : ri_H} {v : Option Value} {G : eh_W} (E : ri_calE ri_md (d + 2) 141 [.ref 0, .int 1] h = some (v, h')) (hV : eh_V h = G) (ty : eh_ty tC G) (hl : (eh_N h).take 209 = NCl) : eh_fr (pR 171 198) G (eh_V h') ∧ EC (shC 23 G) (shC 172 (eh_V h')) ∧ eh_i (eh_V h') 171 3 = 1 := by
  obtain ⟨r1, r2, r3⟩ := im_1 E hV ty hl
  have c6 : ∀ i, i < 5 → eh_i (shC 172 (eh_V h')) 6 i = eh_i (shC 23 G) 6 i := fun i hi => ei_eq (G := eh_V h') (k := 173) (i := i) (G' := G) (k' := 24) (i' := i) (by
    rw [r2]
    exact (show _ = (bif Nat.blt i 5 then G 24 i else G 173 i) from rfl).trans (cp_b hi))
  have c7 : ∀ i, i < 4 → eh_i (shC 172 (eh_V h')) 7 i = eh_i (shC 23 G) 7 i := fun i hi => ei_eq (G := eh_V h') (k := 174) (i := i) (G' := G) (k' := 25) (i' := i) (by
    rw [r2]
    exact (show _ = (bif Nat.blt i 4 then G 25 i else G 174 i) from rfl).trans (cp_b hi))
  have c8 : ∀ i, i < 8 → eh_i (shC 172 (eh_V h')) 8 i = eh_i (shC 23 G) 8 i := fun i hi => ei_eq (G := eh_V h') (k := 175) (i := i) (G' := G) (k' := 26) (i' := i) (by
    rw [r2]
    exact (show _ = (bif Nat.blt i 8 then G 26 i else G 175 i) from rfl).trans (cp_b hi))
  have c9 : ∀ i, i < 6 → eh_i (shC 172 (eh_V h')) 9 i = eh_i (shC 23 G) 9 i := fun i hi => ei_eq (G := eh_V h') (k := 176) (i := i) (G' := G) (k' := 27) (i' := i) (by
    rw [r2]
    exact (show _ = (bif Nat.blt i 6 then G 27 i else G 176 i) from rfl).trans (cp_b hi))
  have c10 : ∀ i, i < 8 → eh_i (shC 172 (eh_V h')) 10 i = eh_i (shC 23 G) 10 i := fun i hi => ei_eq (G := eh_V h') (k := 177) (i := i) (G' := G) (k' := 28) (i' := i) (by
    rw [r2]
    exact (show _ = (bif Nat.blt i 8 then G 28 i else G 177 i) from rfl).trans (cp_b hi))
  have c11 : ∀ i, i < 64 → eh_i (shC 172 (eh_V h')) 11 i = eh_i (shC 23 G) 11 i := fun i hi => ei_eq (G := eh_V h') (k := 178) (i := i) (G' := G) (k' := 29) (i' := i) (by
    rw [r2]
    exact (show _ = (bif Nat.blt i 64 then G 29 i else G 178 i) from rfl).trans (cp_b hi))
  have c12 : ∀ i, i < 8 → eh_i (shC 172 (eh_V h')) 12 i = eh_i (shC 23 G) 12 i := fun i hi => ei_eq (G := eh_V h') (k := 179) (i := i) (G' := G) (k' := 30) (i' := i) (by
    rw [r2]
    exact (show _ = (bif Nat.blt i 8 then G 30 i else G 179 i) from rfl).trans (cp_b hi))
  have c13 : ∀ i, i < 6 → eh_i (shC 172 (eh_V h')) 13 i = eh_i (shC 23 G) 13 i := fun i hi => ei_eq (G := eh_V h') (k := 180) (i := i) (G' := G) (k' := 31) (i' := i) (by
    rw [r2]
    exact (show _ = (bif Nat.blt i 6 then G 31 i else G 180 i) from rfl).trans (cp_b hi))
  have n1 : eh_i (shC 172 (eh_V h')) 5 1 = eh_i (shC 23 G) 5 1 := by
    rw [r2]
    rfl
  have n12 : eh_i (shC 172 (eh_V h')) 5 12 = eh_i (shC 23 G) 5 12 := by
    rw [r2]
    rfl
  refine ⟨?_, ⟨n1, n12, c6, c7, c8, c9, c10, c11, c12, c13⟩, ?_⟩
  · rw [r2]
    exact (((((((((((((((((((((((((((((((((((eh_fr.rf.cp (fun _ => rfl)).up rfl).cp (fun _ => rfl)).cp (fun _ => rfl)).cp (fun _ => rfl)).cp (fun _ => rfl)).cp (fun _ => rfl)).cp (fun _ => rfl)).cp (fun _ => rfl)).cp (fun _ => rfl)).cp (fun _ => rfl)).cp (fun _ => rfl)).up rfl).up rfl).up rfl).up rfl).up rfl).up rfl).up rfl).up rfl).cp (fun _ => rfl)).cp (fun _ => rfl)).cp (fun _ => rfl)).cp (fun _ => rfl)).cp (fun _ => rfl)).cp (fun _ => rfl)).cp (fun _ => rfl)).cp (fun _ => rfl)).cp (fun _ => rfl)).up rfl).up rfl).cp (fun _ => rfl)).cp (fun _ => rfl)).cp (fun _ => rfl)).up rfl)
  · rw [r2]
    rfl
/-- restore at 1 (class) -/
theorem c_re1 {d : Nat} {h h' : ri_H} {v : Option Value} {G : eh_W} (E : ri_calE ri_md (d + 2) 142 [.ref 0, .int 1] h = some (v, h')) (hV : eh_V h = G) (ty : eh_ty tC G) (hl : (eh_N h).take 209 = NCl) : eh_fr (pR 17 142) G (eh_V h') ∧ ((eh_i G 171 3 = 0 ∧ eh_V h' = G) ∨ (¬ eh_i G 171 3 = 0 ∧ EC (shC 172 G) (shC 23 (eh_V h')))) := by
  rcases re_1 E hV ty hl with ⟨c, r1, r2, r3⟩ | ⟨c, r1, r2, r3⟩
  · have fr : eh_fr (pR 17 142) G (eh_V h') := by
      rw [r2]
      exact (((((((((((((((((((((((((((((((((((eh_fr.rf.cp (fun _ => rfl)).up rfl).cp (fun _ => rfl)).cp (fun _ => rfl)).cp (fun _ => rfl)).cp (fun _ => rfl)).cp (fun _ => rfl)).cp (fun _ => rfl)).cp (fun _ => rfl)).cp (fun _ => rfl)).cp (fun _ => rfl)).cp (fun _ => rfl)).up rfl).up rfl).up rfl).up rfl).up rfl).up rfl).up rfl).up rfl).cp (fun _ => rfl)).cp (fun _ => rfl)).cp (fun _ => rfl)).cp (fun _ => rfl)).cp (fun _ => rfl)).cp (fun _ => rfl)).cp (fun _ => rfl)).cp (fun _ => rfl)).cp (fun _ => rfl)).up rfl).up rfl).cp (fun _ => rfl)).cp (fun _ => rfl)).cp (fun _ => rfl)).up rfl)
    have c6 : ∀ i, i < 5 → eh_i (shC 23 (eh_V h')) 6 i = eh_i (shC 172 G) 6 i := fun i hi => ei_eq (G := eh_V h') (k := 24) (i := i) (G' := G) (k' := 173) (i' := i) (by
      rw [r2]
      exact (show _ = (bif Nat.blt i 5 then G 173 i else G 24 i) from rfl).trans (cp_b hi))
    have c7 : ∀ i, i < 4 → eh_i (shC 23 (eh_V h')) 7 i = eh_i (shC 172 G) 7 i := fun i hi => ei_eq (G := eh_V h') (k := 25) (i := i) (G' := G) (k' := 174) (i' := i) (by
      rw [r2]
      exact (show _ = (bif Nat.blt i 4 then G 174 i else G 25 i) from rfl).trans (cp_b hi))
    have c8 : ∀ i, i < 8 → eh_i (shC 23 (eh_V h')) 8 i = eh_i (shC 172 G) 8 i := fun i hi => ei_eq (G := eh_V h') (k := 26) (i := i) (G' := G) (k' := 175) (i' := i) (by
      rw [r2]
      exact (show _ = (bif Nat.blt i 8 then G 175 i else G 26 i) from rfl).trans (cp_b hi))
    have c9 : ∀ i, i < 6 → eh_i (shC 23 (eh_V h')) 9 i = eh_i (shC 172 G) 9 i := fun i hi => ei_eq (G := eh_V h') (k := 27) (i := i) (G' := G) (k' := 176) (i' := i) (by
      rw [r2]
      exact (show _ = (bif Nat.blt i 6 then G 176 i else G 27 i) from rfl).trans (cp_b hi))
    have c10 : ∀ i, i < 8 → eh_i (shC 23 (eh_V h')) 10 i = eh_i (shC 172 G) 10 i := fun i hi => ei_eq (G := eh_V h') (k := 28) (i := i) (G' := G) (k' := 177) (i' := i) (by
      rw [r2]
      exact (show _ = (bif Nat.blt i 8 then G 177 i else G 28 i) from rfl).trans (cp_b hi))
    have c11 : ∀ i, i < 64 → eh_i (shC 23 (eh_V h')) 11 i = eh_i (shC 172 G) 11 i := fun i hi => ei_eq (G := eh_V h') (k := 29) (i := i) (G' := G) (k' := 178) (i' := i) (by
      rw [r2]
      exact (show _ = (bif Nat.blt i 64 then G 178 i else G 29 i) from rfl).trans (cp_b hi))
    have c12 : ∀ i, i < 8 → eh_i (shC 23 (eh_V h')) 12 i = eh_i (shC 172 G) 12 i := fun i hi => ei_eq (G := eh_V h') (k := 30) (i := i) (G' := G) (k' := 179) (i' := i) (by
      rw [r2]
      exact (show _ = (bif Nat.blt i 8 then G 179 i else G 30 i) from rfl).trans (cp_b hi))
    have c13 : ∀ i, i < 6 → eh_i (shC 23 (eh_V h')) 13 i = eh_i (shC 172 G) 13 i := fun i hi => ei_eq (G := eh_V h') (k := 31) (i := i) (G' := G) (k' := 180) (i' := i) (by
      rw [r2]
      exact (show _ = (bif Nat.blt i 6 then G 180 i else G 31 i) from rfl).trans (cp_b hi))
    have n1 : eh_i (shC 23 (eh_V h')) 5 1 = eh_i (shC 172 G) 5 1 := by
      rw [r2]
      rfl
    have n12 : eh_i (shC 23 (eh_V h')) 5 12 = eh_i (shC 172 G) 5 12 := by
      rw [r2]
      rfl
    exact ⟨fr, Or.inr ⟨c, ⟨n1, n12, c6, c7, c8, c9, c10, c11, c12, c13⟩⟩⟩
  · rw [r2]
    exact ⟨eh_fr.rf, Or.inl ⟨c, rfl⟩⟩
