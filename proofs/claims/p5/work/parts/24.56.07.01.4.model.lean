def mc_0 : ri_F := (0, [(0, Value.ref 0)], [], [
  (12, [Value.int 0, Value.null, Value.int 0, Value.int 0, Value.int 0, Value.int 0, Value.null, Value.null, Value.null, Value.null, Value.null] ++ List.replicate 6 (Value.int 0) ++ [Value.long 0, Value.int 0, Value.int 0, Value.int 0, Value.null, Value.int 0, Value.null, Value.null, Value.int 0, Value.null, Value.null] ++ List.replicate 8 (Value.int 0) ++ [Value.null, Value.int 0, Value.null, Value.int 0, Value.int 0, Value.int 0, Value.int 0, Value.int 0, Value.null, Value.null, Value.null, Value.null])], 0, 0)
def mc_1 : ri_F := (397, [(1, Value.int 23), (0, Value.ref 0)], [Value.ref 0, Value.int 23, Value.ref 2], [
  (12, [Value.int 0, Value.ref 1, Value.int 0, Value.int 0, Value.int 0, Value.int 0, Value.ref 2, Value.ref 3, Value.ref 4, Value.ref 5, Value.ref 6] ++ List.replicate 6 (Value.int 0) ++ [Value.long 0, Value.int 0, Value.int 0, Value.int 0, Value.ref 7, Value.int 0, Value.ref 8, Value.ref 9, Value.int 0, Value.ref 10, Value.ref 11] ++ List.replicate 8 (Value.int 0) ++ [Value.ref 12, Value.int 0, Value.ref 13, Value.int 0, Value.int 0, Value.int 0, Value.int 0, Value.int 0, Value.ref 14, Value.ref 15, Value.ref 16, Value.ref 17]),
  (14, List.replicate 940 (Value.int 0)),
  (13, [Value.int 4, Value.int 3, Value.int 20, Value.int 0, Value.int 0, Value.int 0, Value.int 0, Value.int 0, Value.int (-1)] ++ List.replicate 346 (Value.int 0)),
  (13, [Value.int 4, Value.int 3, Value.int 20, Value.int 0, Value.int 0, Value.int 0, Value.int 0, Value.int 0, Value.int (-1)] ++ List.replicate 87 (Value.int 0)),
  (13, List.replicate 135 (Value.int 0)),
  (15, List.replicate 48 (Value.long 0)),
  (15, [Value.long 426903366771, Value.long 495673374574, Value.long 461262647411, Value.long 121398985520243, Value.long 6906725, Value.long 6518117, Value.long 119182984441710, Value.long 32762566252455282, Value.long 1651466612, Value.long 495673374579, Value.long 491395114867, Value.long 495555538035, Value.long 6578553, Value.long 28530, Value.long 6385252, Value.long 7237492, Value.long 461414299502, Value.long 500085055865, Value.long 24948, Value.long 25209, Value.long 499984983411, Value.long 495874044019, Value.long 1685024357, Value.long 121450625394034]),
  (13, List.replicate 8 (Value.int 0)),
  (13, List.replicate 624 (Value.int 0)),
  (13, List.replicate 78 (Value.int 0)),
  (16, List.replicate 256 (Value.int 0)),
  (13, List.replicate 256 (Value.int 0)),
  (13, [Value.int 0, Value.int 0, Value.int 0, Value.int 0]),
  (13, List.replicate 45 (Value.int 0)),
  (16, List.replicate 45 (Value.int 0)),
  (13, List.replicate 710 (Value.int 0)),
  (15, List.replicate 48 (Value.long 0)),
  (16, [Value.int 0, Value.int 0])], 17, 3674)
set_option maxRecDepth 100000 in
theorem mc_c0 : ri_is (ri_sn (ri_st [] (ri_call [] ri_md 7) (ri_bud ri_md) md_153) 500 mc_0) mc_1 = true := by decide +kernel
def mc_2 : ri_F := (385, [(1, Value.int 62), (0, Value.ref 0)], [], [
  (12, [Value.int 0, Value.ref 1, Value.int 0, Value.int 0, Value.int 0, Value.int 0, Value.ref 2, Value.ref 3, Value.ref 4, Value.ref 5, Value.ref 6] ++ List.replicate 6 (Value.int 0) ++ [Value.long 0, Value.int 0, Value.int 0, Value.int 0, Value.ref 7, Value.int 0, Value.ref 8, Value.ref 9, Value.int 0, Value.ref 10, Value.ref 11] ++ List.replicate 8 (Value.int 0) ++ [Value.ref 12, Value.int 0, Value.ref 13, Value.int 0, Value.int 0, Value.int 0, Value.int 0, Value.int 0, Value.ref 14, Value.ref 15, Value.ref 16, Value.ref 17]),
  (14, List.replicate 940 (Value.int 0)),
  (13, [Value.int 4, Value.int 3, Value.int 20, Value.int 0, Value.int 0, Value.int 0, Value.int 0, Value.int 0, Value.int (-1)] ++ List.replicate 346 (Value.int 0)),
  (13, [Value.int 4, Value.int 3, Value.int 20, Value.int 0, Value.int 0, Value.int 0, Value.int 0, Value.int 0, Value.int (-1)] ++ List.replicate 87 (Value.int 0)),
  (13, List.replicate 135 (Value.int 0)),
  (15, List.replicate 48 (Value.long 0)),
  (15, [Value.long 426903366771, Value.long 495673374574, Value.long 461262647411, Value.long 121398985520243, Value.long 6906725, Value.long 6518117, Value.long 119182984441710, Value.long 32762566252455282, Value.long 1651466612, Value.long 495673374579, Value.long 491395114867, Value.long 495555538035, Value.long 6578553, Value.long 28530, Value.long 6385252, Value.long 7237492, Value.long 461414299502, Value.long 500085055865, Value.long 24948, Value.long 25209, Value.long 499984983411, Value.long 495874044019, Value.long 1685024357, Value.long 121450625394034]),
  (13, List.replicate 8 (Value.int 0)),
  (13, List.replicate 624 (Value.int 0)),
  (13, List.replicate 78 (Value.int 0)),
  (16, List.replicate 256 (Value.int 0)),
  (13, List.replicate 256 (Value.int 0)),
  (13, [Value.int 0, Value.int 0, Value.int 0, Value.int 0]),
  (13, List.replicate 45 (Value.int 0)),
  (16, List.replicate 45 (Value.int 0)),
  (13, List.replicate 710 (Value.int 0)),
  (15, List.replicate 48 (Value.long 0)),
  (16, [Value.int 0, Value.int 0])], 17, 3674)
set_option maxRecDepth 100000 in
theorem mc_c1 : ri_is (ri_sn (ri_st [] (ri_call [] ri_md 7) (ri_bud ri_md) md_153) 500 mc_1) mc_2 = true := by decide +kernel
def mc_3 : ri_F := (70000, [], [], [
  (12, [Value.int 0, Value.ref 1, Value.int 0, Value.int 0, Value.int 0, Value.int 0, Value.ref 2, Value.ref 3, Value.ref 4, Value.ref 5, Value.ref 6] ++ List.replicate 6 (Value.int 0) ++ [Value.long 0, Value.int 0, Value.int 0, Value.int 0, Value.ref 7, Value.int 0, Value.ref 8, Value.ref 9, Value.int 0, Value.ref 10, Value.ref 11] ++ List.replicate 8 (Value.int 0) ++ [Value.ref 12, Value.int 0, Value.ref 13, Value.int 0, Value.int 0, Value.int 0, Value.int 0, Value.int 0, Value.ref 14, Value.ref 15, Value.ref 16, Value.ref 17]),
  (14, List.replicate 940 (Value.int 0)),
  (13, [Value.int 4, Value.int 3, Value.int 20, Value.int 0, Value.int 0, Value.int 0, Value.int 0, Value.int 0, Value.int (-1)] ++ List.replicate 346 (Value.int 0)),
  (13, [Value.int 4, Value.int 3, Value.int 20, Value.int 0, Value.int 0, Value.int 0, Value.int 0, Value.int 0, Value.int (-1)] ++ List.replicate 87 (Value.int 0)),
  (13, List.replicate 135 (Value.int 0)),
  (15, List.replicate 48 (Value.long 0)),
  (15, [Value.long 426903366771, Value.long 495673374574, Value.long 461262647411, Value.long 121398985520243, Value.long 6906725, Value.long 6518117, Value.long 119182984441710, Value.long 32762566252455282, Value.long 1651466612, Value.long 495673374579, Value.long 491395114867, Value.long 495555538035, Value.long 6578553, Value.long 28530, Value.long 6385252, Value.long 7237492, Value.long 461414299502, Value.long 500085055865, Value.long 24948, Value.long 25209, Value.long 499984983411, Value.long 495874044019, Value.long 1685024357, Value.long 121450625394034]),
  (13, List.replicate 8 (Value.int 0)),
  (13, List.replicate 624 (Value.int 0)),
  (13, List.replicate 78 (Value.int 0)),
  (16, List.replicate 256 (Value.int 0)),
  (13, List.replicate 256 (Value.int 0)),
  (13, [Value.int 0, Value.int 0, Value.int 0, Value.int 0]),
  (13, List.replicate 45 (Value.int 0)),
  (16, List.replicate 45 (Value.int 0)),
  (13, List.replicate 710 (Value.int 0)),
  (15, List.replicate 48 (Value.long 0)),
  (16, [Value.int 0, Value.int 0])], 17, 3674)
set_option maxRecDepth 100000 in
theorem mc_c2 : ri_is (ri_sn (ri_st [] (ri_call [] ri_md 7) (ri_bud ri_md) md_153) 446 mc_2) mc_3 = true := by decide +kernel
def h_n0 : ri_H := [
  (12, [Value.int 0, Value.null, Value.int 0, Value.int 0, Value.int 0, Value.int 0, Value.null, Value.null, Value.null, Value.null, Value.null] ++ List.replicate 6 (Value.int 0) ++ [Value.long 0, Value.int 0, Value.int 0, Value.int 0, Value.null, Value.int 0, Value.null, Value.null, Value.int 0, Value.null, Value.null] ++ List.replicate 8 (Value.int 0) ++ [Value.null, Value.int 0, Value.null, Value.int 0, Value.int 0, Value.int 0, Value.int 0, Value.int 0, Value.null, Value.null, Value.null, Value.null])]
def h_n1 : ri_H := [
  (12, [Value.int 0, Value.ref 1, Value.int 0, Value.int 0, Value.int 0, Value.int 0, Value.ref 2, Value.ref 3, Value.ref 4, Value.ref 5, Value.ref 6] ++ List.replicate 6 (Value.int 0) ++ [Value.long 0, Value.int 0, Value.int 0, Value.int 0, Value.ref 7, Value.int 0, Value.ref 8, Value.ref 9, Value.int 0, Value.ref 10, Value.ref 11] ++ List.replicate 8 (Value.int 0) ++ [Value.ref 12, Value.int 0, Value.ref 13, Value.int 0, Value.int 0, Value.int 0, Value.int 0, Value.int 0, Value.ref 14, Value.ref 15, Value.ref 16, Value.ref 17]),
  (14, List.replicate 940 (Value.int 0)),
  (13, [Value.int 4, Value.int 3, Value.int 20, Value.int 0, Value.int 0, Value.int 0, Value.int 0, Value.int 0, Value.int (-1)] ++ List.replicate 346 (Value.int 0)),
  (13, [Value.int 4, Value.int 3, Value.int 20, Value.int 0, Value.int 0, Value.int 0, Value.int 0, Value.int 0, Value.int (-1)] ++ List.replicate 87 (Value.int 0)),
  (13, List.replicate 135 (Value.int 0)),
  (15, List.replicate 48 (Value.long 0)),
  (15, [Value.long 426903366771, Value.long 495673374574, Value.long 461262647411, Value.long 121398985520243, Value.long 6906725, Value.long 6518117, Value.long 119182984441710, Value.long 32762566252455282, Value.long 1651466612, Value.long 495673374579, Value.long 491395114867, Value.long 495555538035, Value.long 6578553, Value.long 28530, Value.long 6385252, Value.long 7237492, Value.long 461414299502, Value.long 500085055865, Value.long 24948, Value.long 25209, Value.long 499984983411, Value.long 495874044019, Value.long 1685024357, Value.long 121450625394034]),
  (13, List.replicate 8 (Value.int 0)),
  (13, List.replicate 624 (Value.int 0)),
  (13, List.replicate 78 (Value.int 0)),
  (16, List.replicate 256 (Value.int 0)),
  (13, List.replicate 256 (Value.int 0)),
  (13, [Value.int 0, Value.int 0, Value.int 0, Value.int 0]),
  (13, List.replicate 45 (Value.int 0)),
  (16, List.replicate 45 (Value.int 0)),
  (13, List.replicate 710 (Value.int 0)),
  (15, List.replicate 48 (Value.long 0)),
  (16, [Value.int 0, Value.int 0])]
set_option maxRecDepth 100000 in
theorem mn_met (l : Launch) (E : ri_V) (D : va_G) (cA : Nat → ClassId) : ri_Met l E D cA 8 md_153.1 [.ref 0] h_n0 (fun a b => a = none ∧ b = h_n1) := by
  have hdc : ∀ q ∈ ([] : ri_O), ri_hd q.1 (ri_ic E q.2.1) (ri_ic E q.2.2.1) = q.2.2.2 := fun _ h => absurd h List.not_mem_nil
  obtain ⟨n, hMk⟩ := mk_153
  refine ri_met_of hMk (by decide) (fun p e s m args below meth c X hrt hlk => ?_)
  have C : ri_Ca l E D cA ri_md (ri_call [] ri_md 7) 7 md_153.1 (ri_rm 8 md_153.1) := ⟨ri_mk_all, fun j q as h v h' hq hs => ri_run l E D cA hdc hq hs, Nat.le_refl _, Nat.le_refl _, by decide, by decide⟩
  have hf : ∀ k : ri_F, k = mc_3 → ri_Gd p l e (ri_rm 8 md_153.1) s m args below meth c (MQ below (ri_Qc E D cA (fun a b => a = none ∧ b = h_n1)) args s md_153.1.2.2.2.2.2.1 md_153.1.2.2.2.2.2.2 (ri_A E)) E D cA md_153.1.2.2.1 (fun a b => a = none ∧ b = h_n1) md_153.1.2.2.2.2.2.1 md_153.1.2.2.2.2.2.2 k := by
    rintro _ rfl
    exact Or.inl ⟨rfl, ⟨rfl, rfl⟩, by decide, by decide⟩
  have g3 := hf _ rfl
  have g2 := ri_gd_sn X C hdc ot_153 hrt hlk (ri_is_ok mc_c2) (by decide : mc_2.1 ≠ 70000) g3
  have g1 := ri_gd_sn X C hdc ot_153 hrt hlk (ri_is_ok mc_c1) (by decide : mc_1.1 ≠ 70000) g2
  have g0 := ri_gd_sn X C hdc ot_153 hrt hlk (ri_is_ok mc_c0) (by decide : mc_0.1 ≠ 70000) g1
  rcases g0 with ⟨h0, -⟩ | ⟨-, h0⟩
  · exact absurd h0 (by decide)
  · exact h0
def h_m0 : ri_H := h_l1 ++ h_n0.map (ri_shC 209)
def h_m1 : ri_H := h_l1 ++ h_n1.map (ri_shC 209)
theorem ml_met (l : Launch) (E : ri_V) (D : va_G) (cA : Nat → ClassId) : ri_Met l E D cA 8 md_153.1 [.ref 209] h_m0 (fun a b => a = none ∧ b = h_m1) := by
  refine (ri_shift (hc := h_l1) (n := 209) (by decide +kernel) (mn_met l (E.1 + 209, E.2) D cA)).mono ?_
  rintro v h' ⟨v', hm', ⟨rfl, rfl⟩, rfl, rfl⟩
  exact ⟨rfl, rfl⟩
