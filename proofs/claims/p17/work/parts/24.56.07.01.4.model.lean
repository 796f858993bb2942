def mc_0 : ri_F := (0, [(0, .ref 0)], [], [
  (12, [.int 0, .null, .int 0, .int 0, .int 0, .int 0, .null, .null, .null, .null, .null] ++ List.replicate 6 (.int 0) ++ [.long 0, .int 0, .int 0, .int 0, .null, .int 0, .null, .null, .int 0, .null, .null] ++ List.replicate 8 (.int 0) ++ [.null, .int 0, .null, .int 0, .int 0, .int 0, .int 0, .int 0, .null, .null, .null, .null])], 0, 0)
def mc_1 : ri_F := (397, [(1, .int 23), (0, .ref 0)], [.ref 0, .int 23, .ref 2], [
  (12, [.int 0, .ref 1, .int 0, .int 0, .int 0, .int 0, .ref 2, .ref 3, .ref 4, .ref 5, .ref 6] ++ List.replicate 6 (.int 0) ++ [.long 0, .int 0, .int 0, .int 0, .ref 7, .int 0, .ref 8, .ref 9, .int 0, .ref 10, .ref 11] ++ List.replicate 8 (.int 0) ++ [.ref 12, .int 0, .ref 13, .int 0, .int 0, .int 0, .int 0, .int 0, .ref 14, .ref 15, .ref 16, .ref 17]),
  (14, List.replicate 940 (.int 0)),
  (13, [.int 4, .int 3, .int 20, .int 0, .int 0, .int 0, .int 0, .int 0, .int (-1)] ++ List.replicate 346 (.int 0)),
  (13, [.int 4, .int 3, .int 20, .int 0, .int 0, .int 0, .int 0, .int 0, .int (-1)] ++ List.replicate 87 (.int 0)),
  (13, List.replicate 135 (.int 0)),
  (15, List.replicate 48 (.long 0)),
  (15, [.long 426903366771, .long 495673374574, .long 461262647411, .long 121398985520243, .long 6906725, .long 6518117, .long 119182984441710, .long 32762566252455282, .long 1651466612, .long 495673374579, .long 491395114867, .long 495555538035, .long 6578553, .long 28530, .long 6385252, .long 7237492, .long 461414299502, .long 500085055865, .long 24948, .long 25209, .long 499984983411, .long 495874044019, .long 1685024357, .long 121450625394034]),
  (13, List.replicate 8 (.int 0)),
  (13, List.replicate 624 (.int 0)),
  (13, List.replicate 78 (.int 0)),
  (16, List.replicate 256 (.int 0)),
  (13, List.replicate 256 (.int 0)),
  (13, [.int 0, .int 0, .int 0, .int 0]),
  (13, List.replicate 45 (.int 0)),
  (16, List.replicate 45 (.int 0)),
  (13, List.replicate 710 (.int 0)),
  (15, List.replicate 48 (.long 0)),
  (16, [.int 0, .int 0])], 17, 3674)
set_option maxRecDepth 100000 in
theorem mc_c0 : ri_is (ri_sn (ri_st [] (ri_call [] ri_md 7) (ri_bud ri_md) md_153) 500 mc_0) mc_1 = true := by decide +kernel
def mc_2 : ri_F := (385, [(1, .int 62), (0, .ref 0)], [], [
  (12, [.int 0, .ref 1, .int 0, .int 0, .int 0, .int 0, .ref 2, .ref 3, .ref 4, .ref 5, .ref 6] ++ List.replicate 6 (.int 0) ++ [.long 0, .int 0, .int 0, .int 0, .ref 7, .int 0, .ref 8, .ref 9, .int 0, .ref 10, .ref 11] ++ List.replicate 8 (.int 0) ++ [.ref 12, .int 0, .ref 13, .int 0, .int 0, .int 0, .int 0, .int 0, .ref 14, .ref 15, .ref 16, .ref 17]),
  (14, List.replicate 940 (.int 0)),
  (13, [.int 4, .int 3, .int 20, .int 0, .int 0, .int 0, .int 0, .int 0, .int (-1)] ++ List.replicate 346 (.int 0)),
  (13, [.int 4, .int 3, .int 20, .int 0, .int 0, .int 0, .int 0, .int 0, .int (-1)] ++ List.replicate 87 (.int 0)),
  (13, List.replicate 135 (.int 0)),
  (15, List.replicate 48 (.long 0)),
  (15, [.long 426903366771, .long 495673374574, .long 461262647411, .long 121398985520243, .long 6906725, .long 6518117, .long 119182984441710, .long 32762566252455282, .long 1651466612, .long 495673374579, .long 491395114867, .long 495555538035, .long 6578553, .long 28530, .long 6385252, .long 7237492, .long 461414299502, .long 500085055865, .long 24948, .long 25209, .long 499984983411, .long 495874044019, .long 1685024357, .long 121450625394034]),
  (13, List.replicate 8 (.int 0)),
  (13, List.replicate 624 (.int 0)),
  (13, List.replicate 78 (.int 0)),
  (16, List.replicate 256 (.int 0)),
  (13, List.replicate 256 (.int 0)),
  (13, [.int 0, .int 0, .int 0, .int 0]),
  (13, List.replicate 45 (.int 0)),
  (16, List.replicate 45 (.int 0)),
  (13, List.replicate 710 (.int 0)),
  (15, List.replicate 48 (.long 0)),
  (16, [.int 0, .int 0])], 17, 3674)
set_option maxRecDepth 100000 in
theorem mc_c1 : ri_is (ri_sn (ri_st [] (ri_call [] ri_md 7) (ri_bud ri_md) md_153) 500 mc_1) mc_2 = true := by decide +kernel
def mc_3 : ri_F := (70000, [], [], [
  (12, [.int 0, .ref 1, .int 0, .int 0, .int 0, .int 0, .ref 2, .ref 3, .ref 4, .ref 5, .ref 6] ++ List.replicate 6 (.int 0) ++ [.long 0, .int 0, .int 0, .int 0, .ref 7, .int 0, .ref 8, .ref 9, .int 0, .ref 10, .ref 11] ++ List.replicate 8 (.int 0) ++ [.ref 12, .int 0, .ref 13, .int 0, .int 0, .int 0, .int 0, .int 0, .ref 14, .ref 15, .ref 16, .ref 17]),
  (14, List.replicate 940 (.int 0)),
  (13, [.int 4, .int 3, .int 20, .int 0, .int 0, .int 0, .int 0, .int 0, .int (-1)] ++ List.replicate 346 (.int 0)),
  (13, [.int 4, .int 3, .int 20, .int 0, .int 0, .int 0, .int 0, .int 0, .int (-1)] ++ List.replicate 87 (.int 0)),
  (13, List.replicate 135 (.int 0)),
  (15, List.replicate 48 (.long 0)),
  (15, [.long 426903366771, .long 495673374574, .long 461262647411, .long 121398985520243, .long 6906725, .long 6518117, .long 119182984441710, .long 32762566252455282, .long 1651466612, .long 495673374579, .long 491395114867, .long 495555538035, .long 6578553, .long 28530, .long 6385252, .long 7237492, .long 461414299502, .long 500085055865, .long 24948, .long 25209, .long 499984983411, .long 495874044019, .long 1685024357, .long 121450625394034]),
  (13, List.replicate 8 (.int 0)),
  (13, List.replicate 624 (.int 0)),
  (13, List.replicate 78 (.int 0)),
  (16, List.replicate 256 (.int 0)),
  (13, List.replicate 256 (.int 0)),
  (13, [.int 0, .int 0, .int 0, .int 0]),
  (13, List.replicate 45 (.int 0)),
  (16, List.replicate 45 (.int 0)),
  (13, List.replicate 710 (.int 0)),
  (15, List.replicate 48 (.long 0)),
  (16, [.int 0, .int 0])], 17, 3674)
set_option maxRecDepth 100000 in
theorem mc_c2 : ri_is (ri_sn (ri_st [] (ri_call [] ri_md 7) (ri_bud ri_md) md_153) 446 mc_2) mc_3 = true := by decide +kernel
def h_n0 : ri_H := [
  (12, [.int 0, .null, .int 0, .int 0, .int 0, .int 0, .null, .null, .null, .null, .null] ++ List.replicate 6 (.int 0) ++ [.long 0, .int 0, .int 0, .int 0, .null, .int 0, .null, .null, .int 0, .null, .null] ++ List.replicate 8 (.int 0) ++ [.null, .int 0, .null, .int 0, .int 0, .int 0, .int 0, .int 0, .null, .null, .null, .null])]
def h_n1 : ri_H := [
  (12, [.int 0, .ref 1, .int 0, .int 0, .int 0, .int 0, .ref 2, .ref 3, .ref 4, .ref 5, .ref 6] ++ List.replicate 6 (.int 0) ++ [.long 0, .int 0, .int 0, .int 0, .ref 7, .int 0, .ref 8, .ref 9, .int 0, .ref 10, .ref 11] ++ List.replicate 8 (.int 0) ++ [.ref 12, .int 0, .ref 13, .int 0, .int 0, .int 0, .int 0, .int 0, .ref 14, .ref 15, .ref 16, .ref 17]),
  (14, List.replicate 940 (.int 0)),
  (13, [.int 4, .int 3, .int 20, .int 0, .int 0, .int 0, .int 0, .int 0, .int (-1)] ++ List.replicate 346 (.int 0)),
  (13, [.int 4, .int 3, .int 20, .int 0, .int 0, .int 0, .int 0, .int 0, .int (-1)] ++ List.replicate 87 (.int 0)),
  (13, List.replicate 135 (.int 0)),
  (15, List.replicate 48 (.long 0)),
  (15, [.long 426903366771, .long 495673374574, .long 461262647411, .long 121398985520243, .long 6906725, .long 6518117, .long 119182984441710, .long 32762566252455282, .long 1651466612, .long 495673374579, .long 491395114867, .long 495555538035, .long 6578553, .long 28530, .long 6385252, .long 7237492, .long 461414299502, .long 500085055865, .long 24948, .long 25209, .long 499984983411, .long 495874044019, .long 1685024357, .long 121450625394034]),
  (13, List.replicate 8 (.int 0)),
  (13, List.replicate 624 (.int 0)),
  (13, List.replicate 78 (.int 0)),
  (16, List.replicate 256 (.int 0)),
  (13, List.replicate 256 (.int 0)),
  (13, [.int 0, .int 0, .int 0, .int 0]),
  (13, List.replicate 45 (.int 0)),
  (16, List.replicate 45 (.int 0)),
  (13, List.replicate 710 (.int 0)),
  (15, List.replicate 48 (.long 0)),
  (16, [.int 0, .int 0])]
set_option maxRecDepth 100000 in
theorem mn_met (l : Launch) (E : ri_V) (D : va_G) (cA : Nat → ClassId) : ri_Met l E D cA 8 md_153.1 [.ref 0] h_n0 (fun a b => a = none ∧ b = h_n1) := by
  have hdc : ∀ q ∈ ([] : ri_O), ri_hd q.1 (ri_ic E q.2.1) (ri_ic E q.2.2.1) = q.2.2.2 := fun _ h => absurd h List.not_mem_nil
  obtain ⟨n, hMk⟩ := mk_153
  refine ri_met_of hMk (by decide) (fun p e s m args below meth c X hrt hlk => ?_)
  have C : ri_Ca l E D cA ri_md (ri_call [] ri_md 7) 7 md_153.1 (ri_rm 8 md_153.1) := ⟨ri_mk_all, fun j q as h v h' hq hs => ri_run l E D cA hdc hq hs, Nat.le_refl _, Nat.le_refl _, by decide, by decide⟩
  have hf : ∀ k : ri_F, k = mc_3 → ri_Gd p l e (ri_rm 8 md_153.1) s m args below meth c (MQ below (ri_Qc E D cA (fun a b => a = none ∧ b = h_n1)) args s md_153.1.2.2.2.2.2.1 md_153.1.2.2.2.2.2.2 (ri_A E)) E D cA md_153.1.2.2.1 (fun a b => a = none ∧ b = h_n1) md_153.1.2.2.2.2.2.1 md_153.1.2.2.2.2.2.2 k := by
    rintro _ rfl
    exact Or.inl ⟨rfl, ⟨rfl, rfl⟩, by decide, by decide⟩
  have g3 := hf _ rfl
  have g2 := ri_gd_sn X C hdc ot_153 hrt hlk (ri_is_ok mc_c2) (by decide : mc_2.1 ≠ 70000) g3
  have g1 := ri_gd_sn X C hdc ot_153 hrt hlk (ri_is_ok mc_c1) (by decide : mc_1.1 ≠ 70000) g2
  have g0 := ri_gd_sn X C hdc ot_153 hrt hlk (ri_is_ok mc_c0) (by decide : mc_0.1 ≠ 70000) g1
  rcases g0 with ⟨h0, -⟩ | ⟨-, h0⟩
  · exact absurd h0 (by decide)
  · exact h0
def h_m0 : ri_H := h_l1 ++ h_n0.map (ri_shC 209)
def h_m1 : ri_H := h_l1 ++ h_n1.map (ri_shC 209)
theorem ml_met (l : Launch) (E : ri_V) (D : va_G) (cA : Nat → ClassId) : ri_Met l E D cA 8 md_153.1 [.ref 209] h_m0 (fun a b => a = none ∧ b = h_m1) := by
  refine (ri_shift (hc := h_l1) (n := 209) (by decide +kernel) (mn_met l (E.1 + 209, E.2) D cA)).mono ?_
  rintro v h' ⟨v', hm', ⟨rfl, rfl⟩, rfl, rfl⟩
  exact ⟨rfl, rfl⟩
