set_option maxRecDepth 100000 in
theorem ck_12 : la_cok 627 1 115 209 76 79 858 860 859 1673 1675 1674 = true := by decide +kernel
set_option maxRecDepth 100000 in
theorem pr_12_0 : ri_pr [(2, .float 1, .int 1, true)] 115 209 [.float 1] = true := by decide +kernel
set_option maxRecDepth 100000 in
theorem pr_12_1 : ri_pr [(2, .float 1, .int 1, false), (5, .float 1, .int 60, false), (4, .float 1, .int 60, true)] 115 209 [.float 1] = true := by decide +kernel
section LC12
variable {p : Program} {l : Launch} {e : Env} {s : State} {m : MethodId} {below : List Frame} {meth : Method} {c : Code} {E : ri_V} {D : va_G} {cA : Nat → ClassId} {b L : Nat} {xs : Nat → Int32}
theorem lc_12 (X : la_C p s m meth c E D cA b L xs) (hL : L = 6) (hend : ∀ (h : ri_H) (k z : Nat), k ≤ 600002 → z ≤ 7302232 → la_Ab p l e s m below meth c E D cA b (1266, lo_law, [], h, k, z)) : la_Ab p l e s m below meth c E D cA b (627, lo_law, [], h_fr, 228, 7820) := by
  have hc1 : ri_cv E (.float 1) = .int (xs 1) := by
    show Value.int (ri_sem E.2.2 1) = _
    rw [ri_sem_0 (by decide), X.2.2.2.2.2.1 1]
  have hv1 : (ri_ic E (.float 1)).toInt = (xs 1).toInt := by unfold ri_ic; rw [hc1]
  by_cases q0 : (xs 1).toInt ≤ 0
  · exact la_case X hL hend ck_12 (dc := [(2, .float 1, .int 1, true)]) (List.forall_mem_cons.mpr ⟨la_q 2 hv1 (show (ri_ic E (.int 1)).toInt = 1 from (show (1 : Int32).toInt = 1 from by decide)) (decide_eq_true (by omega)), fun _ h => absurd h List.not_mem_nil⟩) (as := [.float 1]) rfl (by decide) (fun j v h => by
      match j, h with
      | 0, h => cases h; exact hc1
      | j + 1, h => cases h) pr_12_0
  by_cases q1 : 61 ≤ (xs 1).toInt
  · exact la_case X hL hend ck_12 (dc := [(2, .float 1, .int 1, false), (5, .float 1, .int 60, false), (4, .float 1, .int 60, true)]) (List.forall_mem_cons.mpr ⟨la_q 2 hv1 (show (ri_ic E (.int 1)).toInt = 1 from (show (1 : Int32).toInt = 1 from by decide)) (decide_eq_false (by omega)), List.forall_mem_cons.mpr ⟨la_q 5 hv1 (show (ri_ic E (.int 60)).toInt = 60 from (show (60 : Int32).toInt = 60 from by decide)) (decide_eq_false (by omega)), List.forall_mem_cons.mpr ⟨la_q 4 hv1 (show (ri_ic E (.int 60)).toInt = 60 from (show (60 : Int32).toInt = 60 from by decide)) (decide_eq_true (by omega)), fun _ h => absurd h List.not_mem_nil⟩⟩⟩) (as := [.float 1]) rfl (by decide) (fun j v h => by
      match j, h with
      | 0, h => cases h; exact hc1
      | j + 1, h => cases h) pr_12_1
  obtain ⟨n, hn⟩ : ∃ n : Nat, (xs 1).toInt = (n : Int) := ⟨(xs 1).toInt.toNat, by omega⟩
  have hn0 : 1 ≤ n := by omega
  have hn6 : n ≤ 60 := by omega
  have hE : (ri_ic E (.float 1)).toInt = (n : Int) := by rw [hv1, hn]
  have hE' : (ri_ic (E.1 + 209, E.2) (.float 1)).toInt = (n : Int) := by rw [ri_ic_sh]; exact hE
  have m1 := dy_cmet l E D cA hn0 hn6 hE
  have m2 : ri_Met l E D cA 9 md_209.1 [.ref 209, .float 1] (h_d n) (fun a b => a = some (.int (nI n)) ∧ b = hcd n ++ (hm_d n).map (ri_shC 209)) := by
    have h0 := ri_shift (hc := hcd n) (hcd_len n) (dy_mmet l (E.1 + 209, E.2) D cA hn0 hn6 hE')
    refine ri_Met.mono h0 ?_
    rintro a b ⟨v', hm', ⟨rfl, rfl⟩, rfl, rfl⟩
    exact ⟨rfl, rfl⟩
  have ck := ck_12
  unfold la_cok at ck
  simp only [Bool.and_eq_true, decide_eq_true_eq] at ck
  obtain ⟨o1, o2, o3, o4, o5, o6, o7, o8, o9, o10⟩ := ck
  have hv : ∀ (j : Nat) (v : Value), ([.float 1] : List Value)[j]? = some v → ri_cv E v = .int (xs (1 + j)) := (fun j v h => by
      match j, h with
      | 0, h => cases h; exact hc1
      | j + 1, h => cases h)
  obtain ⟨q, g1, g2⟩ := hm_209 (hcd n) (hcd_len n)
  refine ri_r_ald X.1 (i := 1) (v := .ref 0) rfl rfl (n := 1) (Or.inl ⟨1, rfl, rfl, o1⟩) ?_
  refine la_args X (by omega) [.float 1] 628 1 _ (by rw [hL]; decide) o2 hv ?_
  refine la_call X (j := 115) (q := md_115) (b0 := 0) (as := [.float 1]) (r := []) rfl m1 rfl rfl o4 o3 ⟨rfl, rfl⟩ (by decide) (by decide) (by decide) ?_
  refine ri_r_ald X.1 (i := 2) (v := .ref 209) rfl rfl (n := 1) (Or.inl ⟨2, rfl, rfl, o5⟩) ?_
  refine la_args X (by omega) [.float 1] 638 1 _ (by rw [hL]; decide) o6 hv ?_
  refine la_call X (j := 209) (q := md_209) (b0 := 209) (as := [.float 1]) (r := [.float 1]) rfl m2 g1 g2 o8 o7 ⟨rfl, rfl⟩ (by decide) (by decide) (by decide) ?_
  refine ri_r_icmp X.1 (x := .float 1) (y := .int (nI n)) (b := true) rfl rfl (show ri_hd (ri_cn .eq) (ri_ic E (.float 1)) (ri_ic E (.int (nI n))) = true from la_q 0 hE (dy_i E hn6) (decide_eq_true rfl)) o9 (tgt := 1266) (by decide) ?_
  exact hend _ 228 7820 (by decide) (by decide)
end LC12
