set_option maxRecDepth 100000 in
theorem ck_0 : la_cok 212 5 101 146 19 23 619 621 620 1282 1284 1283 = true := by decide +kernel
set_option maxRecDepth 100000 in
theorem pr_0_0 : ri_pr [] 101 146 [.float 1, .float 2, .float 3, .float 4, .float 5] = true := by decide +kernel
section LC0
variable {p : Program} {l : Launch} {e : Env} {s : State} {m : MethodId} {below : List Frame} {meth : Method} {c : Code} {E : ri_V} {D : va_G} {cA : Nat → ClassId} {b L : Nat} {xs : Nat → Int32}
theorem lc_0 (X : la_C p s m meth c E D cA b L xs) (hL : L = 6) (hend : ∀ (h : ri_H) (k z : Nat), k ≤ 600002 → z ≤ 7302232 → la_Ab p l e s m below meth c E D cA b (1266, lo_law, [], h, k, z)) : la_Ab p l e s m below meth c E D cA b (212, lo_law, [], h_fr, 228, 7820) := by
  have hc1 : ri_cv E (.float 1) = .int (xs 1) := by
    show Value.int (ri_sem E.2.2 1) = _
    rw [ri_sem_0 (by decide), X.2.2.2.2.2.1 1]
  have hc2 : ri_cv E (.float 2) = .int (xs 2) := by
    show Value.int (ri_sem E.2.2 2) = _
    rw [ri_sem_0 (by decide), X.2.2.2.2.2.1 2]
  have hc3 : ri_cv E (.float 3) = .int (xs 3) := by
    show Value.int (ri_sem E.2.2 3) = _
    rw [ri_sem_0 (by decide), X.2.2.2.2.2.1 3]
  have hc4 : ri_cv E (.float 4) = .int (xs 4) := by
    show Value.int (ri_sem E.2.2 4) = _
    rw [ri_sem_0 (by decide), X.2.2.2.2.2.1 4]
  have hc5 : ri_cv E (.float 5) = .int (xs 5) := by
    show Value.int (ri_sem E.2.2 5) = _
    rw [ri_sem_0 (by decide), X.2.2.2.2.2.1 5]
  exact la_case X hL hend ck_0 (dc := []) (fun _ h => absurd h List.not_mem_nil) (as := [.float 1, .float 2, .float 3, .float 4, .float 5]) rfl (by decide) (fun j v h => by
      match j, h with
      | 0, h => cases h; exact hc1
      | 1, h => cases h; exact hc2
      | 2, h => cases h; exact hc3
      | 3, h => cases h; exact hc4
      | 4, h => cases h; exact hc5
      | j + 5, h => cases h) pr_0_0
end LC0
set_option maxRecDepth 100000 in
theorem ck_1 : la_cok 285 1 103 148 24 28 627 629 628 1291 1293 1292 = true := by decide +kernel
set_option maxRecDepth 100000 in
theorem pr_1_0 : ri_pr [(2, .float 1, .int 0, true)] 103 148 [.float 1] = true := by decide +kernel
set_option maxRecDepth 100000 in
theorem pr_1_1 : ri_pr [] 103 148 [.int 0] = true := by decide +kernel
set_option maxRecDepth 100000 in
theorem pr_1_2 : ri_pr [(2, .float 1, .int 0, false), (5, .float 1, .int 0, false)] 103 148 [.float 1] = true := by decide +kernel
section LC1
variable {p : Program} {l : Launch} {e : Env} {s : State} {m : MethodId} {below : List Frame} {meth : Method} {c : Code} {E : ri_V} {D : va_G} {cA : Nat → ClassId} {b L : Nat} {xs : Nat → Int32}
theorem lc_1 (X : la_C p s m meth c E D cA b L xs) (hL : L = 6) (hend : ∀ (h : ri_H) (k z : Nat), k ≤ 600002 → z ≤ 7302232 → la_Ab p l e s m below meth c E D cA b (1266, lo_law, [], h, k, z)) : la_Ab p l e s m below meth c E D cA b (285, lo_law, [], h_fr, 228, 7820) := by
  have hc1 : ri_cv E (.float 1) = .int (xs 1) := by
    show Value.int (ri_sem E.2.2 1) = _
    rw [ri_sem_0 (by decide), X.2.2.2.2.2.1 1]
  have hv1 : (ri_ic E (.float 1)).toInt = (xs 1).toInt := by unfold ri_ic; rw [hc1]
  by_cases q0 : (xs 1).toInt ≤ (-1)
  · exact la_case X hL hend ck_1 (dc := [(2, .float 1, .int 0, true)]) (List.forall_mem_cons.mpr ⟨la_q 2 hv1 (show (ri_ic E (.int 0)).toInt = 0 from (show (0 : Int32).toInt = 0 from by decide)) (decide_eq_true (by omega)), fun _ h => absurd h List.not_mem_nil⟩) (as := [.float 1]) rfl (by decide) (fun j v h => by
        match j, h with
        | 0, h => cases h; exact hc1
        | j + 1, h => cases h) pr_1_0
  · by_cases q1 : (xs 1).toInt ≤ 0
    · exact la_case X hL hend ck_1 (dc := []) (fun _ h => absurd h List.not_mem_nil) (as := [.int 0]) rfl (by decide) (fun j v h => by
          match j, h with
          | 0, h => cases h; exact congrArg Value.int (Int32.toInt_inj.mp (show (0 : Int32).toInt = (xs 1).toInt from by rw [show (0 : Int32).toInt = 0 from by decide]; omega))
          | j + 1, h => cases h) pr_1_1
    · exact la_case X hL hend ck_1 (dc := [(2, .float 1, .int 0, false), (5, .float 1, .int 0, false)]) (List.forall_mem_cons.mpr ⟨la_q 2 hv1 (show (ri_ic E (.int 0)).toInt = 0 from (show (0 : Int32).toInt = 0 from by decide)) (decide_eq_false (by omega)), List.forall_mem_cons.mpr ⟨la_q 5 hv1 (show (ri_ic E (.int 0)).toInt = 0 from (show (0 : Int32).toInt = 0 from by decide)) (decide_eq_false (by omega)), fun _ h => absurd h List.not_mem_nil⟩⟩) (as := [.float 1]) rfl (by decide) (fun j v h => by
          match j, h with
          | 0, h => cases h; exact hc1
          | j + 1, h => cases h) pr_1_2
end LC1
set_option maxRecDepth 100000 in
theorem ck_3 : la_cok 323 0 106 174 34 37 759 761 760 1554 1556 1555 = true := by decide +kernel
set_option maxRecDepth 100000 in
theorem pr_3_0 : ri_pr [] 106 174 [] = true := by decide +kernel
section LC3
variable {p : Program} {l : Launch} {e : Env} {s : State} {m : MethodId} {below : List Frame} {meth : Method} {c : Code} {E : ri_V} {D : va_G} {cA : Nat → ClassId} {b L : Nat} {xs : Nat → Int32}
theorem lc_3 (X : la_C p s m meth c E D cA b L xs) (hL : L = 6) (hend : ∀ (h : ri_H) (k z : Nat), k ≤ 600002 → z ≤ 7302232 → la_Ab p l e s m below meth c E D cA b (1266, lo_law, [], h, k, z)) : la_Ab p l e s m below meth c E D cA b (323, lo_law, [], h_fr, 228, 7820) := by
  exact la_case X hL hend ck_3 (dc := []) (fun _ h => absurd h List.not_mem_nil) (as := []) rfl (by decide) (fun j v h => by cases h) pr_3_0
end LC3
