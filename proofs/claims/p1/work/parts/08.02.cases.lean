set_option maxRecDepth 100000 in
theorem ck_5 : la_cok 404 2 108 187 47 50 763 765 764 1574 1576 1575 = true := by decide +kernel
set_option maxRecDepth 100000 in
theorem pr_5_0 : ri_pr [(2, .float 1, .int 0, true)] 108 187 [.float 1, .float 2] = true := by decide +kernel
set_option maxRecDepth 100000 in
theorem pr_5_1 : ri_pr [(2, .float 1, .int 0, false), (3, .float 1, .int 0, true), (4, .float 1, .int (-1), true)] 108 187 [.float 1, .float 2] = true := by decide +kernel
section LC5
variable {p : Program} {l : Launch} {e : Env} {s : State} {m : MethodId} {below : List Frame} {meth : Method} {c : Code} {E : ri_V} {D : va_G} {cA : Nat → ClassId} {b L : Nat} {xs : Nat → Int32}
theorem lc_5 (X : la_C p s m meth c E D cA b L xs) (hL : L = 6) (hend : ∀ (h : ri_H) (k z : Nat), k ≤ 600002 → z ≤ 7302232 → la_Ab p l e s m below meth c E D cA b (1266, lo_law, [], h, k, z)) : la_Ab p l e s m below meth c E D cA b (404, lo_law, [], h_fr, 228, 7820) := by
  have hc1 : ri_cv E (.float 1) = .int (xs 1) := by
    show Value.int (ri_sem E.2.2 1) = _
    rw [ri_sem_0 (by decide), X.2.2.2.2.2.1 1]
  have hc2 : ri_cv E (.float 2) = .int (xs 2) := by
    show Value.int (ri_sem E.2.2 2) = _
    rw [ri_sem_0 (by decide), X.2.2.2.2.2.1 2]
  have hv1 : (ri_ic E (.float 1)).toInt = (xs 1).toInt := by unfold ri_ic; rw [hc1]
  by_cases q0 : (xs 1).toInt ≤ (-1)
  · exact la_case X hL hend ck_5 (dc := [(2, .float 1, .int 0, true)]) (List.forall_mem_cons.mpr ⟨la_q 2 hv1 (show (ri_ic E (.int 0)).toInt = 0 from (show (0 : Int32).toInt = 0 from by decide)) (decide_eq_true (by omega)), fun _ h => absurd h List.not_mem_nil⟩) (as := [.float 1, .float 2]) rfl (by decide) (fun j v h => by
        match j, h with
        | 0, h => cases h; exact hc1
        | 1, h => cases h; exact hc2
        | j + 2, h => cases h) pr_5_0
  · exact la_case X hL hend ck_5 (dc := [(2, .float 1, .int 0, false), (3, .float 1, .int 0, true), (4, .float 1, .int (-1), true)]) (List.forall_mem_cons.mpr ⟨la_q 2 hv1 (show (ri_ic E (.int 0)).toInt = 0 from (show (0 : Int32).toInt = 0 from by decide)) (decide_eq_false (by omega)), List.forall_mem_cons.mpr ⟨la_q 3 hv1 (show (ri_ic E (.int 0)).toInt = 0 from (show (0 : Int32).toInt = 0 from by decide)) (decide_eq_true (by omega)), List.forall_mem_cons.mpr ⟨la_q 4 hv1 (show (ri_ic E (.int (-1))).toInt = (-1) from (show ((-1) : Int32).toInt = (-1) from by decide)) (decide_eq_true (by omega)), fun _ h => absurd h List.not_mem_nil⟩⟩⟩) (as := [.float 1, .float 2]) rfl (by decide) (fun j v h => by
        match j, h with
        | 0, h => cases h; exact hc1
        | 1, h => cases h; exact hc2
        | j + 2, h => cases h) pr_5_1
end LC5
set_option maxRecDepth 100000 in
theorem ck_6 : la_cok 441 2 109 188 51 54 771 773 772 1578 1580 1579 = true := by decide +kernel
set_option maxRecDepth 100000 in
theorem pr_6_0 : ri_pr [(2, .float 1, .int 0, true)] 109 188 [.float 1, .float 2] = true := by decide +kernel
set_option maxRecDepth 100000 in
theorem pr_6_1 : ri_pr [(2, .float 1, .int 0, false), (3, .float 1, .int 0, true), (4, .float 1, .int (-1), true)] 109 188 [.float 1, .float 2] = true := by decide +kernel
section LC6
variable {p : Program} {l : Launch} {e : Env} {s : State} {m : MethodId} {below : List Frame} {meth : Method} {c : Code} {E : ri_V} {D : va_G} {cA : Nat → ClassId} {b L : Nat} {xs : Nat → Int32}
theorem lc_6 (X : la_C p s m meth c E D cA b L xs) (hL : L = 6) (hend : ∀ (h : ri_H) (k z : Nat), k ≤ 600002 → z ≤ 7302232 → la_Ab p l e s m below meth c E D cA b (1266, lo_law, [], h, k, z)) : la_Ab p l e s m below meth c E D cA b (441, lo_law, [], h_fr, 228, 7820) := by
  have hc1 : ri_cv E (.float 1) = .int (xs 1) := by
    show Value.int (ri_sem E.2.2 1) = _
    rw [ri_sem_0 (by decide), X.2.2.2.2.2.1 1]
  have hc2 : ri_cv E (.float 2) = .int (xs 2) := by
    show Value.int (ri_sem E.2.2 2) = _
    rw [ri_sem_0 (by decide), X.2.2.2.2.2.1 2]
  have hv1 : (ri_ic E (.float 1)).toInt = (xs 1).toInt := by unfold ri_ic; rw [hc1]
  by_cases q0 : (xs 1).toInt ≤ (-1)
  · exact la_case X hL hend ck_6 (dc := [(2, .float 1, .int 0, true)]) (List.forall_mem_cons.mpr ⟨la_q 2 hv1 (show (ri_ic E (.int 0)).toInt = 0 from (show (0 : Int32).toInt = 0 from by decide)) (decide_eq_true (by omega)), fun _ h => absurd h List.not_mem_nil⟩) (as := [.float 1, .float 2]) rfl (by decide) (fun j v h => by
        match j, h with
        | 0, h => cases h; exact hc1
        | 1, h => cases h; exact hc2
        | j + 2, h => cases h) pr_6_0
  · exact la_case X hL hend ck_6 (dc := [(2, .float 1, .int 0, false), (3, .float 1, .int 0, true), (4, .float 1, .int (-1), true)]) (List.forall_mem_cons.mpr ⟨la_q 2 hv1 (show (ri_ic E (.int 0)).toInt = 0 from (show (0 : Int32).toInt = 0 from by decide)) (decide_eq_false (by omega)), List.forall_mem_cons.mpr ⟨la_q 3 hv1 (show (ri_ic E (.int 0)).toInt = 0 from (show (0 : Int32).toInt = 0 from by decide)) (decide_eq_true (by omega)), List.forall_mem_cons.mpr ⟨la_q 4 hv1 (show (ri_ic E (.int (-1))).toInt = (-1) from (show ((-1) : Int32).toInt = (-1) from by decide)) (decide_eq_true (by omega)), fun _ h => absurd h List.not_mem_nil⟩⟩⟩) (as := [.float 1, .float 2]) rfl (by decide) (fun j v h => by
        match j, h with
        | 0, h => cases h; exact hc1
        | 1, h => cases h; exact hc2
        | j + 2, h => cases h) pr_6_1
end LC6
set_option maxRecDepth 100000 in
theorem ck_7 : la_cok 478 1 110 189 55 59 775 777 776 1586 1588 1587 = true := by decide +kernel
set_option maxRecDepth 100000 in
theorem pr_7_0 : ri_pr [(2, .float 1, .int 0, true)] 110 189 [.float 1] = true := by decide +kernel
set_option maxRecDepth 100000 in
theorem pr_7_1 : ri_pr [] 110 189 [.int 0] = true := by decide +kernel
set_option maxRecDepth 100000 in
theorem pr_7_2 : ri_pr [] 110 189 [.int 1] = true := by decide +kernel
set_option maxRecDepth 100000 in
theorem pr_7_3 : ri_pr [] 110 189 [.int 2] = true := by decide +kernel
set_option maxRecDepth 100000 in
theorem pr_7_4 : ri_pr [] 110 189 [.int 3] = true := by decide +kernel
set_option maxRecDepth 100000 in
theorem pr_7_5 : ri_pr [(2, .float 1, .int 0, false), (3, .float 1, .int 4, true), (4, .float 1, .int 3, true)] 110 189 [.float 1] = true := by decide +kernel
section LC7
variable {p : Program} {l : Launch} {e : Env} {s : State} {m : MethodId} {below : List Frame} {meth : Method} {c : Code} {E : ri_V} {D : va_G} {cA : Nat → ClassId} {b L : Nat} {xs : Nat → Int32}
theorem lc_7 (X : la_C p s m meth c E D cA b L xs) (hL : L = 6) (hend : ∀ (h : ri_H) (k z : Nat), k ≤ 600002 → z ≤ 7302232 → la_Ab p l e s m below meth c E D cA b (1266, lo_law, [], h, k, z)) : la_Ab p l e s m below meth c E D cA b (478, lo_law, [], h_fr, 228, 7820) := by
  have hc1 : ri_cv E (.float 1) = .int (xs 1) := by
    show Value.int (ri_sem E.2.2 1) = _
    rw [ri_sem_0 (by decide), X.2.2.2.2.2.1 1]
  have hv1 : (ri_ic E (.float 1)).toInt = (xs 1).toInt := by unfold ri_ic; rw [hc1]
  by_cases q0 : (xs 1).toInt ≤ (-1)
  · exact la_case X hL hend ck_7 (dc := [(2, .float 1, .int 0, true)]) (List.forall_mem_cons.mpr ⟨la_q 2 hv1 (show (ri_ic E (.int 0)).toInt = 0 from (show (0 : Int32).toInt = 0 from by decide)) (decide_eq_true (by omega)), fun _ h => absurd h List.not_mem_nil⟩) (as := [.float 1]) rfl (by decide) (fun j v h => by
        match j, h with
        | 0, h => cases h; exact hc1
        | j + 1, h => cases h) pr_7_0
  · by_cases q1 : (xs 1).toInt ≤ 0
    · exact la_case X hL hend ck_7 (dc := []) (fun _ h => absurd h List.not_mem_nil) (as := [.int 0]) rfl (by decide) (fun j v h => by
          match j, h with
          | 0, h => cases h; exact congrArg Value.int (Int32.toInt_inj.mp (show (0 : Int32).toInt = (xs 1).toInt from by rw [show (0 : Int32).toInt = 0 from by decide]; omega))
          | j + 1, h => cases h) pr_7_1
    · by_cases q2 : (xs 1).toInt ≤ 1
      · exact la_case X hL hend ck_7 (dc := []) (fun _ h => absurd h List.not_mem_nil) (as := [.int 1]) rfl (by decide) (fun j v h => by
            match j, h with
            | 0, h => cases h; exact congrArg Value.int (Int32.toInt_inj.mp (show (1 : Int32).toInt = (xs 1).toInt from by rw [show (1 : Int32).toInt = 1 from by decide]; omega))
            | j + 1, h => cases h) pr_7_2
      · by_cases q3 : (xs 1).toInt ≤ 2
        · exact la_case X hL hend ck_7 (dc := []) (fun _ h => absurd h List.not_mem_nil) (as := [.int 2]) rfl (by decide) (fun j v h => by
              match j, h with
              | 0, h => cases h; exact congrArg Value.int (Int32.toInt_inj.mp (show (2 : Int32).toInt = (xs 1).toInt from by rw [show (2 : Int32).toInt = 2 from by decide]; omega))
              | j + 1, h => cases h) pr_7_3
        · by_cases q4 : (xs 1).toInt ≤ 3
          · exact la_case X hL hend ck_7 (dc := []) (fun _ h => absurd h List.not_mem_nil) (as := [.int 3]) rfl (by decide) (fun j v h => by
                match j, h with
                | 0, h => cases h; exact congrArg Value.int (Int32.toInt_inj.mp (show (3 : Int32).toInt = (xs 1).toInt from by rw [show (3 : Int32).toInt = 3 from by decide]; omega))
                | j + 1, h => cases h) pr_7_4
          · exact la_case X hL hend ck_7 (dc := [(2, .float 1, .int 0, false), (3, .float 1, .int 4, true), (4, .float 1, .int 3, true)]) (List.forall_mem_cons.mpr ⟨la_q 2 hv1 (show (ri_ic E (.int 0)).toInt = 0 from (show (0 : Int32).toInt = 0 from by decide)) (decide_eq_false (by omega)), List.forall_mem_cons.mpr ⟨la_q 3 hv1 (show (ri_ic E (.int 4)).toInt = 4 from (show (4 : Int32).toInt = 4 from by decide)) (decide_eq_true (by omega)), List.forall_mem_cons.mpr ⟨la_q 4 hv1 (show (ri_ic E (.int 3)).toInt = 3 from (show (3 : Int32).toInt = 3 from by decide)) (decide_eq_true (by omega)), fun _ h => absurd h List.not_mem_nil⟩⟩⟩) (as := [.float 1]) rfl (by decide) (fun j v h => by
                match j, h with
                | 0, h => cases h; exact hc1
                | j + 1, h => cases h) pr_7_5
end LC7
set_option maxRecDepth 100000 in
theorem ck_8 : la_cok 503 1 111 190 60 63 787 789 788 1594 1596 1595 = true := by decide +kernel
set_option maxRecDepth 100000 in
theorem pr_8_0 : ri_pr [(6, .float 1, .int 7, true)] 111 190 [.float 1] = true := by decide +kernel
set_option maxRecDepth 100000 in
theorem pr_8_1 : ri_pr [] 111 190 [.int 0] = true := by decide +kernel
set_option maxRecDepth 100000 in
theorem pr_8_2 : ri_pr [] 111 190 [.int 1] = true := by decide +kernel
set_option maxRecDepth 100000 in
theorem pr_8_3 : ri_pr [] 111 190 [.int 2] = true := by decide +kernel
set_option maxRecDepth 100000 in
theorem pr_8_4 : ri_pr [] 111 190 [.int 3] = true := by decide +kernel
set_option maxRecDepth 100000 in
theorem pr_8_5 : ri_pr [] 111 190 [.int 4] = true := by decide +kernel
set_option maxRecDepth 100000 in
theorem pr_8_6 : ri_pr [] 111 190 [.int 5] = true := by decide +kernel
set_option maxRecDepth 100000 in
theorem pr_8_7 : ri_pr [] 111 190 [.int 6] = true := by decide +kernel
set_option maxRecDepth 100000 in
theorem pr_8_8 : ri_pr [] 111 190 [.int 7] = true := by decide +kernel
set_option maxRecDepth 100000 in
theorem pr_8_9 : ri_pr [(6, .float 1, .int 7, true)] 111 190 [.float 1] = true := by decide +kernel
section LC8
variable {p : Program} {l : Launch} {e : Env} {s : State} {m : MethodId} {below : List Frame} {meth : Method} {c : Code} {E : ri_V} {D : va_G} {cA : Nat → ClassId} {b L : Nat} {xs : Nat → Int32}
theorem lc_8 (X : la_C p s m meth c E D cA b L xs) (hL : L = 6) (hend : ∀ (h : ri_H) (k z : Nat), k ≤ 600002 → z ≤ 7302232 → la_Ab p l e s m below meth c E D cA b (1266, lo_law, [], h, k, z)) : la_Ab p l e s m below meth c E D cA b (503, lo_law, [], h_fr, 228, 7820) := by
  have hc1 : ri_cv E (.float 1) = .int (xs 1) := by
    show Value.int (ri_sem E.2.2 1) = _
    rw [ri_sem_0 (by decide), X.2.2.2.2.2.1 1]
  have hv1 : (ri_ic E (.float 1)).toInt = (xs 1).toInt := by unfold ri_ic; rw [hc1]
  by_cases q0 : (xs 1).toInt ≤ (-1)
  · exact la_case X hL hend ck_8 (dc := [(6, .float 1, .int 7, true)]) (List.forall_mem_cons.mpr ⟨la_q 6 hv1 (show (ri_ic E (.int 7)).toInt = 7 from (show (7 : Int32).toInt = 7 from by decide)) (decide_eq_true (by omega)), fun _ h => absurd h List.not_mem_nil⟩) (as := [.float 1]) rfl (by decide) (fun j v h => by
        match j, h with
        | 0, h => cases h; exact hc1
        | j + 1, h => cases h) pr_8_0
  · by_cases q1 : (xs 1).toInt ≤ 0
    · exact la_case X hL hend ck_8 (dc := []) (fun _ h => absurd h List.not_mem_nil) (as := [.int 0]) rfl (by decide) (fun j v h => by
          match j, h with
          | 0, h => cases h; exact congrArg Value.int (Int32.toInt_inj.mp (show (0 : Int32).toInt = (xs 1).toInt from by rw [show (0 : Int32).toInt = 0 from by decide]; omega))
          | j + 1, h => cases h) pr_8_1
    · by_cases q2 : (xs 1).toInt ≤ 1
      · exact la_case X hL hend ck_8 (dc := []) (fun _ h => absurd h List.not_mem_nil) (as := [.int 1]) rfl (by decide) (fun j v h => by
            match j, h with
            | 0, h => cases h; exact congrArg Value.int (Int32.toInt_inj.mp (show (1 : Int32).toInt = (xs 1).toInt from by rw [show (1 : Int32).toInt = 1 from by decide]; omega))
            | j + 1, h => cases h) pr_8_2
      · by_cases q3 : (xs 1).toInt ≤ 2
        · exact la_case X hL hend ck_8 (dc := []) (fun _ h => absurd h List.not_mem_nil) (as := [.int 2]) rfl (by decide) (fun j v h => by
              match j, h with
              | 0, h => cases h; exact congrArg Value.int (Int32.toInt_inj.mp (show (2 : Int32).toInt = (xs 1).toInt from by rw [show (2 : Int32).toInt = 2 from by decide]; omega))
              | j + 1, h => cases h) pr_8_3
        · by_cases q4 : (xs 1).toInt ≤ 3
          · exact la_case X hL hend ck_8 (dc := []) (fun _ h => absurd h List.not_mem_nil) (as := [.int 3]) rfl (by decide) (fun j v h => by
                match j, h with
                | 0, h => cases h; exact congrArg Value.int (Int32.toInt_inj.mp (show (3 : Int32).toInt = (xs 1).toInt from by rw [show (3 : Int32).toInt = 3 from by decide]; omega))
                | j + 1, h => cases h) pr_8_4
          · by_cases q5 : (xs 1).toInt ≤ 4
            · exact la_case X hL hend ck_8 (dc := []) (fun _ h => absurd h List.not_mem_nil) (as := [.int 4]) rfl (by decide) (fun j v h => by
                  match j, h with
                  | 0, h => cases h; exact congrArg Value.int (Int32.toInt_inj.mp (show (4 : Int32).toInt = (xs 1).toInt from by rw [show (4 : Int32).toInt = 4 from by decide]; omega))
                  | j + 1, h => cases h) pr_8_5
            · by_cases q6 : (xs 1).toInt ≤ 5
              · exact la_case X hL hend ck_8 (dc := []) (fun _ h => absurd h List.not_mem_nil) (as := [.int 5]) rfl (by decide) (fun j v h => by
                    match j, h with
                    | 0, h => cases h; exact congrArg Value.int (Int32.toInt_inj.mp (show (5 : Int32).toInt = (xs 1).toInt from by rw [show (5 : Int32).toInt = 5 from by decide]; omega))
                    | j + 1, h => cases h) pr_8_6
              · by_cases q7 : (xs 1).toInt ≤ 6
                · exact la_case X hL hend ck_8 (dc := []) (fun _ h => absurd h List.not_mem_nil) (as := [.int 6]) rfl (by decide) (fun j v h => by
                      match j, h with
                      | 0, h => cases h; exact congrArg Value.int (Int32.toInt_inj.mp (show (6 : Int32).toInt = (xs 1).toInt from by rw [show (6 : Int32).toInt = 6 from by decide]; omega))
                      | j + 1, h => cases h) pr_8_7
                · by_cases q8 : (xs 1).toInt ≤ 7
                  · exact la_case X hL hend ck_8 (dc := []) (fun _ h => absurd h List.not_mem_nil) (as := [.int 7]) rfl (by decide) (fun j v h => by
                        match j, h with
                        | 0, h => cases h; exact congrArg Value.int (Int32.toInt_inj.mp (show (7 : Int32).toInt = (xs 1).toInt from by rw [show (7 : Int32).toInt = 7 from by decide]; omega))
                        | j + 1, h => cases h) pr_8_8
                  · exact la_case X hL hend ck_8 (dc := [(6, .float 1, .int 7, true)]) (List.forall_mem_cons.mpr ⟨la_q 6 hv1 (show (ri_ic E (.int 7)).toInt = 7 from (show (7 : Int32).toInt = 7 from by decide)) (decide_eq_true (by omega)), fun _ h => absurd h List.not_mem_nil⟩) (as := [.float 1]) rfl (by decide) (fun j v h => by
                        match j, h with
                        | 0, h => cases h; exact hc1
                        | j + 1, h => cases h) pr_8_9
end LC8
set_option maxRecDepth 100000 in
theorem ck_9 : la_cok 528 2 112 206 64 67 799 801 800 1614 1616 1615 = true := by decide +kernel
set_option maxRecDepth 100000 in
theorem pr_9_0 : ri_pr [(2, .float 1, .int 0, true)] 112 206 [.float 1, .float 2] = true := by decide +kernel
set_option maxRecDepth 100000 in
theorem pr_9_1 : ri_pr [(2, .float 1, .int 0, false), (3, .float 1, .int 0, true), (4, .float 1, .int (-1), true)] 112 206 [.float 1, .float 2] = true := by decide +kernel
section LC9
variable {p : Program} {l : Launch} {e : Env} {s : State} {m : MethodId} {below : List Frame} {meth : Method} {c : Code} {E : ri_V} {D : va_G} {cA : Nat → ClassId} {b L : Nat} {xs : Nat → Int32}
theorem lc_9 (X : la_C p s m meth c E D cA b L xs) (hL : L = 6) (hend : ∀ (h : ri_H) (k z : Nat), k ≤ 600002 → z ≤ 7302232 → la_Ab p l e s m below meth c E D cA b (1266, lo_law, [], h, k, z)) : la_Ab p l e s m below meth c E D cA b (528, lo_law, [], h_fr, 228, 7820) := by
  have hc1 : ri_cv E (.float 1) = .int (xs 1) := by
    show Value.int (ri_sem E.2.2 1) = _
    rw [ri_sem_0 (by decide), X.2.2.2.2.2.1 1]
  have hc2 : ri_cv E (.float 2) = .int (xs 2) := by
    show Value.int (ri_sem E.2.2 2) = _
    rw [ri_sem_0 (by decide), X.2.2.2.2.2.1 2]
  have hv1 : (ri_ic E (.float 1)).toInt = (xs 1).toInt := by unfold ri_ic; rw [hc1]
  by_cases q0 : (xs 1).toInt ≤ (-1)
  · exact la_case X hL hend ck_9 (dc := [(2, .float 1, .int 0, true)]) (List.forall_mem_cons.mpr ⟨la_q 2 hv1 (show (ri_ic E (.int 0)).toInt = 0 from (show (0 : Int32).toInt = 0 from by decide)) (decide_eq_true (by omega)), fun _ h => absurd h List.not_mem_nil⟩) (as := [.float 1, .float 2]) rfl (by decide) (fun j v h => by
        match j, h with
        | 0, h => cases h; exact hc1
        | 1, h => cases h; exact hc2
        | j + 2, h => cases h) pr_9_0
  · exact la_case X hL hend ck_9 (dc := [(2, .float 1, .int 0, false), (3, .float 1, .int 0, true), (4, .float 1, .int (-1), true)]) (List.forall_mem_cons.mpr ⟨la_q 2 hv1 (show (ri_ic E (.int 0)).toInt = 0 from (show (0 : Int32).toInt = 0 from by decide)) (decide_eq_false (by omega)), List.forall_mem_cons.mpr ⟨la_q 3 hv1 (show (ri_ic E (.int 0)).toInt = 0 from (show (0 : Int32).toInt = 0 from by decide)) (decide_eq_true (by omega)), List.forall_mem_cons.mpr ⟨la_q 4 hv1 (show (ri_ic E (.int (-1))).toInt = (-1) from (show ((-1) : Int32).toInt = (-1) from by decide)) (decide_eq_true (by omega)), fun _ h => absurd h List.not_mem_nil⟩⟩⟩) (as := [.float 1, .float 2]) rfl (by decide) (fun j v h => by
        match j, h with
        | 0, h => cases h; exact hc1
        | 1, h => cases h; exact hc2
        | j + 2, h => cases h) pr_9_1
end LC9
set_option maxRecDepth 100000 in
theorem ck_10 : la_cok 565 1 113 207 68 71 822 824 823 1634 1636 1635 = true := by decide +kernel
set_option maxRecDepth 100000 in
theorem pr_10_0 : ri_pr [(2, .float 1, .int 0, true)] 113 207 [.float 1] = true := by decide +kernel
set_option maxRecDepth 100000 in
theorem pr_10_1 : ri_pr [(2, .float 1, .int 0, false), (3, .float 1, .int 0, true), (4, .float 1, .int (-1), true)] 113 207 [.float 1] = true := by decide +kernel
section LC10
variable {p : Program} {l : Launch} {e : Env} {s : State} {m : MethodId} {below : List Frame} {meth : Method} {c : Code} {E : ri_V} {D : va_G} {cA : Nat → ClassId} {b L : Nat} {xs : Nat → Int32}
theorem lc_10 (X : la_C p s m meth c E D cA b L xs) (hL : L = 6) (hend : ∀ (h : ri_H) (k z : Nat), k ≤ 600002 → z ≤ 7302232 → la_Ab p l e s m below meth c E D cA b (1266, lo_law, [], h, k, z)) : la_Ab p l e s m below meth c E D cA b (565, lo_law, [], h_fr, 228, 7820) := by
  have hc1 : ri_cv E (.float 1) = .int (xs 1) := by
    show Value.int (ri_sem E.2.2 1) = _
    rw [ri_sem_0 (by decide), X.2.2.2.2.2.1 1]
  have hv1 : (ri_ic E (.float 1)).toInt = (xs 1).toInt := by unfold ri_ic; rw [hc1]
  by_cases q0 : (xs 1).toInt ≤ (-1)
  · exact la_case X hL hend ck_10 (dc := [(2, .float 1, .int 0, true)]) (List.forall_mem_cons.mpr ⟨la_q 2 hv1 (show (ri_ic E (.int 0)).toInt = 0 from (show (0 : Int32).toInt = 0 from by decide)) (decide_eq_true (by omega)), fun _ h => absurd h List.not_mem_nil⟩) (as := [.float 1]) rfl (by decide) (fun j v h => by
        match j, h with
        | 0, h => cases h; exact hc1
        | j + 1, h => cases h) pr_10_0
  · exact la_case X hL hend ck_10 (dc := [(2, .float 1, .int 0, false), (3, .float 1, .int 0, true), (4, .float 1, .int (-1), true)]) (List.forall_mem_cons.mpr ⟨la_q 2 hv1 (show (ri_ic E (.int 0)).toInt = 0 from (show (0 : Int32).toInt = 0 from by decide)) (decide_eq_false (by omega)), List.forall_mem_cons.mpr ⟨la_q 3 hv1 (show (ri_ic E (.int 0)).toInt = 0 from (show (0 : Int32).toInt = 0 from by decide)) (decide_eq_true (by omega)), List.forall_mem_cons.mpr ⟨la_q 4 hv1 (show (ri_ic E (.int (-1))).toInt = (-1) from (show ((-1) : Int32).toInt = (-1) from by decide)) (decide_eq_true (by omega)), fun _ h => absurd h List.not_mem_nil⟩⟩⟩) (as := [.float 1]) rfl (by decide) (fun j v h => by
        match j, h with
        | 0, h => cases h; exact hc1
        | j + 1, h => cases h) pr_10_1
end LC10
set_option maxRecDepth 100000 in
theorem ck_11 : la_cok 590 2 114 208 72 75 845 847 846 1661 1663 1662 = true := by decide +kernel
set_option maxRecDepth 100000 in
theorem pr_11_0 : ri_pr [(2, .float 1, .int 0, true)] 114 208 [.float 1, .float 2] = true := by decide +kernel
set_option maxRecDepth 100000 in
theorem pr_11_1 : ri_pr [(2, .float 1, .int 0, false), (3, .float 1, .int 0, true), (4, .float 1, .int (-1), true)] 114 208 [.float 1, .float 2] = true := by decide +kernel
section LC11
variable {p : Program} {l : Launch} {e : Env} {s : State} {m : MethodId} {below : List Frame} {meth : Method} {c : Code} {E : ri_V} {D : va_G} {cA : Nat → ClassId} {b L : Nat} {xs : Nat → Int32}
theorem lc_11 (X : la_C p s m meth c E D cA b L xs) (hL : L = 6) (hend : ∀ (h : ri_H) (k z : Nat), k ≤ 600002 → z ≤ 7302232 → la_Ab p l e s m below meth c E D cA b (1266, lo_law, [], h, k, z)) : la_Ab p l e s m below meth c E D cA b (590, lo_law, [], h_fr, 228, 7820) := by
  have hc1 : ri_cv E (.float 1) = .int (xs 1) := by
    show Value.int (ri_sem E.2.2 1) = _
    rw [ri_sem_0 (by decide), X.2.2.2.2.2.1 1]
  have hc2 : ri_cv E (.float 2) = .int (xs 2) := by
    show Value.int (ri_sem E.2.2 2) = _
    rw [ri_sem_0 (by decide), X.2.2.2.2.2.1 2]
  have hv1 : (ri_ic E (.float 1)).toInt = (xs 1).toInt := by unfold ri_ic; rw [hc1]
  by_cases q0 : (xs 1).toInt ≤ (-1)
  · exact la_case X hL hend ck_11 (dc := [(2, .float 1, .int 0, true)]) (List.forall_mem_cons.mpr ⟨la_q 2 hv1 (show (ri_ic E (.int 0)).toInt = 0 from (show (0 : Int32).toInt = 0 from by decide)) (decide_eq_true (by omega)), fun _ h => absurd h List.not_mem_nil⟩) (as := [.float 1, .float 2]) rfl (by decide) (fun j v h => by
        match j, h with
        | 0, h => cases h; exact hc1
        | 1, h => cases h; exact hc2
        | j + 2, h => cases h) pr_11_0
  · exact la_case X hL hend ck_11 (dc := [(2, .float 1, .int 0, false), (3, .float 1, .int 0, true), (4, .float 1, .int (-1), true)]) (List.forall_mem_cons.mpr ⟨la_q 2 hv1 (show (ri_ic E (.int 0)).toInt = 0 from (show (0 : Int32).toInt = 0 from by decide)) (decide_eq_false (by omega)), List.forall_mem_cons.mpr ⟨la_q 3 hv1 (show (ri_ic E (.int 0)).toInt = 0 from (show (0 : Int32).toInt = 0 from by decide)) (decide_eq_true (by omega)), List.forall_mem_cons.mpr ⟨la_q 4 hv1 (show (ri_ic E (.int (-1))).toInt = (-1) from (show ((-1) : Int32).toInt = (-1) from by decide)) (decide_eq_true (by omega)), fun _ h => absurd h List.not_mem_nil⟩⟩⟩) (as := [.float 1, .float 2]) rfl (by decide) (fun j v h => by
        match j, h with
        | 0, h => cases h; exact hc1
        | 1, h => cases h; exact hc2
        | j + 2, h => cases h) pr_11_1
end LC11
