set_option maxRecDepth 100000 in
theorem ck_36 : la_cok 1191 1 141 253 173 176 1193 1195 1194 1882 1884 1883 = true := by decide +kernel
set_option maxRecDepth 100000 in
theorem pr_36_0 : ri_pr [(2, .float 1, .int 0, true)] 141 253 [.float 1] = true := by decide +kernel
set_option maxRecDepth 100000 in
theorem pr_36_1 : ri_pr [] 141 253 [.int 0] = true := by decide +kernel
set_option maxRecDepth 100000 in
theorem pr_36_2 : ri_pr [] 141 253 [.int 1] = true := by decide +kernel
set_option maxRecDepth 100000 in
theorem pr_36_3 : ri_pr [(2, .float 1, .int 0, false), (2, .float 1, .int 2, false), (4, .float 1, .int 1, true)] 141 253 [.float 1] = true := by decide +kernel
section LC36
variable {p : Program} {l : Launch} {e : Env} {s : State} {m : MethodId} {below : List Frame} {meth : Method} {c : Code} {E : ri_V} {D : va_G} {cA : Nat → ClassId} {b L : Nat} {xs : Nat → Int32}
theorem lc_36 (X : la_C p s m meth c E D cA b L xs) (hL : L = 6) (hend : ∀ (h : ri_H) (k z : Nat), k ≤ 600002 → z ≤ 7302232 → la_Ab p l e s m below meth c E D cA b (1266, lo_law, [], h, k, z)) : la_Ab p l e s m below meth c E D cA b (1191, lo_law, [], h_fr, 228, 7820) := by
  have hc1 : ri_cv E (.float 1) = .int (xs 1) := by
    show Value.int (ri_sem E.2.2 1) = _
    rw [ri_sem_0 (by decide), X.2.2.2.2.2.1 1]
  have hv1 : (ri_ic E (.float 1)).toInt = (xs 1).toInt := by unfold ri_ic; rw [hc1]
  by_cases q0 : (xs 1).toInt ≤ (-1)
  · exact la_case X hL hend ck_36 (dc := [(2, .float 1, .int 0, true)]) (List.forall_mem_cons.mpr ⟨la_q 2 hv1 (show (ri_ic E (.int 0)).toInt = 0 from (show (0 : Int32).toInt = 0 from by decide)) (decide_eq_true (by omega)), fun _ h => absurd h List.not_mem_nil⟩) (as := [.float 1]) rfl (by decide) (fun j v h => by
        match j, h with
        | 0, h => cases h; exact hc1
        | j + 1, h => cases h) pr_36_0
  · by_cases q1 : (xs 1).toInt ≤ 0
    · exact la_case X hL hend ck_36 (dc := []) (fun _ h => absurd h List.not_mem_nil) (as := [.int 0]) rfl (by decide) (fun j v h => by
          match j, h with
          | 0, h => cases h; exact congrArg Value.int (Int32.toInt_inj.mp (show (0 : Int32).toInt = (xs 1).toInt from by rw [show (0 : Int32).toInt = 0 from by decide]; omega))
          | j + 1, h => cases h) pr_36_1
    · by_cases q2 : (xs 1).toInt ≤ 1
      · exact la_case X hL hend ck_36 (dc := []) (fun _ h => absurd h List.not_mem_nil) (as := [.int 1]) rfl (by decide) (fun j v h => by
            match j, h with
            | 0, h => cases h; exact congrArg Value.int (Int32.toInt_inj.mp (show (1 : Int32).toInt = (xs 1).toInt from by rw [show (1 : Int32).toInt = 1 from by decide]; omega))
            | j + 1, h => cases h) pr_36_2
      · exact la_case X hL hend ck_36 (dc := [(2, .float 1, .int 0, false), (2, .float 1, .int 2, false), (4, .float 1, .int 1, true)]) (List.forall_mem_cons.mpr ⟨la_q 2 hv1 (show (ri_ic E (.int 0)).toInt = 0 from (show (0 : Int32).toInt = 0 from by decide)) (decide_eq_false (by omega)), List.forall_mem_cons.mpr ⟨la_q 2 hv1 (show (ri_ic E (.int 2)).toInt = 2 from (show (2 : Int32).toInt = 2 from by decide)) (decide_eq_false (by omega)), List.forall_mem_cons.mpr ⟨la_q 4 hv1 (show (ri_ic E (.int 1)).toInt = 1 from (show (1 : Int32).toInt = 1 from by decide)) (decide_eq_true (by omega)), fun _ h => absurd h List.not_mem_nil⟩⟩⟩) (as := [.float 1]) rfl (by decide) (fun j v h => by
            match j, h with
            | 0, h => cases h; exact hc1
            | j + 1, h => cases h) pr_36_3
end LC36
