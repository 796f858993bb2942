set_option maxRecDepth 100000 in
theorem ck_22 : la_cok 841 1 125 225 116 119 976 978 977 1757 1759 1758 = true := by decide +kernel
set_option maxRecDepth 100000 in
theorem pr_22_0 : ri_pr [(2, .float 1, .int 0, true)] 125 225 [.float 1] = true := by decide +kernel
set_option maxRecDepth 100000 in
theorem pr_22_1 : ri_pr [(2, .float 1, .int 0, false), (3, .float 1, .int 0, true), (4, .float 1, .int (-1), true)] 125 225 [.float 1] = true := by decide +kernel
section LC22
variable {p : Program} {l : Launch} {e : Env} {s : State} {m : MethodId} {below : List Frame} {meth : Method} {c : Code} {E : ri_V} {D : va_G} {cA : Nat → ClassId} {b L : Nat} {xs : Nat → Int32}
theorem lc_22 (X : la_C p s m meth c E D cA b L xs) (hL : L = 6) (hend : ∀ (h : ri_H) (k z : Nat), k ≤ 600002 → z ≤ 7302232 → la_Ab p l e s m below meth c E D cA b (1266, lo_law, [], h, k, z)) : la_Ab p l e s m below meth c E D cA b (841, lo_law, [], h_fr, 228, 7820) := by
  have hc1 : ri_cv E (.float 1) = .int (xs 1) := by
    show Value.int (ri_sem E.2.2 1) = _
    rw [ri_sem_0 (by decide), X.2.2.2.2.2.1 1]
  have hv1 : (ri_ic E (.float 1)).toInt = (xs 1).toInt := by unfold ri_ic; rw [hc1]
  by_cases q0 : (xs 1).toInt ≤ (-1)
  · exact la_case X hL hend ck_22 (dc := [(2, .float 1, .int 0, true)]) (List.forall_mem_cons.mpr ⟨la_q 2 hv1 (show (ri_ic E (.int 0)).toInt = 0 from (show (0 : Int32).toInt = 0 from by decide)) (decide_eq_true (by omega)), fun _ h => absurd h List.not_mem_nil⟩) (as := [.float 1]) rfl (by decide) (fun j v h => by
        match j, h with
        | 0, h => cases h; exact hc1
        | j + 1, h => cases h) pr_22_0
  · exact la_case X hL hend ck_22 (dc := [(2, .float 1, .int 0, false), (3, .float 1, .int 0, true), (4, .float 1, .int (-1), true)]) (List.forall_mem_cons.mpr ⟨la_q 2 hv1 (show (ri_ic E (.int 0)).toInt = 0 from (show (0 : Int32).toInt = 0 from by decide)) (decide_eq_false (by omega)), List.forall_mem_cons.mpr ⟨la_q 3 hv1 (show (ri_ic E (.int 0)).toInt = 0 from (show (0 : Int32).toInt = 0 from by decide)) (decide_eq_true (by omega)), List.forall_mem_cons.mpr ⟨la_q 4 hv1 (show (ri_ic E (.int (-1))).toInt = (-1) from (show ((-1) : Int32).toInt = (-1) from by decide)) (decide_eq_true (by omega)), fun _ h => absurd h List.not_mem_nil⟩⟩⟩) (as := [.float 1]) rfl (by decide) (fun j v h => by
        match j, h with
        | 0, h => cases h; exact hc1
        | j + 1, h => cases h) pr_22_1
end LC22
set_option maxRecDepth 100000 in
theorem ck_23 : la_cok 866 0 127 226 120 123 990 992 991 1765 1767 1766 = true := by decide +kernel
set_option maxRecDepth 100000 in
theorem pr_23_0 : ri_pr [] 127 226 [] = true := by decide +kernel
section LC23
variable {p : Program} {l : Launch} {e : Env} {s : State} {m : MethodId} {below : List Frame} {meth : Method} {c : Code} {E : ri_V} {D : va_G} {cA : Nat → ClassId} {b L : Nat} {xs : Nat → Int32}
theorem lc_23 (X : la_C p s m meth c E D cA b L xs) (hL : L = 6) (hend : ∀ (h : ri_H) (k z : Nat), k ≤ 600002 → z ≤ 7302232 → la_Ab p l e s m below meth c E D cA b (1266, lo_law, [], h, k, z)) : la_Ab p l e s m below meth c E D cA b (866, lo_law, [], h_fr, 228, 7820) := by
  exact la_case X hL hend ck_23 (dc := []) (fun _ h => absurd h List.not_mem_nil) (as := []) rfl (by decide) (fun j v h => by cases h) pr_23_0
end LC23
set_option maxRecDepth 100000 in
theorem ck_24 : la_cok 879 1 128 229 124 127 994 996 995 1769 1771 1770 = true := by decide +kernel
set_option maxRecDepth 100000 in
theorem pr_24_0 : ri_pr [(1, .float 1, .int (-1), true), (3, .float 1, .int (-1), false)] 128 229 [.float 1] = true := by decide +kernel
set_option maxRecDepth 100000 in
theorem pr_24_1 : ri_pr [] 128 229 [.int (-1)] = true := by decide +kernel
set_option maxRecDepth 100000 in
theorem pr_24_2 : ri_pr [(1, .float 1, .int (-1), true), (3, .float 1, .int (-1), true)] 128 229 [.float 1] = true := by decide +kernel
section LC24
variable {p : Program} {l : Launch} {e : Env} {s : State} {m : MethodId} {below : List Frame} {meth : Method} {c : Code} {E : ri_V} {D : va_G} {cA : Nat → ClassId} {b L : Nat} {xs : Nat → Int32}
theorem lc_24 (X : la_C p s m meth c E D cA b L xs) (hL : L = 6) (hend : ∀ (h : ri_H) (k z : Nat), k ≤ 600002 → z ≤ 7302232 → la_Ab p l e s m below meth c E D cA b (1266, lo_law, [], h, k, z)) : la_Ab p l e s m below meth c E D cA b (879, lo_law, [], h_fr, 228, 7820) := by
  have hc1 : ri_cv E (.float 1) = .int (xs 1) := by
    show Value.int (ri_sem E.2.2 1) = _
    rw [ri_sem_0 (by decide), X.2.2.2.2.2.1 1]
  have hv1 : (ri_ic E (.float 1)).toInt = (xs 1).toInt := by unfold ri_ic; rw [hc1]
  by_cases q0 : (xs 1).toInt ≤ (-2)
  · exact la_case X hL hend ck_24 (dc := [(1, .float 1, .int (-1), true), (3, .float 1, .int (-1), false)]) (List.forall_mem_cons.mpr ⟨la_q 1 hv1 (show (ri_ic E (.int (-1))).toInt = (-1) from (show ((-1) : Int32).toInt = (-1) from by decide)) (decide_eq_true (by omega)), List.forall_mem_cons.mpr ⟨la_q 3 hv1 (show (ri_ic E (.int (-1))).toInt = (-1) from (show ((-1) : Int32).toInt = (-1) from by decide)) (decide_eq_false (by omega)), fun _ h => absurd h List.not_mem_nil⟩⟩) (as := [.float 1]) rfl (by decide) (fun j v h => by
        match j, h with
        | 0, h => cases h; exact hc1
        | j + 1, h => cases h) pr_24_0
  · by_cases q1 : (xs 1).toInt ≤ (-1)
    · exact la_case X hL hend ck_24 (dc := []) (fun _ h => absurd h List.not_mem_nil) (as := [.int (-1)]) rfl (by decide) (fun j v h => by
          match j, h with
          | 0, h => cases h; exact congrArg Value.int (Int32.toInt_inj.mp (show ((-1) : Int32).toInt = (xs 1).toInt from by rw [show ((-1) : Int32).toInt = (-1) from by decide]; omega))
          | j + 1, h => cases h) pr_24_1
    · exact la_case X hL hend ck_24 (dc := [(1, .float 1, .int (-1), true), (3, .float 1, .int (-1), true)]) (List.forall_mem_cons.mpr ⟨la_q 1 hv1 (show (ri_ic E (.int (-1))).toInt = (-1) from (show ((-1) : Int32).toInt = (-1) from by decide)) (decide_eq_true (by omega)), List.forall_mem_cons.mpr ⟨la_q 3 hv1 (show (ri_ic E (.int (-1))).toInt = (-1) from (show ((-1) : Int32).toInt = (-1) from by decide)) (decide_eq_true (by omega)), fun _ h => absurd h List.not_mem_nil⟩⟩) (as := [.float 1]) rfl (by decide) (fun j v h => by
          match j, h with
          | 0, h => cases h; exact hc1
          | j + 1, h => cases h) pr_24_2
end LC24
set_option maxRecDepth 100000 in
theorem ck_25 : la_cok 904 1 131 231 128 131 1010 1012 1011 1785 1787 1786 = true := by decide +kernel
set_option maxRecDepth 100000 in
theorem pr_25_0 : ri_pr [(2, .float 1, .int 0, true)] 131 231 [.float 1] = true := by decide +kernel
set_option maxRecDepth 100000 in
theorem pr_25_1 : ri_pr [] 131 231 [.int 0] = true := by decide +kernel
set_option maxRecDepth 100000 in
theorem pr_25_2 : ri_pr [(2, .float 1, .int 0, false), (3, .float 1, .int 1, true)] 131 231 [.float 1] = true := by decide +kernel
section LC25
variable {p : Program} {l : Launch} {e : Env} {s : State} {m : MethodId} {below : List Frame} {meth : Method} {c : Code} {E : ri_V} {D : va_G} {cA : Nat → ClassId} {b L : Nat} {xs : Nat → Int32}
theorem lc_25 (X : la_C p s m meth c E D cA b L xs) (hL : L = 6) (hend : ∀ (h : ri_H) (k z : Nat), k ≤ 600002 → z ≤ 7302232 → la_Ab p l e s m below meth c E D cA b (1266, lo_law, [], h, k, z)) : la_Ab p l e s m below meth c E D cA b (904, lo_law, [], h_fr, 228, 7820) := by
  have hc1 : ri_cv E (.float 1) = .int (xs 1) := by
    show Value.int (ri_sem E.2.2 1) = _
    rw [ri_sem_0 (by decide), X.2.2.2.2.2.1 1]
  have hv1 : (ri_ic E (.float 1)).toInt = (xs 1).toInt := by unfold ri_ic; rw [hc1]
  by_cases q0 : (xs 1).toInt ≤ (-1)
  · exact la_case X hL hend ck_25 (dc := [(2, .float 1, .int 0, true)]) (List.forall_mem_cons.mpr ⟨la_q 2 hv1 (show (ri_ic E (.int 0)).toInt = 0 from (show (0 : Int32).toInt = 0 from by decide)) (decide_eq_true (by omega)), fun _ h => absurd h List.not_mem_nil⟩) (as := [.float 1]) rfl (by decide) (fun j v h => by
        match j, h with
        | 0, h => cases h; exact hc1
        | j + 1, h => cases h) pr_25_0
  · by_cases q1 : (xs 1).toInt ≤ 0
    · exact la_case X hL hend ck_25 (dc := []) (fun _ h => absurd h List.not_mem_nil) (as := [.int 0]) rfl (by decide) (fun j v h => by
          match j, h with
          | 0, h => cases h; exact congrArg Value.int (Int32.toInt_inj.mp (show (0 : Int32).toInt = (xs 1).toInt from by rw [show (0 : Int32).toInt = 0 from by decide]; omega))
          | j + 1, h => cases h) pr_25_1
    · exact la_case X hL hend ck_25 (dc := [(2, .float 1, .int 0, false), (3, .float 1, .int 1, true)]) (List.forall_mem_cons.mpr ⟨la_q 2 hv1 (show (ri_ic E (.int 0)).toInt = 0 from (show (0 : Int32).toInt = 0 from by decide)) (decide_eq_false (by omega)), List.forall_mem_cons.mpr ⟨la_q 3 hv1 (show (ri_ic E (.int 1)).toInt = 1 from (show (1 : Int32).toInt = 1 from by decide)) (decide_eq_true (by omega)), fun _ h => absurd h List.not_mem_nil⟩⟩) (as := [.float 1]) rfl (by decide) (fun j v h => by
          match j, h with
          | 0, h => cases h; exact hc1
          | j + 1, h => cases h) pr_25_2
end LC25
set_option maxRecDepth 100000 in
theorem ck_26 : la_cok 929 1 132 232 132 135 1017 1019 1018 1789 1791 1790 = true := by decide +kernel
set_option maxRecDepth 100000 in
theorem pr_26_0 : ri_pr [(2, .float 1, .int 0, true)] 132 232 [.float 1] = true := by decide +kernel
set_option maxRecDepth 100000 in
theorem pr_26_1 : ri_pr [(2, .float 1, .int 0, false), (3, .float 1, .int 0, true), (4, .float 1, .int (-1), true)] 132 232 [.float 1] = true := by decide +kernel
section LC26
variable {p : Program} {l : Launch} {e : Env} {s : State} {m : MethodId} {below : List Frame} {meth : Method} {c : Code} {E : ri_V} {D : va_G} {cA : Nat → ClassId} {b L : Nat} {xs : Nat → Int32}
theorem lc_26 (X : la_C p s m meth c E D cA b L xs) (hL : L = 6) (hend : ∀ (h : ri_H) (k z : Nat), k ≤ 600002 → z ≤ 7302232 → la_Ab p l e s m below meth c E D cA b (1266, lo_law, [], h, k, z)) : la_Ab p l e s m below meth c E D cA b (929, lo_law, [], h_fr, 228, 7820) := by
  have hc1 : ri_cv E (.float 1) = .int (xs 1) := by
    show Value.int (ri_sem E.2.2 1) = _
    rw [ri_sem_0 (by decide), X.2.2.2.2.2.1 1]
  have hv1 : (ri_ic E (.float 1)).toInt = (xs 1).toInt := by unfold ri_ic; rw [hc1]
  by_cases q0 : (xs 1).toInt ≤ (-1)
  · exact la_case X hL hend ck_26 (dc := [(2, .float 1, .int 0, true)]) (List.forall_mem_cons.mpr ⟨la_q 2 hv1 (show (ri_ic E (.int 0)).toInt = 0 from (show (0 : Int32).toInt = 0 from by decide)) (decide_eq_true (by omega)), fun _ h => absurd h List.not_mem_nil⟩) (as := [.float 1]) rfl (by decide) (fun j v h => by
        match j, h with
        | 0, h => cases h; exact hc1
        | j + 1, h => cases h) pr_26_0
  · exact la_case X hL hend ck_26 (dc := [(2, .float 1, .int 0, false), (3, .float 1, .int 0, true), (4, .float 1, .int (-1), true)]) (List.forall_mem_cons.mpr ⟨la_q 2 hv1 (show (ri_ic E (.int 0)).toInt = 0 from (show (0 : Int32).toInt = 0 from by decide)) (decide_eq_false (by omega)), List.forall_mem_cons.mpr ⟨la_q 3 hv1 (show (ri_ic E (.int 0)).toInt = 0 from (show (0 : Int32).toInt = 0 from by decide)) (decide_eq_true (by omega)), List.forall_mem_cons.mpr ⟨la_q 4 hv1 (show (ri_ic E (.int (-1))).toInt = (-1) from (show ((-1) : Int32).toInt = (-1) from by decide)) (decide_eq_true (by omega)), fun _ h => absurd h List.not_mem_nil⟩⟩⟩) (as := [.float 1]) rfl (by decide) (fun j v h => by
        match j, h with
        | 0, h => cases h; exact hc1
        | j + 1, h => cases h) pr_26_1
end LC26
set_option maxRecDepth 100000 in
theorem ck_27 : la_cok 954 1 133 233 136 139 1022 1024 1023 1793 1795 1794 = true := by decide +kernel
set_option maxRecDepth 100000 in
theorem pr_27_0 : ri_pr [(2, .float 1, .int 0, true)] 133 233 [.float 1] = true := by decide +kernel
set_option maxRecDepth 100000 in
theorem pr_27_1 : ri_pr [(2, .float 1, .int 0, false), (3, .float 1, .int 0, true), (4, .float 1, .int (-1), true)] 133 233 [.float 1] = true := by decide +kernel
section LC27
variable {p : Program} {l : Launch} {e : Env} {s : State} {m : MethodId} {below : List Frame} {meth : Method} {c : Code} {E : ri_V} {D : va_G} {cA : Nat → ClassId} {b L : Nat} {xs : Nat → Int32}
theorem lc_27 (X : la_C p s m meth c E D cA b L xs) (hL : L = 6) (hend : ∀ (h : ri_H) (k z : Nat), k ≤ 600002 → z ≤ 7302232 → la_Ab p l e s m below meth c E D cA b (1266, lo_law, [], h, k, z)) : la_Ab p l e s m below meth c E D cA b (954, lo_law, [], h_fr, 228, 7820) := by
  have hc1 : ri_cv E (.float 1) = .int (xs 1) := by
    show Value.int (ri_sem E.2.2 1) = _
    rw [ri_sem_0 (by decide), X.2.2.2.2.2.1 1]
  have hv1 : (ri_ic E (.float 1)).toInt = (xs 1).toInt := by unfold ri_ic; rw [hc1]
  by_cases q0 : (xs 1).toInt ≤ (-1)
  · exact la_case X hL hend ck_27 (dc := [(2, .float 1, .int 0, true)]) (List.forall_mem_cons.mpr ⟨la_q 2 hv1 (show (ri_ic E (.int 0)).toInt = 0 from (show (0 : Int32).toInt = 0 from by decide)) (decide_eq_true (by omega)), fun _ h => absurd h List.not_mem_nil⟩) (as := [.float 1]) rfl (by decide) (fun j v h => by
        match j, h with
        | 0, h => cases h; exact hc1
        | j + 1, h => cases h) pr_27_0
  · exact la_case X hL hend ck_27 (dc := [(2, .float 1, .int 0, false), (3, .float 1, .int 0, true), (4, .float 1, .int (-1), true)]) (List.forall_mem_cons.mpr ⟨la_q 2 hv1 (show (ri_ic E (.int 0)).toInt = 0 from (show (0 : Int32).toInt = 0 from by decide)) (decide_eq_false (by omega)), List.forall_mem_cons.mpr ⟨la_q 3 hv1 (show (ri_ic E (.int 0)).toInt = 0 from (show (0 : Int32).toInt = 0 from by decide)) (decide_eq_true (by omega)), List.forall_mem_cons.mpr ⟨la_q 4 hv1 (show (ri_ic E (.int (-1))).toInt = (-1) from (show ((-1) : Int32).toInt = (-1) from by decide)) (decide_eq_true (by omega)), fun _ h => absurd h List.not_mem_nil⟩⟩⟩) (as := [.float 1]) rfl (by decide) (fun j v h => by
        match j, h with
        | 0, h => cases h; exact hc1
        | j + 1, h => cases h) pr_27_1
end LC27
set_option maxRecDepth 100000 in
theorem ck_28 : la_cok 979 0 134 234 140 143 1026 1028 1027 1797 1799 1798 = true := by decide +kernel
set_option maxRecDepth 100000 in
theorem pr_28_0 : ri_pr [] 134 234 [] = true := by decide +kernel
section LC28
variable {p : Program} {l : Launch} {e : Env} {s : State} {m : MethodId} {below : List Frame} {meth : Method} {c : Code} {E : ri_V} {D : va_G} {cA : Nat → ClassId} {b L : Nat} {xs : Nat → Int32}
theorem lc_28 (X : la_C p s m meth c E D cA b L xs) (hL : L = 6) (hend : ∀ (h : ri_H) (k z : Nat), k ≤ 600002 → z ≤ 7302232 → la_Ab p l e s m below meth c E D cA b (1266, lo_law, [], h, k, z)) : la_Ab p l e s m below meth c E D cA b (979, lo_law, [], h_fr, 228, 7820) := by
  exact la_case X hL hend ck_28 (dc := []) (fun _ h => absurd h List.not_mem_nil) (as := []) rfl (by decide) (fun j v h => by cases h) pr_28_0
end LC28
set_option maxRecDepth 100000 in
theorem ck_29 : la_cok 992 1 129 230 144 147 1006 1008 1007 1781 1783 1782 = true := by decide +kernel
set_option maxRecDepth 100000 in
theorem pr_29_0 : ri_pr [(1, .float 1, .int (-1), true), (3, .float 1, .int (-1), false)] 129 230 [.float 1] = true := by decide +kernel
set_option maxRecDepth 100000 in
theorem pr_29_1 : ri_pr [] 129 230 [.int (-1)] = true := by decide +kernel
set_option maxRecDepth 100000 in
theorem pr_29_2 : ri_pr [(1, .float 1, .int (-1), true), (3, .float 1, .int (-1), true)] 129 230 [.float 1] = true := by decide +kernel
section LC29
variable {p : Program} {l : Launch} {e : Env} {s : State} {m : MethodId} {below : List Frame} {meth : Method} {c : Code} {E : ri_V} {D : va_G} {cA : Nat → ClassId} {b L : Nat} {xs : Nat → Int32}
theorem lc_29 (X : la_C p s m meth c E D cA b L xs) (hL : L = 6) (hend : ∀ (h : ri_H) (k z : Nat), k ≤ 600002 → z ≤ 7302232 → la_Ab p l e s m below meth c E D cA b (1266, lo_law, [], h, k, z)) : la_Ab p l e s m below meth c E D cA b (992, lo_law, [], h_fr, 228, 7820) := by
  have hc1 : ri_cv E (.float 1) = .int (xs 1) := by
    show Value.int (ri_sem E.2.2 1) = _
    rw [ri_sem_0 (by decide), X.2.2.2.2.2.1 1]
  have hv1 : (ri_ic E (.float 1)).toInt = (xs 1).toInt := by unfold ri_ic; rw [hc1]
  by_cases q0 : (xs 1).toInt ≤ (-2)
  · exact la_case X hL hend ck_29 (dc := [(1, .float 1, .int (-1), true), (3, .float 1, .int (-1), false)]) (List.forall_mem_cons.mpr ⟨la_q 1 hv1 (show (ri_ic E (.int (-1))).toInt = (-1) from (show ((-1) : Int32).toInt = (-1) from by decide)) (decide_eq_true (by omega)), List.forall_mem_cons.mpr ⟨la_q 3 hv1 (show (ri_ic E (.int (-1))).toInt = (-1) from (show ((-1) : Int32).toInt = (-1) from by decide)) (decide_eq_false (by omega)), fun _ h => absurd h List.not_mem_nil⟩⟩) (as := [.float 1]) rfl (by decide) (fun j v h => by
        match j, h with
        | 0, h => cases h; exact hc1
        | j + 1, h => cases h) pr_29_0
  · by_cases q1 : (xs 1).toInt ≤ (-1)
    · exact la_case X hL hend ck_29 (dc := []) (fun _ h => absurd h List.not_mem_nil) (as := [.int (-1)]) rfl (by decide) (fun j v h => by
          match j, h with
          | 0, h => cases h; exact congrArg Value.int (Int32.toInt_inj.mp (show ((-1) : Int32).toInt = (xs 1).toInt from by rw [show ((-1) : Int32).toInt = (-1) from by decide]; omega))
          | j + 1, h => cases h) pr_29_1
    · exact la_case X hL hend ck_29 (dc := [(1, .float 1, .int (-1), true), (3, .float 1, .int (-1), true)]) (List.forall_mem_cons.mpr ⟨la_q 1 hv1 (show (ri_ic E (.int (-1))).toInt = (-1) from (show ((-1) : Int32).toInt = (-1) from by decide)) (decide_eq_true (by omega)), List.forall_mem_cons.mpr ⟨la_q 3 hv1 (show (ri_ic E (.int (-1))).toInt = (-1) from (show ((-1) : Int32).toInt = (-1) from by decide)) (decide_eq_true (by omega)), fun _ h => absurd h List.not_mem_nil⟩⟩) (as := [.float 1]) rfl (by decide) (fun j v h => by
          match j, h with
          | 0, h => cases h; exact hc1
          | j + 1, h => cases h) pr_29_2
end LC29
