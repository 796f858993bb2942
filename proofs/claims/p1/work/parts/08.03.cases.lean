set_option maxRecDepth 100000 in
theorem ck_13 : la_cok 652 0 116 211 80 83 892 894 893 1697 1699 1698 = true := by decide +kernel
set_option maxRecDepth 100000 in
theorem pr_13_0 : ri_pr [] 116 211 [] = true := by decide +kernel
section LC13
variable {p : Program} {l : Launch} {e : Env} {s : State} {m : MethodId} {below : List Frame} {meth : Method} {c : Code} {E : ri_V} {D : va_G} {cA : Nat → ClassId} {b L : Nat} {xs : Nat → Int32}
theorem lc_13 (X : la_C p s m meth c E D cA b L xs) (hL : L = 6) (hend : ∀ (h : ri_H) (k z : Nat), k ≤ 600002 → z ≤ 7302232 → la_Ab p l e s m below meth c E D cA b (1266, lo_law, [], h, k, z)) : la_Ab p l e s m below meth c E D cA b (652, lo_law, [], h_fr, 228, 7820) := by
  exact la_case X hL hend ck_13 (dc := []) (fun _ h => absurd h List.not_mem_nil) (as := []) rfl (by decide) (fun j v h => by cases h) pr_13_0
end LC13
set_option maxRecDepth 100000 in
theorem ck_14 : la_cok 665 2 117 214 84 87 900 902 901 1701 1703 1702 = true := by decide +kernel
set_option maxRecDepth 100000 in
theorem pr_14_0 : ri_pr [(2, .float 1, .int 0, true)] 117 214 [.float 1, .float 2] = true := by decide +kernel
set_option maxRecDepth 100000 in
theorem pr_14_1 : ri_pr [(2, .float 1, .int 0, false), (3, .float 1, .int 0, true), (4, .float 1, .int (-1), true)] 117 214 [.float 1, .float 2] = true := by decide +kernel
section LC14
variable {p : Program} {l : Launch} {e : Env} {s : State} {m : MethodId} {below : List Frame} {meth : Method} {c : Code} {E : ri_V} {D : va_G} {cA : Nat → ClassId} {b L : Nat} {xs : Nat → Int32}
theorem lc_14 (X : la_C p s m meth c E D cA b L xs) (hL : L = 6) (hend : ∀ (h : ri_H) (k z : Nat), k ≤ 600002 → z ≤ 7302232 → la_Ab p l e s m below meth c E D cA b (1266, lo_law, [], h, k, z)) : la_Ab p l e s m below meth c E D cA b (665, lo_law, [], h_fr, 228, 7820) := by
  have hc1 : ri_cv E (.float 1) = .int (xs 1) := by
    show Value.int (ri_sem E.2.2 1) = _
    rw [ri_sem_0 (by decide), X.2.2.2.2.2.1 1]
  have hc2 : ri_cv E (.float 2) = .int (xs 2) := by
    show Value.int (ri_sem E.2.2 2) = _
    rw [ri_sem_0 (by decide), X.2.2.2.2.2.1 2]
  have hv1 : (ri_ic E (.float 1)).toInt = (xs 1).toInt := by unfold ri_ic; rw [hc1]
  by_cases q0 : (xs 1).toInt ≤ (-1)
  · exact la_case X hL hend ck_14 (dc := [(2, .float 1, .int 0, true)]) (List.forall_mem_cons.mpr ⟨la_q 2 hv1 (show (ri_ic E (.int 0)).toInt = 0 from (show (0 : Int32).toInt = 0 from by decide)) (decide_eq_true (by omega)), fun _ h => absurd h List.not_mem_nil⟩) (as := [.float 1, .float 2]) rfl (by decide) (fun j v h => by
        match j, h with
        | 0, h => cases h; exact hc1
        | 1, h => cases h; exact hc2
        | j + 2, h => cases h) pr_14_0
  · exact la_case X hL hend ck_14 (dc := [(2, .float 1, .int 0, false), (3, .float 1, .int 0, true), (4, .float 1, .int (-1), true)]) (List.forall_mem_cons.mpr ⟨la_q 2 hv1 (show (ri_ic E (.int 0)).toInt = 0 from (show (0 : Int32).toInt = 0 from by decide)) (decide_eq_false (by omega)), List.forall_mem_cons.mpr ⟨la_q 3 hv1 (show (ri_ic E (.int 0)).toInt = 0 from (show (0 : Int32).toInt = 0 from by decide)) (decide_eq_true (by omega)), List.forall_mem_cons.mpr ⟨la_q 4 hv1 (show (ri_ic E (.int (-1))).toInt = (-1) from (show ((-1) : Int32).toInt = (-1) from by decide)) (decide_eq_true (by omega)), fun _ h => absurd h List.not_mem_nil⟩⟩⟩) (as := [.float 1, .float 2]) rfl (by decide) (fun j v h => by
        match j, h with
        | 0, h => cases h; exact hc1
        | 1, h => cases h; exact hc2
        | j + 2, h => cases h) pr_14_1
end LC14
set_option maxRecDepth 100000 in
theorem ck_15 : la_cok 702 2 118 215 88 91 909 911 910 1713 1715 1714 = true := by decide +kernel
set_option maxRecDepth 100000 in
theorem pr_15_0 : ri_pr [(2, .float 1, .int 0, true)] 118 215 [.float 1, .float 2] = true := by decide +kernel
set_option maxRecDepth 100000 in
theorem pr_15_1 : ri_pr [(2, .float 1, .int 0, false), (3, .float 1, .int 0, true), (4, .float 1, .int (-1), true)] 118 215 [.float 1, .float 2] = true := by decide +kernel
section LC15
variable {p : Program} {l : Launch} {e : Env} {s : State} {m : MethodId} {below : List Frame} {meth : Method} {c : Code} {E : ri_V} {D : va_G} {cA : Nat → ClassId} {b L : Nat} {xs : Nat → Int32}
theorem lc_15 (X : la_C p s m meth c E D cA b L xs) (hL : L = 6) (hend : ∀ (h : ri_H) (k z : Nat), k ≤ 600002 → z ≤ 7302232 → la_Ab p l e s m below meth c E D cA b (1266, lo_law, [], h, k, z)) : la_Ab p l e s m below meth c E D cA b (702, lo_law, [], h_fr, 228, 7820) := by
  have hc1 : ri_cv E (.float 1) = .int (xs 1) := by
    show Value.int (ri_sem E.2.2 1) = _
    rw [ri_sem_0 (by decide), X.2.2.2.2.2.1 1]
  have hc2 : ri_cv E (.float 2) = .int (xs 2) := by
    show Value.int (ri_sem E.2.2 2) = _
    rw [ri_sem_0 (by decide), X.2.2.2.2.2.1 2]
  have hv1 : (ri_ic E (.float 1)).toInt = (xs 1).toInt := by unfold ri_ic; rw [hc1]
  by_cases q0 : (xs 1).toInt ≤ (-1)
  · exact la_case X hL hend ck_15 (dc := [(2, .float 1, .int 0, true)]) (List.forall_mem_cons.mpr ⟨la_q 2 hv1 (show (ri_ic E (.int 0)).toInt = 0 from (show (0 : Int32).toInt = 0 from by decide)) (decide_eq_true (by omega)), fun _ h => absurd h List.not_mem_nil⟩) (as := [.float 1, .float 2]) rfl (by decide) (fun j v h => by
        match j, h with
        | 0, h => cases h; exact hc1
        | 1, h => cases h; exact hc2
        | j + 2, h => cases h) pr_15_0
  · exact la_case X hL hend ck_15 (dc := [(2, .float 1, .int 0, false), (3, .float 1, .int 0, true), (4, .float 1, .int (-1), true)]) (List.forall_mem_cons.mpr ⟨la_q 2 hv1 (show (ri_ic E (.int 0)).toInt = 0 from (show (0 : Int32).toInt = 0 from by decide)) (decide_eq_false (by omega)), List.forall_mem_cons.mpr ⟨la_q 3 hv1 (show (ri_ic E (.int 0)).toInt = 0 from (show (0 : Int32).toInt = 0 from by decide)) (decide_eq_true (by omega)), List.forall_mem_cons.mpr ⟨la_q 4 hv1 (show (ri_ic E (.int (-1))).toInt = (-1) from (show ((-1) : Int32).toInt = (-1) from by decide)) (decide_eq_true (by omega)), fun _ h => absurd h List.not_mem_nil⟩⟩⟩) (as := [.float 1, .float 2]) rfl (by decide) (fun j v h => by
        match j, h with
        | 0, h => cases h; exact hc1
        | 1, h => cases h; exact hc2
        | j + 2, h => cases h) pr_15_1
end LC15
set_option maxRecDepth 100000 in
theorem ck_16 : la_cok 739 1 119 216 92 95 914 916 915 1721 1723 1722 = true := by decide +kernel
set_option maxRecDepth 100000 in
theorem pr_16_0 : ri_pr [(2, .float 1, .int 0, true)] 119 216 [.float 1] = true := by decide +kernel
set_option maxRecDepth 100000 in
theorem pr_16_1 : ri_pr [(2, .float 1, .int 0, false), (3, .float 1, .int 4, false), (4, .float 1, .int 3, false)] 119 216 [.float 1] = true := by decide +kernel
set_option maxRecDepth 100000 in
theorem pr_16_2 : ri_pr [(2, .float 1, .int 0, false), (3, .float 1, .int 4, true), (4, .float 1, .int 3, true)] 119 216 [.float 1] = true := by decide +kernel
section LC16
variable {p : Program} {l : Launch} {e : Env} {s : State} {m : MethodId} {below : List Frame} {meth : Method} {c : Code} {E : ri_V} {D : va_G} {cA : Nat → ClassId} {b L : Nat} {xs : Nat → Int32}
theorem lc_16 (X : la_C p s m meth c E D cA b L xs) (hL : L = 6) (hend : ∀ (h : ri_H) (k z : Nat), k ≤ 600002 → z ≤ 7302232 → la_Ab p l e s m below meth c E D cA b (1266, lo_law, [], h, k, z)) : la_Ab p l e s m below meth c E D cA b (739, lo_law, [], h_fr, 228, 7820) := by
  have hc1 : ri_cv E (.float 1) = .int (xs 1) := by
    show Value.int (ri_sem E.2.2 1) = _
    rw [ri_sem_0 (by decide), X.2.2.2.2.2.1 1]
  have hv1 : (ri_ic E (.float 1)).toInt = (xs 1).toInt := by unfold ri_ic; rw [hc1]
  by_cases q0 : (xs 1).toInt ≤ (-1)
  · exact la_case X hL hend ck_16 (dc := [(2, .float 1, .int 0, true)]) (List.forall_mem_cons.mpr ⟨la_q 2 hv1 (show (ri_ic E (.int 0)).toInt = 0 from (show (0 : Int32).toInt = 0 from by decide)) (decide_eq_true (by omega)), fun _ h => absurd h List.not_mem_nil⟩) (as := [.float 1]) rfl (by decide) (fun j v h => by
        match j, h with
        | 0, h => cases h; exact hc1
        | j + 1, h => cases h) pr_16_0
  · by_cases q1 : (xs 1).toInt ≤ 3
    · exact la_case X hL hend ck_16 (dc := [(2, .float 1, .int 0, false), (3, .float 1, .int 4, false), (4, .float 1, .int 3, false)]) (List.forall_mem_cons.mpr ⟨la_q 2 hv1 (show (ri_ic E (.int 0)).toInt = 0 from (show (0 : Int32).toInt = 0 from by decide)) (decide_eq_false (by omega)), List.forall_mem_cons.mpr ⟨la_q 3 hv1 (show (ri_ic E (.int 4)).toInt = 4 from (show (4 : Int32).toInt = 4 from by decide)) (decide_eq_false (by omega)), List.forall_mem_cons.mpr ⟨la_q 4 hv1 (show (ri_ic E (.int 3)).toInt = 3 from (show (3 : Int32).toInt = 3 from by decide)) (decide_eq_false (by omega)), fun _ h => absurd h List.not_mem_nil⟩⟩⟩) (as := [.float 1]) rfl (by decide) (fun j v h => by
          match j, h with
          | 0, h => cases h; exact hc1
          | j + 1, h => cases h) pr_16_1
    · exact la_case X hL hend ck_16 (dc := [(2, .float 1, .int 0, false), (3, .float 1, .int 4, true), (4, .float 1, .int 3, true)]) (List.forall_mem_cons.mpr ⟨la_q 2 hv1 (show (ri_ic E (.int 0)).toInt = 0 from (show (0 : Int32).toInt = 0 from by decide)) (decide_eq_false (by omega)), List.forall_mem_cons.mpr ⟨la_q 3 hv1 (show (ri_ic E (.int 4)).toInt = 4 from (show (4 : Int32).toInt = 4 from by decide)) (decide_eq_true (by omega)), List.forall_mem_cons.mpr ⟨la_q 4 hv1 (show (ri_ic E (.int 3)).toInt = 3 from (show (3 : Int32).toInt = 3 from by decide)) (decide_eq_true (by omega)), fun _ h => absurd h List.not_mem_nil⟩⟩⟩) (as := [.float 1]) rfl (by decide) (fun j v h => by
          match j, h with
          | 0, h => cases h; exact hc1
          | j + 1, h => cases h) pr_16_2
end LC16
set_option maxRecDepth 100000 in
theorem ck_17 : la_cok 764 1 120 217 96 99 918 920 919 1725 1727 1726 = true := by decide +kernel
set_option maxRecDepth 100000 in
theorem pr_17_0 : ri_pr [(2, .float 1, .int 0, true)] 120 217 [.float 1] = true := by decide +kernel
set_option maxRecDepth 100000 in
theorem pr_17_1 : ri_pr [] 120 217 [.int 0] = true := by decide +kernel
set_option maxRecDepth 100000 in
theorem pr_17_2 : ri_pr [(2, .float 1, .int 0, false), (2, .float 1, .int 1, false)] 120 217 [.float 1] = true := by decide +kernel
section LC17
variable {p : Program} {l : Launch} {e : Env} {s : State} {m : MethodId} {below : List Frame} {meth : Method} {c : Code} {E : ri_V} {D : va_G} {cA : Nat → ClassId} {b L : Nat} {xs : Nat → Int32}
theorem lc_17 (X : la_C p s m meth c E D cA b L xs) (hL : L = 6) (hend : ∀ (h : ri_H) (k z : Nat), k ≤ 600002 → z ≤ 7302232 → la_Ab p l e s m below meth c E D cA b (1266, lo_law, [], h, k, z)) : la_Ab p l e s m below meth c E D cA b (764, lo_law, [], h_fr, 228, 7820) := by
  have hc1 : ri_cv E (.float 1) = .int (xs 1) := by
    show Value.int (ri_sem E.2.2 1) = _
    rw [ri_sem_0 (by decide), X.2.2.2.2.2.1 1]
  have hv1 : (ri_ic E (.float 1)).toInt = (xs 1).toInt := by unfold ri_ic; rw [hc1]
  by_cases q0 : (xs 1).toInt ≤ (-1)
  · exact la_case X hL hend ck_17 (dc := [(2, .float 1, .int 0, true)]) (List.forall_mem_cons.mpr ⟨la_q 2 hv1 (show (ri_ic E (.int 0)).toInt = 0 from (show (0 : Int32).toInt = 0 from by decide)) (decide_eq_true (by omega)), fun _ h => absurd h List.not_mem_nil⟩) (as := [.float 1]) rfl (by decide) (fun j v h => by
        match j, h with
        | 0, h => cases h; exact hc1
        | j + 1, h => cases h) pr_17_0
  · by_cases q1 : (xs 1).toInt ≤ 0
    · exact la_case X hL hend ck_17 (dc := []) (fun _ h => absurd h List.not_mem_nil) (as := [.int 0]) rfl (by decide) (fun j v h => by
          match j, h with
          | 0, h => cases h; exact congrArg Value.int (Int32.toInt_inj.mp (show (0 : Int32).toInt = (xs 1).toInt from by rw [show (0 : Int32).toInt = 0 from by decide]; omega))
          | j + 1, h => cases h) pr_17_1
    · exact la_case X hL hend ck_17 (dc := [(2, .float 1, .int 0, false), (2, .float 1, .int 1, false)]) (List.forall_mem_cons.mpr ⟨la_q 2 hv1 (show (ri_ic E (.int 0)).toInt = 0 from (show (0 : Int32).toInt = 0 from by decide)) (decide_eq_false (by omega)), List.forall_mem_cons.mpr ⟨la_q 2 hv1 (show (ri_ic E (.int 1)).toInt = 1 from (show (1 : Int32).toInt = 1 from by decide)) (decide_eq_false (by omega)), fun _ h => absurd h List.not_mem_nil⟩⟩) (as := [.float 1]) rfl (by decide) (fun j v h => by
          match j, h with
          | 0, h => cases h; exact hc1
          | j + 1, h => cases h) pr_17_2
end LC17
set_option maxRecDepth 100000 in
theorem ck_18 : la_cok 789 0 121 220 100 103 922 924 923 1729 1731 1730 = true := by decide +kernel
set_option maxRecDepth 100000 in
theorem pr_18_0 : ri_pr [] 121 220 [] = true := by decide +kernel
section LC18
variable {p : Program} {l : Launch} {e : Env} {s : State} {m : MethodId} {below : List Frame} {meth : Method} {c : Code} {E : ri_V} {D : va_G} {cA : Nat → ClassId} {b L : Nat} {xs : Nat → Int32}
theorem lc_18 (X : la_C p s m meth c E D cA b L xs) (hL : L = 6) (hend : ∀ (h : ri_H) (k z : Nat), k ≤ 600002 → z ≤ 7302232 → la_Ab p l e s m below meth c E D cA b (1266, lo_law, [], h, k, z)) : la_Ab p l e s m below meth c E D cA b (789, lo_law, [], h_fr, 228, 7820) := by
  exact la_case X hL hend ck_18 (dc := []) (fun _ h => absurd h List.not_mem_nil) (as := []) rfl (by decide) (fun j v h => by cases h) pr_18_0
end LC18
set_option maxRecDepth 100000 in
theorem ck_19 : la_cok 802 0 122 221 104 107 964 966 965 1745 1747 1746 = true := by decide +kernel
set_option maxRecDepth 100000 in
theorem pr_19_0 : ri_pr [] 122 221 [] = true := by decide +kernel
section LC19
variable {p : Program} {l : Launch} {e : Env} {s : State} {m : MethodId} {below : List Frame} {meth : Method} {c : Code} {E : ri_V} {D : va_G} {cA : Nat → ClassId} {b L : Nat} {xs : Nat → Int32}
theorem lc_19 (X : la_C p s m meth c E D cA b L xs) (hL : L = 6) (hend : ∀ (h : ri_H) (k z : Nat), k ≤ 600002 → z ≤ 7302232 → la_Ab p l e s m below meth c E D cA b (1266, lo_law, [], h, k, z)) : la_Ab p l e s m below meth c E D cA b (802, lo_law, [], h_fr, 228, 7820) := by
  exact la_case X hL hend ck_19 (dc := []) (fun _ h => absurd h List.not_mem_nil) (as := []) rfl (by decide) (fun j v h => by cases h) pr_19_0
end LC19
set_option maxRecDepth 100000 in
theorem ck_20 : la_cok 815 0 123 222 108 111 968 970 969 1749 1751 1750 = true := by decide +kernel
set_option maxRecDepth 100000 in
theorem pr_20_0 : ri_pr [] 123 222 [] = true := by decide +kernel
section LC20
variable {p : Program} {l : Launch} {e : Env} {s : State} {m : MethodId} {below : List Frame} {meth : Method} {c : Code} {E : ri_V} {D : va_G} {cA : Nat → ClassId} {b L : Nat} {xs : Nat → Int32}
theorem lc_20 (X : la_C p s m meth c E D cA b L xs) (hL : L = 6) (hend : ∀ (h : ri_H) (k z : Nat), k ≤ 600002 → z ≤ 7302232 → la_Ab p l e s m below meth c E D cA b (1266, lo_law, [], h, k, z)) : la_Ab p l e s m below meth c E D cA b (815, lo_law, [], h_fr, 228, 7820) := by
  exact la_case X hL hend ck_20 (dc := []) (fun _ h => absurd h List.not_mem_nil) (as := []) rfl (by decide) (fun j v h => by cases h) pr_20_0
end LC20
set_option maxRecDepth 100000 in
theorem ck_21 : la_cok 828 0 124 223 112 115 972 974 973 1753 1755 1754 = true := by decide +kernel
set_option maxRecDepth 100000 in
theorem pr_21_0 : ri_pr [] 124 223 [] = true := by decide +kernel
section LC21
variable {p : Program} {l : Launch} {e : Env} {s : State} {m : MethodId} {below : List Frame} {meth : Method} {c : Code} {E : ri_V} {D : va_G} {cA : Nat → ClassId} {b L : Nat} {xs : Nat → Int32}
theorem lc_21 (X : la_C p s m meth c E D cA b L xs) (hL : L = 6) (hend : ∀ (h : ri_H) (k z : Nat), k ≤ 600002 → z ≤ 7302232 → la_Ab p l e s m below meth c E D cA b (1266, lo_law, [], h, k, z)) : la_Ab p l e s m below meth c E D cA b (828, lo_law, [], h_fr, 228, 7820) := by
  exact la_case X hL hend ck_21 (dc := []) (fun _ h => absurd h List.not_mem_nil) (as := []) rfl (by decide) (fun j v h => by cases h) pr_21_0
end LC21
