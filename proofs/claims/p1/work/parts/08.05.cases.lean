set_option maxRecDepth 100000 in
theorem ck_30 : la_cok 1017 2 135 237 148 151 1035 1037 1036 1801 1803 1802 = true := by decide +kernel
set_option maxRecDepth 100000 in
theorem pr_30_0 : ri_pr [(2, .float 1, .int 1, true)] 135 237 [.float 1, .float 2] = true := by decide +kernel
set_option maxRecDepth 100000 in
theorem pr_30_1 : ri_pr [(2, .float 1, .int 1, false), (4, .float 1, .int 60, false)] 135 237 [.float 1, .float 2] = true := by decide +kernel
set_option maxRecDepth 100000 in
theorem pr_30_2 : ri_pr [(2, .float 1, .int 1, false), (4, .float 1, .int 60, true)] 135 237 [.float 1, .float 2] = true := by decide +kernel
section LC30
variable {p : Program} {l : Launch} {e : Env} {s : State} {m : MethodId} {below : List Frame} {meth : Method} {c : Code} {E : ri_V} {D : va_G} {cA : Nat → ClassId} {b L : Nat} {xs : Nat → Int32}
theorem lc_30 (X : la_C p s m meth c E D cA b L xs) (hL : L = 6) (hend : ∀ (h : ri_H) (k z : Nat), k ≤ 600002 → z ≤ 7302232 → la_Ab p l e s m below meth c E D cA b (1266, lo_law, [], h, k, z)) : la_Ab p l e s m below meth c E D cA b (1017, lo_law, [], h_fr, 228, 7820) := by
  have hc1 : ri_cv E (.float 1) = .int (xs 1) := by
    show Value.int (ri_sem E.2.2 1) = _
    rw [ri_sem_0 (by decide), X.2.2.2.2.2.1 1]
  have hc2 : ri_cv E (.float 2) = .int (xs 2) := by
    show Value.int (ri_sem E.2.2 2) = _
    rw [ri_sem_0 (by decide), X.2.2.2.2.2.1 2]
  have hv1 : (ri_ic E (.float 1)).toInt = (xs 1).toInt := by unfold ri_ic; rw [hc1]
  by_cases q0 : (xs 1).toInt ≤ 0
  · exact la_case X hL hend ck_30 (dc := [(2, .float 1, .int 1, true)]) (List.forall_mem_cons.mpr ⟨la_q 2 hv1 (show (ri_ic E (.int 1)).toInt = 1 from (show (1 : Int32).toInt = 1 from by decide)) (decide_eq_true (by omega)), fun _ h => absurd h List.not_mem_nil⟩) (as := [.float 1, .float 2]) rfl (by decide) (fun j v h => by
        match j, h with
        | 0, h => cases h; exact hc1
        | 1, h => cases h; exact hc2
        | j + 2, h => cases h) pr_30_0
  · by_cases q1 : (xs 1).toInt ≤ 60
    · exact la_case X hL hend ck_30 (dc := [(2, .float 1, .int 1, false), (4, .float 1, .int 60, false)]) (List.forall_mem_cons.mpr ⟨la_q 2 hv1 (show (ri_ic E (.int 1)).toInt = 1 from (show (1 : Int32).toInt = 1 from by decide)) (decide_eq_false (by omega)), List.forall_mem_cons.mpr ⟨la_q 4 hv1 (show (ri_ic E (.int 60)).toInt = 60 from (show (60 : Int32).toInt = 60 from by decide)) (decide_eq_false (by omega)), fun _ h => absurd h List.not_mem_nil⟩⟩) (as := [.float 1, .float 2]) rfl (by decide) (fun j v h => by
          match j, h with
          | 0, h => cases h; exact hc1
          | 1, h => cases h; exact hc2
          | j + 2, h => cases h) pr_30_1
    · exact la_case X hL hend ck_30 (dc := [(2, .float 1, .int 1, false), (4, .float 1, .int 60, true)]) (List.forall_mem_cons.mpr ⟨la_q 2 hv1 (show (ri_ic E (.int 1)).toInt = 1 from (show (1 : Int32).toInt = 1 from by decide)) (decide_eq_false (by omega)), List.forall_mem_cons.mpr ⟨la_q 4 hv1 (show (ri_ic E (.int 60)).toInt = 60 from (show (60 : Int32).toInt = 60 from by decide)) (decide_eq_true (by omega)), fun _ h => absurd h List.not_mem_nil⟩⟩) (as := [.float 1, .float 2]) rfl (by decide) (fun j v h => by
          match j, h with
          | 0, h => cases h; exact hc1
          | 1, h => cases h; exact hc2
          | j + 2, h => cases h) pr_30_2
end LC30
set_option maxRecDepth 100000 in
theorem ck_31 : la_cok 1054 3 136 238 152 156 1057 1059 1058 1814 1816 1815 = true := by decide +kernel
set_option maxRecDepth 100000 in
theorem pr_31_0 : ri_pr [(2, .float 1, .int 0, true)] 136 238 [.float 1, .float 2, .float 3] = true := by decide +kernel
set_option maxRecDepth 100000 in
theorem pr_31_1 : ri_pr [(2, .float 1, .int 0, false), (3, .float 1, .int 0, true), (4, .float 1, .int (-1), true)] 136 238 [.float 1, .float 2, .float 3] = true := by decide +kernel
section LC31
variable {p : Program} {l : Launch} {e : Env} {s : State} {m : MethodId} {below : List Frame} {meth : Method} {c : Code} {E : ri_V} {D : va_G} {cA : Nat → ClassId} {b L : Nat} {xs : Nat → Int32}
theorem lc_31 (X : la_C p s m meth c E D cA b L xs) (hL : L = 6) (hend : ∀ (h : ri_H) (k z : Nat), k ≤ 600002 → z ≤ 7302232 → la_Ab p l e s m below meth c E D cA b (1266, lo_law, [], h, k, z)) : la_Ab p l e s m below meth c E D cA b (1054, lo_law, [], h_fr, 228, 7820) := by
  have hc1 : ri_cv E (.float 1) = .int (xs 1) := by
    show Value.int (ri_sem E.2.2 1) = _
    rw [ri_sem_0 (by decide), X.2.2.2.2.2.1 1]
  have hc2 : ri_cv E (.float 2) = .int (xs 2) := by
    show Value.int (ri_sem E.2.2 2) = _
    rw [ri_sem_0 (by decide), X.2.2.2.2.2.1 2]
  have hc3 : ri_cv E (.float 3) = .int (xs 3) := by
    show Value.int (ri_sem E.2.2 3) = _
    rw [ri_sem_0 (by decide), X.2.2.2.2.2.1 3]
  have hv1 : (ri_ic E (.float 1)).toInt = (xs 1).toInt := by unfold ri_ic; rw [hc1]
  by_cases q0 : (xs 1).toInt ≤ (-1)
  · exact la_case X hL hend ck_31 (dc := [(2, .float 1, .int 0, true)]) (List.forall_mem_cons.mpr ⟨la_q 2 hv1 (show (ri_ic E (.int 0)).toInt = 0 from (show (0 : Int32).toInt = 0 from by decide)) (decide_eq_true (by omega)), fun _ h => absurd h List.not_mem_nil⟩) (as := [.float 1, .float 2, .float 3]) rfl (by decide) (fun j v h => by
        match j, h with
        | 0, h => cases h; exact hc1
        | 1, h => cases h; exact hc2
        | 2, h => cases h; exact hc3
        | j + 3, h => cases h) pr_31_0
  · exact la_case X hL hend ck_31 (dc := [(2, .float 1, .int 0, false), (3, .float 1, .int 0, true), (4, .float 1, .int (-1), true)]) (List.forall_mem_cons.mpr ⟨la_q 2 hv1 (show (ri_ic E (.int 0)).toInt = 0 from (show (0 : Int32).toInt = 0 from by decide)) (decide_eq_false (by omega)), List.forall_mem_cons.mpr ⟨la_q 3 hv1 (show (ri_ic E (.int 0)).toInt = 0 from (show (0 : Int32).toInt = 0 from by decide)) (decide_eq_true (by omega)), List.forall_mem_cons.mpr ⟨la_q 4 hv1 (show (ri_ic E (.int (-1))).toInt = (-1) from (show ((-1) : Int32).toInt = (-1) from by decide)) (decide_eq_true (by omega)), fun _ h => absurd h List.not_mem_nil⟩⟩⟩) (as := [.float 1, .float 2, .float 3]) rfl (by decide) (fun j v h => by
        match j, h with
        | 0, h => cases h; exact hc1
        | 1, h => cases h; exact hc2
        | 2, h => cases h; exact hc3
        | j + 3, h => cases h) pr_31_1
end LC31
set_option maxRecDepth 100000 in
theorem ck_33 : la_cok 1128 1 138 242 161 164 1121 1123 1122 1838 1840 1839 = true := by decide +kernel
set_option maxRecDepth 100000 in
theorem pr_33_0 : ri_pr [(2, .float 1, .int 0, true)] 138 242 [.float 1] = true := by decide +kernel
set_option maxRecDepth 100000 in
theorem pr_33_1 : ri_pr [] 138 242 [.int 0] = true := by decide +kernel
set_option maxRecDepth 100000 in
theorem pr_33_2 : ri_pr [] 138 242 [.int 1] = true := by decide +kernel
set_option maxRecDepth 100000 in
theorem pr_33_3 : ri_pr [] 138 242 [.int 2] = true := by decide +kernel
set_option maxRecDepth 100000 in
theorem pr_33_4 : ri_pr [] 138 242 [.int 3] = true := by decide +kernel
set_option maxRecDepth 100000 in
theorem pr_33_5 : ri_pr [(2, .float 1, .int 0, false), (2, .float 1, .int 4, false)] 138 242 [.float 1] = true := by decide +kernel
section LC33
variable {p : Program} {l : Launch} {e : Env} {s : State} {m : MethodId} {below : List Frame} {meth : Method} {c : Code} {E : ri_V} {D : va_G} {cA : Nat → ClassId} {b L : Nat} {xs : Nat → Int32}
theorem lc_33 (X : la_C p s m meth c E D cA b L xs) (hL : L = 6) (hend : ∀ (h : ri_H) (k z : Nat), k ≤ 600002 → z ≤ 7302232 → la_Ab p l e s m below meth c E D cA b (1266, lo_law, [], h, k, z)) : la_Ab p l e s m below meth c E D cA b (1128, lo_law, [], h_fr, 228, 7820) := by
  have hc1 : ri_cv E (.float 1) = .int (xs 1) := by
    show Value.int (ri_sem E.2.2 1) = _
    rw [ri_sem_0 (by decide), X.2.2.2.2.2.1 1]
  have hv1 : (ri_ic E (.float 1)).toInt = (xs 1).toInt := by unfold ri_ic; rw [hc1]
  by_cases q0 : (xs 1).toInt ≤ (-1)
  · exact la_case X hL hend ck_33 (dc := [(2, .float 1, .int 0, true)]) (List.forall_mem_cons.mpr ⟨la_q 2 hv1 (show (ri_ic E (.int 0)).toInt = 0 from (show (0 : Int32).toInt = 0 from by decide)) (decide_eq_true (by omega)), fun _ h => absurd h List.not_mem_nil⟩) (as := [.float 1]) rfl (by decide) (fun j v h => by
        match j, h with
        | 0, h => cases h; exact hc1
        | j + 1, h => cases h) pr_33_0
  · by_cases q1 : (xs 1).toInt ≤ 0
    · exact la_case X hL hend ck_33 (dc := []) (fun _ h => absurd h List.not_mem_nil) (as := [.int 0]) rfl (by decide) (fun j v h => by
          match j, h with
          | 0, h => cases h; exact congrArg Value.int (Int32.toInt_inj.mp (show (0 : Int32).toInt = (xs 1).toInt from by rw [show (0 : Int32).toInt = 0 from by decide]; omega))
          | j + 1, h => cases h) pr_33_1
    · by_cases q2 : (xs 1).toInt ≤ 1
      · exact la_case X hL hend ck_33 (dc := []) (fun _ h => absurd h List.not_mem_nil) (as := [.int 1]) rfl (by decide) (fun j v h => by
            match j, h with
            | 0, h => cases h; exact congrArg Value.int (Int32.toInt_inj.mp (show (1 : Int32).toInt = (xs 1).toInt from by rw [show (1 : Int32).toInt = 1 from by decide]; omega))
            | j + 1, h => cases h) pr_33_2
      · by_cases q3 : (xs 1).toInt ≤ 2
        · exact la_case X hL hend ck_33 (dc := []) (fun _ h => absurd h List.not_mem_nil) (as := [.int 2]) rfl (by decide) (fun j v h => by
              match j, h with
              | 0, h => cases h; exact congrArg Value.int (Int32.toInt_inj.mp (show (2 : Int32).toInt = (xs 1).toInt from by rw [show (2 : Int32).toInt = 2 from by decide]; omega))
              | j + 1, h => cases h) pr_33_3
        · by_cases q4 : (xs 1).toInt ≤ 3
          · exact la_case X hL hend ck_33 (dc := []) (fun _ h => absurd h List.not_mem_nil) (as := [.int 3]) rfl (by decide) (fun j v h => by
                match j, h with
                | 0, h => cases h; exact congrArg Value.int (Int32.toInt_inj.mp (show (3 : Int32).toInt = (xs 1).toInt from by rw [show (3 : Int32).toInt = 3 from by decide]; omega))
                | j + 1, h => cases h) pr_33_4
          · exact la_case X hL hend ck_33 (dc := [(2, .float 1, .int 0, false), (2, .float 1, .int 4, false)]) (List.forall_mem_cons.mpr ⟨la_q 2 hv1 (show (ri_ic E (.int 0)).toInt = 0 from (show (0 : Int32).toInt = 0 from by decide)) (decide_eq_false (by omega)), List.forall_mem_cons.mpr ⟨la_q 2 hv1 (show (ri_ic E (.int 4)).toInt = 4 from (show (4 : Int32).toInt = 4 from by decide)) (decide_eq_false (by omega)), fun _ h => absurd h List.not_mem_nil⟩⟩) (as := [.float 1]) rfl (by decide) (fun j v h => by
                match j, h with
                | 0, h => cases h; exact hc1
                | j + 1, h => cases h) pr_33_5
end LC33
set_option maxRecDepth 100000 in
theorem ck_34 : la_cok 1153 0 139 249 165 168 1125 1127 1126 1842 1844 1843 = true := by decide +kernel
set_option maxRecDepth 100000 in
theorem pr_34_0 : ri_pr [] 139 249 [] = true := by decide +kernel
section LC34
variable {p : Program} {l : Launch} {e : Env} {s : State} {m : MethodId} {below : List Frame} {meth : Method} {c : Code} {E : ri_V} {D : va_G} {cA : Nat → ClassId} {b L : Nat} {xs : Nat → Int32}
theorem lc_34 (X : la_C p s m meth c E D cA b L xs) (hL : L = 6) (hend : ∀ (h : ri_H) (k z : Nat), k ≤ 600002 → z ≤ 7302232 → la_Ab p l e s m below meth c E D cA b (1266, lo_law, [], h, k, z)) : la_Ab p l e s m below meth c E D cA b (1153, lo_law, [], h_fr, 228, 7820) := by
  exact la_case X hL hend ck_34 (dc := []) (fun _ h => absurd h List.not_mem_nil) (as := []) rfl (by decide) (fun j v h => by cases h) pr_34_0
end LC34
set_option maxRecDepth 100000 in
theorem ck_35 : la_cok 1166 1 140 252 169 172 1166 1168 1167 1870 1872 1871 = true := by decide +kernel
set_option maxRecDepth 100000 in
theorem pr_35_0 : ri_pr [] 140 252 [.float 1] = true := by decide +kernel
section LC35
variable {p : Program} {l : Launch} {e : Env} {s : State} {m : MethodId} {below : List Frame} {meth : Method} {c : Code} {E : ri_V} {D : va_G} {cA : Nat → ClassId} {b L : Nat} {xs : Nat → Int32}
theorem lc_35 (X : la_C p s m meth c E D cA b L xs) (hL : L = 6) (hend : ∀ (h : ri_H) (k z : Nat), k ≤ 600002 → z ≤ 7302232 → la_Ab p l e s m below meth c E D cA b (1266, lo_law, [], h, k, z)) : la_Ab p l e s m below meth c E D cA b (1166, lo_law, [], h_fr, 228, 7820) := by
  have hc1 : ri_cv E (.float 1) = .int (xs 1) := by
    show Value.int (ri_sem E.2.2 1) = _
    rw [ri_sem_0 (by decide), X.2.2.2.2.2.1 1]
  exact la_case X hL hend ck_35 (dc := []) (fun _ h => absurd h List.not_mem_nil) (as := [.float 1]) rfl (by decide) (fun j v h => by
      match j, h with
      | 0, h => cases h; exact hc1
      | j + 1, h => cases h) pr_35_0
end LC35
set_option maxRecDepth 100000 in
theorem ck_37 : la_cok 1216 1 142 254 177 180 1197 1199 1198 1886 1888 1887 = true := by decide +kernel
set_option maxRecDepth 100000 in
theorem pr_37_0 : ri_pr [(2, .float 1, .int 0, true)] 142 254 [.float 1] = true := by decide +kernel
set_option maxRecDepth 100000 in
theorem pr_37_1 : ri_pr [] 142 254 [.int 0] = true := by decide +kernel
set_option maxRecDepth 100000 in
theorem pr_37_2 : ri_pr [] 142 254 [.int 1] = true := by decide +kernel
set_option maxRecDepth 100000 in
theorem pr_37_3 : ri_pr [(2, .float 1, .int 0, false), (3, .float 1, .int 2, true), (4, .float 1, .int 1, true)] 142 254 [.float 1] = true := by decide +kernel
section LC37
variable {p : Program} {l : Launch} {e : Env} {s : State} {m : MethodId} {below : List Frame} {meth : Method} {c : Code} {E : ri_V} {D : va_G} {cA : Nat → ClassId} {b L : Nat} {xs : Nat → Int32}
theorem lc_37 (X : la_C p s m meth c E D cA b L xs) (hL : L = 6) (hend : ∀ (h : ri_H) (k z : Nat), k ≤ 600002 → z ≤ 7302232 → la_Ab p l e s m below meth c E D cA b (1266, lo_law, [], h, k, z)) : la_Ab p l e s m below meth c E D cA b (1216, lo_law, [], h_fr, 228, 7820) := by
  have hc1 : ri_cv E (.float 1) = .int (xs 1) := by
    show Value.int (ri_sem E.2.2 1) = _
    rw [ri_sem_0 (by decide), X.2.2.2.2.2.1 1]
  have hv1 : (ri_ic E (.float 1)).toInt = (xs 1).toInt := by unfold ri_ic; rw [hc1]
  by_cases q0 : (xs 1).toInt ≤ (-1)
  · exact la_case X hL hend ck_37 (dc := [(2, .float 1, .int 0, true)]) (List.forall_mem_cons.mpr ⟨la_q 2 hv1 (show (ri_ic E (.int 0)).toInt = 0 from (show (0 : Int32).toInt = 0 from by decide)) (decide_eq_true (by omega)), fun _ h => absurd h List.not_mem_nil⟩) (as := [.float 1]) rfl (by decide) (fun j v h => by
        match j, h with
        | 0, h => cases h; exact hc1
        | j + 1, h => cases h) pr_37_0
  · by_cases q1 : (xs 1).toInt ≤ 0
    · exact la_case X hL hend ck_37 (dc := []) (fun _ h => absurd h List.not_mem_nil) (as := [.int 0]) rfl (by decide) (fun j v h => by
          match j, h with
          | 0, h => cases h; exact congrArg Value.int (Int32.toInt_inj.mp (show (0 : Int32).toInt = (xs 1).toInt from by rw [show (0 : Int32).toInt = 0 from by decide]; omega))
          | j + 1, h => cases h) pr_37_1
    · by_cases q2 : (xs 1).toInt ≤ 1
      · exact la_case X hL hend ck_37 (dc := []) (fun _ h => absurd h List.not_mem_nil) (as := [.int 1]) rfl (by decide) (fun j v h => by
            match j, h with
            | 0, h => cases h; exact congrArg Value.int (Int32.toInt_inj.mp (show (1 : Int32).toInt = (xs 1).toInt from by rw [show (1 : Int32).toInt = 1 from by decide]; omega))
            | j + 1, h => cases h) pr_37_2
      · exact la_case X hL hend ck_37 (dc := [(2, .float 1, .int 0, false), (3, .float 1, .int 2, true), (4, .float 1, .int 1, true)]) (List.forall_mem_cons.mpr ⟨la_q 2 hv1 (show (ri_ic E (.int 0)).toInt = 0 from (show (0 : Int32).toInt = 0 from by decide)) (decide_eq_false (by omega)), List.forall_mem_cons.mpr ⟨la_q 3 hv1 (show (ri_ic E (.int 2)).toInt = 2 from (show (2 : Int32).toInt = 2 from by decide)) (decide_eq_true (by omega)), List.forall_mem_cons.mpr ⟨la_q 4 hv1 (show (ri_ic E (.int 1)).toInt = 1 from (show (1 : Int32).toInt = 1 from by decide)) (decide_eq_true (by omega)), fun _ h => absurd h List.not_mem_nil⟩⟩⟩) (as := [.float 1]) rfl (by decide) (fun j v h => by
            match j, h with
            | 0, h => cases h; exact hc1
            | j + 1, h => cases h) pr_37_3
end LC37
set_option maxRecDepth 100000 in
theorem ck_38 : la_cok 1241 1 143 255 181 184 1201 1203 1202 1890 1892 1891 = true := by decide +kernel
set_option maxRecDepth 100000 in
theorem pr_38_0 : ri_pr [(6, .float 1, .int 7, true), (1, .float 1, .int 7, true), (2, .float 1, .int 0, true)] 143 255 [.float 1] = true := by decide +kernel
set_option maxRecDepth 100000 in
theorem pr_38_1 : ri_pr [] 143 255 [.int 0] = true := by decide +kernel
set_option maxRecDepth 100000 in
theorem pr_38_2 : ri_pr [] 143 255 [.int 1] = true := by decide +kernel
set_option maxRecDepth 100000 in
theorem pr_38_3 : ri_pr [] 143 255 [.int 2] = true := by decide +kernel
set_option maxRecDepth 100000 in
theorem pr_38_4 : ri_pr [] 143 255 [.int 3] = true := by decide +kernel
set_option maxRecDepth 100000 in
theorem pr_38_5 : ri_pr [] 143 255 [.int 4] = true := by decide +kernel
set_option maxRecDepth 100000 in
theorem pr_38_6 : ri_pr [] 143 255 [.int 5] = true := by decide +kernel
set_option maxRecDepth 100000 in
theorem pr_38_7 : ri_pr [] 143 255 [.int 6] = true := by decide +kernel
set_option maxRecDepth 100000 in
theorem pr_38_8 : ri_pr [] 143 255 [.int 7] = true := by decide +kernel
set_option maxRecDepth 100000 in
theorem pr_38_9 : ri_pr [(6, .float 1, .int 7, true), (1, .float 1, .int 7, true), (2, .float 1, .int 0, false), (4, .float 1, .int 6, true)] 143 255 [.float 1] = true := by decide +kernel
section LC38
variable {p : Program} {l : Launch} {e : Env} {s : State} {m : MethodId} {below : List Frame} {meth : Method} {c : Code} {E : ri_V} {D : va_G} {cA : Nat → ClassId} {b L : Nat} {xs : Nat → Int32}
theorem lc_38 (X : la_C p s m meth c E D cA b L xs) (hL : L = 6) (hend : ∀ (h : ri_H) (k z : Nat), k ≤ 600002 → z ≤ 7302232 → la_Ab p l e s m below meth c E D cA b (1266, lo_law, [], h, k, z)) : la_Ab p l e s m below meth c E D cA b (1241, lo_law, [], h_fr, 228, 7820) := by
  have hc1 : ri_cv E (.float 1) = .int (xs 1) := by
    show Value.int (ri_sem E.2.2 1) = _
    rw [ri_sem_0 (by decide), X.2.2.2.2.2.1 1]
  have hv1 : (ri_ic E (.float 1)).toInt = (xs 1).toInt := by unfold ri_ic; rw [hc1]
  by_cases q0 : (xs 1).toInt ≤ (-1)
  · exact la_case X hL hend ck_38 (dc := [(6, .float 1, .int 7, true), (1, .float 1, .int 7, true), (2, .float 1, .int 0, true)]) (List.forall_mem_cons.mpr ⟨la_q 6 hv1 (show (ri_ic E (.int 7)).toInt = 7 from (show (7 : Int32).toInt = 7 from by decide)) (decide_eq_true (by omega)), List.forall_mem_cons.mpr ⟨la_q 1 hv1 (show (ri_ic E (.int 7)).toInt = 7 from (show (7 : Int32).toInt = 7 from by decide)) (decide_eq_true (by omega)), List.forall_mem_cons.mpr ⟨la_q 2 hv1 (show (ri_ic E (.int 0)).toInt = 0 from (show (0 : Int32).toInt = 0 from by decide)) (decide_eq_true (by omega)), fun _ h => absurd h List.not_mem_nil⟩⟩⟩) (as := [.float 1]) rfl (by decide) (fun j v h => by
        match j, h with
        | 0, h => cases h; exact hc1
        | j + 1, h => cases h) pr_38_0
  · by_cases q1 : (xs 1).toInt ≤ 0
    · exact la_case X hL hend ck_38 (dc := []) (fun _ h => absurd h List.not_mem_nil) (as := [.int 0]) rfl (by decide) (fun j v h => by
          match j, h with
          | 0, h => cases h; exact congrArg Value.int (Int32.toInt_inj.mp (show (0 : Int32).toInt = (xs 1).toInt from by rw [show (0 : Int32).toInt = 0 from by decide]; omega))
          | j + 1, h => cases h) pr_38_1
    · by_cases q2 : (xs 1).toInt ≤ 1
      · exact la_case X hL hend ck_38 (dc := []) (fun _ h => absurd h List.not_mem_nil) (as := [.int 1]) rfl (by decide) (fun j v h => by
            match j, h with
            | 0, h => cases h; exact congrArg Value.int (Int32.toInt_inj.mp (show (1 : Int32).toInt = (xs 1).toInt from by rw [show (1 : Int32).toInt = 1 from by decide]; omega))
            | j + 1, h => cases h) pr_38_2
      · by_cases q3 : (xs 1).toInt ≤ 2
        · exact la_case X hL hend ck_38 (dc := []) (fun _ h => absurd h List.not_mem_nil) (as := [.int 2]) rfl (by decide) (fun j v h => by
              match j, h with
              | 0, h => cases h; exact congrArg Value.int (Int32.toInt_inj.mp (show (2 : Int32).toInt = (xs 1).toInt from by rw [show (2 : Int32).toInt = 2 from by decide]; omega))
              | j + 1, h => cases h) pr_38_3
        · by_cases q4 : (xs 1).toInt ≤ 3
          · exact la_case X hL hend ck_38 (dc := []) (fun _ h => absurd h List.not_mem_nil) (as := [.int 3]) rfl (by decide) (fun j v h => by
                match j, h with
                | 0, h => cases h; exact congrArg Value.int (Int32.toInt_inj.mp (show (3 : Int32).toInt = (xs 1).toInt from by rw [show (3 : Int32).toInt = 3 from by decide]; omega))
                | j + 1, h => cases h) pr_38_4
          · by_cases q5 : (xs 1).toInt ≤ 4
            · exact la_case X hL hend ck_38 (dc := []) (fun _ h => absurd h List.not_mem_nil) (as := [.int 4]) rfl (by decide) (fun j v h => by
                  match j, h with
                  | 0, h => cases h; exact congrArg Value.int (Int32.toInt_inj.mp (show (4 : Int32).toInt = (xs 1).toInt from by rw [show (4 : Int32).toInt = 4 from by decide]; omega))
                  | j + 1, h => cases h) pr_38_5
            · by_cases q6 : (xs 1).toInt ≤ 5
              · exact la_case X hL hend ck_38 (dc := []) (fun _ h => absurd h List.not_mem_nil) (as := [.int 5]) rfl (by decide) (fun j v h => by
                    match j, h with
                    | 0, h => cases h; exact congrArg Value.int (Int32.toInt_inj.mp (show (5 : Int32).toInt = (xs 1).toInt from by rw [show (5 : Int32).toInt = 5 from by decide]; omega))
                    | j + 1, h => cases h) pr_38_6
              · by_cases q7 : (xs 1).toInt ≤ 6
                · exact la_case X hL hend ck_38 (dc := []) (fun _ h => absurd h List.not_mem_nil) (as := [.int 6]) rfl (by decide) (fun j v h => by
                      match j, h with
                      | 0, h => cases h; exact congrArg Value.int (Int32.toInt_inj.mp (show (6 : Int32).toInt = (xs 1).toInt from by rw [show (6 : Int32).toInt = 6 from by decide]; omega))
                      | j + 1, h => cases h) pr_38_7
                · by_cases q8 : (xs 1).toInt ≤ 7
                  · exact la_case X hL hend ck_38 (dc := []) (fun _ h => absurd h List.not_mem_nil) (as := [.int 7]) rfl (by decide) (fun j v h => by
                        match j, h with
                        | 0, h => cases h; exact congrArg Value.int (Int32.toInt_inj.mp (show (7 : Int32).toInt = (xs 1).toInt from by rw [show (7 : Int32).toInt = 7 from by decide]; omega))
                        | j + 1, h => cases h) pr_38_8
                  · exact la_case X hL hend ck_38 (dc := [(6, .float 1, .int 7, true), (1, .float 1, .int 7, true), (2, .float 1, .int 0, false), (4, .float 1, .int 6, true)]) (List.forall_mem_cons.mpr ⟨la_q 6 hv1 (show (ri_ic E (.int 7)).toInt = 7 from (show (7 : Int32).toInt = 7 from by decide)) (decide_eq_true (by omega)), List.forall_mem_cons.mpr ⟨la_q 1 hv1 (show (ri_ic E (.int 7)).toInt = 7 from (show (7 : Int32).toInt = 7 from by decide)) (decide_eq_true (by omega)), List.forall_mem_cons.mpr ⟨la_q 2 hv1 (show (ri_ic E (.int 0)).toInt = 0 from (show (0 : Int32).toInt = 0 from by decide)) (decide_eq_false (by omega)), List.forall_mem_cons.mpr ⟨la_q 4 hv1 (show (ri_ic E (.int 6)).toInt = 6 from (show (6 : Int32).toInt = 6 from by decide)) (decide_eq_true (by omega)), fun _ h => absurd h List.not_mem_nil⟩⟩⟩⟩) (as := [.float 1]) rfl (by decide) (fun j v h => by
                        match j, h with
                        | 0, h => cases h; exact hc1
                        | j + 1, h => cases h) pr_38_9
end LC38
