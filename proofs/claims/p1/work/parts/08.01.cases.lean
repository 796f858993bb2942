set_option maxRecDepth 100000 in
theorem ck_2 : la_cok 310 0 104 173 29 33 631 633 632 1474 1476 1475 = true := by decide +kernel
set_option maxRecDepth 100000 in
theorem pr_2_0 : ri_pr [] 104 173 [] = true := by decide +kernel
section LC2
variable {p : Program} {l : Launch} {e : Env} {s : State} {m : MethodId} {below : List Frame} {meth : Method} {c : Code} {E : ri_V} {D : va_G} {cA : Nat → ClassId} {b L : Nat} {xs : Nat → Int32}
theorem lc_2 (X : la_C p s m meth c E D cA b L xs) (hL : L = 6) (hend : ∀ (h : ri_H) (k z : Nat), k ≤ 600002 → z ≤ 7302232 → la_Ab p l e s m below meth c E D cA b (1266, lo_law, [], h, k, z)) : la_Ab p l e s m below meth c E D cA b (310, lo_law, [], h_fr, 228, 7820) := by
  exact la_case X hL hend ck_2 (dc := []) (fun _ h => absurd h List.not_mem_nil) (as := []) rfl (by decide) (fun j v h => by cases h) pr_2_0
end LC2
