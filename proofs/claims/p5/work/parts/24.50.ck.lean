def km_ix (l : List Nat) : Bool := l.all (fun i => match km_CT[i]? with
  | some X => sx_ck km_G (mj_dp km_gd) ri_md km_CT 5000 X
  | none => false)
set_option maxRecDepth 100000 in
theorem km_ck0 : km_ix [0, 1, 2, 3, 4, 5, 6, 7, 8, 9, 10, 11, 12, 13, 14, 15, 16, 17, 18, 19] = true := by decide +kernel
set_option maxRecDepth 100000 in
theorem km_ck1 : km_ix [20, 21, 22, 23, 24, 25, 26, 27, 28, 29, 30, 31, 32, 33, 34, 35, 36, 37, 38, 39] = true := by decide +kernel
set_option maxRecDepth 100000 in
theorem km_ck2 : km_ix [40, 41, 42, 43, 44, 45, 46, 47, 48, 49, 50, 51, 52, 53, 54, 55, 56, 57, 58, 59] = true := by decide +kernel
set_option maxRecDepth 100000 in
theorem km_ck3 : km_ix [60, 61, 62, 63, 64, 65, 66, 67, 68, 69, 70, 71, 72, 73, 74, 75, 76, 77, 78, 79] = true := by decide +kernel
set_option maxRecDepth 100000 in
theorem km_ck4 : km_ix [80, 81, 82, 83, 84, 85, 88, 89, 90, 91, 92, 93, 94, 95, 96, 97, 98, 99, 100, 101] = true := by decide +kernel
