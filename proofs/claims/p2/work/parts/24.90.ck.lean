def km_ix (l : List Nat) : Bool := l.all (fun i => match km_CT[i]? with
  | some X => sx_ck km_G (sx_dpg km_gd) ri_md km_CT 5000 X
  | none => false)
set_option maxRecDepth 100000 in
theorem km_ckA : km_ix [30, 31, 92, 93, 198, 199, 200, 201, 202, 203, 204, 205, 206, 296, 297, 298, 299, 300, 301, 302, 303, 304, 305] = true := by decide +kernel
set_option maxRecDepth 100000 in
theorem km_ckB : km_ix [327] = true := by decide +kernel
