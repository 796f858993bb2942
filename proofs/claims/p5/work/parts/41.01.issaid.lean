/-! isSaid by hand -/
def hs_js : List Nat := [0, 1, 4, 5, 6, 7, 8, 9, 10]
def hs_M : sx_M := [(14, (0, 0, 0), (0, 0, 44))]
def hs_iv (v : Int × Int) (n : Int × Int) : sx_I := [(0, 7), (0, 43), n, (0, 129), v]
/-- at the loop's head: names k, i, n, u = 3 i, v = s[175 + u] -/
def hs_A (v n : Int × Int) : sx_A := ([(0, (2, 0, 0)), (1, (1, 0, 0)), (2, (1, 2, 0)), (3, (1, 1, 0))], [], ([(2, (1, 3, 175), (1, 4, 0))], hs_iv v n, [(3, (1, 3, 0), (0, 0, 3), (1, 1, 0))], [], hs_js))
def hs_T (v n : Int × Int) (d : Int) : sx_K := (4, ([(0, (2, 0, 0)), (1, (1, 0, 0)), (2, (1, 2, d)), (3, (1, 1, 1))], [], ([], hs_iv v n, [], [], hs_js)), [(0, 0, 0), (0, 0, 0), (0, 0, 0), (0, 0, 0)])
def hs_cs (pc : Nat) : List sx_C := bif Nat.beq pc 199 then [km_222.1] else []
def hs_wk (v n : Int × Int) (d : Int) : Bool := match ri_md[250]? with
  | some q => sx_wk km_G (mj_dp km_gd) 5 (fun _ => []) (ri_look2 q.2) q.1.2.2.2.1 [hd_x (hs_iv v n) (0, 1) hs_js] [hs_T v n d] [4] sx_r00 (fun en pc A => sx_step km_G (mj_dp km_gd) 5 hs_M (hs_cs pc) (ri_bud ri_md) q.1 en pc A) 400 true 4 (hs_A v n)
  | none => false
set_option maxRecDepth 100000 in
theorem hs_wk1 : hs_wk (-6000, 19) (0, 43) 1 = true := by decide +kernel
set_option maxRecDepth 100000 in
theorem hs_wk2 : hs_wk (23, 23000) (0, 43) 1 = true := by decide +kernel
set_option maxRecDepth 100000 in
theorem hs_wk3 : hs_wk (20, 20) (1, 43) 0 = true := by decide +kernel
set_option maxRecDepth 100000 in
theorem hs_wk4 : hs_wk (21, 22) (2, 43) (-1) = true := by decide +kernel
/-- the end: names k, c = i = s[174], n -/
def hs_E : sx_A := ([(0, (2, 0, 0)), (1, (1, 0, 0)), (2, (1, 2, 0)), (3, (1, 1, 0))], [], ([(2, (0, 0, 174), (1, 1, 0))], [(0, 7), (0, 44), (0, 60)], [], [], hs_js))
def hs_wkE : Bool := match ri_md[250]? with
  | some q => sx_wk km_G (mj_dp km_gd) 3 (fun _ => []) (ri_look2 q.2) q.1.2.2.2.1 [hd_x [(0, 7), (0, 44), (0, 60)] (0, 1) hs_js] [] [] sx_r00 (fun en pc A => sx_step km_G (mj_dp km_gd) 3 hs_M (hs_cs pc) (ri_bud ri_md) q.1 en pc A) 400 true 4 hs_E
  | none => false
set_option maxRecDepth 100000 in
theorem hs_wk5 : hs_wkE = true := by decide +kernel
/-- the beginning -/
def hs_B : sx_K := (4, ([(0, (2, 0, 0)), (1, (1, 0, 0)), (2, (0, 0, 0)), (3, (0, 0, 0))], [], ([], [(0, 7)], [], [], hs_js)), [(0, 0, 0), (0, 0, 0), (0, 0, 0), (0, 0, 0)])
def hs_wkB : Bool := match ri_md[250]? with
  | some q => sx_wk km_G (mj_dp km_gd) 1 (fun _ => []) (ri_look2 q.2) q.1.2.2.2.1 [hd_x [(0, 7)] (0, 1) hs_js] [hs_B] [4] sx_r00 (fun en pc A => sx_step km_G (mj_dp km_gd) 1 hs_M (hs_cs pc) (ri_bud ri_md) q.1 en pc A) 400 true 0 km_300.1.2.1
  | none => false
set_option maxRecDepth 100000 in
theorem hs_wk6 : hs_wkB = true := by decide +kernel
set_option maxRecDepth 100000 in
theorem hs_ctx : km_300.1.2.2.1 = [hd_x [(0, 7)] (0, 1) hs_js] ∧ km_300.1.2.2.2 = hs_M ∧ km_300.1.1 = (250, 2) ∧ km_300.2.2.2.1 = 3 ∧ km_300.1.2.1 = ([(0, (2, 0, 0)), (1, (1, 0, 0))], [], ([], [(0, 7)], [], [], hs_js)) := ⟨rfl, rfl, rfl, rfl, rfl⟩
