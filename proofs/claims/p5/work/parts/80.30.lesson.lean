/-! LakeLearns.lesson: it returns, or it comes to its throw, the heap as it was -/
def ls_q : ri_M × ri_T := ((md_107.1.1, md_107.1.2.1, md_107.1.2.2.1, md_107.1.2.2.2.1, md_107.1.2.2.2.2.1, 1, 6), md_107.2)
def ls_k : List sx_K := [(22, ([], [], ([], [(-2147483648, 2147483647), (-2147483648, 2147483647)], [], [], [0, 1, 2, 3, 4, 5, 6, 7, 8, 9])), [(0, 0, 0), (0, 0, 0), (0, 0, 0), (0, 0, 0)])]
set_option maxRecDepth 100000 in
theorem ls_wk : sx_wk kc_G (sx_dpg kc_gd) 2 (fun _ => []) (ri_look2 ls_q.2) ls_q.1.2.2.2.1 kc_139.1.2.2.1 ls_k [22] sx_r00 (fun en pc A => sx_step kc_G (sx_dpg kc_gd) 2 [] (sx_cts1 kc_C2 (sx_hl [(6, [12])] pc)) (ri_bud ri_md) ls_q.1 en pc A) 5000 true 0 kc_139.1.2.1 = true := by decide +kernel
set_option maxRecDepth 100000 in
theorem kc_dpt : kc_C2.all (fun X => Nat.blt X.2.2.2.1 29) = true := by decide +kernel
set_option maxRecDepth 100000 in
theorem ls_t7 : ls_q.2.all (fun b => b.2.all (fun x => Nat.blt x.1 70000)) = true := by decide +kernel
def ls_Z (p : List Int) (h : ri_H) (f : ri_F) : Prop := f.1 = 22 ∧ f.2.2.1 = [] ∧ f.2.2.2.2.1 = 0 ∧ f.2.2.2.2.2 = 0 ∧ sx_Fr p [] h f.2.2.2.1
theorem ls_ri {h : ri_H} (HI : sx_Inv kc_G h) (HJ : ∀ j ∈ cs_jc, sx_Jg kc_gd j h) (a b : Int32) : ∃ (n : Nat) (f' : ri_F), ri_go (ri_st [] (ri_calE ri_md 29) (ri_bud ri_md) ls_q) n (0, ri_as 0 [.ref 0, .int a, .int b], [], h, 0, 0) = some f' ∧ f'.2.2.2.1 = h ∧ f'.2.2.2.2.1 = 0 ∧ f'.2.2.2.2.2 = 0 ∧ ((f'.1 = 70000 ∧ ∃ x : Int32, f'.2.2.1 = [.int x]) ∨ (f'.1 = 22 ∧ f'.2.2.1 = [])) := by
  have hst : sx_sts [a.toInt, b.toInt] ((2, 0, 0) :: cg_ts 0 2) (.ref 0 :: [a, b].map Value.int) := ⟨rfl, cg_sts [a, b] 0 (fun i x hx => by
    match i, hx with
    | 0, hx => cases hx; rfl
    | 1, hx => cases hx; rfl
    | i + 2, hx => cases hx)⟩
  have HS : sx_S kc_G (sx_Jg kc_gd) [a.toInt, b.toInt] kc_139.1.2.1 (ri_as 0 [.ref 0, .int a, .int b]) [] h := by
    have e3 : kc_139.1.2.1 = cg_en 2 [] [(-2147483648, 2147483647), (-2147483648, 2147483647)] cs_jc := rfl
    rw [e3]
    exact ⟨fun q hq => (sx_as_ok hst q hq).2, trivial, fun o ho => absurd ho List.not_mem_nil, cs_full [a, b], fun f hf => absurd hf List.not_mem_nil, fun c hc => absurd hc List.not_mem_nil, HJ, HI⟩
  have hC : ∀ pc, ∀ C ∈ sx_cts1 kc_C2 (sx_hl [(6, [12])] pc), sx_CV kc_G (sx_Jg kc_gd) C (ri_calE ri_md 29) := fun pc C hCm => by
    obtain ⟨k, Y, k1, k2, rfl⟩ := sx_cts1_in hCm
    have hd := Nat.blt_eq.mp (List.all_eq_true.mp kc_dpt Y (List.mem_of_getElem? k2))
    exact kc_all 29 k Y k2 hd 29 (by omega)
  have hpc : ∀ pc en, ri_look2 ls_q.2 pc = some en → pc ≠ 70000 := fun pc en hl => by
    obtain ⟨b, b1, b2⟩ := sx_look2_ok _ _ _ hl
    have := Nat.blt_eq.mp (List.all_eq_true.mp (List.all_eq_true.mp ls_t7 b b1) (pc, en) b2)
    dsimp only at this
    omega
  have key := sx_wz_ok (Z := ls_Z [a.toInt, b.toInt] h) (p0 := [a.toInt, b.toInt]) (M := []) (h0 := h) (cs := fun pc => sx_cts1 kc_C2 (sx_hl [(6, [12])] pc)) (sx_HJg kc_G kc_gd) hC hpc (kp := [22]) (by decide) (sps := fun _ => []) rfl (p1 := [a.toInt, b.toInt]) (r0 := sx_r00) (fun t ht => by
      unfold sx_r00 at ht
      simp only [List.mem_cons, List.mem_nil_iff, or_false] at ht
      rcases ht with rfl | rfl | rfl | rfl <;> exact ⟨_, rfl⟩) (ks := ls_k) (fun c e lo st h1 hc hS hF _ => by
      unfold ls_k at hc
      have hc := List.mem_singleton.mp hc
      subst hc
      have h2 : sx_sts ([a.toInt, b.toInt] ++ e) [] st := hS.2.1
      match st, h2 with
      | [], _ => exact ⟨0, _, rfl, Or.inr ⟨rfl, rfl, rfl, rfl, hF⟩⟩
      | _ :: _, h2 => exact h2.elim) (fun c hc p h lo st _ t ht => by
      unfold ls_k at hc
      have hc := List.mem_singleton.mp hc
      subst hc
      have ht : t ∈ [((0, 0, 0) : sx_v), (0, 0, 0), (0, 0, 0), (0, 0, 0)] := ht
      simp only [List.mem_cons, List.mem_nil_iff, or_false] at ht
      rcases ht with rfl | rfl | rfl | rfl <;> exact ⟨_, rfl⟩) 5000 true 0 kc_139.1.2.1 [] _ [] h ⟨[], rfl⟩ ls_wk (by rw [List.append_nil]; exact HS) (sx_Fr.rf _ _ _)
  obtain ⟨n, f', g1, g2⟩ := key
  have hkd := kd_go (fun f => kd_st (kd_calE 29)) n _ f' g1
  have heq : f'.2.2.2.2.1 = 0 → sx_Fr [a.toInt, b.toInt] [] h f'.2.2.2.1 → f'.2.2.2.1 = h := fun e0 hF => by
    apply List.ext_getElem?
    intro k
    exact kd_cell (hkd.2 e0) (fun i => hF k i (fun hin => by
      obtain ⟨m, m1, -⟩ := hin
      exact absurd m1 List.not_mem_nil))
  rcases g2 with ⟨f1, f2, f3, f4, x, x1, e, x2, x3⟩ | ⟨f1, f2, f3, f4, f5⟩
  · refine ⟨n, f', g1, heq f2 x3, f2, f3, Or.inl ⟨f1, ?_⟩⟩
    have x1 : x ∈ kc_139.1.2.2.1 := x1
    have x1 := List.mem_singleton.mp x1
    have s2 := x2.2.1
    rw [x1] at s2
    match hs : f'.2.2.1, s2 with
    | [v], s2 =>
      obtain ⟨y, rfl, -⟩ := sx_g_isn (a := (1, 2, 0)) rfl s2.1
      exact ⟨y, rfl⟩
    | [], s2 => exact s2.elim
    | _ :: _ :: _, s2 => exact s2.2.elim
  · exact ⟨n, f', g1, heq f3 f5, f3, f4, Or.inr ⟨f1, f2⟩⟩
