/-! ice by hand: N more days to the ice, N at most 99 -/
def hi_M : sx_M := [(0, (0, 0, 0), (0, 0, 0))]
def hi_iv1 : sx_I := [(0, 99), (0, 600), (0, 99), (1, 50), (0, 699)]
/-- the day of the ice: names n, a = s[96], b = s[8], s[9], day = a + n -/
def hi_A1 : sx_A := ([(0, (2, 0, 0)), (1, (1, 0, 0))], [], ([(2, (0, 0, 96), (1, 1, 0)), (2, (0, 0, 8), (1, 2, 0)), (2, (0, 0, 9), (1, 3, 0))], hi_iv1, [(4, (1, 4, 0), (1, 1, 0), (1, 0, 0)), (2, (1, 2, 0), (1, 4, 0), (0, 0, 100))], [], hs_js))
def hi_cs1 (pc : Nat) : List sx_C := bif Nat.beq pc 29 then [km_195.1] else []
def hi_cs2 (pc : Nat) : List sx_C := bif Nat.beq pc 29 then [km_196.1] else []
def hi_A2 : sx_A := ([(0, (2, 0, 0)), (1, (1, 0, 0))], [], ([], [(0, 98)], [], [], hs_js))
def hi_T : sx_K := (19, ([(0, (2, 0, 0)), (1, (1, 0, 1))], [], ([], [(0, 98)], [], [], hs_js)), [(0, 0, 0), (0, 0, 0), (0, 0, 0), (0, 0, 0)])
def hi_B : sx_K := (19, ([(0, (2, 0, 0)), (1, (0, 0, 0))], [], ([(2, (0, 0, 8), (1, 0, 0))], [(0, 99)], [], [], hs_js)), [(0, 0, 0), (0, 0, 0), (0, 0, 0), (0, 0, 0)])
def hi_w1 : Bool := match ri_md[233]? with
  | some q => sx_wk km_G (mj_dp km_gd) 5 (fun _ => []) (ri_look2 q.2) q.1.2.2.2.1 [hd_x hi_iv1 (-1, 99) hs_js] [] [] sx_r00 (fun en pc A => sx_step km_G (mj_dp km_gd) 5 hi_M (hi_cs1 pc) (ri_bud ri_md) q.1 en pc A) 400 true 19 hi_A1
  | none => false
def hi_w2 : Bool := match ri_md[233]? with
  | some q => sx_wk km_G (mj_dp km_gd) 1 (fun _ => []) (ri_look2 q.2) q.1.2.2.2.1 [hd_x [(0, 98)] (-1, 99) hs_js] [hi_T] [19] sx_r00 (fun en pc A => sx_step km_G (mj_dp km_gd) 1 hi_M (hi_cs2 pc) (ri_bud ri_md) q.1 en pc A) 400 true 19 hi_A2
  | none => false
def hi_w3 : Bool := match ri_md[233]? with
  | some q => sx_wk km_G (mj_dp km_gd) 0 (fun _ => []) (ri_look2 q.2) q.1.2.2.2.1 [hd_x [] (-1, 99) hs_js] [hi_B] [19] sx_r00 (fun en pc A => sx_step km_G (mj_dp km_gd) 0 hi_M (hi_cs2 pc) (ri_bud ri_md) q.1 en pc A) 400 true 0 ([(0, (2, 0, 0))], [], ([], [], [], [], hs_js))
  | none => false
set_option maxRecDepth 100000 in
theorem hi_wk1 : hi_w1 = true := by decide +kernel
set_option maxRecDepth 100000 in
theorem hi_wk2 : hi_w2 = true := by decide +kernel
set_option maxRecDepth 100000 in
theorem hi_wk3 : hi_w3 = true := by decide +kernel
set_option maxRecDepth 100000 in
theorem hi_ctx : km_290.1.2.2.1 = [hd_x [] (-1, 99) hs_js] ∧ km_290.1.2.2.2 = hi_M ∧ km_290.1.1 = (233, 1) ∧ km_290.2.2.2.1 = 3 ∧ km_290.1.2.1 = ([(0, (2, 0, 0))], [], ([], [], [], [], hs_js)) := ⟨rfl, rfl, rfl, rfl, rfl⟩
set_option maxRecDepth 100000 in
theorem hi_q : (match ri_md[233]? with
  | some q => q.2.all (fun b => b.2.all (fun x => Nat.blt x.1 70000)) && Nat.ble 1 q.1.2.2.1
  | none => false) = true := by decide +kernel
set_option maxRecDepth 100000 in
theorem hi_G2 : (match km_G[2]? with
  | some c => (match sx_run c.2 96 with
    | some w => Nat.beq w.1 0 && (sx_beq w.2.1 0 && sx_beq w.2.2 600)
    | none => false) && (match sx_run c.2 9 with
    | some w => Nat.beq w.1 0
    | none => false)
  | none => false) = true := by decide +kernel
section HIL
variable {q : ri_M × ri_T} {dd : Nat} {h h0 : ri_H}
theorem hi_slots (HI : sx_Inv km_G h) : (∃ X : Int32, sx_at h 2 96 = some (.int X) ∧ 0 ≤ X.toInt ∧ X.toInt ≤ 600) ∧ ∃ X : Int32, sx_at h 2 9 = some (.int X) := by
  have hg := hi_G2
  split at hg
  · next c hc =>
    simp only [Bool.and_eq_true] at hg
    obtain ⟨g1, g2⟩ := hg
    obtain ⟨vs, v1, -, v3⟩ := HI 2 c hc
    constructor
    · split at g1
      · next w hw =>
        simp only [Bool.and_eq_true] at g1
        obtain ⟨v, v4, v5⟩ := v3 96 w hw
        unfold sx_slot at v5
        rw [show w.1 = 0 from Nat.eq_of_beq_eq_true g1.1] at v5
        obtain ⟨X, rfl, x1, x2⟩ := v5
        have := sx_beq_ok g1.2.1
        have := sx_beq_ok g1.2.2
        exact ⟨X, by rw [show (96 : Int) = ((96 : Nat) : Int) from rfl, sx_at_of v1]; exact v4, by omega, by omega⟩
      · cases g1
    · split at g2
      · next w hw =>
        obtain ⟨v, v4, v5⟩ := v3 9 w hw
        unfold sx_slot at v5
        rw [show w.1 = 0 from Nat.eq_of_beq_eq_true g2] at v5
        obtain ⟨X, rfl, x1, x2⟩ := v5
        exact ⟨X, by rw [show (9 : Int) = ((9 : Nat) : Int) from rfl, sx_at_of v1]; exact v4⟩
      · cases g2
  · cases hg
theorem hi_fr (hF : sx_Fr [] hi_M h0 h) (i : Int) : sx_at h 2 i = sx_at h0 2 i := hF 2 i (by
  rintro ⟨m, m1, m2, -⟩
  have m1 := List.mem_singleton.mp m1
  rw [m1] at m2
  cases m2)
theorem hi_loop (hL1 : sx_CV km_G (mj_J km_gd) km_195.1 (ri_calE ri_md dd)) (hL2 : sx_CV km_G (mj_J km_gd) km_196.1 (ri_calE ri_md dd)) (hq : ri_md[233]? = some q) {A8 A96 : Int32} {N : Nat} (h8 : sx_at h0 2 8 = some (.int A8)) (h96 : sx_at h0 2 96 = some (.int A96)) (b8 : 0 ≤ A8.toInt ∧ A8.toInt ≤ 99) (b96 : 0 ≤ A96.toInt ∧ A96.toInt ≤ 600) (hN : N ≤ 99) (hday : A8.toInt = (A96.toInt + (N : Int)).tmod 100) :
    ∀ (m n : Nat) (lo : List (Nat × Value)) (h : ri_H), n + m = N → sx_los [(n : Int)] [(0, (2, 0, 0)), (1, (1, 0, 0))] lo → sx_Inv km_G h → (∀ j ∈ hs_js, mj_J km_gd j h) → sx_Fr [] hi_M h0 h → hd_G (ri_st [] (ri_calE ri_md dd) (ri_bud ri_md) q) km_G (mj_J km_gd) hi_M h0 (-1, 99) hs_js (19, lo, [], h, 0, 0) := by
  have hpc : ∀ pc en, ri_look2 q.2 pc = some en → pc ≠ 70000 := fun pc en hl => by
    have := hi_q
    rw [hq] at this
    simp only [Bool.and_eq_true] at this
    obtain ⟨b, b1, b2⟩ := sx_look2_ok _ _ _ hl
    have := Nat.blt_eq.mp (List.all_eq_true.mp (List.all_eq_true.mp this.1 b b1) (pc, en) b2)
    dsimp only at this
    omega
  have hC1 : ∀ pc, ∀ C ∈ hi_cs1 pc, sx_CV km_G (mj_J km_gd) C (ri_calE ri_md dd) := fun pc C hCm => by
    unfold hi_cs1 at hCm
    cases hb : Nat.beq pc 29 with
    | false => rw [hb] at hCm; exact absurd hCm List.not_mem_nil
    | true => rw [hb] at hCm; rw [List.mem_singleton.mp hCm]; exact hL1
  have hC2 : ∀ pc, ∀ C ∈ hi_cs2 pc, sx_CV km_G (mj_J km_gd) C (ri_calE ri_md dd) := fun pc C hCm => by
    unfold hi_cs2 at hCm
    cases hb : Nat.beq pc 29 with
    | false => rw [hb] at hCm; exact absurd hCm List.not_mem_nil
    | true => rw [hb] at hCm; rw [List.mem_singleton.mp hCm]; exact hL2
  intro m
  induction m with
  | zero =>
    intro n lo h hnm hlo HI HJs hF
    have hw := hi_wk1
    unfold hi_w1 at hw
    rw [hq] at hw
    obtain ⟨-, X9, x9⟩ := hi_slots HI
    have e8 := (hi_fr hF 8).trans h8
    have e96 := (hi_fr hF 96).trans h96
    have hJ1 : sx_Jg km_gd 1 h := HJs 1 (by decide)
    have b9 : 1 ≤ X9.toInt ∧ X9.toInt ≤ 50 := hJ1 ((9999, 0), (2, 8, 0, 99), (2, 9, 1, 50)) rfl 1 0 A8 X9 rfl (by decide) (by decide) e8 b8.1 b8.2 x9
    have hP : sx_P hi_iv1 [(n : Int), A96.toInt, A8.toInt, X9.toInt, A96.toInt + (n : Int)] := ⟨⟨by dsimp only; omega, by dsimp only; omega⟩, b96, b8, b9, ⟨by dsimp only; omega, by dsimp only; omega⟩, trivial⟩
    refine hd_wk (p := [(n : Int), A96.toInt, A8.toInt, X9.toInt, A96.toInt + (n : Int)]) (iv := hi_iv1) (ks := []) (mj_HJ km_G km_gd) hC1 hpc rfl rfl hP (fuel := 400) (A := hi_A1) hw ⟨hlo.ext [A96.toInt, A8.toInt, X9.toInt, A96.toInt + (n : Int)], trivial, fun o ho => ?_, hP, fun f hf => ?_, fun c hc => absurd hc List.not_mem_nil, HJs, HI⟩ hF (fun c hc => absurd hc List.not_mem_nil) (fun c _ _ _ _ hc => absurd hc List.not_mem_nil)
    · have ho : o ∈ [((2 : Nat), ((0 : Nat), (0 : Nat), (96 : Int)), ((1 : Nat), (1 : Nat), (0 : Int))), (2, (0, 0, 8), (1, 2, 0)), (2, (0, 0, 9), (1, 3, 0))] := ho
      simp only [List.mem_cons, List.mem_nil_iff, or_false] at ho
      rcases ho with rfl | rfl | rfl
      · exact ⟨96, .int A96, rfl, e96, A96, rfl, by show some (A96.toInt + 0) = _; rw [Int.add_zero]⟩
      · exact ⟨8, .int A8, rfl, e8, A8, rfl, by show some (A8.toInt + 0) = _; rw [Int.add_zero]⟩
      · exact ⟨9, .int X9, rfl, x9, X9, rfl, by show some (X9.toInt + 0) = _; rw [Int.add_zero]⟩
    · have hf : f ∈ [((4 : Nat), ((1 : Nat), (4 : Nat), (0 : Int)), ((1 : Nat), (1 : Nat), (0 : Int)), ((1 : Nat), (0 : Nat), (0 : Int))), (2, (1, 2, 0), (1, 4, 0), (0, 0, 100))] := hf
      simp only [List.mem_cons, List.mem_nil_iff, or_false] at hf
      rcases hf with rfl | rfl
      · exact ⟨A96.toInt + (n : Int), A96.toInt, (n : Int), by show some (A96.toInt + (n : Int) + 0) = _; rw [Int.add_zero], by show some (A96.toInt + 0) = _; rw [Int.add_zero], by show some ((n : Int) + 0) = _; rw [Int.add_zero], rfl⟩
      · exact ⟨A8.toInt, A96.toInt + (n : Int), 100, by show some (A8.toInt + 0) = _; rw [Int.add_zero], by show some (A96.toInt + (n : Int) + 0) = _; rw [Int.add_zero], rfl, by rw [hday, show n = N by omega]⟩
  | succ m ih =>
    intro n lo h hnm hlo HI HJs hF
    have hw := hi_wk2
    unfold hi_w2 at hw
    rw [hq] at hw
    have hP : sx_P [(0, 98)] [(n : Int)] := ⟨⟨by dsimp only; omega, by dsimp only; omega⟩, trivial⟩
    refine hd_wk (p := [(n : Int)]) (iv := [(0, 98)]) (ks := [hi_T]) (mj_HJ km_G km_gd) hC2 hpc rfl rfl hP (fuel := 400) (A := hi_A2) hw ⟨hlo, trivial, fun o ho => absurd ho List.not_mem_nil, hP, fun f hf => absurd hf List.not_mem_nil, fun c hc => absurd hc List.not_mem_nil, HJs, HI⟩ hF (fun c hc t ht => ?_) (fun c e lo' st' h' hc hS hF' => ?_)
    · rw [List.mem_singleton.mp hc] at ht
      have ht : t ∈ [((0 : Nat), (0 : Nat), (0 : Int)), (0, 0, 0), (0, 0, 0), (0, 0, 0)] := ht
      simp only [List.mem_cons, List.mem_nil_iff, or_false] at ht
      rcases ht with rfl | rfl | rfl | rfl <;> rfl
    · have hc := List.mem_singleton.mp hc
      subst hc
      obtain ⟨s1, s2, -, -, -, -, s7, s8⟩ := hS
      have e1 : st' = [] := by
        cases st' with
        | nil => rfl
        | cons a s => exact s2.elim
      subst e1
      refine ih (n + 1) lo' h' (by omega) (fun y hy => ?_) s8 s7 hF'
      have s1 : sx_los ([(n : Int)] ++ e) [(0, (2, 0, 0)), (1, (1, 0, 1))] lo' := s1
      simp only [List.mem_cons, List.mem_nil_iff, or_false] at hy
      rcases hy with rfl | rfl
      · exact s1 (0, (2, 0, 0)) (by simp)
      · obtain ⟨w, w1, x, w2, w3⟩ := s1 (1, (1, 0, 1)) (by simp)
        have w3 : some ((n : Int) + 1) = some x.toInt := w3
        exact ⟨w, w1, x, w2, by show some (((n + 1 : Nat) : Int) + 0) = _; rw [← w3, Int.add_zero]; rfl⟩
theorem hi_Vd (hL1 : sx_Vd km_G (mj_J km_gd) ri_md km_195) (hL2 : sx_Vd km_G (mj_J km_gd) ri_md km_196) (hd1 : km_195.2.2.2.1 ≤ 2) (hd2 : km_196.2.2.2.1 ≤ 2) : sx_Vd km_G (mj_J km_gd) ri_md km_290 := by
  obtain ⟨c1, c2, c3, c4, c5⟩ := hi_ctx
  have hqq := hi_q
  split at hqq
  · next q hq =>
    simp only [Bool.and_eq_true, Nat.ble_eq] at hqq
    refine hd_Vd (q := q) (by rw [c3]; exact hq) (by rw [c3]; exact hqq.2) (by rw [c4]; decide) (fun d hd' p0 as h HS => ?_)
    rw [c4] at hd'
    rw [c1, c2]
    rw [c5] at HS
    obtain ⟨s1, s2, -, s4, -, -, s7, s8⟩ := HS
    match p0, s4 with
    | [], s4 =>
      have hP : sx_P [] [] := trivial
      refine (hd_Gd rfl hP).mpr ?_
      have hw := hi_wk3
      unfold hi_w3 at hw
      rw [hq] at hw
      have hpc : ∀ pc en, ri_look2 q.2 pc = some en → pc ≠ 70000 := fun pc en hl => by
        obtain ⟨b, b1, b2⟩ := sx_look2_ok _ _ _ hl
        have := Nat.blt_eq.mp (List.all_eq_true.mp (List.all_eq_true.mp hqq.1 b b1) (pc, en) b2)
        dsimp only at this
        omega
      have hC2 : ∀ pc, ∀ C ∈ hi_cs2 pc, sx_CV km_G (mj_J km_gd) C (ri_calE ri_md d) := fun pc C hCm => by
        unfold hi_cs2 at hCm
        cases hb : Nat.beq pc 29 with
        | false => rw [hb] at hCm; exact absurd hCm List.not_mem_nil
        | true => rw [hb] at hCm; rw [List.mem_singleton.mp hCm]; exact hL2 d (by omega)
      refine hd_wk (p := []) (iv := []) (ks := [hi_B]) (mj_HJ km_G km_gd) hC2 hpc rfl rfl hP (fuel := 400) (A := ([(0, (2, 0, 0))], [], ([], [], [], [], hs_js))) hw ⟨s1, s2, fun o ho => absurd ho List.not_mem_nil, hP, fun f hf => absurd hf List.not_mem_nil, fun c hc => absurd hc List.not_mem_nil, s7, s8⟩ (sx_Fr.rf _ _ _) (fun c hc t ht => ?_) (fun cc e lo' st' h' hc hS hF' => ?_)
      · rw [List.mem_singleton.mp hc] at ht
        have ht : t ∈ [((0 : Nat), (0 : Nat), (0 : Int)), (0, 0, 0), (0, 0, 0), (0, 0, 0)] := ht
        simp only [List.mem_cons, List.mem_nil_iff, or_false] at ht
        rcases ht with rfl | rfl | rfl | rfl <;> rfl
      · have hc := List.mem_singleton.mp hc
        subst hc
        obtain ⟨t1, t2, t3, t4, -, -, t7, t8⟩ := hS
        have e1 : st' = [] := by
          cases st' with
          | nil => rfl
          | cons a s => exact t2.elim
        subst e1
        have t4 : sx_P [(0, 99)] e := t4
        match e, t4 with
        | [b], t4 =>
          obtain ⟨i8, v8, i1, i2, i3⟩ := t3 (2, (0, 0, 8), (1, 0, 0)) (by exact List.mem_singleton.mpr rfl)
          have i1 : some (8 : Int) = some i8 := i1
          cases i1
          obtain ⟨A8, rfl, a8⟩ := i3
          have a8 : some (b + 0) = some A8.toInt := a8
          have a8 : b + 0 = A8.toInt := Option.some.inj a8
          have tb : 0 ≤ b ∧ b ≤ 99 := t4.1
          obtain ⟨⟨A96, x1, x2, x3⟩, -⟩ := hi_slots t8
          have h8 := (hi_fr hF' 8).symm.trans i2
          have h96 := (hi_fr hF' 96).symm.trans x1
          refine hi_loop (hL1 d (by omega)) (hL2 d (by omega)) hq (N := ((A8.toInt - A96.toInt) % 100).toNat) h8 h96 ⟨by omega, by omega⟩ ⟨x2, x3⟩ (by omega) ?_ ((A8.toInt - A96.toInt) % 100).toNat 0 lo' h' (by omega) (fun y hy => ?_) t8 t7 hF'
          · rw [Int.tmod_eq_emod_of_nonneg (by omega)]
            omega
          · have t1 : sx_los ([] ++ [b]) [(0, (2, 0, 0)), (1, (0, 0, 0))] lo' := t1
            simp only [List.mem_cons, List.mem_nil_iff, or_false] at hy
            rcases hy with rfl | rfl
            · exact t1 (0, (2, 0, 0)) (by simp)
            · exact t1 (1, (0, 0, 0)) (by simp)
  · cases hqq
end HIL
