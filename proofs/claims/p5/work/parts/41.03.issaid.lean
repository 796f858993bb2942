set_option maxRecDepth 100000 in
theorem hs_q : (match ri_md[250]? with
  | some q => q.2.all (fun b => b.2.all (fun x => Nat.blt x.1 70000)) && Nat.ble 2 q.1.2.2.1
  | none => false) = true := by decide +kernel
set_option maxRecDepth 100000 in
theorem hs_G2 : (match km_G[2]? with
  | some c => (match sx_hull c.2 175 304 with
    | some w => Nat.beq w.1 0 && (sx_beq w.2.1 (-6000) && sx_beq w.2.2 23000)
    | none => false) && (match sx_run c.2 174 with
    | some w => Nat.beq w.1 0 && (sx_beq w.2.1 0 && sx_beq w.2.2 44)
    | none => false)
  | none => false) = true := by decide +kernel
section HSL
variable {q : ri_M × ri_T} {dd : Nat} {h h0 : ri_H}
/-- a slot of s, by its interval -/
theorem hs_slot (HI : sx_Inv km_G h) {i : Nat} (h1 : 175 ≤ i) (h2 : i ≤ 304) : ∃ X : Int32, sx_at h 2 (i : Int) = some (.int X) ∧ -6000 ≤ X.toInt ∧ X.toInt ≤ 23000 := by
  have hg := hs_G2
  split at hg
  · next c hc =>
    simp only [Bool.and_eq_true] at hg
    obtain ⟨g1, -⟩ := hg
    split at g1
    · next w hw =>
      simp only [Bool.and_eq_true] at g1
      obtain ⟨u, u1, u2, u3, u4⟩ := sx_hull_ok _ _ _ _ hw i h1 h2
      obtain ⟨vs, v1, -, v3⟩ := HI 2 c hc
      obtain ⟨v, v4, v5⟩ := v3 i u u1
      unfold sx_slot at v5
      rw [u2, show w.1 = 0 from Nat.eq_of_beq_eq_true g1.1] at v5
      obtain ⟨X, rfl, x1, x2⟩ := v5
      have := sx_beq_ok g1.2.1
      have := sx_beq_ok g1.2.2
      exact ⟨X, by rw [sx_at_of v1]; exact v4, by omega, by omega⟩
    · cases g1
  · cases hg
theorem hs_174 (HI : sx_Inv km_G h) : ∃ X : Int32, sx_at h 2 174 = some (.int X) ∧ 0 ≤ X.toInt ∧ X.toInt ≤ 44 := by
  have hg := hs_G2
  split at hg
  · next c hc =>
    simp only [Bool.and_eq_true] at hg
    obtain ⟨-, g1⟩ := hg
    split at g1
    · next w hw =>
      simp only [Bool.and_eq_true] at g1
      obtain ⟨vs, v1, -, v3⟩ := HI 2 c hc
      obtain ⟨v, v4, v5⟩ := v3 174 w hw
      unfold sx_slot at v5
      rw [show w.1 = 0 from Nat.eq_of_beq_eq_true g1.1] at v5
      obtain ⟨X, rfl, x1, x2⟩ := v5
      have := sx_beq_ok g1.2.1
      have := sx_beq_ok g1.2.2
      exact ⟨X, by rw [show (174 : Int) = ((174 : Nat) : Int) from rfl, sx_at_of v1]; exact v4, by omega, by omega⟩
    · cases g1
  · cases hg
theorem hs_fr (hF : sx_Fr [] hs_M h0 h) (i : Int) : sx_at h 2 i = sx_at h0 2 i := hF 2 i (by
  rintro ⟨m, m1, m2, -⟩
  have m1 := List.mem_singleton.mp m1
  rw [m1] at m2
  cases m2)
theorem hs_loop (hL : sx_CV km_G (mj_J km_gd) km_222.1 (ri_calE ri_md dd)) (hq : ri_md[250]? = some q) {k c : Int} (hk : 0 ≤ k ∧ k ≤ 7) (hc : mj_int h0 2 174 = some c) (hc0 : 0 ≤ c) (hc44 : c ≤ 44) {D : Nat} (hpf : mj_pf (fun i => mj_int h0 2 (175 + 3 * (i : Int))) c.toNat = some D) :
    ∀ (m i n : Nat) (lo : List (Nat × Value)) (h : ri_H), i + m = c.toNat → mj_pf (fun i => mj_int h0 2 (175 + 3 * (i : Int))) i = some n → sx_los [k, (i : Int), (n : Int)] [(0, (2, 0, 0)), (1, (1, 0, 0)), (2, (1, 2, 0)), (3, (1, 1, 0))] lo → sx_Inv km_G h → (∀ j ∈ hs_js, mj_J km_gd j h) → sx_Fr [] hs_M h0 h → hd_G (ri_st [] (ri_calE ri_md dd) (ri_bud ri_md) q) km_G (mj_J km_gd) hs_M h0 (0, 1) hs_js (4, lo, [], h, 0, 0) := by
  have hpc : ∀ pc en, ri_look2 q.2 pc = some en → pc ≠ 70000 := fun pc en hl => by
    have := hs_q
    rw [hq] at this
    simp only [Bool.and_eq_true] at this
    obtain ⟨b, b1, b2⟩ := sx_look2_ok _ _ _ hl
    have := Nat.blt_eq.mp (List.all_eq_true.mp (List.all_eq_true.mp this.1 b b1) (pc, en) b2)
    dsimp only at this
    omega
  have hC : ∀ pc, ∀ C ∈ hs_cs pc, sx_CV km_G (mj_J km_gd) C (ri_calE ri_md dd) := fun pc C hCm => by
    unfold hs_cs at hCm
    cases hb : Nat.beq pc 199 with
    | false => rw [hb] at hCm; exact absurd hCm List.not_mem_nil
    | true => rw [hb] at hCm; rw [List.mem_singleton.mp hCm]; exact hL
  intro m
  induction m with
  | zero =>
    intro i n lo h him hn hlo HI HJs hF
    have hle := mj_pf_le hn
    have hci : c = (i : Int) := by omega
    have hw := hs_wk5
    unfold hs_wkE at hw
    rw [hq] at hw
    have hP : sx_P [(0, 7), (0, 44), (0, 60)] [k, (i : Int), (n : Int)] := ⟨hk, ⟨by dsimp only; omega, by dsimp only; omega⟩, ⟨by dsimp only; omega, by dsimp only; omega⟩, trivial⟩
    obtain ⟨X, x1, x2, x3⟩ := hs_174 HI
    have hX : X.toInt = (i : Int) := by
      rw [hs_fr hF] at x1
      rw [mj_int_of x1] at hc
      have := Option.some.inj hc
      omega
    refine hd_wk (p := [k, (i : Int), (n : Int)]) (iv := [(0, 7), (0, 44), (0, 60)]) (ks := []) (mj_HJ km_G km_gd) hC hpc rfl rfl hP (fuel := 400) (A := hs_E) hw ⟨hlo, trivial, fun o ho => ?_, hP, fun f hf => absurd hf List.not_mem_nil, fun c hc => absurd hc List.not_mem_nil, HJs, HI⟩ hF (fun c hc => absurd hc List.not_mem_nil) (fun c _ _ _ _ hc => absurd hc List.not_mem_nil)
    rw [List.mem_singleton.mp ho]
    exact ⟨174, .int X, rfl, x1, X, rfl, by show some ((i : Int) + 0) = some X.toInt; rw [hX, Int.add_zero]⟩
  | succ m ih =>
    intro i n lo h him hn hlo HI HJs hF
    have hle := mj_pf_le hn
    obtain ⟨n', hn'⟩ : ∃ n', mj_pf (fun i => mj_int h0 2 (175 + 3 * (i : Int))) (i + 1) = some n' := mj_pf_pre (m := m) (D := D) (by rw [show i + 1 + m = c.toNat by omega]; exact hpf)
    obtain ⟨v, hv, hcase⟩ := mj_pf_nx hn hn'
    have hv : mj_int h0 2 (175 + 3 * (i : Int)) = some v := hv
    obtain ⟨X, x1, x2, x3⟩ := hs_slot HI (i := 175 + 3 * i) (by omega) (by omega)
    have x1 : sx_at h 2 (175 + 3 * (i : Int)) = some (.int X) := by
      rw [← x1]
      congr 1
    have hX : X.toInt = v := by
      have := x1
      rw [hs_fr hF] at this
      rw [mj_int_of this] at hv
      exact Option.some.inj hv
    have go : ∀ (vI nI : Int × Int) (d : Int), hs_wk vI nI d = true → (vI.1 ≤ v ∧ v ≤ vI.2) → (nI.1 ≤ (n : Int) ∧ (n : Int) ≤ nI.2) → (n : Int) + d = (n' : Int) → hd_G (ri_st [] (ri_calE ri_md dd) (ri_bud ri_md) q) km_G (mj_J km_gd) hs_M h0 (0, 1) hs_js (4, lo, [], h, 0, 0) := fun vI nI d hw hvI hnI hd => by
      unfold hs_wk at hw
      rw [hq] at hw
      have hP : sx_P (hs_iv vI nI) [k, (i : Int), (n : Int), 3 * (i : Int), v] := ⟨hk, ⟨by dsimp only; omega, by dsimp only; omega⟩, hnI, ⟨by dsimp only; omega, by dsimp only; omega⟩, hvI, trivial⟩
      refine hd_wk (p := [k, (i : Int), (n : Int), 3 * (i : Int), v]) (iv := hs_iv vI nI) (ks := [hs_T vI nI d]) (mj_HJ km_G km_gd) hC hpc rfl rfl hP (fuel := 400) (A := hs_A vI nI) hw ⟨hlo.ext [3 * (i : Int), v], trivial, fun o ho => ?_, hP, fun f hf => ?_, fun c hc => absurd hc List.not_mem_nil, HJs, HI⟩ hF (fun c hc t ht => ?_) (fun c e lo' st' h' hc hS hF' => ?_)
      · rw [List.mem_singleton.mp ho]
        exact ⟨175 + 3 * (i : Int), .int X, by show some (3 * (i : Int) + 175) = _; rw [Int.add_comm], x1, X, rfl, by show some (v + 0) = some X.toInt; rw [hX, Int.add_zero]⟩
      · rw [List.mem_singleton.mp hf]
        exact ⟨3 * (i : Int), 3, (i : Int), by show some (3 * (i : Int) + 0) = _; rw [Int.add_zero], rfl, by show some ((i : Int) + 0) = _; rw [Int.add_zero], rfl⟩
      · rw [List.mem_singleton.mp hc] at ht
        have ht : t ∈ [((0 : Nat), (0 : Nat), (0 : Int)), (0, 0, 0), (0, 0, 0), (0, 0, 0)] := ht
        simp only [List.mem_cons, List.mem_nil_iff, or_false] at ht
        rcases ht with rfl | rfl | rfl | rfl <;> rfl
      · have hc := List.mem_singleton.mp hc
        subst hc
        obtain ⟨s1, s2, -, -, -, -, s7, s8⟩ := hS
        have e1 : st' = [] := by
          cases st' with
          | nil => rfl
          | cons a s => exact s2.elim
        subst e1
        refine ih (i + 1) n' lo' h' (by omega) hn' (fun y hy => ?_) s8 s7 hF'
        have s1 : sx_los ([k, (i : Int), (n : Int), 3 * (i : Int), v] ++ e) [(0, (2, 0, 0)), (1, (1, 0, 0)), (2, (1, 2, d)), (3, (1, 1, 1))] lo' := s1
        simp only [List.mem_cons, List.mem_nil_iff, or_false] at hy
        rcases hy with rfl | rfl | rfl | rfl
        · exact s1 (0, (2, 0, 0)) (by simp)
        · exact s1 (1, (1, 0, 0)) (by simp)
        · obtain ⟨w, w1, x, w2, w3⟩ := s1 (2, (1, 2, d)) (by simp)
          have w3 : some ((n : Int) + d) = some x.toInt := w3
          exact ⟨w, w1, x, w2, by show some ((n' : Int) + 0) = _; rw [← w3, ← hd, Int.add_zero]⟩
        · obtain ⟨w, w1, x, w2, w3⟩ := s1 (3, (1, 1, 1)) (by simp)
          have w3 : some ((i : Int) + 1) = some x.toInt := w3
          exact ⟨w, w1, x, w2, by show some (((i + 1 : Nat) : Int) + 0) = _; rw [← w3, Int.add_zero]; rfl⟩
    rcases hcase with ⟨e, g1, g2⟩ | ⟨e, g1, g2⟩ | ⟨e1, e2, e3, g2⟩
    · exact go _ _ _ hs_wk3 ⟨by dsimp only; omega, by dsimp only; omega⟩ ⟨by dsimp only; omega, by dsimp only; omega⟩ (by omega)
    · exact go _ _ _ hs_wk4 ⟨by dsimp only; omega, by dsimp only; omega⟩ ⟨by dsimp only; omega, by dsimp only; omega⟩ (by omega)
    · by_cases e : v ≤ 19
      · exact go _ _ _ hs_wk1 ⟨by dsimp only; omega, by dsimp only; omega⟩ ⟨by dsimp only; omega, by dsimp only; omega⟩ (by omega)
      · exact go _ _ _ hs_wk2 ⟨by dsimp only; omega, by dsimp only; omega⟩ ⟨by dsimp only; omega, by dsimp only; omega⟩ (by omega)
theorem hs_Vd (hL : sx_Vd km_G (mj_J km_gd) ri_md km_222) (hd : km_222.2.2.2.1 ≤ 2) : sx_Vd km_G (mj_J km_gd) ri_md km_300 := by
  obtain ⟨c1, c2, c3, c4, c5⟩ := hs_ctx
  have hqq := hs_q
  split at hqq
  · next q hq =>
    simp only [Bool.and_eq_true, Nat.ble_eq] at hqq
    refine hd_Vd (q := q) (by rw [c3]; exact hq) (by rw [c3]; exact hqq.2) (by rw [c4]; decide) (fun d hd' p0 as h HS => ?_)
    rw [c4] at hd'
    rw [c1, c2]
    rw [c5] at HS
    obtain ⟨s1, s2, -, s4, -, -, s7, s8⟩ := HS
    match p0, s4 with
    | [k], s4 =>
      have hP : sx_P [(0, 7)] [k] := s4
      have hLd := hL d (by omega)
      have hJ8 : mj_P h := s7 8 (by decide)
      obtain ⟨c, k1, k2, D, k3⟩ := hJ8
      obtain ⟨X, x1, x2, x3⟩ := hs_174 s8
      have hX : X.toInt = c := by
        rw [mj_int_of x1] at k1
        exact Option.some.inj k1
      refine (hd_Gd rfl hP).mpr ?_
      have hw := hs_wk6
      unfold hs_wkB at hw
      rw [hq] at hw
      rw [c5] at hw
      have hpc : ∀ pc en, ri_look2 q.2 pc = some en → pc ≠ 70000 := fun pc en hl => by
        obtain ⟨b, b1, b2⟩ := sx_look2_ok _ _ _ hl
        have := Nat.blt_eq.mp (List.all_eq_true.mp (List.all_eq_true.mp hqq.1 b b1) (pc, en) b2)
        dsimp only at this
        omega
      have hC : ∀ pc, ∀ C ∈ hs_cs pc, sx_CV km_G (mj_J km_gd) C (ri_calE ri_md d) := fun pc C hCm => by
        unfold hs_cs at hCm
        cases hb : Nat.beq pc 199 with
        | false => rw [hb] at hCm; exact absurd hCm List.not_mem_nil
        | true => rw [hb] at hCm; rw [List.mem_singleton.mp hCm]; exact hLd
      refine hd_wk (p := [k]) (iv := [(0, 7)]) (ks := [hs_B]) (mj_HJ km_G km_gd) hC hpc rfl rfl hP (fuel := 400) (A := ([(0, (2, 0, 0)), (1, (1, 0, 0))], [], ([], [(0, 7)], [], [], hs_js))) hw ⟨s1, s2, fun o ho => absurd ho List.not_mem_nil, hP, fun f hf => absurd hf List.not_mem_nil, fun c hc => absurd hc List.not_mem_nil, s7, s8⟩ (sx_Fr.rf _ _ _) (fun c hc t ht => ?_) (fun cc e lo' st' h' hc hS hF' => ?_)
      · rw [List.mem_singleton.mp hc] at ht
        have ht : t ∈ [((0 : Nat), (0 : Nat), (0 : Int)), (0, 0, 0), (0, 0, 0), (0, 0, 0)] := ht
        simp only [List.mem_cons, List.mem_nil_iff, or_false] at ht
        rcases ht with rfl | rfl | rfl | rfl <;> rfl
      · have hc := List.mem_singleton.mp hc
        subst hc
        obtain ⟨t1, t2, -, -, -, -, t7, t8⟩ := hS
        have e1 : st' = [] := by
          cases st' with
          | nil => rfl
          | cons a s => exact t2.elim
        subst e1
        refine hs_loop hLd hq (k := k) (c := c) hP.1 k1 (by omega) (by omega) k3 c.toNat 0 0 lo' h' (by omega) rfl (fun y hy => ?_) t8 t7 hF'
        have t1 : sx_los ([k] ++ e) [(0, (2, 0, 0)), (1, (1, 0, 0)), (2, (0, 0, 0)), (3, (0, 0, 0))] lo' := t1
        simp only [List.mem_cons, List.mem_nil_iff, or_false] at hy
        rcases hy with rfl | rfl | rfl | rfl
        · exact t1 (0, (2, 0, 0)) (by simp)
        · exact t1 (1, (1, 0, 0)) (by simp)
        · exact t1 (2, (0, 0, 0)) (by simp)
        · exact t1 (3, (0, 0, 0)) (by simp)
  · cases hqq
end HSL
