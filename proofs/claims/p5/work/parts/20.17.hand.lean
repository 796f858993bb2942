/-! contexts by hand: isSaid, ice -/
section HND
variable {G : sx_G} {J : Nat → ri_H → Prop} {dp : sx_D} {md : List (ri_M × ri_T)} {p p0 : List Int} {M : sx_M} {iv : sx_I} {h h0 : ri_H} {js : List Nat} {t : Int × Int} {q : ri_M × ri_T} {stp : ri_F → Option ri_F} {f : ri_F}
/-- an exit that tells the answer's interval alone -/
def hd_x (iv : sx_I) (t : Int × Int) (js : List Nat) : sx_A := ([], [(1, iv.length, 0)], ([], iv ++ [t], [], [], js))
def hd_P (G : sx_G) (J : Nat → ri_H → Prop) (M : sx_M) (h0 : ri_H) (t : Int × Int) (js : List Nat) (f : ri_F) : Prop :=
  f.1 = 70000 ∧ f.2.2.2.2.1 = 0 ∧ f.2.2.2.2.2 = 0 ∧ (∃ Y : Int32, f.2.2.1 = [.int Y] ∧ t.1 ≤ Y.toInt ∧ Y.toInt ≤ t.2) ∧ (∀ j ∈ js, J j f.2.2.2.1) ∧ sx_Inv G f.2.2.2.1 ∧ sx_Fr [] M h0 f.2.2.2.1
def hd_G (stp : ri_F → Option ri_F) (G : sx_G) (J : Nat → ri_H → Prop) (M : sx_M) (h0 : ri_H) (t : Int × Int) (js : List Nat) (f : ri_F) : Prop := ∃ n f', ri_go stp n f = some f' ∧ hd_P G J M h0 t js f'
def hd_cM (M : sx_M) : Bool := M.all (fun m => Nat.beq m.2.1.1 0 && Nat.beq m.2.2.1 0)
theorem hd_n0 {a : sx_v} (h : a.1 = 0) (p p' : List Int) : sx_n p a = sx_n p' a := by
  unfold sx_n
  rw [h]
  rfl
theorem hd_Fr (hM : hd_cM M = true) (p p' : List Int) (H : sx_Fr p M h0 h) : sx_Fr p' M h0 h := fun k i hn => H k i (by
  rintro ⟨m, m1, m2, a, b, a1, b1, hab⟩
  have := List.all_eq_true.mp hM m m1
  simp only [Bool.and_eq_true] at this
  exact hn ⟨m, m1, m2, a, b, (hd_n0 (Nat.eq_of_beq_eq_true this.1) p' p).trans a1, (hd_n0 (Nat.eq_of_beq_eq_true this.2) p' p).trans b1, hab⟩)
theorem hd_at {α : Type} {p : List α} {y : α} : (p ++ [y])[p.length]? = some y := by
  rw [List.getElem?_append_right (Nat.le_refl _), Nat.sub_self]
  rfl
theorem hd_Po (hM : hd_cM M = true) (HP : sx_P iv p) : sx_Po G J p M h0 [hd_x iv t js] f ↔ hd_P G J M h0 t js f := by
  have hl : iv.length = p.length := HP.len
  constructor
  · rintro ⟨f1, f2, f3, f4, x, x1, e, x2, x3⟩
    have x1 := List.mem_singleton.mp x1
    subst x1
    obtain ⟨-, s2, -, s4, -, -, s7, s8⟩ := x2
    have hle : e.length = 1 := by
      have := s4.len
      have h2 : (hd_x iv t js).2.2.2.1 = iv ++ [t] := rfl
      rw [h2] at this
      simp only [List.length_append, List.length_cons, List.length_nil] at this
      omega
    match e, hle with
    | [y], _ =>
      have s2 : sx_sts (p ++ [y]) [(1, iv.length, 0)] f.2.2.1 := s2
      obtain ⟨v, s, hv, h3, h5⟩ := s2.c1
      cases s with
      | cons _ _ => exact h5.elim
      | nil =>
        obtain ⟨X, rfl, hX⟩ := sx_g_isn (a := (1, iv.length, 0)) rfl h3
        have hX : (match (p ++ [y])[iv.length]? with
          | some z => some (z + (0 : Int))
          | none => none) = some X.toInt := hX
        rw [hl, hd_at] at hX
        have hX : y + 0 = X.toInt := Option.some.inj hX
        have s4 : sx_P (iv ++ [t]) (p ++ [y]) := s4
        obtain ⟨t', t1, t2, t3⟩ := s4.get (s := p.length) hd_at
        rw [← hl] at t1
        rw [hd_at] at t1
        cases t1
        exact ⟨f1, f2, f3, ⟨X, hv, by omega, by omega⟩, s7, s8, hd_Fr hM p [] x3⟩
  · rintro ⟨f1, f2, f3, ⟨Y, hY, y1, y2⟩, f5, f6, f7⟩
    have hg : sx_g (p ++ [Y.toInt]) (1, iv.length, 0) (.int Y) := sx_g_of (by
      show (match (p ++ [Y.toInt])[iv.length]? with
        | some z => some (z + (0 : Int))
        | none => none) = some Y.toInt
      rw [hl, hd_at]
      show some (Y.toInt + 0) = _
      rw [Int.add_zero])
    have hPP : sx_P (iv ++ [t]) (p ++ [Y.toInt]) := HP.app (iv2 := [t]) (p2 := [Y.toInt]) ⟨⟨y1, y2⟩, trivial⟩
    have hS : sx_S G J (p ++ [Y.toInt]) (hd_x iv t js) [] f.2.2.1 f.2.2.2.1 := by
      refine ⟨fun q hq => absurd hq List.not_mem_nil, ?_, fun o ho => absurd ho List.not_mem_nil, hPP, fun g hg => absurd hg List.not_mem_nil, fun c hc => absurd hc List.not_mem_nil, f5, f6⟩
      rw [hY]
      exact ⟨hg, trivial⟩
    exact ⟨f1, f2, f3, by rw [hY]; exact Nat.le_refl _, _, List.mem_singleton.mpr rfl, [Y.toInt], hS, hd_Fr hM [] p f7⟩
theorem hd_Gd (hM : hd_cM M = true) (HP : sx_P iv p) : sx_Gd stp G J p M h0 [hd_x iv t js] f ↔ hd_G stp G J M h0 t js f :=
  ⟨fun ⟨n, f', h1, h2⟩ => ⟨n, f', h1, (hd_Po hM HP).mp h2⟩, fun ⟨n, f', h1, h2⟩ => ⟨n, f', h1, (hd_Po hM HP).mpr h2⟩⟩
/-- a context out of its walk -/
theorem hd_Vd {X : sx_X} (hq : md[X.1.1.1]? = some q) (hw : X.1.1.2 ≤ q.1.2.2.1) (hd0 : 0 < X.2.2.2.1) (H : ∀ d, X.2.2.2.1 ≤ d + 1 → ∀ (p0 : List Int) (as : List Value) (h : ri_H), sx_S G J p0 X.1.2.1 (ri_as 0 as) [] h → sx_Gd (ri_st [] (ri_calE md d) (ri_bud md) q) G J p0 X.1.2.2.2 h X.1.2.2.1 (0, ri_as 0 as, [], h, 0, 0)) : sx_Vd G J md X := by
  intro d hd p0 as h hwt HS
  match d, hd with
  | 0, hd => omega
  | d + 1, hd =>
    obtain ⟨n, f', g1, g2, g3, g4, g5, x, x1, e, x2, x3⟩ := H d hd p0 as h HS
    have := ri_calE_of hq (Nat.le_trans hwt hw) ⟨⟨n, g1⟩, g2, by omega, by omega⟩
    refine ⟨_, _, this, x, x1, e, ?_, x3⟩
    have hl : f'.2.2.1.head?.toList = f'.2.2.1 := by
      match hf : f'.2.2.1, g5 with
      | [], _ => rfl
      | [v], _ => rfl
      | _ :: _ :: _, g5 => simp at g5
    rw [hl]
    exact x2
/-- one walk, with all names of its start kept -/
theorem hd_wk {cs : Nat → List sx_C} {cal : Nat → List Value → ri_H → Option (Option Value × ri_H)} (HJ : sx_HJ G J dp) (hC : ∀ pc, ∀ C ∈ cs pc, sx_CV G J C cal) (hpc : ∀ pc en, ri_look2 q.2 pc = some en → pc ≠ 70000) {ks : List sx_K} (hkp : (ks.map (fun c => c.1)).any (Nat.beq 70000) = false) (hM : hd_cM M = true) {A : sx_A} {lo : List (Nat × Value)} {st : List Value} {pc fuel : Nat} (HP : sx_P iv p)
    (hs : sx_wk G dp p.length (fun _ => []) (ri_look2 q.2) q.1.2.2.2.1 [hd_x iv t js] ks (ks.map (fun c => c.1)) sx_r00 (fun en pc A => sx_step G dp p.length M (cs pc) (ri_bud md) q.1 en pc A) fuel true pc A = true) (HS : sx_S G J p A lo st h) (hF : sx_Fr [] M h0 h)
    (hks : ∀ c ∈ ks, ∀ t ∈ c.2.2, t.1 = 0)
    (hcut : ∀ (c : sx_K) (e : List Int) (lo : List (Nat × Value)) (st : List Value) (h : ri_H), c ∈ ks → sx_S G J (p ++ e) c.2.1 lo st h → sx_Fr [] M h0 h → hd_G (ri_st [] cal (ri_bud md) q) G J M h0 t js (c.1, lo, st, h, 0, 0)) :
    hd_G (ri_st [] cal (ri_bud md) q) G J M h0 t js (pc, lo, st, h, 0, 0) := by
  refine (hd_Gd hM HP).mp (sx_wk_ok (p1 := p) (e1 := []) HJ hC hpc hkp rfl (r0 := sx_r00) (fun t ht => by
    unfold sx_r00 at ht
    simp only [List.mem_cons, List.mem_nil_iff, or_false] at ht
    rcases ht with rfl | rfl | rfl | rfl <;> exact ⟨_, rfl⟩) (fun c e lo st h hc hS hF _ => (hd_Gd hM HP).mpr (hcut c e lo st h hc hS (hd_Fr hM p [] hF))) (fun c hc p h lo st _ t ht => ?_) fuel true pc A lo st h ⟨[], rfl⟩ hs (by rw [List.append_nil]; exact HS) (hd_Fr hM [] p hF))
  refine ⟨t.2.2, ?_⟩
  unfold sx_n
  rw [hks c hc t ht]
  rfl
end HND
