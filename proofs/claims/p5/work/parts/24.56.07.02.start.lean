theorem ri_xt_len {args : Array Value} {s : State} {t : Term} {a : Nat} {cA : Cell} {v : Value} (ht : t.eval args s none [] s = some (.ref a)) (hat : s.arrayAt? a = some cA) (hv : (Term.length t).eval args s none [] s = some v) : cA.slots.size < 2 ^ 31 := by
  simp only [Term.eval, ht, hat, Option.bind_eq_bind, Option.bind_some] at hv
  by_cases hlt : cA.slots.size < 2147483648
  · exact hlt
  · simp [hlt] at hv
/-- a static int table, exactly -/
theorem ri_xt_of {args : Array Value} {s : State} {E : ri_V} {n : String} {xs : List Int32} (hE : E.1 = s.heap.size) (hN : xs.length < 2 ^ 31) (hex : (Cond.exactly (.static "LakeLearns" n "[I") "[I").before args s = true) (har : (Cond.arrayOf (.static "LakeLearns" n "[I") .int).before args s = true) (hle : (Cond.eq (.length (.static "LakeLearns" n "[I")) (.int (Int32.ofNat xs.length))).before args s = true)
    (hel : ∀ j : Nat, j < xs.length → (Cond.eq (.elem (.static "LakeLearns" n "[I") (.int (Int32.ofNat j))) (.int (xs.getD j 0))).before args s = true) : ∃ t : Nat, (Term.static "LakeLearns" n "[I").eval args s none [] s = some (.ref t) ∧ ri_xt E t xs s s.heap := by
  obtain ⟨a, c, cA, kA, q1, q2, q3, q4, q5, q6, -⟩ := Cond.exactly_spec (args := args) (first := s) (o := none) (s := s) (idx := []) (t := .static "LakeLearns" n "[I") (cls := "[I") hex
  have hv := va_eqt hle
  obtain ⟨a', cell, ht, hat, hv2⟩ := Term.length_spec hv
  cases q1.symm.trans ht
  obtain ⟨hcell, hkn, -, -⟩ := State.arrayAt?_spec hat
  cases q3.symm.trans hcell
  have hsz : cA.slots.size < 2 ^ 31 := ri_xt_len ht hat hv
  have hof := (Cond.arrayOf_spec har ht hcell).1
  have hsl : cA.slots.size = xs.length := by
    have e1 : Int32.ofNat xs.length = cA.slots.size.toInt32 := Value.int.inj hv2
    have e2 : (Int32.ofNat xs.length).toInt = (Int32.ofNat cA.slots.size).toInt := congrArg Int32.toInt e1
    rw [Int32.toInt_ofNat_small hN, Int32.toInt_ofNat_small hsz] at e2
    omega
  refine ⟨a, q1, cA, q3, hof, hkn, hsl, fun j hj => ?_, by rw [q6]; exact q2, ?_⟩
  · obtain ⟨a2, i, cell2, g1, g2, g3, g4, g5⟩ := Term.elem_spec (va_eqt (hel j hj))
    cases q1.symm.trans g1
    cases hat.symm.trans g3
    have hi : i = Int32.ofNat j := by
      have e : (Term.int (Int32.ofNat j)).eval args s none [] s = some (.int (Int32.ofNat j)) := rfl
      cases g2.symm.trans e
      rfl
    subst hi
    have hj31 : j < 2 ^ 31 := Nat.lt_trans hj hN
    rw [show (Int32.ofNat j).toNatClampNeg = j from nI_clamp hj31] at g5
    exact g5
  · show ¬ E.1 ≤ a
    rw [hE]
    exact Nat.not_le.mpr (Array.getElem?_eq_some_iff.mp q3).1
def lw_nw : List Cond := flatC (Jvm.Cond.and given_1 narrow_1)
set_option maxRecDepth 100000 in
theorem lw_nx (n : Nat) (h1 : 1 ≤ n) (h4 : n ≤ 4) : (Cond.exactly (.static "LakeLearns" (ri_xn n) "[I") "[I") ∈ lw_nw ∧ (Cond.arrayOf (.static "LakeLearns" (ri_xn n) "[I") .int) ∈ lw_nw ∧ (Cond.eq (.length (.static "LakeLearns" (ri_xn n) "[I")) (.int (Int32.ofNat (ri_xl n).length))) ∈ lw_nw ∧ (∀ j : Nat, j < (ri_xl n).length → (Cond.eq (.elem (.static "LakeLearns" (ri_xn n) "[I") (.int (Int32.ofNat j))) (.int ((ri_xl n).getD j 0))) ∈ lw_nw) ∧ (Cond.laysStatic "LakeLearns" (ri_xn n) "[I") ∈ lw_tbl := by
  rcases (show n = 1 ∨ n = 2 ∨ n = 3 ∨ n = 4 by omega) with rfl | rfl | rfl | rfl
  · exact ⟨by decide +kernel, by decide +kernel, by decide +kernel, by decide +kernel, by decide +kernel⟩
  · exact ⟨by decide +kernel, by decide +kernel, by decide +kernel, by decide +kernel, by decide +kernel⟩
  · exact ⟨by decide +kernel, by decide +kernel, by decide +kernel, by decide +kernel, by decide +kernel⟩
  · exact ⟨by decide +kernel, by decide +kernel, by decide +kernel, by decide +kernel, by decide +kernel⟩
set_option maxRecDepth 100000 in
theorem lw_ny : (Cond.exactly (.string "LakeLearns$Reader" 48) "java/lang/String") ∈ lw_nw ∧ (Cond.eq (.field (.string "LakeLearns$Reader" 48) "java/lang/String" "coder" "B") (.int 0)) ∈ lw_nw ∧ (Cond.arrayOf (.field (.string "LakeLearns$Reader" 48) "java/lang/String" "value" "[B") .byte) ∈ lw_nw ∧ (Cond.eq (.length (.field (.string "LakeLearns$Reader" 48) "java/lang/String" "value" "[B")) (.int (Int32.ofNat 128))) ∈ lw_nw ∧ (∀ j : Nat, j < 128 → (Cond.eq (.elem (.field (.string "LakeLearns$Reader" 48) "java/lang/String" "value" "[B") (.int (Int32.ofNat j))) (.int ((ri_xl 6).getD j 0))) ∈ lw_nw) ∧ (Cond.stringRef "LakeLearns$Reader" 48 ri_key) ∈ lw_tbl :=
  ⟨by decide +kernel, by decide +kernel, by decide +kernel, by decide +kernel, by decide +kernel, by decide +kernel⟩
set_option maxRecDepth 100000 in
theorem lw_nz : (Cond.eq (.static "java/lang/String" "COMPACT_STRINGS" "Z") (.int 1)) ∈ lw_nw ∧ (Cond.laysStatic "java/lang/String" "COMPACT_STRINGS" "Z") ∈ lw_tbl ∧ (Cond.initialized "java/lang/String") ∈ lw_tbl ∧ (Cond.isRef (.static "jdk/internal/util/Preconditions" "SIOOBE_FORMATTER" "Ljava/util/function/BiFunction;")) ∈ lw_nw ∧ (Cond.laysStatic "jdk/internal/util/Preconditions" "SIOOBE_FORMATTER" "Ljava/util/function/BiFunction;") ∈ lw_tbl ∧ (Cond.initialized "jdk/internal/util/Preconditions") ∈ lw_tbl ∧ (Cond.initialized "LakeLearns") ∈ lw_tbl :=
  ⟨by decide +kernel, by decide +kernel, by decide +kernel, by decide +kernel, by decide +kernel, by decide +kernel, by decide +kernel⟩
/-- WHAT IS THERE at the law's start -/
theorem lw_X {args : Array Value} {s : State} {b : Nat} (hts : ∀ w ∈ lw_tbl, w.before args s = true) (hgv : (Jvm.Cond.and given_1 narrow_1).before args s = true) : ∃ xo : Nat → Option Nat, xo 8 = some b ∧ ∀ sg : Nat → Int32, ri_X (s.heap.size, xo, sg) s s.heap := by
  have hs : ∀ w ∈ lw_nw, w.before args s = true := flat_of_before _ hgv
  have hA : ∀ a : Nat, a < s.heap.size → ¬ (fun q : Nat => s.heap.size ≤ q) a := fun a h => Nat.not_le.mpr h
  have tab : ∀ n : Nat, 1 ≤ n → n ≤ 4 → ∃ t : Nat, (Term.static "LakeLearns" (ri_xn n) "[I").eval args s none [] s = some (.ref t) ∧ ∀ E : ri_V, E.1 = s.heap.size → ri_xt E t (ri_xl n) s s.heap := by
    intro n h1 h4
    obtain ⟨w1, w2, w3, w4, -⟩ := lw_nx n h1 h4
    have hN : (ri_xl n).length < 2 ^ 31 := by
      rcases (show n = 1 ∨ n = 2 ∨ n = 3 ∨ n = 4 by omega) with rfl | rfl | rfl | rfl <;> decide
    obtain ⟨t, ht, -⟩ := ri_xt_of (E := (s.heap.size, fun _ => none, fun _ => 0)) rfl hN (hs _ w1) (hs _ w2) (hs _ w3) (fun j hj => hs _ (w4 j hj))
    refine ⟨t, ht, fun E hE => ?_⟩
    obtain ⟨t', ht', hx⟩ := ri_xt_of hE hN (hs _ w1) (hs _ w2) (hs _ w3) (fun j hj => hs _ (w4 j hj))
    cases ht.symm.trans ht'
    exact hx
  obtain ⟨t1, e1, x1⟩ := tab 1 (by omega) (by omega)
  obtain ⟨t2, e2, x2⟩ := tab 2 (by omega) (by omega)
  obtain ⟨t3, e3, x3⟩ := tab 3 (by omega) (by omega)
  obtain ⟨t4, e4, x4⟩ := tab 4 (by omega) (by omega)
  obtain ⟨y1, y2, y3, y4, y5, y6⟩ := lw_ny
  obtain ⟨z1, z2, z3, z4, z5, z6, z7⟩ := lw_nz
  obtain ⟨adK, adV, hVS, hev⟩ := vk_Sof (args := args) (s := s) (N := 1) (tm := fun _ => .string "LakeLearns$Reader" 48) (len := [128]) (byt := [ri_xl 6]) (A := fun q : Nat => s.heap.size ≤ q) (fun i hi => by rw [show i = 0 by omega]; decide) (fun _ _ => hs _ y1) (fun _ _ => hs _ y2) (fun _ _ => hs _ y3) (fun i hi => by rw [show i = 0 by omega]; exact hs _ y4) (fun i hi j hj => by rw [show i = 0 by omega] at hj ⊢; exact hs _ (y5 j hj)) (fun i j hi hj hne => absurd (by omega) hne) hA
  obtain ⟨g4, g5, g6, g7⟩ := hVS.1 0 (by omega)
  have hq7 := va_Zqof (A := fun q : Nat => s.heap.size ≤ q) (hts _ z5) (hts _ z6) (hs _ z4) hA
  obtain ⟨o7, h7⟩ : ∃ o7 : Option Nat, va_Z "jdk/internal/util/Preconditions" "SIOOBE_FORMATTER" "Ljava/util/function/BiFunction;" (va_rf o7) (fun q : Nat => s.heap.size ≤ q) s s.heap := by
    rcases hq7 with h | ⟨t, h⟩
    · exact ⟨none, h⟩
    · exact ⟨some t, h⟩
  refine ⟨fun n => if n = 1 then some t1 else if n = 2 then some t2 else if n = 3 then some t3 else if n = 4 then some t4 else if n = 5 then some (adK 0) else if n = 6 then some (adV 0) else if n = 7 then o7 else some b, rfl, fun sg => ⟨fun n h1 h4 => ?_, va_Zof (hts _ z2) (hts _ z3) (va_eqi (hs _ z1)) hA, ⟨adK 0, adV 0, rfl, rfl, vk_R.of (hts _ y6) (hev 0 (by omega)), g4, g5, g6, g7⟩, h7⟩⟩
  have hl := (lw_nx n h1 h4).2.2.2.2
  rcases (show n = 1 ∨ n = 2 ∨ n = 3 ∨ n = 4 by omega) with rfl | rfl | rfl | rfl
  · exact ⟨t1, rfl, va_Zof (hts _ hl) (hts _ z7) e1 hA, x1 _ rfl⟩
  · exact ⟨t2, rfl, va_Zof (hts _ hl) (hts _ z7) e2 hA, x2 _ rfl⟩
  · exact ⟨t3, rfl, va_Zof (hts _ hl) (hts _ z7) e3 hA, x3 _ rfl⟩
  · exact ⟨t4, rfl, va_Zof (hts _ hl) (hts _ z7) e4 hA, x4 _ rfl⟩
set_option maxRecDepth 100000 in
theorem lw_kw : (Cond.arrayClass .int ∈ lw_tbl ∧ Cond.arrayClass .byte ∈ lw_tbl ∧ Cond.arrayClass .long ∈ lw_tbl ∧ Cond.arrayClass .boolean ∈ lw_tbl) ∧ Cond.arrayOver (.object RX6) ∈ lw_tbl ∧ Cond.arrayOver (.object RX3) ∈ lw_tbl :=
  ⟨⟨by decide +kernel, by decide +kernel, by decide +kernel, by decide +kernel⟩, by decide +kernel, by decide +kernel⟩
theorem lw_inst : ∀ r ∈ vwCl, Cond.instantiable r.1 r.2.2 ∈ lw_tbl := by
  intro r hr
  simp only [vwCl, List.mem_cons, List.not_mem_nil, or_false] at hr
  rcases hr with rfl | rfl | rfl | rfl | rfl | rfl | rfl | rfl | rfl | rfl | rfl | rfl | rfl <;> (dsimp only; decide +kernel)
/-- the classes as the tables have them -/
theorem lw_K {args : Array Value} {s : State} (hts : ∀ w ∈ lw_tbl, w.before args s = true) : ∃ (D : va_G) (cA : Nat → ClassId), va_K D vwCl (ri_tys cA) s := by
  have hk : ∀ k : Nat, ∃ q : ClassId × (Nat → Nat), ∀ r : vw_C, vwCl[k]? = some r → u_Kn s r.1 r.2.1 r.2.2 q.1 q.2 := by
    intro k
    cases hr : vwCl[k]? with
    | none => exact ⟨(0, fun _ => 0), fun r h => by cases h⟩
    | some r =>
      obtain ⟨ty0, fs, -, -, hin, -⟩ := ri_cls hr
      obtain ⟨cC, iS, h⟩ := u_known (ws := lw_tbl) hts (fun w hw => (List.mem_filter.mp (hin w hw)).1) (hts _ (lw_inst r (List.mem_of_getElem? hr)))
      exact ⟨(cC, iS), fun r' h' => by cases h'; exact h⟩
  obtain ⟨f, hf⟩ := Classical.axiomOfChoice hk
  obtain ⟨⟨a1, a2, a3, a4⟩, a5, a6⟩ := lw_kw
  have prim : ∀ ty : FieldType, Cond.arrayClass ty ∈ lw_tbl → (∀ C, ty ≠ .object C) → ∃ c : ClassId, ArrOfT s c ty ∧ va_RA s c ty := by
    intro ty hm hne
    obtain ⟨c, k, comp, h1, h2, h3⟩ := Cond.arrayClass_spec (hts _ hm)
    refine ⟨c, fun n z => ⟨(fun k h => by cases h), k, h2, comp, h3⟩, ?_⟩
    cases ty with
    | object C => exact absurd rfl (hne C)
    | _ => exact h1
  have refs : ∀ C : String, Cond.arrayOver (.object C) ∈ lw_tbl → ∃ c : ClassId, ArrOfT s c (.object C) ∧ va_RA s c (.object C) := by
    intro C hm
    obtain ⟨comp, c, k, h1, h2, h3, h4, h5⟩ := Cond.arrayOver_spec (hts _ hm)
    exact ⟨c, fun n z => ⟨(fun k h => by cases h), k, h3, comp, h4⟩, k, comp, h3, h4, h1, h5⟩
  obtain ⟨c13, k13⟩ := prim .int a1 (fun C h => by cases h)
  obtain ⟨c14, k14⟩ := prim .byte a2 (fun C h => by cases h)
  obtain ⟨c15, k15⟩ := prim .long a3 (fun C h => by cases h)
  obtain ⟨c16, k16⟩ := prim .boolean a4 (fun C h => by cases h)
  obtain ⟨c17, k17⟩ := refs RX6 a5
  obtain ⟨c18, k18⟩ := refs RX3 a6
  refine ⟨(fun k => (f k).1, fun k => (f k).2), fun t => if t = 13 then c13 else if t = 14 then c14 else if t = 15 then c15 else if t = 16 then c16 else if t = 17 then c17 else c18, fun k r hr => hf k r hr, fun k q hq => ?_⟩
  match k, hq with
  | 0, hq => cases hq; exact k13
  | 1, hq => cases hq; exact k14
  | 2, hq => cases hq; exact k15
  | 3, hq => cases hq; exact k16
  | 4, hq => cases hq; exact k17
  | 5, hq => cases hq; exact k18
  | k + 6, hq => simp [ri_tys] at hq
