/-! a public call, by its context -/
def cg_ts : Nat → Nat → List sx_v
  | _, 0 => []
  | s, n + 1 => (1, s, 0) :: cg_ts (s + 1) n
def cg_en (n : Nat) (ov : sx_Ov) (iv : sx_I) (js : List Nat) : sx_A := (sx_as 0 ((2, 0, 0) :: cg_ts 0 n), [], (ov, iv, [], [], js))
/-- the entry of a public call: its arguments named, no facts -/
def cg_eq (n : Nat) (js : List Nat) (A : sx_A) : Bool := decide (A.1 = sx_as 0 ((2, 0, 0) :: cg_ts 0 n)) && (A.2.1.isEmpty && (A.2.2.2.2.1.isEmpty && (A.2.2.2.2.2.1.isEmpty && decide (A.2.2.2.2.2.2 = js))))
theorem cg_eq_ok {n : Nat} {js : List Nat} {A : sx_A} (h : cg_eq n js A = true) : A = cg_en n A.2.2.1 A.2.2.2.1 js := by
  unfold cg_eq at h
  simp only [Bool.and_eq_true, decide_eq_true_eq, List.isEmpty_iff] at h
  obtain ⟨a1, a2, a3, a4, a5, a6, a7⟩ := A
  dsimp only at h
  obtain ⟨rfl, rfl, rfl, rfl, rfl⟩ := h
  rfl
def cg_ok (js : List Nat) (nc j n : Nat) (X : sx_X) : Bool :=
  Nat.beq X.1.1.1 j && (Nat.ble (n + 1) X.1.1.2 && (cg_eq n js X.1.2.1 && (X.1.2.2.1.all (fun x => (match x.2.1 with
    | [t] => Nat.ble t.1 1
    | _ => false) && js.all (fun i => x.2.2.2.2.2.2.any (Nat.beq i))) && (X.1.2.2.2.all (fun m => Nat.blt m.1 nc && (Nat.beq m.2.1.1 0 && Nat.beq m.2.2.1 0)) && Nat.ble X.2.2.2.1 30))))
theorem cg_sts {p : List Int} : ∀ (xs : List Int32) (s : Nat), (∀ (i : Nat) (x : Int32), xs[i]? = some x → p[s + i]? = some x.toInt) → sx_sts p (cg_ts s xs.length) (xs.map Value.int)
  | [], _, _ => trivial
  | x :: xs, s, h => by
    refine ⟨sx_g_of ?_, cg_sts xs (s + 1) (fun i y hy => ?_)⟩
    · have := h 0 x rfl
      rw [Nat.add_zero] at this
      show (match p[s]? with
        | some y => some (y + (0 : Int))
        | none => none) = some x.toInt
      rw [this]
      show some (x.toInt + 0) = _
      rw [Int.add_zero]
    · have := h (i + 1) y hy
      rw [show s + 1 + i = s + (i + 1) by omega]
      exact this
theorem cg_wt : ∀ (xs : List Int32), ri_wt (xs.map Value.int) = xs.length
  | [] => rfl
  | x :: xs => by
    show 1 + ri_wt (xs.map Value.int) = xs.length + 1
    rw [cg_wt xs]
    omega
section CGC
variable {G : sx_G} {J : Nat → ri_H → Prop} {md : List (ri_M × ri_T)} {X : sx_X} {js : List Nat} {nc j n d : Nat} {h h' : ri_H} {p : List Int} {xs : List Int32}
theorem cg_call (HV : sx_Vd G J md X) (hok : cg_ok js nc j n X = true) (hd : 30 ≤ d) (hn : xs.length = n) (hp : ∀ (i : Nat) (x : Int32), xs[i]? = some x → p[i]? = some x.toInt) (hP : sx_P X.1.2.1.2.2.2.1 p) (hov : ∀ o ∈ X.1.2.1.2.2.1, sx_oh p h o) (HI : sx_Inv G h) (HJ : ∀ i ∈ js, J i h) :
    ∃ (x : Int32) (h' : ri_H), ri_calE md d j (.ref 0 :: xs.map Value.int) h = some (some (.int x), h') ∧ sx_Inv G h' ∧ (∀ i ∈ js, J i h') ∧ (∃ ex ∈ X.1.2.2.1, ∃ e, sx_S G J (p ++ e) ex [] [.int x] h') ∧ sx_Fr [] X.1.2.2.2 h h' := by
  unfold cg_ok at hok
  simp only [Bool.and_eq_true] at hok
  obtain ⟨o1, o2, o3, o4, o5, o6⟩ := hok
  have o3 := cg_eq_ok o3
  have o1 := Nat.eq_of_beq_eq_true o1
  have o2 := Nat.ble_eq.mp o2
  have o6 := Nat.ble_eq.mp o6
  have hst : sx_sts p ((2, 0, 0) :: cg_ts 0 n) (.ref 0 :: xs.map Value.int) := by
    refine ⟨rfl, ?_⟩
    rw [← hn]
    exact cg_sts xs 0 (fun i x hx => by rw [Nat.zero_add]; exact hp i x hx)
  have HS : sx_S G J p X.1.2.1 (ri_as 0 (.ref 0 :: xs.map Value.int)) [] h := by
    rw [o3]
    exact ⟨fun q hq => (sx_as_ok hst q hq).2, trivial, hov, hP, fun f hf => absurd hf List.not_mem_nil, fun c hc => absurd hc List.not_mem_nil, HJ, HI⟩
  have hw : ri_wt (.ref 0 :: xs.map Value.int) ≤ X.1.1.2 := by
    show 1 + ri_wt (xs.map Value.int) ≤ _
    rw [cg_wt, hn]
    omega
  obtain ⟨v, h', c1, ex, x1, e, x2, x3⟩ := HV d (by omega) p _ h hw HS
  have q1 := List.all_eq_true.mp o4 ex x1
  simp only [Bool.and_eq_true] at q1
  obtain ⟨q1, q2⟩ := q1
  have hM : hd_cM X.1.2.2.2 = true := List.all_eq_true.mpr (fun m hm => by
    have := List.all_eq_true.mp o5 m hm
    simp only [Bool.and_eq_true] at this
    simp only [Bool.and_eq_true]
    exact this.2)
  have hv : ∃ x : Int32, v = some (.int x) := by
    have s2 : sx_sts (p ++ e) ex.2.1 v.toList := x2.2.1
    split at q1
    · next t ht =>
      rw [ht] at s2
      cases v with
      | none => exact s2.elim
      | some w =>
        obtain ⟨x, rfl, -⟩ := sx_g_isn q1 s2.1
        exact ⟨x, rfl⟩
    · cases q1
  obtain ⟨x, rfl⟩ := hv
  rw [o1] at c1
  refine ⟨x, h', c1, x2.2.2.2.2.2.2.2, fun i hi => ?_, ⟨ex, x1, e, x2⟩, hd_Fr hM p [] x3⟩
  obtain ⟨y, y1, y2⟩ := List.any_eq_true.mp (List.all_eq_true.mp q2 i hi)
  rw [Nat.eq_of_beq_eq_true y2]
  exact x2.2.2.2.2.2.2.1 y y1
theorem cg_in0 {m : Nat × sx_v × sx_v} (h1 : m.2.1.1 = 0) (h2 : m.2.2.1 = 0) {a b : Int} (ha : sx_n [] m.2.1 = some a) (hb : sx_n [] m.2.2 = some b) : a = m.2.1.2.2 ∧ b = m.2.2.2.2 := by
  unfold sx_n at ha hb
  rw [h1] at ha
  rw [h2] at hb
  exact ⟨(Option.some.inj ha).symm, (Option.some.inj hb).symm⟩
theorem cg_far (hok : cg_ok js nc j n X = true) (hF : sx_Fr [] X.1.2.2.2 h h') {k : Nat} (hk : nc ≤ k) (i : Int) : sx_at h' k i = sx_at h k i := by
  unfold cg_ok at hok
  simp only [Bool.and_eq_true] at hok
  refine hF k i (fun hin => ?_)
  obtain ⟨m, m1, m2, -⟩ := hin
  have := List.all_eq_true.mp hok.2.2.2.2.1 m m1
  simp only [Bool.and_eq_true] at this
  have := Nat.blt_eq.mp this.1
  omega
def cg_kp (k : Nat) (i : Int) (X : sx_X) : Bool := X.1.2.2.2.all (fun m => !Nat.beq m.1 k || (sx_ble (i + 1) m.2.1.2.2 || sx_ble (m.2.2.2.2 + 1) i))
theorem cg_keep (hok : cg_ok js nc j n X = true) (hF : sx_Fr [] X.1.2.2.2 h h') {k : Nat} {i : Int} (hk : cg_kp k i X = true) : sx_at h' k i = sx_at h k i := by
  unfold cg_ok at hok
  simp only [Bool.and_eq_true] at hok
  refine hF k i (fun hin => ?_)
  obtain ⟨m, m1, m2, a, b, ha, hb, h1, h2⟩ := hin
  have q0 := List.all_eq_true.mp hok.2.2.2.2.1 m m1
  simp only [Bool.and_eq_true] at q0
  obtain ⟨rfl, rfl⟩ := cg_in0 (Nat.eq_of_beq_eq_true q0.2.1) (Nat.eq_of_beq_eq_true q0.2.2) ha hb
  have q1 := List.all_eq_true.mp hk m m1
  rw [show Nat.beq m.1 k = true from Nat.beq_eq.mpr m2] at q1
  simp only [Bool.not_true, Bool.false_or, Bool.or_eq_true, sx_ble_iff] at q1
  rcases q1 with q | q <;> omega
def cg_cn (k : Nat) (i c : Int) (X : sx_X) : Bool := X.1.2.2.1.all (fun ex => ex.2.2.1.any (fun o => Nat.beq o.1 k && (sx_veq o.2.1 (0, 0, i) && sx_veq o.2.2 (0, 0, c))))
theorem cg_const {k : Nat} {i c : Int} (hc : cg_cn k i c X = true) {ex : sx_A} (hx : ex ∈ X.1.2.2.1) {st : List Value} (HS : sx_S G J p ex [] st h) : ∃ y : Int32, sx_at h k i = some (.int y) ∧ y.toInt = c := by
  obtain ⟨o, o1, o2⟩ := List.any_eq_true.mp (List.all_eq_true.mp hc ex hx)
  simp only [Bool.and_eq_true] at o2
  have e1 := Nat.eq_of_beq_eq_true o2.1
  have e2 := sx_veq_ok o2.2.1
  have e3 := sx_veq_ok o2.2.2
  obtain ⟨i', v, g1, g2, g3⟩ := HS.2.2.1 o o1
  rw [e2] at g1
  rw [e3] at g3
  rw [e1] at g2
  have g1 : i = i' := Option.some.inj g1
  obtain ⟨y, rfl, g4⟩ := sx_g_isn (a := (0, 0, c)) rfl g3
  have g4 : c = y.toInt := Option.some.inj g4
  rw [← g1] at g2
  exact ⟨y, g2, g4.symm⟩
end CGC
/-- a slot that both sides keep alike -/
def cg_tw (t : (Nat × Int) × (Nat × Int)) (X Y : sx_X) : Bool := (cg_kp t.1.1 t.1.2 X && cg_kp t.2.1 t.2.2 Y) || ([(0 : Int), 1].any (fun c => cg_cn t.1.1 t.1.2 c X && cg_cn t.2.1 t.2.2 c Y))
def cg_Tw (t : (Nat × Int) × (Nat × Int)) (hc hm : ri_H) : Prop := ∃ y : Int32, sx_at hc t.1.1 t.1.2 = some (.int y) ∧ sx_at hm t.2.1 t.2.2 = some (.int y)
