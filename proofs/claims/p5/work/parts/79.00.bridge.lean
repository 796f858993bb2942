/-! from the shape of the heaps to the kinds of their slots -/
def et_1 (T : Nat × List Nat) (i : Nat) : Option Nat := match T with
  | (0, l) => l[i]?
  | (_, t :: _) => some t
  | _ => none
theorem eh_tg_1 (T : eh_T) (k i : Nat) : eh_tg T k i = match T[k]? with
    | some q => et_1 q i
    | none => none := by
  unfold eh_tg
  cases T[k]? with
  | none => rfl
  | some q =>
    obtain ⟨a, l⟩ := q
    cases a with
    | zero => rfl
    | succ a => cases l <;> rfl
def et_w (w : Nat × Int × Int) (t : Nat) : Bool := match w.1, t with
  | 0, 0 => true
  | 1, 1 => true
  | 2, n + 2 => decide (w.2.1.toNat = n)
  | _, _ => false
theorem et_w_ok {w : Nat × Int × Int} {t : Nat} {v : Value} (h : et_w w t = true) (hs : sx_slot w v) : eh_tv t v := by
  obtain ⟨a, lo, hi⟩ := w
  match a, t with
  | 0, 0 =>
    obtain ⟨x, h1, -⟩ : ∃ x : Int32, v = .int x ∧ lo ≤ x.toInt ∧ x.toInt ≤ hi := hs
    exact ⟨x, h1⟩
  | 1, 1 => exact hs
  | 2, n + 2 =>
    have h : decide (lo.toNat = n) = true := h
    rw [decide_eq_true_eq] at h
    have hs : v = .ref lo.toNat := hs
    rw [h] at hs
    exact hs
  | 0, t + 1 => cases h
  | 1, 0 => cases h
  | 1, t + 2 => cases h
  | 2, 0 => cases h
  | 2, 1 => cases h
  | a + 3, t => cases h
def et_c (c : Nat × sx_R) (q : Nat × List Nat) : Bool := (List.range (sx_len c.2)).all (fun i => match sx_run c.2 i with
  | some w => (match et_1 q i with
    | some t => et_w w t
    | none => true)
  | none => false)
def et_G : sx_G → eh_T → Bool
  | c :: G, q :: T => et_c c q && et_G G T
  | _, [] => true
  | [], _ :: _ => false
theorem et_G_ok : ∀ {G : sx_G} {T : eh_T}, et_G G T = true → ∀ (k : Nat) (q : Nat × List Nat), T[k]? = some q → ∃ c, G[k]? = some c ∧ et_c c q = true
  | c :: G, q :: T, h, k, q', hq => by
    have h : (et_c c q && et_G G T) = true := h
    rw [Bool.and_eq_true] at h
    cases k with
    | zero =>
      cases hq
      exact ⟨c, rfl, h.1⟩
    | succ k => exact et_G_ok h.2 k q' hq
  | [], [], _, k, q', hq => by
    rw [List.getElem?_nil] at hq
    cases hq
  | c :: G, [], _, k, q', hq => by
    rw [List.getElem?_nil] at hq
    cases hq
  | [], _ :: _, h, _, _, _ => by cases h
theorem et_ty {G : sx_G} {T : eh_T} {h : ri_H} (hG : et_G G T = true) (H : sx_Inv G h) : eh_ty T (eh_V h) := by
  intro k i t v ht hv
  rw [eh_tg_1] at ht
  cases hq : T[k]? with
  | none =>
    rw [hq] at ht
    cases ht
  | some q =>
    rw [hq] at ht
    have ht : et_1 q i = some t := ht
    obtain ⟨c, c1, c2⟩ := et_G_ok hG k q hq
    obtain ⟨vs, h1, h2, h3⟩ := H k c c1
    have hv : vs[i]? = some v := by
      unfold eh_V at hv
      rw [h1] at hv
      exact hv
    have hi : i < sx_len c.2 := by
      rw [← h2]
      exact (List.getElem?_eq_some_iff.mp hv).1
    have q2 := List.all_eq_true.mp c2 i (List.mem_range.mpr hi)
    obtain ⟨w, w1⟩ := sx_run_of hi
    obtain ⟨v', v1, v2⟩ := h3 i w w1
    rw [hv] at v1
    have v1 := Option.some.inj v1
    subst v1
    rw [w1] at q2
    dsimp only at q2
    rw [ht] at q2
    exact et_w_ok q2 v2
set_option maxRecDepth 100000 in
theorem et_C : et_G kc_G tC = true := by decide +kernel
set_option maxRecDepth 100000 in
theorem et_M : et_G km_G tM = true := by decide +kernel
set_option maxRecDepth 100000 in
theorem kc_len : kc_G.length = 209 := by decide +kernel
set_option maxRecDepth 100000 in
theorem nc_G : NCl = kc_G.map (fun c => sx_len c.2) := by decide +kernel
theorem nc_C {h : ri_H} (H : sx_Inv kc_G h) : (eh_N h).take 209 = NCl := by
  rw [nc_G]
  apply List.ext_getElem?
  intro k
  rw [List.getElem?_take, List.getElem?_map]
  split
  · next hk =>
    have hc : kc_G[k]? = some (kc_G[k]'(by rw [kc_len]; exact hk)) := List.getElem?_eq_getElem (by rw [kc_len]; exact hk)
    obtain ⟨vs, h1, h2, -⟩ := H k _ hc
    rw [hc]
    unfold eh_N
    rw [List.getElem?_map, h1]
    show some vs.length = some (sx_len _)
    rw [h2]
  · next hk =>
    rw [List.getElem?_eq_none (by rw [kc_len]; omega)]
    rfl
theorem eh_V_at (h : ri_H) (k i : Nat) : eh_V h k i = sx_at h k (i : Int) := by
  unfold eh_V sx_at
  cases h[k]? <;> rfl
theorem ei_at {h : ri_H} {k i : Nat} {x : Int32} (e : sx_at h k (i : Int) = some (.int x)) : eh_i (eh_V h) k i = x := by
  unfold eh_i
  rw [eh_V_at, e]
theorem el_at {h : ri_H} {k i : Nat} {x : Int64} (e : sx_at h k (i : Int) = some (.long x)) : eh_l (eh_V h) k i = x := by
  unfold eh_l
  rw [eh_V_at, e]
theorem by_run {c : Nat × sx_R} (e : c.2 = [(940, 0, (-128), 127)]) {i : Nat} (hi : i < 940) : sx_run c.2 ((i : Int).toNat) = some (0, (-128), 127) := by
  rw [e, Int.toNat_natCast]
  show (bif Nat.blt i 940 then some ((0 : Nat), (-128 : Int), (127 : Int)) else sx_run [] (i - 940)) = _
  rw [Nat.blt_eq.mpr hi]
  rfl
theorem by_at {G : sx_G} {h : ri_H} {c : Nat × sx_R} (H : sx_Inv G h) (hc : G[1]? = some c) (e : c.2 = [(940, 0, (-128), 127)]) {i : Nat} (hi : i < 940) : ∃ y : Int32, sx_at h 1 (i : Int) = some (.int y) ∧ -128 ≤ y.toInt ∧ y.toInt ≤ 127 := by
  obtain ⟨v, v1, y, v2, v3, v4⟩ := H.at (k := 1) (i := (i : Int)) hc (Int.natCast_nonneg i) (by_run e hi)
  exact ⟨y, by rw [v1, v2], v3, v4⟩
/-- an int that lies in 0 .. 940 is a number -/
theorem nI_940 {y : Int32} (h : 0 ≤ y.toInt) (h2 : y.toInt ≤ 940) : ∃ n : Nat, n ≤ 940 ∧ y = nI n := ⟨y.toInt.toNat, by omega, by
  apply Int32.toInt_inj.mp
  rw [lx_i (by omega)]
  omega⟩
