/-! the runs' bounds where cells behind the lake's reading may change (a SENTENCE, a diary): iS, iT -/
def bz (b : Nat → Int32) (Gc Gm : eh_W) (j : Nat) : Int32 := if j < 941 then b j else if j < 100000 then eh_i Gm (j / 1000) (j % 1000) else eh_i Gc ((j - 100000) / 1000) ((j - 100000) % 1000)
theorem bz_lt {b : Nat → Int32} {Gc Gm : eh_W} {j : Nat} (h : j < 941) : bz b Gc Gm j = b j := if_pos h
theorem bz_m {b : Nat → Int32} {Gc Gm : eh_W} {k i : Nat} (h1 : 2 ≤ k) (h2 : k < 100) (h3 : i < 1000) : bz b Gc Gm (1000 * k + i) = eh_i Gm k i := by
  unfold bz
  rw [if_neg (by omega), if_pos (by omega), show (1000 * k + i) / 1000 = k by omega, show (1000 * k + i) % 1000 = i by omega]
theorem bz_c {b : Nat → Int32} {Gc Gm : eh_W} {k i : Nat} (h3 : i < 1000) : bz b Gc Gm (100000 + 1000 * k + i) = eh_i Gc k i := by
  unfold bz
  rw [if_neg (by omega), if_neg (by omega), show (100000 + 1000 * k + i - 100000) / 1000 = k by omega, show (100000 + 1000 * k + i - 100000) % 1000 = i by omega]
def iS (b : Nat → Int32) (n m : Nat) (G : eh_W) : Prop := eh_ty tC G ∧ ∃ b' : Nat → Int32, (∀ i, i < 941 → b' i = b i) ∧ iC b' n m G
def iT (b : Nat → Int32) (n m : Nat) (G : eh_W) : Prop := eh_ty tM G ∧ ∃ b' : Nat → Int32, (∀ i, i < 941 → b' i = b i) ∧ iM b' n m G
theorem iC.S {b b' : Nat → Int32} {n m : Nat} {G : eh_W} (h : iC b' n m G) (e : ∀ i, i < 941 → b' i = b i) : iS b n m G := ⟨h.1, b', e, h⟩
theorem iM.T {b b' : Nat → Int32} {n m : Nat} {G : eh_W} (h : iM b' n m G) (e : ∀ i, i < 941 → b' i = b i) : iT b n m G := ⟨h.1, b', e, h⟩
theorem iS.C {b : Nat → Int32} {n m : Nat} {G : eh_W} (h : iS b n m G) (Gm : eh_W) : iC (bz b G Gm) n m G := by
  obtain ⟨-, b', e, ty, ⟨a1, a2, a3, a4, a5, a6, a7⟩, x⟩ := h
  exact ⟨ty, ⟨a1, a2, a3, a4, fun i hi => by rw [bz_lt (by omega), ← e i (by omega)]; exact a5 i hi, a6, fun k i h1 h2 => (bz_c h2).symm⟩, x⟩
theorem iT.M {b : Nat → Int32} {n m : Nat} {G : eh_W} (h : iT b n m G) (Gc : eh_W) : iM (bz b Gc G) n m G := by
  obtain ⟨-, b', e, ty, ⟨a1, a2, a3, a4, a5, a6, a7, a8, a9⟩, x⟩ := h
  exact ⟨ty, ⟨a1, a2, a3, a4, fun i hi => by rw [bz_lt (by omega), ← e i (by omega)]; exact a5 i hi, a6, fun i hi => by rw [bz_lt (by omega), ← e i (by omega)]; exact a7 i hi, by rw [bz_lt (by omega), ← e 940 (by omega)]; exact a8, fun k i h1 h2 => (bz_m (by omega) (by omega) h2).symm⟩, x⟩
def pSi (k i : Nat) : Bool := Nat.ble 17 k || pCi k i
def pTi (k i : Nat) : Bool := Nat.ble 7 k || (Nat.beq k 2 || pMi k i)
theorem iS_u {b : Nat → Int32} {n m k i : Nat} {v : Value} {G : eh_W} (H : iS b n m G) (ht : eh_ty tC (eh_u G k i v)) (hp : pSi k i = true) : iS b n m (eh_u G k i v) := by
  by_cases h : 17 ≤ k
  · have ic := H.C (eh_u G k i v)
    obtain ⟨-, ⟨a1, a2, a3, a4, a5, a6, a7⟩, x, x1, x2⟩ := ic
    refine ⟨ht, bz b (eh_u G k i v) G, fun i hi => bz_lt hi, ht, ⟨(eh_i_ne G v (Or.inl (by omega))).trans a1, (eh_i_ne G v (Or.inl (by omega))).trans a2, a3, a4, fun j hj => ?_, fun j hj => ?_, fun k' i' h1 h2 => (bz_c h2).symm⟩, x, x1, (eh_i_ne G v (Or.inl (by omega))).trans x2⟩
    · rw [bz_lt (by omega), eh_i_ne G v (Or.inl (by omega)), a5 j hj, bz_lt (by omega)]
    · rw [eh_l_ne G v (Or.inl (by omega))]
      exact a6 j hj
  · obtain ⟨-, b', e, ic⟩ := H
    refine ⟨ht, b', e, iC_u ic ht ?_⟩
    unfold pSi at hp
    have : Nat.ble 17 k = false := lx_no (fun x => h (Nat.ble_eq.mp x))
    rw [this] at hp
    exact hp
theorem iT_u {b : Nat → Int32} {n m k i : Nat} {v : Value} {G : eh_W} (H : iT b n m G) (ht : eh_ty tM (eh_u G k i v)) (hp : pTi k i = true) : iT b n m (eh_u G k i v) := by
  by_cases h : 7 ≤ k ∨ k = 2
  · have im := H.M (eh_u G k i v)
    obtain ⟨-, ⟨a1, a2, a3, a4, a5, a6, a7, a8, a9⟩, x, x1, x2⟩ := im
    refine ⟨ht, bz b G (eh_u G k i v), fun i hi => bz_lt hi, ht, ⟨(eh_i_ne G v (Or.inl (by omega))).trans a1, (eh_i_ne G v (Or.inl (by omega))).trans a2, a3, a4, fun j hj => ?_, fun j hj => ?_, fun j hj => ?_, ?_, fun k' i' h1 h2 => (bz_m (by omega) (by omega) h2).symm⟩, x, x1, (eh_i_ne G v (Or.inl (by omega))).trans x2⟩
    · rw [bz_lt (by omega), eh_i_ne G v (Or.inl (by omega)), a5 j hj, bz_lt (by omega)]
    · rw [eh_l_ne G v (Or.inl (by omega))]
      exact a6 j hj
    · have := a7 j hj
      rw [bz_lt (by omega)] at this ⊢
      exact this
    · rw [bz_lt (by omega), eh_i_ne G v (Or.inl (by omega)), a8, bz_lt (by omega)]
  · obtain ⟨-, b', e, im⟩ := H
    refine ⟨ht, b', e, iM_u im ht ?_⟩
    unfold pTi at hp
    have h7 : Nat.ble 7 k = false := lx_no (fun x => h (Or.inl (Nat.ble_eq.mp x)))
    rw [h7, eh_bf (show k ≠ 2 from fun x => h (Or.inr x))] at hp
    exact hp
section TS
variable {d : Nat} {h h' : ri_H} {v : Option Value} {b : Nat → Int32} {n m : Nat} {w w0 w1 : Int32}
theorem ts_74 (E : ri_calE ri_md (d + 2) 74 [.ref 2] h = some (v, h')) (iv : iS b n m (eh_V h)) : v = none ∧ iS b n m (eh_V h') ∧ eh_N h' = eh_N h := by
  obtain ⟨-, b', e, ic⟩ := iv
  obtain ⟨r1, r2, r3⟩ := tp_74 E ic
  exact ⟨r1, r2.S e, r3⟩
theorem ts_82 (E : ri_calE ri_md (d + 3) 82 [.ref 2, .int w] h = some (v, h')) (iv : iS b n m (eh_V h)) : ∃ x : Int32, v = some (.int x) ∧ iS b n m (eh_V h') ∧ eh_N h' = eh_N h := by
  obtain ⟨-, b', e, ic⟩ := iv
  obtain ⟨x, r1, r2, r3⟩ := tp_82 E ic
  exact ⟨x, r1, r2.S e, r3⟩
theorem ts_83 (E : ri_calE ri_md (d + 3) 83 [.ref 2, .int w0, .int w1] h = some (v, h')) (iv : iS b n m (eh_V h)) : ∃ x : Int32, v = some (.int x) ∧ iS b n m (eh_V h') ∧ eh_N h' = eh_N h := by
  obtain ⟨-, b', e, ic⟩ := iv
  obtain ⟨x, r1, r2, r3⟩ := tp_83 E ic
  exact ⟨x, r1, r2.S e, r3⟩
theorem ts_158 (E : ri_calE ri_md (d + 2) 158 [.ref 0] h = some (v, h')) (iv : iT b n m (eh_V h)) : v = none ∧ iT b n m (eh_V h') ∧ eh_N h' = eh_N h := by
  obtain ⟨-, b', e, im⟩ := iv
  obtain ⟨r1, r2, r3⟩ := tp_158 E im
  exact ⟨r1, r2.T e, r3⟩
theorem ts_168 (E : ri_calE ri_md (d + 2) 168 [.ref 0, .int w0, .int w1] h = some (v, h')) (iv : iT b n m (eh_V h)) : ∃ x : Int32, v = some (.int x) ∧ iT b n m (eh_V h') ∧ eh_N h' = eh_N h := by
  obtain ⟨-, b', e, im⟩ := iv
  obtain ⟨x, r1, r2, r3⟩ := tp_168 E im
  exact ⟨x, r1, r2.T e, r3⟩
end TS
