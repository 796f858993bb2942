/-! the reference's isSmall, isDigit, next, by hand around its loops -/
theorem lx_u {x : Int32} (h1 : -128 ≤ x.toInt) (h2 : x.toInt ≤ 127) : (x &&& 255).toInt = if x.toInt < 0 then x.toInt + 256 else x.toInt := by
  have q : ∀ k : Fin 256, ((Int32.ofInt ((k.val : Int) - 128)) &&& 255).toInt = if ((k.val : Int) - 128) < 0 then ((k.val : Int) - 128) + 256 else ((k.val : Int) - 128) := by decide +kernel
  have := q ⟨(x.toInt + 128).toNat, by omega⟩
  dsimp only at this
  rw [show (((x.toInt + 128).toNat : Nat) : Int) - 128 = x.toInt by omega, Int32.ofInt_toInt] at this
  exact this
theorem lx_ult {x : Int32} (h1 : -128 ≤ x.toInt) (h2 : x.toInt ≤ 127) : lx_lt (x &&& 255) = lx_lt x := by
  have e := lx_u h1 h2
  apply Bool.eq_iff_iff.mpr
  rw [lx_lt_iff, lx_lt_iff, e]
  split <;> omega
theorem lx_udg {x : Int32} (h1 : -128 ≤ x.toInt) (h2 : x.toInt ≤ 127) : lx_dg (x &&& 255) = lx_dg x := by
  have e := lx_u h1 h2
  apply Bool.eq_iff_iff.mpr
  rw [lx_dg_iff, lx_dg_iff, e]
  split <;> omega
theorem lx_ue {x c : Int32} (h1 : -128 ≤ x.toInt) (h2 : x.toInt ≤ 127) (h3 : 0 ≤ c.toInt) (h4 : c.toInt ≤ 127) : x &&& 255 = c ↔ x = c := by
  have e := lx_u h1 h2
  constructor
  · intro h
    rw [h] at e
    apply Int32.toInt_inj.mp
    split at e <;> omega
  · intro h
    subst h
    apply Int32.toInt_inj.mp
    rw [e, if_neg (by omega)]
theorem lx_uq {x : Int32} (h1 : 0 ≤ x.toInt) (h2 : x.toInt ≤ 127) : x &&& 255 = x := (lx_ue (by omega) h2 h1 h2).mpr rfl
theorem sp_156 {d : Nat} {h h' : ri_H} {v : Option Value} {G : eh_W} {w : Int32} (E : ri_calE ri_md (d + 1) 156 [.int w] h = some (v, h')) (hV : eh_V h = G) (ty : eh_ty tM G) : (lx_lt w = true ∧ v = some (.int 1) ∧ eh_V h' = G ∧ eh_N h' = eh_N h) ∨ (¬ (lx_lt w = true) ∧ v = some (.int 0) ∧ eh_V h' = G ∧ eh_N h' = eh_N h) := by
  rcases sm_156 E hV ty with ⟨c1, r⟩ | ⟨c1, c2, r⟩ | ⟨c1, c2, r⟩
  · exact Or.inr ⟨fun e => by have := lx_lt_iff.mp e; omega, r⟩
  · exact Or.inr ⟨fun e => by have := lx_lt_iff.mp e; omega, r⟩
  · exact Or.inl ⟨lx_lt_iff.mpr (by omega), r⟩
theorem sp_157 {d : Nat} {h h' : ri_H} {v : Option Value} {G : eh_W} {w : Int32} (E : ri_calE ri_md (d + 1) 157 [.int w] h = some (v, h')) (hV : eh_V h = G) (ty : eh_ty tM G) : (lx_dg w = true ∧ v = some (.int 1) ∧ eh_V h' = G ∧ eh_N h' = eh_N h) ∨ (¬ (lx_dg w = true) ∧ v = some (.int 0) ∧ eh_V h' = G ∧ eh_N h' = eh_N h) := by
  rcases dg_157 E hV ty with ⟨c1, r⟩ | ⟨c1, c2, r⟩ | ⟨c1, c2, r⟩
  · exact Or.inr ⟨fun e => by have := lx_dg_iff.mp e; omega, r⟩
  · exact Or.inr ⟨fun e => by have := lx_dg_iff.mp e; omega, r⟩
  · exact Or.inl ⟨lx_dg_iff.mpr (by omega), r⟩
