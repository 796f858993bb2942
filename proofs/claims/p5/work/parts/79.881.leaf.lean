/-! leafOf (reference): which of the eight words -/
def lf_M (G : eh_W) (u : Int32) : Prop := (∃ k, k < 8 ∧ u = nI k ∧ eh_i G 0 11 = 1 ∧ eh_l G 0 17 = lx_Wd (16 + k)) ∨ (u = -1 ∧ (eh_i G 0 11 = 1 → ∀ k, k < 8 → eh_l G 0 17 ≠ lx_Wd (16 + k)))
theorem zl_L {d : Nat} {h h' : ri_H} {v : Option Value} {G : eh_W} (E : ri_calE ri_md (d + 2) 245 [.ref 0] h = some (v, h')) (hV : eh_V h = G) (ty : eh_ty tM G) : ∃ u : Int32, lf_M G u ∧ v = some (.int u) ∧ eh_V h' = G ∧ eh_N h' = eh_N h := by
  rcases zl_245 E hV ty with ⟨c, r⟩ | ⟨c, c0, c1, c2, c3, c4, c5, c6, c7, r⟩ | ⟨c, -, -, -, -, -, -, -, c7, r⟩ | ⟨c, -, -, -, -, -, -, c6, r⟩ | ⟨c, -, -, -, -, -, c5, r⟩ | ⟨c, -, -, -, -, c4, r⟩ | ⟨c, -, -, -, c3, r⟩ | ⟨c, -, -, c2, r⟩ | ⟨c, -, c1, r⟩ | ⟨c, c0, r⟩
  · exact ⟨_, Or.inr ⟨rfl, fun x => absurd x c⟩, r⟩
  · refine ⟨_, Or.inr ⟨rfl, fun _ k hk => ?_⟩, r⟩
    match k, hk with
    | 0, _ => exact c0
    | 1, _ => exact c1
    | 2, _ => exact c2
    | 3, _ => exact c3
    | 4, _ => exact c4
    | 5, _ => exact c5
    | 6, _ => exact c6
    | 7, _ => exact c7
  · exact ⟨_, Or.inl ⟨7, by decide, rfl, c, c7⟩, r⟩
  · exact ⟨_, Or.inl ⟨6, by decide, rfl, c, c6⟩, r⟩
  · exact ⟨_, Or.inl ⟨5, by decide, rfl, c, c5⟩, r⟩
  · exact ⟨_, Or.inl ⟨4, by decide, rfl, c, c4⟩, r⟩
  · exact ⟨_, Or.inl ⟨3, by decide, rfl, c, c3⟩, r⟩
  · exact ⟨_, Or.inl ⟨2, by decide, rfl, c, c2⟩, r⟩
  · exact ⟨_, Or.inl ⟨1, by decide, rfl, c, c1⟩, r⟩
  · exact ⟨_, Or.inl ⟨0, by decide, rfl, c, c0⟩, r⟩
