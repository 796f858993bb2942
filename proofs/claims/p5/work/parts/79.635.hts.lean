/-! heightsBehind (class): the number, where the steps lie in the lake -/
section YW
variable {d c sw P w : Nat} {ku sz : Nat → Nat} {ce hi : Nat → Nat → Nat} {cu se : Int32} {h' : ri_H} {G : eh_W}
theorem xb_33w {h : ri_H} {v : Option Value} (E : ri_calE ri_md (d + 2) 33 [.ref 23, .int cu, .int se] h = some (v, h')) (hV : eh_V h = G) (ty : eh_ty tC G) (D : xE c sw P ku sz ce hi cu se G) (W : LDw w P sz ce) (w8 : w ≤ 8) : ∃ u : Int32, u = nI (ht_M c sw P w ku sz ce hi) ∧ v = some (.int u) ∧ eh_V h' = G ∧ eh_N h' = eh_N h := by
  obtain ⟨u, u1, u2⟩ := xb_33 E hV ty D
  exact ⟨u, ht_eq u1 W w8, u2⟩
end YW
