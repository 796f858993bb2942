/-! longest (reference) -/
section XL
variable {d c sw P : Nat} {ku sz : Nat → Nat} {ce hi : Nat → Nat → Nat} {cu se : Int32} {h' : ri_H} {rs : List Value} {G : eh_W}
theorem xl_loop (ty : eh_ty tM G) (D : xD c sw P ku sz ce hi cu se G) : ∀ (f l : Nat) (lo : List (Nat × Value)) (h : ri_H), l + f = P → eh_e (ri_calE ri_md (d + 1)) md_191 5 lo [] h rs h' → eh_V h = G → ri_lk lo 0 = some (.ref 0) → ri_lk lo 1 = some (.int cu) → ri_lk lo 2 = some (.int se) → ri_lk lo 3 = some (.int (nI (rM (chs c sw ku) sz l))) → ri_lk lo 4 = some (.int (nI l)) → rs = [.int (nI (rM (chs c sw ku) sz P))] ∧ eh_V h' = G ∧ eh_N h' = eh_N h := by
  obtain ⟨rfl, rfl, hsw, hc6, ⟨hP8, hb⟩, hP, hm⟩ := D
  intro f
  induction f with
  | zero =>
    intro l lo h hf E hV l0 l1 l2 l3 l4
    have z := xl_l E hV ty l0 l1 l2 l3 l4
    rw [hP, lx_i (a := l) (by omega), lx_i (a := P) (by omega)] at z
    rcases z with ⟨-, r1, r2, r3⟩ | ⟨c, -⟩ | ⟨c, -⟩ | ⟨c, -⟩ | ⟨c, -⟩
    · have e : l = P := by omega
      subst e
      exact ⟨r1, r2, r3⟩
    all_goals omega
  | succ f ih =>
    intro l lo h hf E hV l0 l1 l2 l3 l4
    have hl : l < P := by omega
    obtain ⟨e1, e2, -⟩ := hm l hl
    obtain ⟨b1, b2, -⟩ := hb l hl
    have b3 : rM (chs c sw ku) sz l ≤ 8 := rM_le (P := P) (fun l hl => (hb l hl).2.1) l (by omega)
    have z := xl_l E hV ty l0 l1 l2 l3 l4
    rw [hP, lx_i (a := l) (by omega), lx_i (a := P) (by omega), nI_p10, show (18 : Int32) + nI l = nI (18 + l) from lx_add 18 l, lx_cl (a := 10 + l) (by omega), lx_cl (a := 18 + l) (by omega), e1, e2, lx_i (a := sz l) (by omega), lx_i (a := rM (chs c sw ku) sz l) (by omega), lx_a1] at z
    have go : ∀ (h1 : ri_H) (lo1 : List (Nat × Value)) (m : Nat), m = rM (chs c sw ku) sz (l + 1) → eh_e (ri_calE ri_md (d + 1)) md_191 5 lo1 [] h1 rs h' → eh_V h1 = G → eh_N h1 = eh_N h → ri_lk lo1 0 = some (.ref 0) → ri_lk lo1 1 = some (.int (nI c)) → ri_lk lo1 2 = some (.int (nI sw)) → ri_lk lo1 3 = some (.int (nI m)) → ri_lk lo1 4 = some (.int (nI (l + 1))) → rs = [.int (nI (rM (chs c sw ku) sz P))] ∧ eh_V h' = G ∧ eh_N h' = eh_N h := fun h1 lo1 m hm E1 v1 n1 m0 m1 m2 m3 m4 => by
      subst hm
      obtain ⟨r1, r2, r3⟩ := ih (l + 1) lo1 h1 (by omega) E1 v1 m0 m1 m2 m3 m4
      exact ⟨r1, r2, r3.trans n1⟩
    have no : chs c sw ku l = false → rM (chs c sw ku) sz l = rM (chs c sw ku) sz (l + 1) := fun e => by
      show _ = (bif chs c sw ku l then (bif Nat.blt (sz l) (rM (chs c sw ku) sz l) then rM (chs c sw ku) sz l else sz l) else rM (chs c sw ku) sz l)
      rw [e]
      rfl
    have yes : chs c sw ku l = true → (bif Nat.blt (sz l) (rM (chs c sw ku) sz l) then rM (chs c sw ku) sz l else sz l) = rM (chs c sw ku) sz (l + 1) := fun e => by
      show _ = (bif chs c sw ku l then (bif Nat.blt (sz l) (rM (chs c sw ku) sz l) then rM (chs c sw ku) sz l else sz l) else rM (chs c sw ku) sz l)
      rw [e]
      rfl
    have cc : nI (ku l) = nI c ↔ ku l = c := ⟨fun e => lx_inj (by omega) (by omega) e, fun e => by rw [e]⟩
    rcases z with ⟨c1, -⟩ | ⟨-, c2, h1, lo1, E1, v1, n1, -, m0, m1, m2, m3, m4⟩ | ⟨-, c2, c3, h1, lo1, E1, v1, n1, -, m0, m1, m2, m3, m4⟩ | ⟨-, c2, c3, c4, h1, lo1, E1, v1, n1, -, m0, m1, m2, m3, m4⟩ | ⟨-, c2, c3, c4, h1, lo1, E1, v1, n1, -, m0, m1, m2, m3, m4⟩
    · omega
    · rw [nI_bit (by omega) (by omega)] at c2
      exact go h1 lo1 _ (no (chs_f1 c2)) E1 v1 n1 m0 m1 m2 m3 m4
    · exact go h1 lo1 _ (no (chs_f2 (fun e => c3 (cc.mpr e)))) E1 v1 n1 m0 m1 m2 m3 m4
    · rw [nI_bit (by omega) (by omega)] at c2
      refine go h1 lo1 _ ?_ E1 v1 n1 m0 m1 m2 m3 m4
      rw [← yes (chs_t c2 (cc.mp c3)), blt_no (by omega)]
      rfl
    · rw [nI_bit (by omega) (by omega)] at c2
      refine go h1 lo1 _ ?_ E1 v1 n1 m0 m1 m2 m3 m4
      rw [← yes (chs_t c2 (cc.mp c3)), Nat.blt_eq.mpr (by omega)]
      rfl
theorem xl_191 {h : ri_H} {v : Option Value} (E : ri_calE ri_md (d + 2) 191 [.ref 0, .int cu, .int se] h = some (v, h')) (hV : eh_V h = G) (ty : eh_ty tM G) (D : xD c sw P ku sz ce hi cu se G) : ∃ u : Int32, u = nI (rM (chs c sw ku) sz P) ∧ v = some (.int u) ∧ eh_V h' = G ∧ eh_N h' = eh_N h := by
  obtain ⟨rs, hrs, E⟩ := eh_in E (q := md_191) rfl
  obtain ⟨h1, lo1, E1, v1, n1, -, m0, m1, m2, m3, m4⟩ := xl_a E hV ty rfl rfl rfl
  obtain ⟨r1, r2, r3⟩ := xl_loop ty D P 0 lo1 h1 (by omega) E1 v1 m0 m1 m2 m3 m4
  exact ⟨_, rfl, by rw [← hrs, r1]; rfl, r2, r3.trans n1⟩
end XL
