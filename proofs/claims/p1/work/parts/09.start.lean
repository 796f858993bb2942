section LST
variable {p : Program} {l : Launch} {e : Env} {s : State} {m : MethodId} {below : List Frame} {meth : Method} {c : Code} {E : ri_V} {D : va_G} {cA : Nat → ClassId} {b L : Nat} {xs : Nat → Int32}
theorem la_all (X : la_C p s m meth c E D cA b L xs) (hL : L = 6) (h4 : la_Ab p l e s m below meth c E D cA b (336, lo_law, [], h_fr, 228, 7820)) : ∀ j : Nat, j < 64 → la_Ab p l e s m below meth c E D cA b (la_tg.getD j 1266, lo_law, [], h_fr, 228, 7820) := by
  have hend := la_end (l := l) (e := e) (below := below) X hL
  intro j hj
  match j, hj with
  | 0, _ => exact lc_0 X hL hend
  | 1, _ => exact lc_1 X hL hend
  | 2, _ => exact lc_2 X hL hend
  | 3, _ => exact lc_3 X hL hend
  | 4, _ => exact h4
  | 5, _ => exact lc_5 X hL hend
  | 6, _ => exact lc_6 X hL hend
  | 7, _ => exact lc_7 X hL hend
  | 8, _ => exact lc_8 X hL hend
  | 9, _ => exact lc_9 X hL hend
  | 10, _ => exact lc_10 X hL hend
  | 11, _ => exact lc_11 X hL hend
  | 12, _ => exact lc_12 X hL hend
  | 13, _ => exact lc_13 X hL hend
  | 14, _ => exact lc_14 X hL hend
  | 15, _ => exact lc_15 X hL hend
  | 16, _ => exact lc_16 X hL hend
  | 17, _ => exact lc_17 X hL hend
  | 18, _ => exact lc_18 X hL hend
  | 19, _ => exact lc_19 X hL hend
  | 20, _ => exact lc_20 X hL hend
  | 21, _ => exact lc_21 X hL hend
  | 22, _ => exact lc_22 X hL hend
  | 23, _ => exact lc_23 X hL hend
  | 24, _ => exact lc_24 X hL hend
  | 25, _ => exact lc_25 X hL hend
  | 26, _ => exact lc_26 X hL hend
  | 27, _ => exact lc_27 X hL hend
  | 28, _ => exact lc_28 X hL hend
  | 29, _ => exact lc_29 X hL hend
  | 30, _ => exact lc_30 X hL hend
  | 31, _ => exact lc_31 X hL hend
  | 32, _ => exact lc_32 X hL hend
  | 33, _ => exact lc_33 X hL hend
  | 34, _ => exact lc_34 X hL hend
  | 35, _ => exact lc_35 X hL hend
  | 36, _ => exact lc_36 X hL hend
  | 37, _ => exact lc_37 X hL hend
  | 38, _ => exact lc_38 X hL hend
  | j + 39, hj =>
    have e1 : la_tg.getD (j + 39) 1266 = 1266 := by
      rw [List.getD_eq_getElem?_getD, List.getElem?_eq_none (by show 39 ≤ j + 39; omega)]
      rfl
    rw [e1]
    exact hend _ _ _ (by decide) (by decide)
end LST
theorem whole_start {p : Program} {e : Env} {s : State} {m : MethodId} {below : List Frame} {meth : Method} {c : Code} (l : Launch) (hst : l.stackTraces = false) {b L : Nat} {xs : Nat → Int32} (hL : L ≤ 6) (C0 : lw_At p s m meth c b L xs) : W p l e room_1 s m #[Value.ref b] below meth c s.heap [] 0 0 (lw_Z below #[Value.ref b] s) (entryFrame m ([Value.ref b] : List Value).toArray 7) := by
  obtain ⟨hx, hb, hret, hml, hown, hts, hX, hbl, hlk, hgv, hnm⟩ := C0
  obtain ⟨xo, hxo, hXX⟩ := lw_X (b := b) hts hgv
  obtain ⟨D, cA, hK⟩ := lw_K hts
  have X : la_C p s m meth c (s.heap.size, xo, xs) D cA b L xs := ⟨⟨hx, hb, hml, hown, fun w h1 _ => hts w h1, hK, hXX xs, hnm, Nat.le_refl _⟩, hxo, hX, hbl, rfl, fun _ => rfl, hret, hlk⟩
  have hdc : ∀ q ∈ ([] : ri_O), ri_hd q.1 (ri_ic (s.heap.size, xo, xs) q.2.1) (ri_ic (s.heap.size, xo, xs) q.2.2.1) = q.2.2.2 := fun _ h => absurd h List.not_mem_nil
  have key : la_Ab p l e s m below meth c (s.heap.size, xo, xs) D cA b (0, [(0, .retAddr 8)], [], [], 0, 0) := by
    refine la_sn X (lw_Cp l _ D cA) hdc 13 _ _ (ri_is_ok lw_pre0) (by decide) ?_
    by_cases h6 : L = 6
    · refine la_hd1 X (v := 0) (bb := false) rfl rfl (by subst h6; decide) ?_
      exact la_and X h6 (la_all X h6 (lc_4 hst X h6 hts hgv (la_end X h6)))
    · refine la_hd1 X (v := 0) (bb := true) rfl rfl ?_ (la_ret X (by decide) (by decide))
      rcases (show L = 0 ∨ L = 1 ∨ L = 2 ∨ L = 3 ∨ L = 4 ∨ L = 5 by omega) with rfl | rfl | rfl | rfl | rfl | rfl <;> decide
  have e8 : ([Value.retAddr 8].map (ri_cv (s.heap.size, xo, xs)) : List Value) = [.ref b] := by
    show [va_rf (xo 8)] = _
    rw [hxo]
    rfl
  have hl := lv_entry ([Value.retAddr 8].map (ri_cv (s.heap.size, xo, xs))) (n := 7) (by rw [ri_lgsl]; decide)
  rw [lg_entry_eq]
  rw [ri_mp_as] at hl
  rw [e8] at hl
  exact key s.heap _ [] hl ⟨rfl, fun k c h => by cases h⟩ va_S.rf
