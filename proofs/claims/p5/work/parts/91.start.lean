section LST
variable {p : Program} {l : Launch} {e : Env} {s : State} {m : MethodId} {below : List Frame} {meth : Method} {c : Code} {E : ri_V} {D : va_G} {cA : Nat → ClassId} {b L : Nat} {xs : Nat → Int32}
theorem la_all (hst : l.stackTraces = false) (X : la_C p s m meth c E D cA b L xs) {sa : Nat} (hW0 : ls_W E sa s) (i : Nat) (hc hm : ri_H) (k z : Nat) (hi : i + 6 ≤ L) (hk : 6 * k ≤ 1368 + i) (hz : z ≤ 7820 + i) (HL : cs_L cw hc hm) (hend : ∀ (hc' hm' : ri_H) (k' z' : Nat), 6 * k' ≤ 1368 + (i + 6) → z' ≤ 7820 + (i + 6) → cs_L cw hc' hm' → la_Ab p l e s m below meth c E D cA b (1238, lo_i i, [], hc' ++ hm'.map (ri_shC 209), k', z')) : ∀ j : Nat, j < 64 → la_Ab p l e s m below meth c E D cA b (la_tg.getD j 1238, lo_i i, [], hc ++ hm.map (ri_shC 209), k, z) := by
  have hL := X.2.2.2.2.2.1
  have k1 : k ≤ 601024 := by omega
  have z1 : z ≤ 7293034 := by omega
  have he : ∀ hc' hm' : ri_H, cs_L cw hc' hm' → la_Ab p l e s m below meth c E D cA b (1238, lo_i i, [], hc' ++ hm'.map (ri_shC 209), k, z) := fun hc' hm' h => hend hc' hm' k z (by omega) (by omega) h
  intro j hj
  match j, hj with
  | 0, _ => exact la_case X (pc := 212) (n := 5) hi k1 z1 ck_0 (by decide) HL (cc_0 HL (la_ysl xs i 5)) he
  | 1, _ => exact la_case X (pc := 285) (n := 1) hi k1 z1 ck_1 (by decide) HL (cc_1 HL (la_ysl xs i 1)) he
  | 2, _ => exact la_case X (pc := 310) (n := 0) hi k1 z1 ck_2 (by decide) HL (cc_2 HL (la_ysl xs i 0)) he
  | 3, _ => exact la_caso X (pc := 323) (n := 0) hi k1 z1 ck_3 (by decide) HL (cc_3 HL (la_ysl xs i 0)) he
  | 4, _ => exact lc_4 hst X hi hW0 (by omega) (by omega) HL (by decide) (fun hm' h => cc_4 h rfl) (fun hm' h => hend hc hm' (k + 1) (z + 6) (by omega) (by omega) h)
  | 5, _ => exact la_case X (pc := 376) (n := 2) hi k1 z1 ck_5 (by decide) HL (cc_5 HL (la_ysl xs i 2)) he
  | 6, _ => exact la_case X (pc := 413) (n := 2) hi k1 z1 ck_6 (by decide) HL (cc_6 HL (la_ysl xs i 2)) he
  | 7, _ => exact la_case X (pc := 450) (n := 1) hi k1 z1 ck_7 (by decide) HL (cc_7 HL (la_ysl xs i 1)) he
  | 8, _ => exact la_case X (pc := 475) (n := 1) hi k1 z1 ck_8 (by decide) HL (cc_8 HL (la_ysl xs i 1)) he
  | 9, _ => exact la_case X (pc := 500) (n := 2) hi k1 z1 ck_9 (by decide) HL (cc_9 HL (la_ysl xs i 2)) he
  | 10, _ => exact la_case X (pc := 537) (n := 1) hi k1 z1 ck_10 (by decide) HL (cc_10 HL (la_ysl xs i 1)) he
  | 11, _ => exact la_case X (pc := 562) (n := 2) hi k1 z1 ck_11 (by decide) HL (cc_11 HL (la_ysl xs i 2)) he
  | 12, _ => exact la_case X (pc := 599) (n := 1) hi k1 z1 ck_12 (by decide) HL (cc_12 HL (la_ysl xs i 1)) he
  | 13, _ => exact la_case X (pc := 624) (n := 0) hi k1 z1 ck_13 (by decide) HL (cc_13 HL (la_ysl xs i 0)) he
  | 14, _ => exact la_case X (pc := 637) (n := 2) hi k1 z1 ck_14 (by decide) HL (cc_14 HL (la_ysl xs i 2)) he
  | 15, _ => exact la_case X (pc := 674) (n := 2) hi k1 z1 ck_15 (by decide) HL (cc_15 HL (la_ysl xs i 2)) he
  | 16, _ => exact la_case X (pc := 711) (n := 1) hi k1 z1 ck_16 (by decide) HL (cc_16 HL (la_ysl xs i 1)) he
  | 17, _ => exact la_case X (pc := 736) (n := 1) hi k1 z1 ck_17 (by decide) HL (cc_17 HL (la_ysl xs i 1)) he
  | 18, _ => exact la_case X (pc := 761) (n := 0) hi k1 z1 ck_18 (by decide) HL (cc_18 HL (la_ysl xs i 0)) he
  | 19, _ => exact la_case X (pc := 774) (n := 0) hi k1 z1 ck_19 (by decide) HL (cc_19 HL (la_ysl xs i 0)) he
  | 20, _ => exact la_case X (pc := 787) (n := 0) hi k1 z1 ck_20 (by decide) HL (cc_20 HL (la_ysl xs i 0)) he
  | 21, _ => exact la_case X (pc := 800) (n := 0) hi k1 z1 ck_21 (by decide) HL (cc_21 HL (la_ysl xs i 0)) he
  | 22, _ => exact la_case X (pc := 813) (n := 1) hi k1 z1 ck_22 (by decide) HL (cc_22 HL (la_ysl xs i 1)) he
  | 23, _ => exact la_case X (pc := 838) (n := 0) hi k1 z1 ck_23 (by decide) HL (cc_23 HL (la_ysl xs i 0)) he
  | 24, _ => exact la_case X (pc := 851) (n := 1) hi k1 z1 ck_24 (by decide) HL (cc_24 HL (la_ysl xs i 1)) he
  | 25, _ => exact la_case X (pc := 876) (n := 1) hi k1 z1 ck_25 (by decide) HL (cc_25 HL (la_ysl xs i 1)) he
  | 26, _ => exact la_case X (pc := 901) (n := 1) hi k1 z1 ck_26 (by decide) HL (cc_26 HL (la_ysl xs i 1)) he
  | 27, _ => exact la_case X (pc := 926) (n := 1) hi k1 z1 ck_27 (by decide) HL (cc_27 HL (la_ysl xs i 1)) he
  | 28, _ => exact la_case X (pc := 951) (n := 0) hi k1 z1 ck_28 (by decide) HL (cc_28 HL (la_ysl xs i 0)) he
  | 29, _ => exact la_case X (pc := 964) (n := 1) hi k1 z1 ck_29 (by decide) HL (cc_29 HL (la_ysl xs i 1)) he
  | 30, _ => exact la_case X (pc := 989) (n := 2) hi k1 z1 ck_30 (by decide) HL (cc_30 HL (la_ysl xs i 2)) he
  | 31, _ => exact la_case X (pc := 1026) (n := 3) hi k1 z1 ck_31 (by decide) HL (cc_31 HL (la_ysl xs i 3)) he
  | 32, _ => exact la_case X (pc := 1075) (n := 1) hi k1 z1 ck_32 (by decide) HL (cc_32 HL (la_ysl xs i 1)) he
  | 33, _ => exact la_case X (pc := 1100) (n := 1) hi k1 z1 ck_33 (by decide) HL (cc_33 HL (la_ysl xs i 1)) he
  | 34, _ => exact la_case X (pc := 1125) (n := 0) hi k1 z1 ck_34 (by decide) HL (cc_34 HL (la_ysl xs i 0)) he
  | 35, _ => exact la_case X (pc := 1138) (n := 1) hi k1 z1 ck_35 (by decide) HL (cc_35 HL (la_ysl xs i 1)) he
  | 36, _ => exact la_case X (pc := 1163) (n := 1) hi k1 z1 ck_36 (by decide) HL (cc_36 HL (la_ysl xs i 1)) he
  | 37, _ => exact la_case X (pc := 1188) (n := 1) hi k1 z1 ck_37 (by decide) HL (cc_37 HL (la_ysl xs i 1)) he
  | 38, _ => exact la_case X (pc := 1213) (n := 1) hi k1 z1 ck_38 (by decide) HL (cc_38 HL (la_ysl xs i 1)) he
  | j + 39, hj =>
    have e1 : la_tg.getD (j + 39) 1238 = 1238 := by
      rw [List.getD_eq_getElem?_getD, List.getElem?_eq_none (by show 39 ≤ j + 39; omega)]
      rfl
    rw [e1]
    exact he hc hm HL
end LST
set_option maxRecDepth 100000 in
theorem in_w : ∀ w ∈ cw, cg_Tw w (h_fr.take 209) hm_fr := by
  intro w hw
  unfold cw at hw
  simp only [List.mem_cons, List.mem_nil_iff, or_false] at hw
  subst hw
  exact ⟨0, rfl, rfl⟩
def iq_1 (hc hm : ri_H) (i : Nat) : Bool := match sx_at hc 1 (i : Int), sx_at hm 1 (i : Int) with
  | some (.int x), some (.int y) => decide (x = y)
  | _, _ => false
def iq_k (k : Nat) (f : Nat → Int64) (h : ri_H) (i : Nat) : Bool := match sx_at h k (i : Int) with
  | some (.long x) => decide (x = f i)
  | _ => false
theorem iq_1_ok {hc hm : ri_H} {i : Nat} (h : iq_1 hc hm i = true) : ∃ y : Int32, sx_at hc 1 (i : Int) = some (.int y) ∧ sx_at hm 1 (i : Int) = some (.int y) := by
  unfold iq_1 at h
  split at h
  · next x y e1 e2 =>
    rw [decide_eq_true_eq] at h
    subst h
    exact ⟨x, e1, e2⟩
  · cases h
theorem iq_k_ok {k : Nat} {f : Nat → Int64} {h : ri_H} {i : Nat} (e : iq_k k f h i = true) : sx_at h k (i : Int) = some (.long (f i)) := by
  unfold iq_k at e
  split at e
  · next x e1 =>
    rw [decide_eq_true_eq] at e
    rw [e1, e]
  · cases e
set_option maxRecDepth 100000 in
theorem iq_ck : ((List.range 940).all (iq_1 (h_fr.take 209) hm_fr) && ((List.range 24).all (iq_k 3 lx_K (h_fr.take 209)) && (List.range 24).all (iq_k 6 lx_Wd hm_fr))) = true := by decide +kernel
set_option maxRecDepth 100000 in
theorem il_g : eh_i (eh_V hm_fr) 0 31 = 0 ∧ eh_i (eh_V (h_fr.take 209)) 203 0 = -1 ∧ eh_i (eh_V (h_fr.take 209)) 203 1 = -1 ∧ eh_i (eh_V (h_fr.take 209)) 203 2 = -1 := by decide +kernel
theorem in_q0 : cs_Q0 (h_fr.take 209) hm_fr := by
  have h := iq_ck
  rw [Bool.and_eq_true, Bool.and_eq_true] at h
  exact ⟨fun i hi => iq_1_ok (List.all_eq_true.mp h.1 i (List.mem_range.mpr hi)), fun k hk => iq_k_ok (List.all_eq_true.mp h.2.1 k (List.mem_range.mpr hk)), fun k hk => iq_k_ok (List.all_eq_true.mp h.2.2 k (List.mem_range.mpr hk)), Or.inl il_g⟩
set_option maxRecDepth 100000 in
theorem il_s : eh_i (shC 23 (eh_V (h_fr.take 209))) 6 0 = eh_i (shM 2 0 (eh_V hm_fr)) 3 0 ∧ 1 ≤ (eh_i (shC 23 (eh_V (h_fr.take 209))) 6 0).toInt ∧ (eh_i (shC 23 (eh_V (h_fr.take 209))) 6 0).toInt ≤ 8 ∧ eh_i (shC 23 (eh_V (h_fr.take 209))) 6 1 = eh_i (shM 2 0 (eh_V hm_fr)) 3 1 ∧ eh_i (shC 23 (eh_V (h_fr.take 209))) 6 2 = eh_i (shM 2 0 (eh_V hm_fr)) 3 2 ∧ eh_i (shC 23 (eh_V (h_fr.take 209))) 6 3 = eh_i (shM 2 0 (eh_V hm_fr)) 3 7 ∧ eh_i (shM 2 0 (eh_V hm_fr)) 3 8 = -1 ∧ eh_i (shM 2 0 (eh_V hm_fr)) 3 9 = 0 ∧ eh_i (shC 23 (eh_V (h_fr.take 209))) 6 4 = 0 ∧ eh_i (shC 23 (eh_V (h_fr.take 209))) 5 1 = 0 := by decide +kernel
set_option maxRecDepth 100000 in
theorem il_q : (∀ t : Fin 4, eh_i (shC 23 (eh_V (h_fr.take 209))) 7 t.val = nI 0 ∧ eh_i (shM 2 0 (eh_V hm_fr)) 3 (3 + t.val) = nI 0) ∧ eh_i (shC 23 (eh_V (h_fr.take 209))) 5 12 = nI 0 := by decide +kernel
set_option maxRecDepth 100000 in
theorem il_l : (∀ l : Fin 8, eh_i (shC 23 (eh_V (h_fr.take 209))) 10 l.val = 0 ∧ eh_i (shC 23 (eh_V (h_fr.take 209))) 12 l.val = 0) ∧ ∀ c : Fin 6, eh_i (shC 23 (eh_V (h_fr.take 209))) 9 c.val = nI 0 := by decide +kernel
set_option maxRecDepth 100000 in
theorem il_f : eh_i (eh_V (h_fr.take 209)) 143 3 = 0 ∧ eh_i (eh_V (h_fr.take 209)) 171 3 = 0 ∧ eh_i (eh_V hm_fr) 17 0 = 0 ∧ eh_i (eh_V hm_fr) 17 1 = 0 := by decide +kernel
theorem in_q1 : cs_Q1 (h_fr.take 209) hm_fr := by
  obtain ⟨s1, s2, s3, s4, s5, s6, s7, s8, s9, s10⟩ := il_s
  obtain ⟨f1, f2, f3, f4⟩ := il_f
  refine ⟨in_q0, ⟨fun _ => 0, ⟨s1, s2, s3, s4, s5, s6, Or.inl ⟨s7, s8, s9, s10⟩⟩, ⟨fun t ht => ⟨(il_q.1 ⟨t, ht⟩).1, (il_q.1 ⟨t, ht⟩).2, Nat.zero_le _⟩, il_q.2⟩, ⟨fun l hl => absurd hl (Nat.not_lt_zero l), fun l _ h8 => il_l.1 ⟨l, h8⟩, fun c hc => ⟨0, by decide, il_l.2 ⟨c, hc⟩, fun l _ => ⟨fun h => (by rw [Nat.zero_testBit] at h; cases h), fun h => absurd h.1 (Nat.not_lt_zero l)⟩⟩⟩, fun k hk => absurd hk (Nat.not_lt_zero k)⟩, ⟨fun _ => f3, fun _ => f1⟩, ⟨fun _ => f4, fun _ => f2⟩, fun h => absurd f3 h, fun h => absurd f4 h⟩
theorem in_nk : NK (fun _ => 0) 23 2 0 (fun j => eh_l (eh_V hm_fr) 5 j) (eh_V (h_fr.take 209)) (eh_V hm_fr) := ⟨fun _ _ => Nat.zero_le _, fun t ht => (il_q.1 ⟨t, ht⟩).2, fun i hi => absurd hi (Nat.not_lt_zero i), fun t r _ hr => absurd hr (Nat.not_lt_zero r), fun i j hi => absurd hi (Nat.not_lt_zero i)⟩
theorem in_q2 : cs_Q2 (h_fr.take 209) hm_fr := ⟨in_q1, ⟨_, in_nk⟩, fun h => absurd il_f.2.2.1 h, fun h => absurd il_f.2.2.2 h⟩
set_option maxRecDepth 100000 in
theorem il_15 : eh_i (eh_V (h_fr.take 209)) 0 15 = eh_i (eh_V hm_fr) 0 15 := by decide +kernel
theorem in_q : cs_Q (h_fr.take 209) hm_fr := ⟨in_q2, il_15⟩
theorem whole_start {p : Program} {e : Env} {s : State} {m : MethodId} {below : List Frame} {meth : Method} {c : Code} (l : Launch) (hst : l.stackTraces = false) {b L : Nat} {xs : Nat → Int32} (hL : L ≤ 3072) (C0 : lw_At p s m meth c b L xs) : W p l e room_1 s m #[Value.ref b] below meth c s.heap [] 0 0 (lw_Z below #[Value.ref b] s) (entryFrame m ([Value.ref b] : List Value).toArray 7) := by
  obtain ⟨hx, hb, hret, hml, hown, hts, hX, hbl, hlk, hgv, hnm⟩ := C0
  obtain ⟨xo, hxo, hXX⟩ := lw_X (b := b) hts hgv
  obtain ⟨D, cA, hK⟩ := lw_K hts
  have X : la_C p s m meth c (s.heap.size, xo, xs) D cA b L xs := ⟨⟨hx, hb, hml, hown, fun w h1 _ => hts w h1, hK, hXX xs, hnm, Nat.le_refl _⟩, hxo, hX, hbl, rfl, hL, hret, hlk⟩
  obtain ⟨sa, hW0⟩ := lc_W X hts hgv
  have key : la_Ab p l e s m below meth c (s.heap.size, xo, xs) D cA b (0, [(0, .retAddr 8)], [], [], 0, 0) := by
    refine la_sn X (lw_Cp l _ D cA) (la_hdc _) 13 _ _ (ri_is_ok lw_pre0) (show (23 : Nat) ≠ 70000 by decide) ?_
    have h0 := la_loop (e := e) (below := below) X (W0 := cw) (fun i hc hm k z h1 h2 h3 h4 h5 => la_all hst X hW0 i hc hm k z h1 h2 h3 h4 h5) 512 0 (h_fr.take 209) hm_fr 228 7820 (by omega) (by decide) (by decide) (by decide) (in_L in_w in_q)
    rw [← ls_cut] at h0
    exact h0
  have e8 : ([Value.retAddr 8].map (ri_cv (s.heap.size, xo, xs)) : List Value) = [.ref b] := by
    show [va_rf (xo 8)] = _
    rw [hxo]
    rfl
  have hl := lv_entry ([Value.retAddr 8].map (ri_cv (s.heap.size, xo, xs))) (n := 7) (by rw [ri_lgsl]; decide)
  rw [lg_entry_eq]
  rw [ri_mp_as] at hl
  rw [e8] at hl
  exact key s.heap _ [] hl ⟨rfl, fun k c h => by cases h⟩ va_S.rf
