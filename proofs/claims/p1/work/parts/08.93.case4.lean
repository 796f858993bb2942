/-! the law's case 4 -/
theorem ls_cut0 : ri_eqH (h_fr.drop 209) (hm_fr.map (ri_shC 209)) = true := by decide +kernel
theorem ls_cutn : (h_fr.take 209).length = 209 := by decide +kernel
theorem ls_cut : h_fr = h_fr.take 209 ++ hm_fr.map (ri_shC 209) := by
  rw [← ri_eqH_ok _ _ ls_cut0, List.take_append_drop]
theorem ls_cut1 : h_fr ++ [((19 : Nat), ([] : List Value))] = h_fr.take 209 ++ (hm_fr ++ [((19 : Nat), ([] : List Value))]).map (ri_shC 209) := by
  rw [List.map_append, ← List.append_assoc]
  exact congrArg (fun x => x ++ [((19 : Nat), ([] : List Value))]) ls_cut
noncomputable def ls_pr (dc : ri_O) (hm : ri_H) : Bool := match ri_call dc ri_md 9 186 [.ref 0, .float 1, .float 2] hm with
  | some (some v, h2) => ri_isI v && ((match h2[0]? with
    | some q => Nat.beq q.1 12
    | none => false) && (match ri_call dc ri_md 9 144 [.ref 0] h2 with
    | some (some w, _) => decide (w = .int 1)
    | _ => false))
  | _ => false
theorem ls_pr_inv {dc : ri_O} {hm : ri_H} (hp : ls_pr dc hm = true) : ∃ (v : Value) (h2 h3 : ri_H) (q : ri_C), ri_call dc ri_md 9 186 [.ref 0, .float 1, .float 2] hm = some (some v, h2) ∧ ri_isI v = true ∧ h2[0]? = some q ∧ q.1 = 12 ∧ ri_call dc ri_md 9 144 [.ref 0] h2 = some (some (.int 1), h3) := by
  unfold ls_pr at hp
  split at hp
  · next v h2 e1 =>
    obtain ⟨p1, p2⟩ := (Bool.and_eq_true _ _).mp hp
    obtain ⟨p3, p4⟩ := (Bool.and_eq_true _ _).mp p2
    split at p3
    · next q eq =>
      split at p4
      · next w h3 e2 =>
        have e3 := of_decide_eq_true p4
        subst e3
        exact ⟨v, h2, h3, q, e1, p1, eq, Nat.eq_of_beq_eq_true p3, e2⟩
      · cases p4
    · cases p3
  · cases hp
def dc_l1 : ri_O := [(2, .float 1, .int 0, true)]
def dc_l2 : ri_O := [(2, .float 1, .int 0, false), (3, .float 1, .int 0, true), (4, .float 1, .int (-1), true)]
set_option maxRecDepth 100000 in
theorem ls_s1 : ri_is (ri_sn (ri_st dc_l1 (ri_call dc_l1 ri_md 7) (ri_bud ri_md) ls_q) 6 (0, ri_as 0 ls_as, [], h_fr, 0, 0)) (22, ls_lo, [], h_fr, 0, 0) = true := by decide +kernel
set_option maxRecDepth 100000 in
theorem ls_s2 : ri_is (ri_sn (ri_st dc_l2 (ri_call dc_l2 ri_md 7) (ri_bud ri_md) ls_q) 6 (0, ri_as 0 ls_as, [], h_fr, 0, 0)) (22, ls_lo, [], h_fr, 0, 0) = true := by decide +kernel
set_option maxRecDepth 100000 in
theorem ls_p1 : ls_pr dc_l1 hm_fr = true := by decide +kernel
set_option maxRecDepth 100000 in
theorem ls_p2 : ls_pr dc_l2 hm_fr = true := by decide +kernel
set_option maxRecDepth 100000 in
theorem ls_p3 : ls_pr dc_l1 (hm_fr ++ [((19 : Nat), ([] : List Value))]) = true := by decide +kernel
set_option maxRecDepth 100000 in
theorem ls_p4 : ls_pr dc_l2 (hm_fr ++ [((19 : Nat), ([] : List Value))]) = true := by decide +kernel
set_option maxRecDepth 100000 in
theorem lk_368 : ri_ivV ri_md ri_law.1 43 [1, 186, 2, 12, 1558, 1560, 1559] = true := by decide +kernel
set_option maxRecDepth 100000 in
theorem lk_374 : ri_ivV ri_md ri_law.1 44 [1, 144, 0, 12, 1278, 1280, 1279] = true := by decide +kernel
theorem ld_336 : decode code 336 = .ok (.aload_n 1, 1) := by decide +kernel
theorem ld_349 : decode code 349 = .ok (.aload_n 3, 1) := by decide +kernel
theorem ld_350 : decode code 350 = .ok (.invokestatic 38, 3) := by decide +kernel
theorem ld_353 : decode code 353 = .ok (.istore 5, 2) := by decide +kernel
theorem ld_355 : decode code 355 = .ok (.aload_n 2, 1) := by decide +kernel
theorem ld_368 : decode code 368 = .ok (.invokevirtual 43, 3) := by decide +kernel
theorem ld_371 : decode code 371 = .ok (.istore 6, 2) := by decide +kernel
theorem ld_373 : decode code 373 = .ok (.aload_n 2, 1) := by decide +kernel
theorem ld_374 : decode code 374 = .ok (.invokevirtual 44, 3) := by decide +kernel
theorem ld_377 : decode code 377 = .ok (.iload 5, 2) := by decide +kernel
theorem ld_379 : decode code 379 = .ok (.if_icmp .eq 5, 3) := by decide +kernel
theorem ld_384 : decode code 384 = .ok (.iload 5, 2) := by decide +kernel
theorem ld_386 : decode code 386 = .ok (.ifCond .ne 15, 3) := by decide +kernel
theorem ld_401 : decode code 401 = .ok (.goto 865, 3) := by decide +kernel
theorem ldk_337 : la_dk 337 1 = true := by decide +kernel
theorem ldk_343 : la_dk 343 2 = true := by decide +kernel
theorem ldk_356 : la_dk 356 1 = true := by decide +kernel
theorem ldk_362 : la_dk 362 2 = true := by decide +kernel
/-- the model's call in its own world, whatever that world is -/
theorem la_modH (l : Launch) (E : ri_V) (D : va_G) (cA : Nat → ClassId) {dc : ri_O} (hdc : ∀ q ∈ dc, ri_hd q.1 (ri_ic E q.2.1) (ri_ic E q.2.2.1) = q.2.2.2) {j : Nat} {q : ri_M × ri_T} {as : List Value} {hc hm h2 : ri_H} {v : Value} (hq : ri_md[j]? = some q) (hn : hc.length = 209) (hs : ri_call dc ri_md 9 j (.ref 0 :: as) hm = some (some v, h2)) (hI : ri_isI v = true) (has : as.map (ri_sh 209) = as) : ri_Met l E D cA 9 q.1 (.ref 209 :: as) (hc ++ hm.map (ri_shC 209)) (fun a b => a = some v ∧ b = hc ++ h2.map (ri_shC 209)) := by
  have hdc' : ∀ q ∈ dc, ri_hd q.1 (ri_ic (E.1 + 209, E.2) q.2.1) (ri_ic (E.1 + 209, E.2) q.2.2.1) = q.2.2.2 := by
    intro q hm
    rw [ri_ic_sh, ri_ic_sh]
    exact hdc q hm
  have h0 := ri_shift (hc := hc) hn (ri_run l (E.1 + 209, E.2) D cA hdc' hq hs)
  have e1 : (Value.ref 0 :: as).map (ri_sh 209) = .ref 209 :: as := by
    rw [List.map_cons, has]
    rfl
  rw [e1] at h0
  refine h0.mono ?_
  rintro a b ⟨v', hm', ⟨rfl, rfl⟩, rfl, rfl⟩
  refine ⟨?_, rfl⟩
  cases v <;> first | rfl | cases hI
theorem la_209 {hc hm : ri_H} {q : ri_C} (hn : hc.length = 209) (hq : hm[0]? = some q) : (hc ++ hm.map (ri_shC 209))[209]? = some (ri_shC 209 q) := by
  rw [List.getElem?_append_right (by omega), hn, Nat.sub_self, List.getElem?_map, hq]
  rfl
theorem ri_sub {p : Program} {l : Launch} {e : Env} {R : Room} {s : State} {m : MethodId} {args : Array Value} {below : List Frame} {meth : Method} {c : Code} {Q : State → Prop} {E : ri_V} {D : va_G} {cA : Nat → ClassId} {nL pc k z : Nat} {lo lo' : List (Nat × Value)} {st : List Value} {h : ri_H} (hsub : ∀ q ∈ lo', q ∈ lo) (kk : ri_Ab p l e R s m args below meth c Q E D cA nL (pc, lo', st, h, k, z)) : ri_Ab p l e R s m args below meth c Q E D cA nL (pc, lo, st, h, k, z) := by
  intro H ls locs hl hR hS
  refine kk H ls locs ⟨hl.1, hl.2.1, fun q hq => ?_⟩ hR hS
  obtain ⟨q0, h0, rfl⟩ := List.mem_map.mp hq
  exact hl.2.2 _ (List.mem_map.mpr ⟨q0, hsub q0 h0, rfl⟩)
section LC4
variable {p : Program} {l : Launch} {e : Env} {s : State} {m : MethodId} {below : List Frame} {meth : Method} {c : Code} {E : ri_V} {D : va_G} {cA : Nat → ClassId} {b L : Nat} {xs : Nat → Int32} {pc k z : Nat} {lo : List (Nat × Value)} {st : List Value} {h : ri_H} {dc : ri_O}
theorem la_arg2 (X : la_C p s m meth c E D cA b L xs) (h0 : ri_lk lo 0 = some (.retAddr 8)) (h4 : ri_lk lo 4 = some (.int 0)) {i : Nat} (hi : i < L) (hL : L < 16) (hk : la_dk pc i = true) {v : Value} (hv : ri_cv E v = .int (xs i)) (kk : la_Ab p l e s m below meth c E D cA b (pc + 6, lo, v :: st, h, k, z)) : la_Ab p l e s m below meth c E D cA b (pc, lo, st, h, k, z) := by
  unfold la_dk at hk
  simp only [Bool.and_eq_true, decide_eq_true_eq] at hk
  obtain ⟨d0, d1, d3, d4, d5⟩ := hk
  have ⟨hx, hb, _⟩ := X.1
  refine ri_r_ald X.1 (i := 0) (v := .retAddr 8) h0 rfl (n := 1) (Or.inl ⟨0, rfl, rfl, d0⟩) ?_
  refine ri_r_ild X.1 (i := 4) (v := .int 0) h4 rfl (n := 2) (Or.inr ⟨rfl, d1⟩) ?_
  refine ri_r_push X.1 (v := .int (Int32.ofInt (i : Int))) (n := 1) (fun H ls locs rest w => lv_iconst hx hb d3 rfl w) rfl ?_
  refine ri_r_stk (pc' := pc + 5) (st' := .int (0 + Int32.ofInt (i : Int)) :: .retAddr 8 :: st) (fun H ls locs w => lv_iadd hx hb d4 w) ?_
  have e0 : (0 : Int32) + Int32.ofInt (i : Int) = nI i := by
    rw [Int32.zero_add]
    rfl
  rw [e0]
  exact la_sld X hi hL d5 hv kk
def lo_5 : List (Nat × Value) := (5, .int 1) :: lo_law
/-- behind the static call -/
theorem lc_4b (X : la_C p s m meth c E D cA b L xs) (h6 : L = 6) (hdc : ∀ q ∈ dc, ri_hd q.1 (ri_ic E q.2.1) (ri_ic E q.2.2.1) = q.2.2.2) (hc1 : ri_cv E (.float 1) = .int (xs 1)) (hc2 : ri_cv E (.float 2) = .int (xs 2)) (hend : ∀ (h : ri_H) (k z : Nat), k ≤ 600002 → z ≤ 7302232 → la_Ab p l e s m below meth c E D cA b (1266, lo_law, [], h, k, z))
    {hc hm : ri_H} {q0 : ri_C} (hn : hc.length = 209) (hq0 : hm[0]? = some q0) (ht0 : q0.1 = 12) (hp : ls_pr dc hm = true) : la_Ab p l e s m below meth c E D cA b (353, lo_law, [.int 1], hc ++ hm.map (ri_shC 209), 229, 7826) := by
  have ⟨hx, hb, _⟩ := X.1
  obtain ⟨v, h2, h3, q, c1, hI, g1, g2, c2⟩ := ls_pr_inv hp
  have e5 : ri_st1 lo_law 5 (.int 1) = lo_5 := rfl
  have e6 : ri_st1 lo_5 6 v = (6, v) :: lo_5 := rfl
  refine ri_r_ist X.1 (i := 5) (v := .int 1) rfl (by decide) (n := 2) (Or.inr ⟨rfl, ld_353⟩) ?_
  rw [e5]
  refine ri_r_ald X.1 (i := 2) (v := .ref 209) rfl rfl (n := 1) (Or.inl ⟨2, rfl, rfl, ld_355⟩) ?_
  refine la_arg2 X (pc := 356) rfl rfl (i := 1) (by omega) (by omega) ldk_356 (v := .float 1) hc1 ?_
  refine la_arg2 X (pc := 362) rfl rfl (i := 2) (by omega) (by omega) ldk_362 (v := .float 2) hc2 ?_
  refine la_call X (pc := 368) (j := 186) (b0 := 209) (as := [.float 1, .float 2]) (r := []) (q := md_186) rfl (la_modH l E D cA hdc rfl hn c1 hI rfl) (la_209 hn hq0) (show (ri_shC 209 q0).1 = 12 from ht0) lk_368 ld_368 ⟨rfl, rfl⟩ (by decide) (by decide) (by decide) ?_
  refine ri_r_ist X.1 (i := 6) (v := v) hI (by decide) (n := 2) (Or.inr ⟨rfl, ld_371⟩) ?_
  rw [e6]
  refine ri_r_ald X.1 (i := 2) (v := .ref 209) rfl rfl (n := 1) (Or.inl ⟨2, rfl, rfl, ld_373⟩) ?_
  refine la_call X (pc := 374) (j := 144) (b0 := 209) (as := []) (r := []) (q := md_144) rfl (la_modH l E D cA hdc rfl hn c2 rfl rfl) (la_209 hn g1) (show (ri_shC 209 q).1 = 12 from g2) lk_374 ld_374 ⟨rfl, rfl⟩ (by decide) (by decide) (by decide) ?_
  refine ri_r_ild X.1 (i := 5) (v := .int 1) rfl rfl (n := 2) (Or.inr ⟨rfl, ld_377⟩) ?_
  refine ri_r_icmp X.1 (x := .int 1) (y := .int 1) (b := true) rfl rfl (show ri_hd (ri_cn .eq) (ri_ic E (.int 1)) (ri_ic E (.int 1)) = true from (show decide ((1 : Int32) = 1) = true from rfl)) ld_379 (tgt := 384) (by decide) ?_
  refine ri_r_ild X.1 (i := 5) (v := .int 1) rfl rfl (n := 2) (Or.inr ⟨rfl, ld_384⟩) ?_
  refine ri_r_if X.1 (x := .int 1) (b := true) rfl (show ri_hd (ri_cn .ne) (ri_ic E (.int 1)) 0 = true from (show decide (¬ (1 : Int32) = 0) = true from by decide)) ld_386 (tgt := 401) (by decide) ?_
  refine ri_r_stk (pc' := 1266) (st' := []) (fun H ls locs w => lv_goto hx hb ld_401 (by decide) w) ?_
  exact ri_sub (lo' := lo_law) (fun q hq => List.mem_cons_of_mem _ (List.mem_cons_of_mem _ hq)) (hend _ 229 7826 (by decide) (by decide))
theorem ln_hws (hts : ∀ w ∈ lw_tbl, ri_stb w = true → w.before #[Value.ref b] s = true) : ∀ w ∈ ln_ws, ∀ (a' : Array Value) (U : State), s.WarmedH U.vm → w.before a' U = true := by
  intro w hw a' U hW
  rcases List.mem_cons.mp hw with rfl | hw
  · exact ri_stb_at rfl hW (hts _ ln_m6 rfl)
  · exact ri_stb_at (List.mem_filter.mp hw).2 hW (hts w (List.mem_filter.mp hw).1 (List.mem_filter.mp hw).2)
theorem ln_sig : ∀ sig, parseMethodDescriptor yL_lesson.desc = some sig → 4 = sig.parameters.length := by
  intro sig h
  have h2 : (parseMethodDescriptor yL_lesson.desc).map (fun d => d.parameters.length) = some 4 := by decide +kernel
  rw [h] at h2
  exact (Option.some.inj h2).symm
theorem lc_4a (hst : l.stackTraces = false) (X : la_C p s m meth c E D cA b L xs) (h6 : L = 6) {sa : Nat} (hW0 : ls_W E sa s) (hdc : ∀ q ∈ dc, ri_hd q.1 (ri_ic E q.2.1) (ri_ic E q.2.2.1) = q.2.2.2) (hc1 : ri_cv E (.float 1) = .int (xs 1)) (hc2 : ri_cv E (.float 2) = .int (xs 2)) (hend : ∀ (h : ri_H) (k z : Nat), k ≤ 600002 → z ≤ 7302232 → la_Ab p l e s m below meth c E D cA b (1266, lo_law, [], h, k, z))
    (hs : ri_is (ri_sn (ri_st dc (ri_call dc ri_md 7) (ri_bud ri_md) ls_q) 6 (0, ri_as 0 ls_as, [], h_fr, 0, 0)) (22, ls_lo, [], h_fr, 0, 0) = true) (hp1 : ls_pr dc hm_fr = true) (hp2 : ls_pr dc (hm_fr ++ [((19 : Nat), ([] : List Value))]) = true) : la_Ab p l e s m below meth c E D cA b (336, lo_law, [], h_fr, 228, 7820) := by
  have ⟨hx, hb, hml, hown, hts, hK, hX, _⟩ := X.1
  refine ri_r_ald X.1 (i := 1) (v := .ref 0) rfl rfl (n := 1) (Or.inl ⟨1, rfl, rfl, ld_336⟩) ?_
  refine la_arg X (pc := 337) (i := 1) (by omega) (by omega) ldk_337 (v := .float 1) hc1 ?_
  refine la_arg X (pc := 343) (i := 2) (by omega) (by omega) ldk_343 (v := .float 2) hc2 ?_
  refine ri_r_ald X.1 (i := 3) (v := .ref 227) rfl rfl (n := 1) (Or.inl ⟨3, rfl, rfl, ld_349⟩) ?_
  have post : ∀ h' : ri_H, (h' = h_fr ∨ h' = h_fr ++ [((19 : Nat), ([] : List Value))]) → la_Ab p l e s m below meth c E D cA b (353, lo_law, [.int 1], h', 229, 7826) := by
    intro h' hh
    rcases hh with rfl | rfl
    · rw [ls_cut]
      exact lc_4b X h6 hdc hc1 hc2 hend ls_cutn (q0 := hm_fr.headD (0, [])) rfl rfl hp1
    · rw [ls_cut1]
      exact lc_4b X h6 hdc hc1 hc2 hend ls_cutn (q0 := hm_fr.headD (0, [])) rfl rfl hp2
  intro H ls locs hl hR hS
  refine ri_goon (P := ln_Q) (mc := 1) (ms := 6) (rest := []) (vx_runSW (nL := 7) (cc := code) (Ts := []) (own := RL) (index := 38) (bytes := cL_lesson) (maxL := 5) (ret := some .int) (hh := ln_hh) (n := 4) (As := ln_as.map (ri_cv E)) ⟨hx, hb, hml, hown, fun w h => absurd h List.not_mem_nil⟩ (ln_met l hst E D cA hdc hs sa)
    ⟨⟨rfl, rfl, by decide, by decide, ln_hws hts, List.mem_cons_self⟩, hts _ ln_m6 rfl, hts _ ln_m7 rfl, ⟨by decide, by decide⟩, ln_sig, hts _ ln_m8 rfl, hts _ ln_m9 rfl⟩
    ⟨ls_blind E D cA ln_as sa, fun U hU hW => ⟨⟨rfl, ri_pre hK hX hS hR hU hW⟩, hW0.to hW hU hS⟩⟩ rfl rfl hl.1 rfl (lv_room (by decide)) ld_350 ⟨by decide, by decide⟩) hS (fun v h' H1 locs1 hP hR1 hS1 => ?_)
  obtain ⟨rfl, hh⟩ := hP
  exact post h' hh H1 ls locs1 hl hR1 hS1
theorem lc_4 (hst : l.stackTraces = false) (X : la_C p s m meth c E D cA b L xs) (h6 : L = 6) (hts : ∀ w ∈ lw_tbl, w.before #[Value.ref b] s = true) (hgv : (Jvm.Cond.and given_1 narrow_1).before #[Value.ref b] s = true) (hend : ∀ (h : ri_H) (k z : Nat), k ≤ 600002 → z ≤ 7302232 → la_Ab p l e s m below meth c E D cA b (1266, lo_law, [], h, k, z)) : la_Ab p l e s m below meth c E D cA b (336, lo_law, [], h_fr, 228, 7820) := by
  have hs : ∀ w ∈ lw_nw, w.before #[Value.ref b] s = true := flat_of_before _ hgv
  have hA : ∀ a : Nat, a < s.heap.size → ¬ ri_A E a := fun a h => by
    show ¬ E.1 ≤ a
    rw [X.2.2.2.2.1]
    exact Nat.not_le.mpr h
  obtain ⟨sa, c0, cell, k0, hev, -⟩ := Cond.exactly_spec (args := #[Value.ref b]) (first := s) (o := none) (s := s) (idx := []) (hs _ ln_n3)
  have hW0 : ls_W E sa s := ⟨vx_Zqof (hts _ ln_m10) (hts _ ln_m12) (hs _ ln_n1) hA, vx_Zqof (hts _ ln_m11) (hts _ ln_m12) (hs _ ln_n2) hA, vk_R.of (hts _ ln_m13) hev, fun w hw => va_tabs (ls_tab hw) rfl (hts w (ls_in w (List.mem_filter.mp hw).1))⟩
  have hc1 : ri_cv E (.float 1) = .int (xs 1) := by
    show Value.int (ri_sem E.2.2 1) = _
    rw [ri_sem_0 (by decide), X.2.2.2.2.2.1 1]
  have hc2 : ri_cv E (.float 2) = .int (xs 2) := by
    show Value.int (ri_sem E.2.2 2) = _
    rw [ri_sem_0 (by decide), X.2.2.2.2.2.1 2]
  have hv1 : (ri_ic E (.float 1)).toInt = (xs 1).toInt := by unfold ri_ic; rw [hc1]
  have i0 : (ri_ic E (.int 0)).toInt = 0 := show (0 : Int32).toInt = 0 from by decide
  have i1 : (ri_ic E (.int (-1))).toInt = -1 := show (-1 : Int32).toInt = -1 from by decide
  by_cases q0 : (xs 1).toInt ≤ -1
  · exact lc_4a hst X h6 hW0 (dc := dc_l1) (List.forall_mem_cons.mpr ⟨la_q 2 hv1 i0 (decide_eq_true (by omega)), fun _ h => absurd h List.not_mem_nil⟩) hc1 hc2 hend ls_s1 ls_p1 ls_p3
  · exact lc_4a hst X h6 hW0 (dc := dc_l2) (List.forall_mem_cons.mpr ⟨la_q 2 hv1 i0 (decide_eq_false (by omega)), List.forall_mem_cons.mpr ⟨la_q 3 hv1 i0 (decide_eq_true (by omega)), List.forall_mem_cons.mpr ⟨la_q 4 hv1 i1 (decide_eq_true (by omega)), fun _ h => absurd h List.not_mem_nil⟩⟩⟩) hc1 hc2 hend ls_s2 ls_p2 ls_p4
end LC4
