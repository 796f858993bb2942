/-! the law's case 4 -/
theorem ld_336 : decode code 336 = .ok (.aload_n 1, 1) := by decide +kernel
theorem ld_349 : decode code 349 = .ok (.aload_n 3, 1) := by decide +kernel
theorem ld_353 : decode code 353 = .ok (.istore 5, 2) := by decide +kernel
theorem ld_355 : decode code 355 = .ok (.aload_n 2, 1) := by decide +kernel
theorem ld_368 : decode code 368 = .ok (.invokevirtual 43, 3) := by decide +kernel
theorem ld_371 : decode code 371 = .ok (.istore 6, 2) := by decide +kernel
theorem ld_373 : decode code 373 = .ok (.goto 865, 3) := by decide +kernel
theorem ld_350 : decode code 350 = .ok (.invokestatic 38, 3) := by decide +kernel
theorem ldk_337 : la_dk 337 1 = true := by decide +kernel
theorem ldk_343 : la_dk 343 2 = true := by decide +kernel
theorem ldk_356 : la_dk 356 1 = true := by decide +kernel
theorem ldk_362 : la_dk 362 2 = true := by decide +kernel
set_option maxRecDepth 100000 in
theorem lc_k4 : ri_ivV ri_md ri_lw.1 43 [1, 185, 2, 12, 1554, 1556, 1555] = true := by decide +kernel
set_option maxRecDepth 100000 in
theorem cs_depm : cs_jm.all (fun j => ((mj_dp km_gd).1 j).all (fun d => Nat.blt d.1 18)) = true ∧ km_G.length = 18 := by decide +kernel
/-- cells behind the reference's own may change -/
theorem cs_lm {W : cs_W} {hc hm hm' : ri_H} (HL : cs_L W hc hm) (hk : ∀ k, k < 18 → hm'[k]? = hm[k]?) {v : Int64} (h18 : hm'[18]? = some (15, [.long v])) (hW : W.all (fun w => Nat.blt w.2.1 18) = true) : cs_L W hc hm' := by
  obtain ⟨l1, l2, l3, l4, l5, l6, -, l8⟩ := HL
  refine ⟨l1, l2, l3, cs_inv (fun k h => hk k (by rw [cs_depm.2] at h; exact h)) l4, fun j hj => (mj_HJ km_G km_gd).1 j hm hm' (fun d hd i _ _ => cs_at (hk d.1 (Nat.blt_eq.mp (List.all_eq_true.mp (List.all_eq_true.mp cs_depm.1 j hj) d hd))) i) (l5 j hj), fun w hw => ?_, ⟨v, h18⟩, cs_Q_lm l8 hk⟩
  obtain ⟨y, y1, y2⟩ := l6 w hw
  exact ⟨y, y1, by rw [cs_at (hk _ (Nat.blt_eq.mp (List.all_eq_true.mp hW w hw)))]; exact y2⟩
def cs_M (W : cs_W) (j : Nat) (xs : List Int32) (hc hm : ri_H) : Prop := ∃ (x : Int32) (hm' : ri_H), ri_calE ri_md 30 j (.ref 0 :: xs.map Value.int) hm = some (some (.int x), hm') ∧ cs_L W hc hm'
def cs_ok1 (W : cs_W) (j n : Nat) (Y : sx_X) : Bool := cs_qm Y && (cg_ok cs_jm 18 j n Y && (decide (ri_bud ri_md j = some (0, 0)) && (Y.1.2.1.2.2.1.isEmpty && W.all (fun w => cg_kp w.2.1 w.2.2 Y))))
theorem cs_one {W : cs_W} {Y : sx_X} {j n : Nat} {hc hm : ri_H} {xs : List Int32} (HL : cs_L W hc hm) (V : sx_Vd km_G (mj_J km_gd) ri_md Y) (hok : cs_ok1 W j n Y = true) (hn : xs.length = n) (hP : sx_P Y.1.2.1.2.2.2.1 (xs.map Int32.toInt)) : cs_M W j xs hc hm := by
  unfold cs_ok1 at hok
  simp only [Bool.and_eq_true, decide_eq_true_eq] at hok
  obtain ⟨o0, o1, o2, o3, o4⟩ := hok
  have o3 := List.isEmpty_iff.mp o3
  obtain ⟨x2, hm', b1, b2, b3, b4, -, b7⟩ := cs_mdl HL V o1 o2 hn (p := xs.map Int32.toInt) cs_map hP (by rw [o3]; exact fun o ho => absurd ho List.not_mem_nil)
  refine ⟨x2, hm', b1, HL.1, HL.2.1, HL.2.2.1, b2, b3, fun w hw => ?_, b4, cs_Q_frm o0 HL.2.2.2.2.2.2.2 b7⟩
  obtain ⟨y, y1, y2⟩ := HL.2.2.2.2.2.1 w hw
  exact ⟨y, y1, by rw [b7 _ _ (List.all_eq_true.mp o4 w hw)]; exact y2⟩
theorem ri_sub {p : Program} {l : Launch} {e : Env} {R : Room} {s : State} {m : MethodId} {args : Array Value} {below : List Frame} {meth : Method} {c : Code} {Q : State → Prop} {E : ri_V} {D : va_G} {cA : Nat → ClassId} {nL pc k z : Nat} {lo lo' : List (Nat × Value)} {st : List Value} {h : ri_H} (hsub : ∀ q ∈ lo', q ∈ lo) (kk : ri_Ab p l e R s m args below meth c Q E D cA nL (pc, lo', st, h, k, z)) : ri_Ab p l e R s m args below meth c Q E D cA nL (pc, lo, st, h, k, z) := by
  intro H ls locs hl hR hS
  refine kk H ls locs ⟨hl.1, hl.2.1, fun q hq => ?_⟩ hR hS
  obtain ⟨q0, h0, rfl⟩ := List.mem_map.mp hq
  exact hl.2.2 _ (List.mem_map.mpr ⟨q0, hsub q0 h0, rfl⟩)
theorem lh_1 (hc hm : ri_H) : (hc ++ hm.map (ri_shC 209)) ++ [((19 : Nat), ([] : List Value))] = hc ++ (hm ++ [((19 : Nat), ([] : List Value))]).map (ri_shC 209) := by
  rw [List.map_append, List.append_assoc]
  rfl
theorem lh_2 {hc hm : ri_H} (hl : hc.length = 209) (v : Int64) : (hc ++ hm.map (ri_shC 209)).set 227 (15, [.long v]) = hc ++ (hm.set 18 (15, [.long v])).map (ri_shC 209) := by
  rw [List.set_append_right _ _ (by omega), hl, List.map_set]
  rfl
section LC4
variable {p : Program} {l : Launch} {e : Env} {s : State} {m : MethodId} {below : List Frame} {meth : Method} {c : Code} {E : ri_V} {D : va_G} {cA : Nat → ClassId} {b L : Nat} {xs : Nat → Int32} {k z i : Nat} {hc hm : ri_H} {W0 : cs_W}
/-- behind the static call -/
theorem lc_4b (X : la_C p s m meth c E D cA b L xs) (hi : i + 6 ≤ L) (hk : k ≤ 601024) (hz : z ≤ 7293034) {x : Int32} (HL : cs_L W0 hc hm) (hM : cs_M W0 185 [xs (i + 1), xs (i + 2)] hc hm) (hend : ∀ hm' : ri_H, cs_L W0 hc hm' → la_Ab p l e s m below meth c E D cA b (1238, lo_i i, [], hc ++ hm'.map (ri_shC 209), k, z)) : la_Ab p l e s m below meth c E D cA b (353, lo_i i, [.int x], hc ++ hm.map (ri_shC 209), k, z) := by
  have ⟨hx, hb, _⟩ := X.1
  obtain ⟨y, hm', c1, HL'⟩ := hM
  obtain ⟨-, q9, g3, g4⟩ := la_L0 HL (hm.map (ri_shC 209))
  have e5 : ri_st1 (lo_i i) 5 (.int x) = (5, .int x) :: lo_i i := rfl
  have e6 : ri_st1 ((5, .int x) :: lo_i i) 6 (.int y) = (6, .int y) :: (5, .int x) :: lo_i i := rfl
  refine ri_r_ist X.1 (i := 5) (v := .int x) rfl (by decide) (n := 2) (Or.inr ⟨rfl, ld_353⟩) ?_
  rw [e5]
  refine ri_r_ald X.1 (i := 2) (v := .ref 209) rfl rfl (n := 1) (Or.inl ⟨2, rfl, rfl, ld_355⟩) ?_
  refine la_arg X (pc := 356) (i := i) (o := 1) rfl rfl (by omega) ldk_356 ?_
  refine la_arg X (pc := 362) (i := i) (o := 2) rfl rfl (by omega) ldk_362 ?_
  refine la_call X (pc := 368) (j := 185) (b0 := 209) (as := [.int (xs (i + 1)), .int (xs (i + 2))]) (r := []) (q := md_185) rfl (la_mod l E D cA (ys := [xs (i + 1), xs (i + 2)]) rfl HL.1 c1) (la_209 HL.1 g3) (show (ri_shC 209 q9).1 = 12 from g4) lc_k4 ld_368 ⟨rfl, rfl⟩ hk hz (by decide) ?_
  refine ri_r_ist X.1 (i := 6) (v := .int y) rfl (by decide) (n := 2) (Or.inr ⟨rfl, ld_371⟩) ?_
  rw [e6]
  refine ri_r_stk (pc' := 1238) (st' := []) (fun H ls locs w => lv_goto hx hb ld_373 (by decide) w) ?_
  exact ri_sub (lo' := lo_i i) (fun q hq => List.mem_cons_of_mem _ (List.mem_cons_of_mem _ hq)) (hend hm' HL')
theorem ln_hws (hts : ∀ w ∈ lw_tbl, ri_stb w = true → w.before #[Value.ref b] s = true) : ∀ w ∈ ln_ws, ∀ (a' : Array Value) (U : State), s.WarmedH U.vm → w.before a' U = true := by
  intro w hw a' U hW
  rcases List.mem_cons.mp hw with rfl | hw
  · exact ri_stb_at rfl hW (hts _ ln_m6 rfl)
  · exact ri_stb_at (List.mem_filter.mp hw).2 hW (hts w (List.mem_filter.mp hw).1 (List.mem_filter.mp hw).2)
theorem ln_sig : ∀ sig, parseMethodDescriptor yL_lesson.desc = some sig → 4 = sig.parameters.length := by
  intro sig h
  have h2 : (parseMethodDescriptor yL_lesson.desc).map (fun d => d.parameters.length) = some 4 := by decide +kernel
  rw [h] at h2
  exact (Option.some.inj h2).symm
theorem ln_227 {v : Int64} (hl : hc.length = 209) (h18 : hm[18]? = some (15, [.long v])) : (hc ++ hm.map (ri_shC 209))[227]? = some (15, [.long v]) := by
  rw [List.getElem?_append_right (by omega), hl, show 227 - 209 = 18 from rfl, List.getElem?_map, h18]
  rfl
theorem lc_4 (hst : l.stackTraces = false) (X : la_C p s m meth c E D cA b L xs) (hi : i + 6 ≤ L) {sa : Nat} (hW0 : ls_W E sa s) (hk : k + 1 ≤ 601024) (hz : z + 6 ≤ 7293034) (HL : cs_L W0 hc hm) (hW : W0.all (fun w => Nat.blt w.2.1 18) = true) (hM : ∀ hm' : ri_H, cs_L W0 hc hm' → cs_M W0 185 [xs (i + 1), xs (i + 2)] hc hm') (hend : ∀ hm' : ri_H, cs_L W0 hc hm' → la_Ab p l e s m below meth c E D cA b (1238, lo_i i, [], hc ++ hm'.map (ri_shC 209), k + 1, z + 6)) : la_Ab p l e s m below meth c E D cA b (336, lo_i i, [], hc ++ hm.map (ri_shC 209), k, z) := by
  have ⟨hx, hb, hml, hown, hts, hK, hX, _⟩ := X.1
  obtain ⟨⟨q0, g1, g2⟩, -⟩ := la_L0 HL (hm.map (ri_shC 209))
  obtain ⟨v18, h18⟩ := HL.2.2.2.2.2.2.1
  have h27 := ln_227 HL.1 h18
  have hap : ∀ kk, kk < 209 → (hc ++ hm.map (ri_shC 209))[kk]? = hc[kk]? := fun kk hkk => List.getElem?_append_left (by have := HL.1; omega)
  have hMet : Met l yL_lesson ln_ws (ri_rm 31 ln_M) (ls_P E D cA [.ref 0, .int (xs (i + 1)), .int (xs (i + 2)), .ref 227] (hc ++ hm.map (ri_shC 209)) sa) (ri_Qc E D cA (ln_Q (hc ++ hm.map (ri_shC 209)))) 1 6 (ri_A E) := by
    obtain ⟨n, f, r1, r2, r3, r4, r5⟩ := ls_ri (cs_inv (fun kk hkk => hap kk (by rw [cs_dep.2] at hkk; exact hkk)) HL.2.1) (fun j hj => cs_J (fun kk hkk => hap kk hkk) hj (HL.2.2.1 j hj)) (xs (i + 1)) (xs (i + 2))
    rcases r5 with ⟨r5, x, r6⟩ | ⟨r5, r6⟩
    · exact ln_metR l E D cA g1 g2 h27 r1 r5 r6 r2 r3 r4 sa
    · obtain ⟨fp, fl, fs, fh, fk, fz⟩ := f
      dsimp only at r2 r3 r4 r5 r6
      subst r2 r3 r4 r5 r6
      exact ln_met l hst E D cA g1 g2 r1 sa
  refine ri_r_ald X.1 (i := 1) (v := .ref 0) rfl rfl (n := 1) (Or.inl ⟨1, rfl, rfl, ld_336⟩) ?_
  refine la_arg X (pc := 337) (i := i) (o := 1) rfl rfl (by omega) ldk_337 ?_
  refine la_arg X (pc := 343) (i := i) (o := 2) rfl rfl (by omega) ldk_343 ?_
  refine ri_r_ald X.1 (i := 3) (v := .ref 227) rfl rfl (n := 1) (Or.inl ⟨3, rfl, rfl, ld_349⟩) ?_
  have post : ∀ (x : Int32) (h' : ri_H), (h' = hc ++ hm.map (ri_shC 209) ∨ h' = (hc ++ hm.map (ri_shC 209)) ++ [(19, [])] ∨ ∃ v : Int64, h' = (hc ++ hm.map (ri_shC 209)).set 227 (15, [.long v])) → la_Ab p l e s m below meth c E D cA b (353, lo_i i, [.int x], h', k + 1, z + 6) := by
    intro x h' hh
    rcases hh with rfl | rfl | ⟨v, rfl⟩
    · exact lc_4b X hi hk hz HL (hM hm HL) hend
    · rw [lh_1]
      have HL2 : cs_L W0 hc (hm ++ [((19 : Nat), ([] : List Value))]) := by
        have hlt : 18 < hm.length := (List.getElem?_eq_some_iff.mp h18).1
        exact cs_lm HL (fun kk hkk => List.getElem?_append_left (by omega)) (v := v18) (by rw [List.getElem?_append_left hlt]; exact h18) hW
      exact lc_4b X hi hk hz HL2 (hM _ HL2) hend
    · rw [lh_2 HL.1]
      have HL2 : cs_L W0 hc (hm.set 18 (15, [.long v])) := by
        have hlt : 18 < hm.length := (List.getElem?_eq_some_iff.mp h18).1
        exact cs_lm HL (fun kk hkk => List.getElem?_set_ne (by omega)) (v := v) (List.getElem?_set_self hlt) hW
      exact lc_4b X hi hk hz HL2 (hM _ HL2) hend
  intro H ls locs hl hR hS
  refine ri_goon (P := ln_Q (hc ++ hm.map (ri_shC 209))) (mc := 1) (ms := 6) (rest := []) (vx_runSW (nL := 7) (cc := code) (Ts := []) (own := RL) (index := 38) (bytes := cL_lesson) (maxL := 5) (ret := some .int) (hh := ln_hh) (n := 4) (As := [Value.ref 0, .int (xs (i + 1)), .int (xs (i + 2)), .ref 227].map (ri_cv E)) ⟨hx, hb, hml, hown, fun w h => absurd h List.not_mem_nil⟩ hMet
    ⟨⟨rfl, rfl, by decide, by decide, ln_hws hts, List.mem_cons_self⟩, hts _ ln_m6 rfl, hts _ ln_m7 rfl, ⟨by decide, by decide⟩, ln_sig, hts _ ln_m8 rfl, hts _ ln_m9 rfl⟩
    ⟨ls_blind E D cA _ _ sa, fun U hU hW => ⟨⟨rfl, ri_pre hK hX hS hR hU hW⟩, hW0.to hW hU hS⟩⟩ rfl rfl hl.1 rfl (lv_room (by decide)) ld_350 ⟨hk, hz⟩) hS (fun v h' H1 locs1 hP hR1 hS1 => ?_)
  obtain ⟨⟨x, rfl⟩, hh⟩ := hP
  exact post x h' hh H1 ls locs1 hl hR1 hS1
theorem lc_W (X : la_C p s m meth c E D cA b L xs) (hts : ∀ w ∈ lw_tbl, w.before #[Value.ref b] s = true) (hgv : (Jvm.Cond.and given_1 narrow_1).before #[Value.ref b] s = true) : ∃ sa : Nat, ls_W E sa s := by
  have hs : ∀ w ∈ lw_nw, w.before #[Value.ref b] s = true := flat_of_before _ hgv
  have hA : ∀ a : Nat, a < s.heap.size → ¬ ri_A E a := fun a h => by
    show ¬ E.1 ≤ a
    rw [X.2.2.2.2.1]
    exact Nat.not_le.mpr h
  obtain ⟨sa, c0, cell, k0, hev, -⟩ := Cond.exactly_spec (args := #[Value.ref b]) (first := s) (o := none) (s := s) (idx := []) (hs _ ln_n3)
  exact ⟨sa, vx_Zqof (hts _ ln_m10) (hts _ ln_m12) (hs _ ln_n1) hA, vx_Zqof (hts _ ln_m11) (hts _ ln_m12) (hs _ ln_n2) hA, vk_R.of (hts _ ln_m13) hev, fun w hw => va_tabs (ls_tab hw) rfl (hts w (ls_in w (List.mem_filter.mp hw).1))⟩
end LC4
