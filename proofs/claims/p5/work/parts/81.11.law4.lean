/-! LakeLearnsLaw.lesson: calls, catches, answers 1; the law's case 4 -/
def ln_hh : List (Nat × Nat × Nat × Nat) := [(0, 10, 13, 13)]
def ln_M : ri_M := (yL_lesson, cL_lesson, 5, some .int, RL, 1, 6)
def ln_ws : List Cond := Cond.codeWith yL_lesson cL_lesson 5 (some .int) ln_hh :: lw_tbl.filter ri_stb
set_option maxRecDepth 100000 in
theorem ln_m1 : Cond.methodLink RL 7 ls_q.1.1 ∈ lw_tbl := by decide +kernel
set_option maxRecDepth 100000 in
theorem ln_m2 : Cond.instanceMethod ls_q.1.1 ∈ lw_tbl := by decide +kernel
set_option maxRecDepth 100000 in
theorem ln_m3 : Cond.selects RX11 ls_q.1.1 ls_q.1.1 ∈ lw_tbl := by decide +kernel
set_option maxRecDepth 100000 in
theorem ln_m4 : Cond.classLink RL 13 nse ∈ lw_tbl := by decide +kernel
set_option maxRecDepth 100000 in
theorem ln_m5 : Cond.castable nse nse ∈ lw_tbl := by decide +kernel
set_option maxRecDepth 100000 in
theorem ln_m6 : Cond.codeWith yL_lesson cL_lesson 5 (some .int) ln_hh ∈ lw_tbl := by decide +kernel
set_option maxRecDepth 100000 in
theorem ln_m7 : Cond.initialized RL ∈ lw_tbl := by decide +kernel
set_option maxRecDepth 100000 in
theorem ln_m8 : Cond.methodLink RL 38 yL_lesson ∈ lw_tbl := by decide +kernel
set_option maxRecDepth 100000 in
theorem ln_m9 : Cond.static yL_lesson ∈ lw_tbl := by decide +kernel
set_option maxRecDepth 100000 in
theorem ln_m10 : Cond.laysStatic Bundle.tN "UNASSIGNED_STACK" Bundle.steD ∈ lw_tbl := by decide +kernel
set_option maxRecDepth 100000 in
theorem ln_m11 : Cond.laysStatic Bundle.tN "SUPPRESSED_SENTINEL" Bundle.listD ∈ lw_tbl := by decide +kernel
set_option maxRecDepth 100000 in
theorem ln_m12 : Cond.initialized Bundle.tN ∈ lw_tbl := by decide +kernel
set_option maxRecDepth 100000 in
theorem ln_m13 : Cond.stringRef RX11 152 ls_t ∈ lw_tbl := by decide +kernel
set_option maxRecDepth 100000 in
theorem ln_n1 : Cond.isRef (.static Bundle.tN "UNASSIGNED_STACK" Bundle.steD) ∈ lw_nw := by decide +kernel
set_option maxRecDepth 100000 in
theorem ln_n2 : Cond.isRef (.static Bundle.tN "SUPPRESSED_SENTINEL" Bundle.listD) ∈ lw_nw := by decide +kernel
set_option maxRecDepth 100000 in
theorem ln_n3 : Cond.exactly (.string RX11 152) "java/lang/String" ∈ lw_nw := by decide +kernel
theorem ln_d0 : decode cL_lesson 0 = .ok (.aload_n 3, 1) := by decide +kernel
theorem ln_d1 : decode cL_lesson 1 = .ok (.iconst 0, 1) := by decide +kernel
theorem ln_d2 : decode cL_lesson 2 = .ok (.aload_n 0, 1) := by decide +kernel
theorem ln_d3 : decode cL_lesson 3 = .ok (.iload_n 1, 1) := by decide +kernel
theorem ln_d4 : decode cL_lesson 4 = .ok (.iload_n 2, 1) := by decide +kernel
theorem ln_d5 : decode cL_lesson 5 = .ok (.invokevirtual 7, 3) := by decide +kernel
theorem ln_d13 : decode cL_lesson 13 = .ok (.astore 4, 2) := by decide +kernel
theorem ln_d15 : decode cL_lesson 15 = .ok (.iconst 1, 1) := by decide +kernel
theorem ln_d16 : decode cL_lesson 16 = .ok (.ireturn, 1) := by decide +kernel
theorem ln_d8 : decode cL_lesson 8 = .ok (.i2l, 1) := by decide +kernel
theorem ln_d10 : decode cL_lesson 10 = .ok (.goto 7, 3) := by decide +kernel
theorem ln_d17 : decode cL_lesson 17 = .ok (.iconst 0, 1) := by decide +kernel
theorem ln_d18 : decode cL_lesson 18 = .ok (.ireturn, 1) := by decide +kernel
set_option maxRecDepth 100000 in
theorem ln_o9 : ri_ok ri_md ln_M 9 (.lastore, 1, [], .null) = true := by decide +kernel
theorem ln_mk : ri_Mk ls_q.1 2 := by
  obtain ⟨n, h⟩ := ri_mk_all 107 md_107 rfl
  have h2 := ri_mkn (n := 2) h (by decide +kernel)
  exact ⟨h2.1, h2.2.1, h2.2.2.1, h2.2.2.2.1, h2.2.2.2.2.1, h2.2.2.2.2.2.1, h2.2.2.2.2.2.2.1, h2.2.2.2.2.2.2.2⟩
theorem ln_of {l : Launch} {y : MethodName} {ws ws' : List Cond} {rm : Room} {Pc : Array Value → State → Prop} {Qc : Array Value → State → Outcome → State → Prop} {mc ms : Nat} {free : Addr → Prop} {cc : ByteArray} {maxL : Nat} {ret : Option FieldType} {hh : List (Nat × Nat × Nat × Nat)}
    (hy : plainName y.cls = true) (hw : ws = Cond.codeWith y cc maxL ret hh :: ws')
    (body : ∀ p e s m args below meth c s₁, BodyLoose p l y (headSpec ws rm) cc maxL ret e s m args below meth c s₁ → c.maxLocals = maxL → Pc args s →
      W p l e (headSpec ws rm).room s m args below meth c s.heap [] 0 0 (MQ below Qc args s mc ms free) (entryFrame m args maxL)) : Met l y ws rm Pc Qc mc ms free := by
  refine MetFree.of_bodyS (code := cc) (maxLocals := maxL) (ret := ret) hy ?_ ?_
  · intro args s m h hn
    obtain ⟨m9, meth, c, hn9, h1, h2, h3, h4, -, h5, h6, -⟩ := Cond.codeWith_spec (atoms_spec (ws := ws) h _ (by rw [hw]; exact List.mem_cons_self))
    cases hn.symm.trans hn9
    exact ⟨meth, c, h1, h2, h3, h4, h5, h6⟩
  · intro p e s m args below meth c s₁ B hml hP _
    have hh0 : s₁.heap = s.heap := by rw [B.state]; rfl
    obtain ⟨t, a1, o, b1, b2, b3⟩ := body p e s m args below meth c s₁ B hml hP s₁ hh0 (Stand.of_body B)
    exact ⟨t, o, a1, b1, b2, ⟨b3.1, b3.2⟩⟩
/-- what the law's lesson leaves: an answer; the heap as it was, or with one cell more, or with out[0] written -/
def ln_Q (h : ri_H) : Option Value → ri_H → Prop := fun a b => (∃ x : Int32, a = some (.int x)) ∧ (b = h ∨ b = h ++ [(19, [])] ∨ ∃ v : Int64, b = h.set 227 (15, [.long v]))
theorem ln_size {p : Program} {l : Launch} {e : Env} {R : Room} {s : State} {m : MethodId} {args : Array Value} {below : List Frame} {meth : Method} {c : Code} {T : State} {locs : List Loc} {k z : Nat} (X : Stand p l e R s m args below meth c T locs k z) : T.heap.size ≤ s.heap.size + k := X.same.2.2.1
theorem ln_Ca (l : Launch) (E : ri_V) (D : va_G) (cA : Nat → ClassId) : ri_Ca l E D cA ri_md (ri_calE ri_md 30) 30 ln_M (ri_rm 31 ln_M) :=
  ⟨ri_mk_all, fun j q as h v h' hq hs => ri_runE l E D cA hq hs, Nat.le_refl _, Nat.le_refl _, by decide, by decide⟩
/-- where LakeLearns.lesson throws -/
theorem ln_met (l : Launch) (hst : l.stackTraces = false) (E : ri_V) (D : va_G) (cA : Nat → ClassId) {n : Nat} {x1 x2 : Int32} {h : ri_H} {q0 : ri_C} {lo0 : List (Nat × Value)} (h00 : h[0]? = some q0) (h11 : q0.1 = 11)
    (hs : ri_go (ri_st [] (ri_calE ri_md 29) (ri_bud ri_md) ls_q) n (0, ri_as 0 [.ref 0, .int x1, .int x2], [], h, 0, 0) = some (22, lo0, [], h, 0, 0)) (sa : Nat) :
    Met l yL_lesson ln_ws (ri_rm 31 ln_M) (ls_P E D cA [.ref 0, .int x1, .int x2, .ref 227] h sa) (ri_Qc E D cA (ln_Q h)) 1 6 (ri_A E) := by
  refine ln_of (cc := cL_lesson) (maxL := 5) (ret := some .int) (hh := ln_hh) (by decide) rfl ?_
  intro p e s m args below meth c s₁ B hml hv
  obtain ⟨⟨rfl, hK, hX, hR⟩, hW0⟩ := hv
  have hts := atoms_spec (ws := ln_ws) B.pre
  have hown : s.vm.findClass RL = some m.cls := findClass_of_methodNamed B.named
  have htb : c.exceptionTable.toList = tableOf ln_hh := vx_table (x := yL_lesson) B (hts _ List.mem_cons_self)
  have hts2 : ∀ w ∈ lw_tbl, ri_stb w = true → w.before ([Value.ref 0, .int x1, .int x2, .ref 227].map (ri_cv E)).toArray s = true := fun w h1 h2 => hts w (List.mem_cons_of_mem _ (List.mem_filter.mpr ⟨h1, h2⟩))
  have Cx : ri_Cx p s m ([Value.ref 0, .int x1, .int x2, .ref 227].map (ri_cv E)).toArray meth c E D cA ln_M := ⟨B.exec, B.bytes, hml, hown, hts2, hK, hX, (name_of_methodNamed B.named B.method).1, by rw [hR.1]; omega⟩
  have hl := lv_entry ([Value.ref 0, .int x1, .int x2, .ref 227].map (ri_cv E)) (n := 5) (by rw [ri_lgsl]; exact (show (4 : Nat) ≤ 5 from by decide))
  rw [lg_entry_eq]
  rw [ri_mp_as] at hl
  have fin : ∀ h' : ri_H, (h' = h ∨ h' = h ++ [(19, [])]) → ri_Ab p l e (ri_rm 31 ln_M) s m ([Value.ref 0, .int x1, .int x2, .ref 227].map (ri_cv E)).toArray below meth c (MQ below (ri_Qc E D cA (ln_Q h)) ([Value.ref 0, .int x1, .int x2, .ref 227].map (ri_cv E)).toArray s 1 6 (ri_A E)) E D cA ln_M.2.2.1 (15, [], [], h', 1, 6) := by
    intro h' hh
    refine ri_r_push Cx (v := .int 1) (n := 1) (fun H ls locs rest w => lv_iconst B.exec B.bytes ln_d15 rfl w) rfl ?_
    exact ri_snd_ret Cx B.returns B.notSynchronized (P := ln_Q h) (ins := .ireturn) (rs := [.int 1]) ln_d16 rfl ⟨⟨1, rfl⟩, by rcases hh with hh | hh <;> simp [hh]⟩ (Nat.le_refl _) (Nat.le_refl _)
  have key : ri_Ab p l e (ri_rm 31 ln_M) s m ([Value.ref 0, .int x1, .int x2, .ref 227].map (ri_cv E)).toArray below meth c (MQ below (ri_Qc E D cA (ln_Q h)) ([Value.ref 0, .int x1, .int x2, .ref 227].map (ri_cv E)).toArray s 1 6 (ri_A E)) E D cA ln_M.2.2.1 (0, ri_as 0 [.ref 0, .int x1, .int x2, .ref 227], [], h, 0, 0) := by
    refine ri_r_ald Cx (i := 3) (v := .ref 227) rfl rfl (n := 1) (Or.inl ⟨3, rfl, rfl, ln_d0⟩) ?_
    refine ri_r_push Cx (v := .int 0) (n := 1) (fun H ls locs rest w => lv_iconst B.exec B.bytes ln_d1 rfl w) rfl ?_
    refine ri_r_ald Cx (i := 0) (v := .ref 0) rfl rfl (n := 1) (Or.inl ⟨0, rfl, rfl, ln_d2⟩) ?_
    refine ri_r_ild Cx (i := 1) (v := .int x1) rfl rfl (n := 1) (Or.inl ⟨1, rfl, rfl, ln_d3⟩) ?_
    refine ri_r_ild Cx (i := 2) (v := .int x2) rfl rfl (n := 1) (Or.inl ⟨2, rfl, rfl, ln_d4⟩) ?_
    intro H ls locs hl hR1 hS
    obtain ⟨r', hr', cellV, g1, g2, g3, -⟩ := (hR1.2 0 _ h00).1 (by rw [h11]; decide)
    have hr : vwCl[q0.1]? = some (RX11, TX11, 17) := by rw [h11]; rfl
    cases hr'.symm.trans hr
    have hcls := (hK.1 _ _ hr).2
    have hrun := vx_runV (p := p) (e := e) (below := below) (meth := meth) (locs := locs) (cells := 0) (slots := 0) (H := H) (R := ri_rm 31 ln_M) (cc := cL_lesson) (nL := 5) (Ts := []) (As := [Value.int x1, .int x2].map (ri_cv E)) (b := E.1 + 0) (C := RX11) (own := RL) (index := 7) (n := 2) (rest := [Value.int 0, .ref 227].map (ri_cv E)) (g := F0 m 5 ls ([Value.int x2, .int x1, .ref 0, .int 0, .ref 227].map (ri_cv E)))
      ⟨B.exec, B.bytes, hml, hown, fun w h => absurd h List.not_mem_nil⟩ (ls_met l hst E D cA hs sa) ⟨ri_cb hts2 ln_mk (by decide) (by decide) (hts2 _ ln_m1 rfl), hts2 _ ln_m2 rfl, hts2 _ ln_m3 rfl⟩
      ⟨ls_blind E D cA _ h sa, ⟨cellV, g1, by rw [g3]; rfl, by rw [g2]; exact hcls.1⟩, fun U hU hW => ⟨⟨rfl, ri_pre hK hX hS hR1 hU hW⟩, hW0.to hW hU hS⟩⟩ rfl rfl hl.1 rfl (lv_room (by rw [ri_wt_cv]; exact (show (2 : Nat) ≤ 8 from by decide))) ln_d5 ⟨show 0 + 1 ≤ 1 from Nat.le_refl _, show 0 + 6 ≤ 6 from Nat.le_refl _⟩
    intro T hT XX
    rcases hrun T hT XX with ⟨v, st₀, t, T', L, e0, X', hL, e1, e2, hq, go⟩ | ⟨q, st₀, t, T', L, N, ce, e0, X', hL, e1, e2, ⟨rfl, ⟨H0, hR0, hz0, hk0⟩, hF⟩, hce, hcv, hcl, stp⟩
    · exact hq.elim
    · have hsz := ln_size X'
      rw [e1] at hsz
      have hS' : va_S (ri_A E) s.heap t.heap (locs ++ L) := ⟨Nat.le_trans hS.1 (by rw [← e0]; exact hF.1), fun q h1 h2 => by rw [hF.2 q (by rw [e0]; exact Nat.lt_of_lt_of_le h1 hS.1) h2, e0]; exact hS.2.1 q h1 h2, fun q hq => by
        rcases List.mem_append.mp hq with hh | hh
        · exact hS.2.2 q hh
        · exact hL q hh⟩
      have hRR : ∃ h' : ri_H, (h' = h ∨ h' = h ++ [(19, [])]) ∧ ri_R E D cA h' t.heap := by
        rcases ls_Rg hR0 hz0 (by rw [hR0.1, ← hR.1]; exact hsz) hk0 with h | h
        · exact ⟨_, Or.inl rfl, h⟩
        · exact ⟨_, Or.inr rfl, h⟩
      obtain ⟨h', hh', hR2⟩ := hRR
      have kc : vx_W p l e (ri_rm 31 ln_M) s m ([Value.ref 0, .int x1, .int x2, .ref 227].map (ri_cv E)).toArray below meth c t.heap (locs ++ L) (0 + 1) (0 + 6) (MQ below (ri_Qc E D cA (ln_Q h)) ([Value.ref 0, .int x1, .int x2, .ref 227].map (ri_cv E)).toArray s 1 6 (ri_A E)) (F0 m 5 ls ([Value.int 0, .ref 227].map (ri_cv E))) q := by
        refine vc_catch (own := RL) (name := nse) (E := nse) (ce := ce) hown ⟨0, 10, 13, 13⟩ htb (by decide) (by decide) (hts2 _ ln_m4 rfl) (hts2 _ ln_m5 rfl) hce hcv hcl ?_
        exact lv_astore B.exec B.bytes ln_d13 hl (by decide) rfl (fun ls' hl' => fin h' hh' t.heap ls' (locs ++ L) ⟨hl'.1, hl'.2.1, fun q hq => absurd hq List.not_mem_nil⟩ hR2 hS')
      obtain ⟨t2, a1, b1⟩ := kc T' e1 X'
      exact ⟨t2, stp.trans a1, b1⟩
  exact key s.heap _ [] hl hR va_S.rf
/-- LakeLearns.lesson where it returns -/
theorem ls_metR (l : Launch) (E : ri_V) (D : va_G) (cA : Nat → ClassId) {n : Nat} {a b x : Int32} {h : ri_H} {f : ri_F} (hs : ri_go (ri_st [] (ri_calE ri_md 29) (ri_bud ri_md) ls_q) n (0, ri_as 0 [.ref 0, .int a, .int b], [], h, 0, 0) = some f) (f1 : f.1 = 70000) (f2 : f.2.2.1 = [.int x]) (f3 : f.2.2.2.1 = h) (f4 : f.2.2.2.2.1 = 0) (f5 : f.2.2.2.2.2 = 0) : ri_Met l E D cA 30 ls_q.1 [.ref 0, .int a, .int b] h (fun v h' => v = some (.int x) ∧ h' = h) := by
  refine ri_met_of ln_mk (show (3 : Nat) ≤ 3 from Nat.le_refl _) (fun p e s m args below meth c X hrt hlk => ?_)
  exact ri_go_snd (A := ri_Ab p l e (ri_rm 30 ls_q.1) s m args below meth c (MQ below (ri_Qc E D cA (fun v h' => v = some (.int x) ∧ h' = h)) args s ls_q.1.2.2.2.2.2.1 ls_q.1.2.2.2.2.2.2 (ri_A E)) E D cA ls_q.1.2.2.1) (B := fun f => (f.2.2.1.head? = some (.int x) ∧ f.2.2.2.1 = h) ∧ f.2.2.2.2.1 ≤ ls_q.1.2.2.2.2.2.1 ∧ f.2.2.2.2.2 ≤ ls_q.1.2.2.2.2.2.2)
      (fun f1 f2 hf1 hst kk => ri_st_snd X (ls_Ca l E D cA) (la_hdc E) ls_ot hrt hlk hf1 hst kk) n _ f (show (0 : Nat) ≠ 70000 by decide) hs (Or.inl ⟨f1, ⟨by rw [f2]; rfl, f3⟩, by rw [f4]; exact Nat.zero_le _, by rw [f5]; exact Nat.zero_le _⟩)
/-- where it returns, in the law's own lesson -/
theorem ln_metR (l : Launch) (E : ri_V) (D : va_G) (cA : Nat → ClassId) {n : Nat} {x1 x2 x : Int32} {h : ri_H} {q0 : ri_C} {f : ri_F} {v0 : Int64} (h00 : h[0]? = some q0) (h11 : q0.1 = 11) (h27 : h[227]? = some (15, [.long v0]))
    (hs : ri_go (ri_st [] (ri_calE ri_md 29) (ri_bud ri_md) ls_q) n (0, ri_as 0 [.ref 0, .int x1, .int x2], [], h, 0, 0) = some f) (f1 : f.1 = 70000) (f2 : f.2.2.1 = [.int x]) (f3 : f.2.2.2.1 = h) (f4 : f.2.2.2.2.1 = 0) (f5 : f.2.2.2.2.2 = 0) (sa : Nat) :
    Met l yL_lesson ln_ws (ri_rm 31 ln_M) (ls_P E D cA [.ref 0, .int x1, .int x2, .ref 227] h sa) (ri_Qc E D cA (ln_Q h)) 1 6 (ri_A E) := by
  refine ln_of (cc := cL_lesson) (maxL := 5) (ret := some .int) (hh := ln_hh) (by decide) rfl ?_
  intro p e s m args below meth c s₁ B hml hv
  obtain ⟨⟨rfl, hK, hX, hR⟩, hW0⟩ := hv
  have hts := atoms_spec (ws := ln_ws) B.pre
  have hown : s.vm.findClass RL = some m.cls := findClass_of_methodNamed B.named
  have hts2 : ∀ w ∈ lw_tbl, ri_stb w = true → w.before ([Value.ref 0, .int x1, .int x2, .ref 227].map (ri_cv E)).toArray s = true := fun w h1 h2 => hts w (List.mem_cons_of_mem _ (List.mem_filter.mpr ⟨h1, h2⟩))
  have Cx : ri_Cx p s m ([Value.ref 0, .int x1, .int x2, .ref 227].map (ri_cv E)).toArray meth c E D cA ln_M := ⟨B.exec, B.bytes, hml, hown, hts2, hK, hX, (name_of_methodNamed B.named B.method).1, by rw [hR.1]; omega⟩
  have hl := lv_entry ([Value.ref 0, .int x1, .int x2, .ref 227].map (ri_cv E)) (n := 5) (by rw [ri_lgsl]; exact (show (4 : Nat) ≤ 5 from by decide))
  rw [lg_entry_eq]
  rw [ri_mp_as] at hl
  have key : ri_Ab p l e (ri_rm 31 ln_M) s m ([Value.ref 0, .int x1, .int x2, .ref 227].map (ri_cv E)).toArray below meth c (MQ below (ri_Qc E D cA (ln_Q h)) ([Value.ref 0, .int x1, .int x2, .ref 227].map (ri_cv E)).toArray s 1 6 (ri_A E)) E D cA ln_M.2.2.1 (0, ri_as 0 [.ref 0, .int x1, .int x2, .ref 227], [], h, 0, 0) := by
    refine ri_r_ald Cx (i := 3) (v := .ref 227) rfl rfl (n := 1) (Or.inl ⟨3, rfl, rfl, ln_d0⟩) ?_
    refine ri_r_push Cx (v := .int 0) (n := 1) (fun H ls locs rest w => lv_iconst B.exec B.bytes ln_d1 rfl w) rfl ?_
    refine ri_r_ald Cx (i := 0) (v := .ref 0) rfl rfl (n := 1) (Or.inl ⟨0, rfl, rfl, ln_d2⟩) ?_
    refine ri_r_ild Cx (i := 1) (v := .int x1) rfl rfl (n := 1) (Or.inl ⟨1, rfl, rfl, ln_d3⟩) ?_
    refine ri_r_ild Cx (i := 2) (v := .int x2) rfl rfl (n := 1) (Or.inl ⟨2, rfl, rfl, ln_d4⟩) ?_
    obtain ⟨i1, w1⟩ := List.getElem?_of_mem ln_m1
    obtain ⟨i2, w2⟩ := List.getElem?_of_mem ln_m2
    obtain ⟨i3, w3⟩ := List.getElem?_of_mem ln_m3
    refine ri_r_virt Cx (N := ls_q.1) (n := 2) (d := 30) (idx := 7) (b := 0) (ys := [.int x2, .int x1]) (r := [.int 0, .ref 227]) (rr := (RX11, TX11, 17)) (i1 := i1) (i2 := i2) (i3 := i3) (ls_metR l E D cA hs f1 f2 f3 f4 f5) ln_mk rfl (by decide) (by decide) (show (2 : Nat) ≤ 8 from by decide) h00 (by rw [h11]; decide) (by rw [h11]; rfl) w1 w2 w3 (show 0 + 1 ≤ 1 from Nat.le_refl _) (show 0 + 6 ≤ 6 from Nat.le_refl _) ln_d5 ?_
    rintro v h' ⟨rfl, rfl⟩
    refine ri_r_stk (pc' := 9) (st' := [.long x.toInt64, .int 0, .ref 227]) (fun H ls locs w => lv_i2l B.exec B.bytes ln_d8 rfl w) ?_
    have hst : ri_step [] (ri_calE ri_md 30) (ri_bud ri_md) ln_M (.lastore, 1, [], .null) 9 (ri_as 0 [.ref 0, .int x1, .int x2, .ref 227]) [.long x.toInt64, .int 0, .ref 227] h' 1 6 = some (10, ri_as 0 [.ref 0, .int x1, .int x2, .ref 227], [], h'.set 227 (15, [.long x.toInt64]), 1, 6) := by
      show (bif ri_isL (.long x.toInt64) then (match ri_ast ri_g3 (.ref 227) 0 (.long x.toInt64) h' with
        | some h' => some (9 + 1, ri_as 0 [.ref 0, .int x1, .int x2, .ref 227], ([] : List Value), h', 1, 6)
        | none => none) else none) = _
      have ha : ri_ast ri_g3 (.ref 227) 0 (.long x.toInt64) h' = some (h'.set 227 (15, [.long x.toInt64])) := by
        unfold ri_ast
        dsimp only
        rw [h27]
        rfl
      rw [ha]
      rfl
    refine ri_snd Cx (ln_Ca l E D cA) (la_hdc E) ln_o9 hst ?_
    refine ri_r_stk (pc' := 17) (st' := []) (fun H ls locs w => lv_goto B.exec B.bytes ln_d10 (by decide) w) ?_
    refine ri_r_push Cx (v := .int 0) (n := 1) (fun H ls locs rest w => lv_iconst B.exec B.bytes ln_d17 rfl w) rfl ?_
    exact ri_snd_ret Cx B.returns B.notSynchronized (P := ln_Q h') (ins := .ireturn) (rs := [.int 0]) ln_d18 rfl ⟨⟨0, rfl⟩, Or.inr (Or.inr ⟨_, rfl⟩)⟩ (Nat.le_refl _) (Nat.le_refl _)
  exact key s.heap _ [] hl hR va_S.rf
