/-! LakeLearnsLaw.lesson: calls, catches, answers 1; the law's case 4 -/
def ln_hh : List (Nat × Nat × Nat × Nat) := [(0, 10, 13, 13)]
def ln_M : ri_M := (yL_lesson, cL_lesson, 5, some .int, RL, 1, 6)
def ln_ws : List Cond := Cond.codeWith yL_lesson cL_lesson 5 (some .int) ln_hh :: lw_tbl.filter ri_stb
set_option maxRecDepth 100000 in
theorem ln_m1 : Cond.methodLink RL 7 ls_q.1.1 ∈ lw_tbl := by decide +kernel
set_option maxRecDepth 100000 in
theorem ln_m2 : Cond.instanceMethod ls_q.1.1 ∈ lw_tbl := by decide +kernel
set_option maxRecDepth 100000 in
theorem ln_m3 : Cond.selects RX11 ls_q.1.1 ls_q.1.1 ∈ lw_tbl := by decide +kernel
set_option maxRecDepth 100000 in
theorem ln_m4 : Cond.classLink RL 13 nse ∈ lw_tbl := by decide +kernel
set_option maxRecDepth 100000 in
theorem ln_m5 : Cond.castable nse nse ∈ lw_tbl := by decide +kernel
set_option maxRecDepth 100000 in
theorem ln_m6 : Cond.codeWith yL_lesson cL_lesson 5 (some .int) ln_hh ∈ lw_tbl := by decide +kernel
set_option maxRecDepth 100000 in
theorem ln_m7 : Cond.initialized RL ∈ lw_tbl := by decide +kernel
set_option maxRecDepth 100000 in
theorem ln_m8 : Cond.methodLink RL 38 yL_lesson ∈ lw_tbl := by decide +kernel
set_option maxRecDepth 100000 in
theorem ln_m9 : Cond.static yL_lesson ∈ lw_tbl := by decide +kernel
set_option maxRecDepth 100000 in
theorem ln_m10 : Cond.laysStatic Bundle.tN "UNASSIGNED_STACK" Bundle.steD ∈ lw_tbl := by decide +kernel
set_option maxRecDepth 100000 in
theorem ln_m11 : Cond.laysStatic Bundle.tN "SUPPRESSED_SENTINEL" Bundle.listD ∈ lw_tbl := by decide +kernel
set_option maxRecDepth 100000 in
theorem ln_m12 : Cond.initialized Bundle.tN ∈ lw_tbl := by decide +kernel
set_option maxRecDepth 100000 in
theorem ln_m13 : Cond.stringRef RX11 152 ls_t ∈ lw_tbl := by decide +kernel
set_option maxRecDepth 100000 in
theorem ln_n1 : Cond.isRef (.static Bundle.tN "UNASSIGNED_STACK" Bundle.steD) ∈ lw_nw := by decide +kernel
set_option maxRecDepth 100000 in
theorem ln_n2 : Cond.isRef (.static Bundle.tN "SUPPRESSED_SENTINEL" Bundle.listD) ∈ lw_nw := by decide +kernel
set_option maxRecDepth 100000 in
theorem ln_n3 : Cond.exactly (.string RX11 152) "java/lang/String" ∈ lw_nw := by decide +kernel
theorem ln_d0 : decode cL_lesson 0 = .ok (.aload_n 3, 1) := by decide +kernel
theorem ln_d1 : decode cL_lesson 1 = .ok (.iconst 0, 1) := by decide +kernel
theorem ln_d2 : decode cL_lesson 2 = .ok (.aload_n 0, 1) := by decide +kernel
theorem ln_d3 : decode cL_lesson 3 = .ok (.iload_n 1, 1) := by decide +kernel
theorem ln_d4 : decode cL_lesson 4 = .ok (.iload_n 2, 1) := by decide +kernel
theorem ln_d5 : decode cL_lesson 5 = .ok (.invokevirtual 7, 3) := by decide +kernel
theorem ln_d13 : decode cL_lesson 13 = .ok (.astore 4, 2) := by decide +kernel
theorem ln_d15 : decode cL_lesson 15 = .ok (.iconst 1, 1) := by decide +kernel
theorem ln_d16 : decode cL_lesson 16 = .ok (.ireturn, 1) := by decide +kernel
theorem ln_mk : ri_Mk ls_q.1 2 := by
  obtain ⟨n, h⟩ := ri_mk_all 107 md_107 rfl
  have h2 := ri_mkn (n := 2) h (by decide +kernel)
  exact ⟨h2.1, h2.2.1, h2.2.2.1, h2.2.2.2.1, h2.2.2.2.2.1, h2.2.2.2.2.2.1, h2.2.2.2.2.2.2.1, h2.2.2.2.2.2.2.2⟩
theorem ln_of {l : Launch} {y : MethodName} {ws ws' : List Cond} {rm : Room} {Pc : Array Value → State → Prop} {Qc : Array Value → State → Outcome → State → Prop} {mc ms : Nat} {free : Addr → Prop} {cc : ByteArray} {maxL : Nat} {ret : Option FieldType} {hh : List (Nat × Nat × Nat × Nat)}
    (hy : plainName y.cls = true) (hw : ws = Cond.codeWith y cc maxL ret hh :: ws')
    (body : ∀ p e s m args below meth c s₁, BodyLoose p l y (headSpec ws rm) cc maxL ret e s m args below meth c s₁ → c.maxLocals = maxL → Pc args s →
      W p l e (headSpec ws rm).room s m args below meth c s.heap [] 0 0 (MQ below Qc args s mc ms free) (entryFrame m args maxL)) : Met l y ws rm Pc Qc mc ms free := by
  refine MetFree.of_bodyS (code := cc) (maxLocals := maxL) (ret := ret) hy ?_ ?_
  · intro args s m h hn
    obtain ⟨m9, meth, c, hn9, h1, h2, h3, h4, -, h5, h6, -⟩ := Cond.codeWith_spec (atoms_spec (ws := ws) h _ (by rw [hw]; exact List.mem_cons_self))
    cases hn.symm.trans hn9
    exact ⟨meth, c, h1, h2, h3, h4, h5, h6⟩
  · intro p e s m args below meth c s₁ B hml hP _
    have hh0 : s₁.heap = s.heap := by rw [B.state]; rfl
    obtain ⟨t, a1, o, b1, b2, b3⟩ := body p e s m args below meth c s₁ B hml hP s₁ hh0 (Stand.of_body B)
    exact ⟨t, o, a1, b1, b2, ⟨b3.1, b3.2⟩⟩
def ln_Q : Option Value → ri_H → Prop := fun a b => a = some (.int 1) ∧ (b = h_fr ∨ b = h_fr ++ [(19, [])])
def ln_as : List Value := [.ref 0, .float 1, .float 2, .ref 227]
def ln_lo : List (Nat × Value) := [(0, .ref 0), (1, .float 1), (2, .float 2), (3, .ref 227)]
def ls_lo : List (Nat × Value) := [(0, .ref 0), (1, .float 1), (2, .float 2)]
def ls_as : List Value := [.ref 0, .float 1, .float 2]
theorem ln_size {p : Program} {l : Launch} {e : Env} {R : Room} {s : State} {m : MethodId} {args : Array Value} {below : List Frame} {meth : Method} {c : Code} {T : State} {locs : List Loc} {k z : Nat} (X : Stand p l e R s m args below meth c T locs k z) : T.heap.size ≤ s.heap.size + k := X.same.2.2.1
theorem ln_met (l : Launch) (hst : l.stackTraces = false) (E : ri_V) (D : va_G) (cA : Nat → ClassId) {dc : ri_O} (hdc : ∀ q ∈ dc, ri_hd q.1 (ri_ic E q.2.1) (ri_ic E q.2.2.1) = q.2.2.2) {n : Nat}
    (hs : ri_is (ri_sn (ri_st dc (ri_call dc ri_md 7) (ri_bud ri_md) ls_q) n (0, ri_as 0 ls_as, [], h_fr, 0, 0)) (22, ls_lo, [], h_fr, 0, 0) = true) (sa : Nat) :
    Met l yL_lesson ln_ws (ri_rm 9 ln_M) (ls_P E D cA ln_as sa) (ri_Qc E D cA ln_Q) 1 6 (ri_A E) := by
  refine ln_of (cc := cL_lesson) (maxL := 5) (ret := some .int) (hh := ln_hh) (by decide) rfl ?_
  intro p e s m args below meth c s₁ B hml hv
  obtain ⟨⟨rfl, hK, hX, hR⟩, hW0⟩ := hv
  have hts := atoms_spec (ws := ln_ws) B.pre
  have hown : s.vm.findClass RL = some m.cls := findClass_of_methodNamed B.named
  have htb : c.exceptionTable.toList = tableOf ln_hh := vx_table (x := yL_lesson) B (hts _ List.mem_cons_self)
  have hts2 : ∀ w ∈ lw_tbl, ri_stb w = true → w.before (ln_as.map (ri_cv E)).toArray s = true := fun w h1 h2 => hts w (List.mem_cons_of_mem _ (List.mem_filter.mpr ⟨h1, h2⟩))
  have Cx : ri_Cx p s m (ln_as.map (ri_cv E)).toArray meth c E D cA ln_M := ⟨B.exec, B.bytes, hml, hown, hts2, hK, hX, (name_of_methodNamed B.named B.method).1, by rw [hR.1]; omega⟩
  have hl := lv_entry (ln_as.map (ri_cv E)) (n := 5) (by rw [ri_lgsl]; decide)
  rw [lg_entry_eq]
  rw [ri_mp_as] at hl
  have fin : ∀ h' : ri_H, (h' = h_fr ∨ h' = h_fr ++ [(19, [])]) → ri_Ab p l e (ri_rm 9 ln_M) s m (ln_as.map (ri_cv E)).toArray below meth c (MQ below (ri_Qc E D cA ln_Q) (ln_as.map (ri_cv E)).toArray s 1 6 (ri_A E)) E D cA ln_M.2.2.1 (15, [], [], h', 1, 6) := by
    intro h' hh
    refine ri_r_push Cx (v := .int 1) (n := 1) (fun H ls locs rest w => lv_iconst B.exec B.bytes ln_d15 rfl w) rfl ?_
    exact ri_snd_ret Cx B.returns B.notSynchronized (P := ln_Q) (ins := .ireturn) (rs := [.int 1]) ln_d16 rfl ⟨rfl, hh⟩ (Nat.le_refl _) (Nat.le_refl _)
  have key : ri_Ab p l e (ri_rm 9 ln_M) s m (ln_as.map (ri_cv E)).toArray below meth c (MQ below (ri_Qc E D cA ln_Q) (ln_as.map (ri_cv E)).toArray s 1 6 (ri_A E)) E D cA ln_M.2.2.1 (0, ln_lo, [], h_fr, 0, 0) := by
    refine ri_r_ald Cx (i := 3) (v := .ref 227) rfl rfl (n := 1) (Or.inl ⟨3, rfl, rfl, ln_d0⟩) ?_
    refine ri_r_push Cx (v := .int 0) (n := 1) (fun H ls locs rest w => lv_iconst B.exec B.bytes ln_d1 rfl w) rfl ?_
    refine ri_r_ald Cx (i := 0) (v := .ref 0) rfl rfl (n := 1) (Or.inl ⟨0, rfl, rfl, ln_d2⟩) ?_
    refine ri_r_ild Cx (i := 1) (v := .float 1) rfl rfl (n := 1) (Or.inl ⟨1, rfl, rfl, ln_d3⟩) ?_
    refine ri_r_ild Cx (i := 2) (v := .float 2) rfl rfl (n := 1) (Or.inl ⟨2, rfl, rfl, ln_d4⟩) ?_
    intro H ls locs hl hR1 hS
    have h0 : h_fr[0]? = some (h_fr.headD (0, [])) := rfl
    obtain ⟨r', hr', cellV, g1, g2, g3, -⟩ := (hR1.2 0 _ h0).1 (by decide)
    have hr : vwCl[(h_fr.headD (0, [])).1]? = some (RX11, TX11, 17) := rfl
    cases hr'.symm.trans hr
    have hcls := (hK.1 _ _ hr).2
    have hrun := vx_runV (p := p) (e := e) (below := below) (meth := meth) (locs := locs) (cells := 0) (slots := 0) (H := H) (R := ri_rm 9 ln_M) (cc := cL_lesson) (nL := 5) (Ts := []) (As := [Value.float 1, .float 2].map (ri_cv E)) (b := E.1 + 0) (C := RX11) (own := RL) (index := 7) (n := 2) (rest := [Value.int 0, .ref 227].map (ri_cv E)) (g := F0 m 5 ls ([Value.float 2, .float 1, .ref 0, .int 0, .ref 227].map (ri_cv E)))
      ⟨B.exec, B.bytes, hml, hown, fun w h => absurd h List.not_mem_nil⟩ (ls_met l hst E D cA hdc (as := [.float 1, .float 2]) (by decide) hs sa) ⟨ri_cb hts2 ln_mk (by decide) (by decide) (hts2 _ ln_m1 rfl), hts2 _ ln_m2 rfl, hts2 _ ln_m3 rfl⟩
      ⟨ls_blind E D cA _ sa, ⟨cellV, g1, by rw [g3]; rfl, by rw [g2]; exact hcls.1⟩, fun U hU hW => ⟨⟨rfl, ri_pre hK hX hS hR1 hU hW⟩, hW0.to hW hU hS⟩⟩ rfl rfl hl.1 rfl (lv_room (by rw [ri_wt_cv]; decide)) ln_d5 ⟨show 0 + 1 ≤ 1 from Nat.le_refl _, show 0 + 6 ≤ 6 from Nat.le_refl _⟩
    intro T hT XX
    rcases hrun T hT XX with ⟨v, st₀, t, T', L, e0, X', hL, e1, e2, hq, go⟩ | ⟨q, st₀, t, T', L, N, ce, e0, X', hL, e1, e2, ⟨rfl, ⟨H0, hR0, hz0, hk0⟩, hF⟩, hce, hcv, hcl, stp⟩
    · exact hq.elim
    · have hsz := ln_size X'
      rw [e1] at hsz
      have hS' : va_S (ri_A E) s.heap t.heap (locs ++ L) := ⟨Nat.le_trans hS.1 (by rw [← e0]; exact hF.1), fun q h1 h2 => by rw [hF.2 q (by rw [e0]; exact Nat.lt_of_lt_of_le h1 hS.1) h2, e0]; exact hS.2.1 q h1 h2, fun q hq => by
        rcases List.mem_append.mp hq with hh | hh
        · exact hS.2.2 q hh
        · exact hL q hh⟩
      have hRR : ∃ h' : ri_H, (h' = h_fr ∨ h' = h_fr ++ [(19, [])]) ∧ ri_R E D cA h' t.heap := by
        rcases ls_R hR0 hz0 (by rw [hR0.1, ← hR.1]; exact hsz) hk0 with h | h
        · exact ⟨_, Or.inl rfl, h⟩
        · exact ⟨_, Or.inr rfl, h⟩
      obtain ⟨h', hh', hR2⟩ := hRR
      have kc : vx_W p l e (ri_rm 9 ln_M) s m (ln_as.map (ri_cv E)).toArray below meth c t.heap (locs ++ L) (0 + 1) (0 + 6) (MQ below (ri_Qc E D cA ln_Q) (ln_as.map (ri_cv E)).toArray s 1 6 (ri_A E)) (F0 m 5 ls ([Value.int 0, .ref 227].map (ri_cv E))) q := by
        refine vc_catch (own := RL) (name := nse) (E := nse) (ce := ce) hown ⟨0, 10, 13, 13⟩ htb (by decide) (by decide) (hts2 _ ln_m4 rfl) (hts2 _ ln_m5 rfl) hce hcv hcl ?_
        exact lv_astore B.exec B.bytes ln_d13 hl (by decide) rfl (fun ls' hl' => fin h' hh' t.heap ls' (locs ++ L) ⟨hl'.1, hl'.2.1, fun q hq => absurd hq List.not_mem_nil⟩ hR2 hS')
      obtain ⟨t2, a1, b1⟩ := kc T' e1 X'
      exact ⟨t2, stp.trans a1, b1⟩
  exact key s.heap _ [] hl hR va_S.rf
