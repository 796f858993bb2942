/-! LakeLearns.lesson on a fresh object throws -/
def nse : String := "java/util/NoSuchElementException"
def ls_t : String := "no such lesson, or nothing of that number is told of it"
set_option maxRecDepth 100000 in
theorem ls_ot : ri_okT ri_md ls_q = true := by decide +kernel
def ls_rx : ByteArray := ⟨#[0x2a, 0x2b, 0xb7, 0x00, 0x0d, 0xb1]⟩
def ls_L : List Cond := (vd_at RX11 154 nse 13 ls_rx "java/lang/RuntimeException" ["java/lang/Exception"]).filter vx_no
theorem ls_x0 : decode ls_rx 0 = .ok (.aload_n 0, 1) := by decide +kernel
theorem ls_x1 : decode ls_rx 1 = .ok (.aload_n 1, 1) := by decide +kernel
theorem ls_x2 : decode ls_rx 2 = .ok (.invokespecial 13, 3) := by decide +kernel
theorem ls_x5 : decode ls_rx 5 = .ok (.return_, 1) := by decide +kernel
def ls_B : List Cond := ls_L.filter (fun w => !ri_stb w)
set_option maxRecDepth 100000 in
theorem ls_in : ∀ w ∈ ls_L, w ∈ lw_tbl := by decide +kernel
set_option maxRecDepth 100000 in
theorem ls_vo : ∀ w ∈ Cond.classLink RX11 150 nse :: Cond.initialized nse :: ls_L, vx_ot w = true := by decide +kernel
/-- what a throw wants of a state beside the tables' steady words -/
def ls_W (E : ri_V) (sa : Nat) (U : State) : Prop := vx_Zq Bundle.tN "UNASSIGNED_STACK" Bundle.steD (ri_A E) U U.heap ∧ vx_Zq Bundle.tN "SUPPRESSED_SENTINEL" Bundle.listD (ri_A E) U U.heap ∧ vk_R RX11 152 ls_t sa U ∧ ∀ w ∈ ls_B, w.before #[] U = true
def ls_X (E : ri_V) (D : va_G) (cA : Nat → ClassId) (h : ri_H) : String → State → State → Prop := fun N st t => N = nse ∧ (∃ H : Heap, ri_R E D cA h H ∧ H.size ≤ t.heap.size ∧ ∀ q : Nat, q < H.size → t.heap[q]? = H[q]?) ∧ va_F (ri_A E) st t
/-- behind the throw: the old cells as they were, perhaps one more -/
theorem ls_Rg {E : ri_V} {D : va_G} {cA : Nat → ClassId} {h : ri_H} {H H1 : Heap} (hR : ri_R E D cA h H) (h1 : H.size ≤ H1.size) (h2 : H1.size ≤ H.size + 1) (hk : ∀ q : Nat, q < H.size → H1[q]? = H[q]?) : ri_R E D cA h H1 ∨ ri_R E D cA (h ++ [(19, [])]) H1 := by
  have old : ∀ (k : Nat) (c : ri_C), h[k]? = some c → ri_cell E D cA k c H1 := fun k c hc => (hR.2 k c hc).kept (hk _ (by
    have := (List.getElem?_eq_some_iff.mp hc).1
    rw [hR.1]
    omega))
  by_cases h3 : H1.size = H.size
  · exact Or.inl ⟨by rw [h3, hR.1], old⟩
  · refine Or.inr ⟨?_, fun k c hc => ?_⟩
    · have := hR.1
      rw [List.length_append, List.length_singleton]
      omega
    · by_cases h4 : k < h.length
      · rw [List.getElem?_append_left h4] at hc
        exact old k c hc
      · have h5 : k < (h ++ [((19 : Nat), ([] : List Value))]).length := (List.getElem?_eq_some_iff.mp hc).1
        rw [List.length_append, List.length_singleton] at h5
        have h6 : k - h.length = 0 := by omega
        rw [List.getElem?_append_right (by omega), h6] at hc
        cases hc
        exact ⟨fun hh => absurd hh (by decide), fun _ hh => absurd hh (by decide)⟩
/-- steps in any method, for any end -/
theorem ri_stQ {p : Program} {l : Launch} {e : Env} {R : Room} {s : State} {m : MethodId} {args : Array Value} {below : List Frame} {meth : Method} {c : Code} {Q : State → Prop} {E : ri_V} {D : va_G} {cA : Nat → ClassId} {d : Nat} {cal : Nat → List Value → ri_H → Option (Option Value × ri_H)} {q : ri_M × ri_T} (X : ri_Cx p s m args meth c E D cA q.1) (C : ri_Ca l E D cA ri_md cal d q.1 R) (hT : ri_okT ri_md q = true) {f f1 : ri_F} (hf : f.1 ≠ 70000) (h1 : ri_st [] cal (ri_bud ri_md) q f = some f1) (hf1 : f1.1 ≠ 70000) (kk1 : ri_Ab p l e R s m args below meth c Q E D cA q.1.2.2.1 f1) : ri_Ab p l e R s m args below meth c Q E D cA q.1.2.2.1 f := by
  unfold ri_st at h1
  rw [show Nat.beq f.1 70000 = false by
    cases hh : Nat.beq f.1 70000 with
    | false => rfl
    | true => exact absurd (Nat.eq_of_beq_eq_true hh) hf] at h1
  dsimp only [cond_false] at h1
  split at h1
  · next en hl =>
    cases hi : ri_isR en.1 with
    | true =>
      rw [hi] at h1
      dsimp only [cond_true] at h1
      split at h1
      · have h1 := Option.some.inj h1
        subst h1
        exact absurd rfl hf1
      · cases h1
    | false =>
      rw [hi] at h1
      dsimp only [cond_false] at h1
      split at h1
      · next f2 hst =>
        cases h7 : Nat.beq f2.1 70000 with
        | true => rw [h7] at h1; cases h1
        | false =>
          rw [h7] at h1
          have h1 := Option.some.inj h1
          subst h1
          exact ri_snd X C (la_hdc E) (ri_okT_at hT hl) hst kk1
      · cases h1
  · cases h1
theorem ri_goQ {p : Program} {l : Launch} {e : Env} {R : Room} {s : State} {m : MethodId} {args : Array Value} {below : List Frame} {meth : Method} {c : Code} {Q : State → Prop} {E : ri_V} {D : va_G} {cA : Nat → ClassId} {d : Nat} {cal : Nat → List Value → ri_H → Option (Option Value × ri_H)} {q : ri_M × ri_T} (X : ri_Cx p s m args meth c E D cA q.1) (C : ri_Ca l E D cA ri_md cal d q.1 R) (hT : ri_okT ri_md q = true) {n : Nat} {f f' : ri_F} (hf : f.1 ≠ 70000) (hs : ri_go (ri_st [] cal (ri_bud ri_md) q) n f = some f') (hn : f'.1 ≠ 70000) (kk : ri_Ab p l e R s m args below meth c Q E D cA q.1.2.2.1 f') : ri_Ab p l e R s m args below meth c Q E D cA q.1.2.2.1 f :=
  ri_go_snd (A := ri_Ab p l e R s m args below meth c Q E D cA q.1.2.2.1) (B := fun _ => False) (fun f f1 h0 h1 h2 => by
    rcases h2 with ⟨-, h2⟩ | ⟨h2, h3⟩
    · exact h2.elim
    · exact ri_stQ X C hT h0 h1 h2 h3) n f f' hf hs (Or.inr ⟨hn, kk⟩)
set_option maxRecDepth 100000 in
theorem ls_bo : ∀ w ∈ ls_B, (w.onTables && w.faceAtom) = true := by decide +kernel
theorem ls_tab {w : Cond} (h : w ∈ ls_B) : w.onTables = true := ((Bool.and_eq_true _ _).mp (ls_bo w h)).1
theorem ls_bat {w : Cond} (h : w ∈ ls_B) {args a' : Array Value} {s U : State} (hW : s.WarmedH U.vm) (hb : w.before args s = true) : w.before a' U = true := by
  obtain ⟨h1, h2⟩ := (Bool.and_eq_true _ _).mp (ls_bo w h)
  have e1 := Cond.faceAtom_setVm (args := args) hW.alike w h2 hb
  have e2 : w.before a' (U.setVm U.vm) = w.before args (s.setVm U.vm) := Cond.onTables_vm U.vm w h1
  exact e2.trans e1
theorem ls_W.to {E : ri_V} {sa : Nat} {s U : State} {H : Heap} {locs : List Loc} (h : ls_W E sa s) (hW : s.WarmedH U.vm) (hU : U.heap = H) (hS : va_S (ri_A E) s.heap H locs) : ls_W E sa U := by
  obtain ⟨h1, h2, h3, h4⟩ := h
  exact ⟨by rw [hU]; exact vx_Zq.moved hW.alike (h1.kept hS.2.1), by rw [hU]; exact vx_Zq.moved hW.alike (h2.kept hS.2.1), vk_R.warm hW h3, fun w hw => ls_bat hw hW (h4 w hw)⟩
set_option maxRecDepth 100000 in
theorem ls_m1 : Cond.classLink RX11 150 nse ∈ lw_tbl := by decide +kernel
set_option maxRecDepth 100000 in
theorem ls_m2 : Cond.initialized nse ∈ lw_tbl := by decide +kernel
theorem ls_d0 : decode ls_q.1.2.1 22 = .ok (.new 150, 3) := by decide +kernel
theorem ls_d3 : decode ls_q.1.2.1 (22 + 3) = .ok (.dup, 1) := by decide +kernel
theorem ls_d4 : decode ls_q.1.2.1 (22 + 4) = .ok (.ldc 152, 2) := by decide +kernel
theorem ls_d6 : decode ls_q.1.2.1 (22 + 6) = .ok (.invokespecial 154, 3) := by decide +kernel
theorem ls_d9 : decode ls_q.1.2.1 (22 + 9) = .ok (.athrow, 1) := by decide +kernel
def ls_P (E : ri_V) (D : va_G) (cA : Nat → ClassId) (as : List Value) (h : ri_H) (sa : Nat) : Array Value → State → Prop := fun a U => ri_Pc E D cA as h a U ∧ ls_W E sa U
theorem ls_blind (E : ri_V) (D : va_G) (cA : Nat → ClassId) (as : List Value) (h : ri_H) (sa : Nat) : FrameBlind (ls_P E D cA as h sa) := by
  intro a U g mk q
  obtain ⟨q0, q1, q2, q3, q4⟩ := q
  exact ⟨ri_blind E D cA as h a U g mk q0, vx_Zq.moved (u := U) (U := U.calling g mk a) (Vm.Alike.refl U.vm) q1, vx_Zq.moved (u := U) (U := U.calling g mk a) (Vm.Alike.refl U.vm) q2, vk_R.same rfl q3, fun w hw => va_tabs (u := U) (ls_tab hw) rfl (q4 w hw)⟩
theorem ls_Ca (l : Launch) (E : ri_V) (D : va_G) (cA : Nat → ClassId) : ri_Ca l E D cA ri_md (ri_calE ri_md 29) 29 ls_q.1 (ri_rm 30 ls_q.1) :=
  ⟨ri_mk_all, fun j q as h v h' hq hs => ri_runE l E D cA hq hs, Nat.le_refl _, Nat.le_refl _, by decide, by decide⟩
/-- LakeLearns.lesson where it comes to its throw -/
theorem ls_met (l : Launch) (hst : l.stackTraces = false) (E : ri_V) (D : va_G) (cA : Nat → ClassId) {n : Nat} {a b : Int32} {h : ri_H} {lo : List (Nat × Value)} (hs : ri_go (ri_st [] (ri_calE ri_md 29) (ri_bud ri_md) ls_q) n (0, ri_as 0 [.ref 0, .int a, .int b], [], h, 0, 0) = some (22, lo, [], h, 0, 0)) (sa : Nat) :
    vx_Met l ls_q.1.1 (ri_ws ls_q.1) (ri_rm 30 ls_q.1) (ls_P E D cA [.ref 0, .int a, .int b] h sa) (fun _ _ _ _ => False) (ls_X E D cA h) 1 6 (ri_A E) := by
  refine vx_ofW (cc := ls_q.1.2.1) (maxL := ls_q.1.2.2.1) (ret := ls_q.1.2.2.2.1) (by decide) rfl ?_
  intro p e s m args below meth c s₁ B hml hno hv
  obtain ⟨⟨rfl, hK, hX, hR⟩, hU, hN, hstr, hB⟩ := hv
  have hts := atoms_spec (ws := ri_ws ls_q.1) B.pre
  have hown : s.vm.findClass RX11 = some m.cls := findClass_of_methodNamed B.named
  have hts2 : ∀ w ∈ lw_tbl, ri_stb w = true → w.before ([Value.ref 0, .int a, .int b].map (ri_cv E)).toArray s = true := fun w h1 h2 => hts w (List.mem_cons_of_mem _ (List.mem_filter.mpr ⟨h1, h2⟩))
  have Cx : ri_Cx p s m ([Value.ref 0, .int a, .int b].map (ri_cv E)).toArray meth c E D cA ls_q.1 := ⟨B.exec, B.bytes, hml, hown, hts2, hK, hX, (name_of_methodNamed B.named B.method).1, by rw [hR.1]; omega⟩
  have hl := lv_entry ([Value.ref 0, .int a, .int b].map (ri_cv E)) (n := ls_q.1.2.2.1) (by rw [ri_lgsl]; exact (show (3 : Nat) ≤ 3 from Nat.le_refl _))
  rw [lg_entry_eq]
  rw [ri_mp_as] at hl
  have hat : ∀ w ∈ ls_L, w.before ([Value.ref 0, .int a, .int b].map (ri_cv E)).toArray s = true := by
    intro w h1
    cases h2 : ri_stb w with
    | true => exact hts2 w (ls_in w h1) h2
    | false => exact va_tabs (ls_tab (List.mem_filter.mpr ⟨h1, by rw [h2]; rfl⟩)) rfl (hB w (List.mem_filter.mpr ⟨h1, by rw [h2]; rfl⟩))
  have key : ri_Ab p l e (ri_rm 30 ls_q.1) s m ([Value.ref 0, .int a, .int b].map (ri_cv E)).toArray below meth c (vx_MQ below (fun _ _ _ _ => False) (ls_X E D cA h) ([Value.ref 0, .int a, .int b].map (ri_cv E)).toArray s 1 6 (ri_A E)) E D cA ls_q.1.2.2.1 (0, ri_as 0 [.ref 0, .int a, .int b], [], h, 0, 0) := by
    refine ri_goQ Cx (ls_Ca l E D cA) ls_ot (show (0 : Nat) ≠ 70000 by decide) hs (show (22 : Nat) ≠ 70000 by decide) ?_
    intro H ls locs hl hR1 hS
    exact vd_throwS (own := RX11) (cls := nse) (text := ls_t) (Y2 := "java/lang/RuntimeException") (names := ["java/lang/Exception"]) (ix := 13) (rx := ls_rx) (ik := 150) (is := 152) (ic := 154) (sa := sa) (A := ri_A E) (cc := ls_q.1.2.1) (pc := 22) (rest := []) B.exec B.bytes hst ls_x0 ls_x1 ls_x2 ls_x5 (by decide) hown (by decide) (by decide)
      (hts2 _ ls_m1 rfl) (hts2 _ ls_m2 rfl) hstr hat ls_vo hU hN hS (hl.1.trans hml.symm) ls_d0 ls_d3 ls_d4 ls_d6 ls_d9 (fun x hx => (hno x hx).elim) (show 1 + 4 < 30 from by decide) (show 0 + (13 * (1 + 2) + 43) ≤ 64 * 30 from by decide) (show 0 + 1 ≤ 1 from Nat.le_refl _) (show 0 + 6 ≤ 6 from Nat.le_refl _) B.notSynchronized
      (fun t h1 h2 h3 => ⟨rfl, ⟨H, hR1, h2, h3⟩, Nat.le_trans hS.1 h2, fun q q1 q2 => by rw [h3 q (Nat.lt_of_lt_of_le q1 hS.1)]; exact hS.2.1 q q1 q2⟩) (fun z hz => hS.2.2 z hz) (show 0 + 1 ≤ 1 from Nat.le_refl _) (show 0 + 6 ≤ 6 from Nat.le_refl _)
  exact key s.heap _ [] hl hR va_S.rf
