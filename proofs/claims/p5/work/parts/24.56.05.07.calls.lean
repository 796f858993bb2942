def ri_ws (M : ri_M) : List Cond := .code M.1 M.2.1 M.2.2.1 M.2.2.2.1 :: lw_tbl.filter ri_stb
def ri_rm (d : Nat) (M : ri_M) : Room := { frames := d, cells := M.2.2.2.2.2.1, slots := M.2.2.2.2.2.2, locals := 64 * d }
def ri_I (E : ri_V) (D : va_G) (cA : Nat → ClassId) (U : State) (h : ri_H) : Prop := va_K D vwCl (ri_tys cA) U ∧ ri_X E U U.heap ∧ ri_R E D cA h U.heap
def ri_Pc (E : ri_V) (D : va_G) (cA : Nat → ClassId) (as : List Value) (h : ri_H) : Array Value → State → Prop := fun v U => v = (as.map (ri_cv E)).toArray ∧ ri_I E D cA U h
def ri_Qc (E : ri_V) (D : va_G) (cA : Nat → ClassId) (P : Option Value → ri_H → Prop) : Array Value → State → Outcome → State → Prop := fun _ st o t => ∃ (v : Option Value) (h' : ri_H), P v h' ∧ o = .returned (v.map (ri_cv E)) ∧ ri_R E D cA h' t.heap ∧ va_F (ri_A E) st t
/-- a method's contract, by the abstract machine -/
def ri_Met (l : Launch) (E : ri_V) (D : va_G) (cA : Nat → ClassId) (d : Nat) (M : ri_M) (as : List Value) (h : ri_H) (P : Option Value → ri_H → Prop) : Prop :=
  Met l M.1 (ri_ws M) (ri_rm d M) (ri_Pc E D cA as h) (ri_Qc E D cA P) M.2.2.2.2.2.1 M.2.2.2.2.2.2 (ri_A E)
def ri_Mk (M : ri_M) (n : Nat) : Prop := (Cond.code M.1 M.2.1 M.2.2.1 M.2.2.2.1) ∈ lw_tbl ∧ (Cond.initialized M.1.cls) ∈ lw_tbl ∧ M.1.cls ≠ "java/lang/invoke/MethodHandle" ∧ M.1.cls ≠ "java/lang/invoke/VarHandle" ∧ (parseMethodDescriptor M.1.desc).map (fun d => d.parameters.length) = some n ∧ M.2.2.1 ≤ 45 ∧ plainName M.1.cls = true ∧ M.2.2.2.2.1 = M.1.cls
theorem ri_blind (E : ri_V) (D : va_G) (cA : Nat → ClassId) (as : List Value) (h : ri_H) : FrameBlind (ri_Pc E D cA as h) := by
  intro a U g mk q
  obtain ⟨q1, q2, q3, q4⟩ := q
  exact ⟨q1, va_K.moved (u := U) (U := U.calling g mk a) (Vm.Alike.refl U.vm) q2, ri_X.to (u := U) (U := U.calling g mk a) (Vm.Alike.refl U.vm) (fun _ h => vk_R.same rfl h) (fun _ _ _ => rfl) q3, q4⟩
section RIF
variable {p : Program} {l : Launch} {e : Env} {R : Room} {s : State} {m : MethodId} {args : Array Value} {below : List Frame} {meth : Method} {c : Code} {Q : State → Prop} {E : ri_V} {D : va_G} {cA : Nat → ClassId} {M : ri_M} {pc k z nL : Nat} {lo : List (Nat × Value)} {st r : List Value} {h : ri_H} {f' : ri_F} {H : Heap} {locs : List Loc}
theorem ri_goon {ls : Array Slot} {st0 rest : List Value} {a : Array Value} {mc ms : Nat} {P : Option Value → ri_H → Prop} (hr : va_Run p l e R s m args below meth c H locs k z mc ms (F0 m pc ls st0) rest (ri_Qc E D cA P a) (ri_A E)) (hS : va_S (ri_A E) s.heap H locs)
    (kk : ∀ (v : Option Value) (h' : ri_H) (H1 : Heap) (locs1 : List Loc), P v h' → ri_R E D cA h' H1 → va_S (ri_A E) s.heap H1 locs1 → W p l e R s m args below meth c H1 locs1 (k + mc) (z + ms) Q (F0 m (pc + 3) ls ((v.map (ri_cv E)).toList ++ rest))) : W p l e R s m args below meth c H locs k z Q (F0 m pc ls st0) := by
  intro T hT X
  obtain ⟨v, st₀, t, T', L, h0, X', hL, e1, e2, ⟨w, h', hP, hv, hR, hz, hk⟩, st⟩ := hr T hT X
  cases hv
  rw [h0] at hz hk
  obtain ⟨t2, a1, b1⟩ := kk w h' T'.heap (locs ++ L) hP (by rw [e1]; exact hR)
    ⟨Nat.le_trans hS.1 (by rw [e1]; exact hz), fun q h1 h2 => by rw [e1, hk q (Nat.lt_of_lt_of_le h1 hS.1) h2]; exact hS.2.1 q h1 h2, fun q hq => by
      rcases List.mem_append.mp hq with hh | hh
      · exact hS.2.2 q hh
      · exact hL q hh⟩ T' rfl X'
  exact ⟨t2, st t2 a1, b1⟩
theorem ri_take_inv : ∀ (n : Nat) (acc st as r0 : List Value), ri_take n acc st = some (as, r0) → ∃ ys : List Value, ys.length = n ∧ as = ys.reverse ++ acc ∧ st = ys ++ r0
  | 0, acc, st, as, r0, hs => by
    have h1 : (acc, st) = (as, r0) := Option.some.inj hs
    cases h1
    exact ⟨[], rfl, rfl, rfl⟩
  | n + 1, acc, v :: st, as, r0, hs => by
    obtain ⟨ys, h1, h2, h3⟩ := ri_take_inv n (v :: acc) st as r0 hs
    exact ⟨v :: ys, by rw [List.length_cons, h1], by rw [h2]; simp, by rw [h3]; rfl⟩
  | n + 1, acc, [], as, r0, hs => by cases hs
theorem ri_pre (hK : va_K D vwCl (ri_tys cA) s) (hX : ri_X E s s.heap) (hS : va_S (ri_A E) s.heap H locs) (hR : ri_R E D cA h H) {U : State} (hU : U.heap = H) (hW : s.WarmedH U.vm) : ri_I E D cA U h :=
  ⟨va_K.moved hW.alike hK, ri_X.to hW.alike (fun _ h => vk_R.warm hW h) (fun q h1 h2 => by rw [hU]; exact hS.2.1 q h1 h2) hX, by rw [hU]; exact hR⟩
theorem ri_hws (hts : ∀ w ∈ lw_tbl, ri_stb w = true → w.before args s = true) {N : ri_M} {n : Nat} (hMk : ri_Mk N n) : ∀ w ∈ ri_ws N, ∀ (a' : Array Value) (U : State), s.WarmedH U.vm → w.before a' U = true := by
  intro w hw a' U hW
  rcases List.mem_cons.mp hw with rfl | hw
  · exact ri_stb_at (w := .code N.1 N.2.1 N.2.2.1 N.2.2.2.1) rfl hW (hts _ hMk.1 rfl)
  · exact ri_stb_at (List.mem_filter.mp hw).2 hW (hts w (List.mem_filter.mp hw).1 (List.mem_filter.mp hw).2)
theorem ri_cb (hts : ∀ w ∈ lw_tbl, ri_stb w = true → w.before args s = true) {N : ri_M} {n d idx : Nat} {own : String} (hMk : ri_Mk N n) (hfr : d + 1 ≤ R.frames) (hlo : 64 * d + 64 ≤ R.locals) (hl : (Cond.methodLink own idx N.1).before args s = true) : CallB R s args own idx N.1 N.2.1 N.2.2.1 N.2.2.2.1 (ri_ws N) (ri_rm d N) N.2.2.2.2.2.1 N.2.2.2.2.2.2 n := by
  refine ⟨rfl, rfl, hfr, ?_, ri_hws hts hMk, List.mem_cons_self, hts _ hMk.1 rfl, hts _ hMk.2.1 rfl, ⟨hMk.2.2.1, hMk.2.2.2.1⟩, fun sig h => ?_, hl⟩
  · have := hMk.2.2.2.2.2.1
    show 8 + (N.2.2.1 + 11) + 64 * d ≤ _
    omega
  · have h2 := hMk.2.2.2.2.1
    rw [h] at h2
    exact (Option.some.inj h2).symm
theorem ri_cN (hts : ∀ w ∈ lw_tbl, ri_stb w = true → w.before args s = true) {N : ri_M} {n d idx : Nat} {own host : String} (hMk : ri_Mk N n) (hfr : d + 1 ≤ R.frames) (hlo : 64 * d + 64 ≤ R.locals) (hl : (Cond.methodLinkNest own idx N.1 host).before args s = true) : va_CN R s args own idx N.1 host N.2.1 N.2.2.1 N.2.2.2.1 (ri_ws N) (ri_rm d N) N.2.2.2.2.2.1 N.2.2.2.2.2.2 n := by
  refine ⟨⟨rfl, rfl, hfr, ?_, ri_hws hts hMk, List.mem_cons_self⟩, hts _ hMk.1 rfl, hts _ hMk.2.1 rfl, ⟨hMk.2.2.1, hMk.2.2.2.1⟩, fun sig h => ?_, hl⟩
  · have := hMk.2.2.2.2.2.1
    show 8 + (N.2.2.1 + 11) + 64 * d ≤ _
    omega
  · have h2 := hMk.2.2.2.2.1
    rw [h] at h2
    exact (Option.some.inj h2).symm
theorem ri_stk (ys : List Value) (b : Value) (r : List Value) : (ys ++ b :: r).map (ri_cv E) = ((ys.reverse).map (ri_cv E)).reverse ++ ri_cv E b :: r.map (ri_cv E) := by
  rw [List.map_append, List.map_cons, List.map_reverse, List.reverse_reverse]
theorem ri_stk0 (ys r : List Value) : (ys ++ r).map (ri_cv E) = ((ys.reverse).map (ri_cv E)).reverse ++ r.map (ri_cv E) := by
  rw [List.map_append, List.map_reverse, List.reverse_reverse]
theorem ri_vt (v : Option Value) (r : List Value) : (v.map (ri_cv E)).toList ++ r.map (ri_cv E) = (v.toList ++ r).map (ri_cv E) := by
  cases v <;> simp
/-- virtual, on an object of one's own -/
theorem ri_r_virt (X : ri_Cx p s m args meth c E D cA M) {N : ri_M} {n d idx b i1 i2 i3 : Nat} {q : ri_C} {rr : vw_C} {ys : List Value} {P : Option Value → ri_H → Prop} (hM : ri_Met l E D cA d N (.ref b :: ys.reverse) h P) (hMk : ri_Mk N n) (hn : ys.length = n) (hfr : d + 1 ≤ R.frames) (hlo : 64 * d + 64 ≤ R.locals) (hw : ri_wt r ≤ 8)
    (hq : h[b]? = some q) (h13 : q.1 < 13) (hr : vwCl[q.1]? = some rr) (w1 : lw_tbl[i1]? = some (.methodLink M.2.2.2.2.1 idx N.1)) (w2 : lw_tbl[i2]? = some (.instanceMethod N.1)) (w3 : lw_tbl[i3]? = some (.selects rr.1 N.1 N.1)) (hk : k + N.2.2.2.2.2.1 ≤ R.cells) (hz : z + N.2.2.2.2.2.2 ≤ R.slots) (hd : decode M.2.1 pc = .ok (.invokevirtual idx, 3))
    (kk : ∀ v h', P v h' → ri_Ab p l e R s m args below meth c Q E D cA M.2.2.1 (pc + 3, lo, v.toList ++ r, h', k + N.2.2.2.2.2.1, z + N.2.2.2.2.2.2)) : ri_Ab p l e R s m args below meth c Q E D cA M.2.2.1 (pc, lo, ys ++ .ref b :: r, h, k, z) := by
  obtain ⟨hx, hb, hml, hown, hts, hK, hX, -⟩ := X
  intro H ls locs hl hR hS
  obtain ⟨r', hr', cellV, g1, g2, g3, -⟩ := (hR.2 b q hq).1 h13
  cases hr'.symm.trans hr
  have hcls := (hK.1 q.1 rr hr).2
  show W p l e R s m args below meth c H locs k z Q (F0 m pc ls ((ys ++ .ref b :: r).map (ri_cv E)))
  refine ri_goon (rest := r.map (ri_cv E)) (va_runV (nL := M.2.2.1) (Ts := []) (As := (ys.reverse).map (ri_cv E)) (b := E.1 + b) (C := rr.1) ⟨hx, hb, hml, hown, fun w h => absurd h List.not_mem_nil⟩ hM ⟨ri_cb hts hMk hfr hlo (ri_wd hts w1 rfl), ri_wd hts w2 rfl, ri_wd hts w3 rfl⟩
    ⟨ri_blind E D cA _ h, ⟨cellV, g1, by rw [g3]; rfl, by rw [g2]; exact hcls.1⟩, fun U hU hW => ⟨rfl, ri_pre hK hX hS hR hU hW⟩⟩ rfl (by rw [List.length_map, List.length_reverse]; exact hn) hl.1 (ri_stk ys (.ref b) r) (lv_room (by rw [ri_wt_cv]; exact hw)) hd ⟨hk, hz⟩) hS (fun v h' H1 locs1 hP hR1 hS1 => ?_)
  rw [ri_vt]
  exact kk v h' hP H1 ls locs1 hl hR1 hS1
/-- virtual, on the key words -/
theorem ri_r_virS (X : ri_Cx p s m args meth c E D cA M) {N : ri_M} {n d idx i1 i2 i3 : Nat} {ys : List Value} {P : Option Value → ri_H → Prop} (hM : ri_Met l E D cA d N (.retAddr 5 :: ys.reverse) h P) (hMk : ri_Mk N n) (hn : ys.length = n) (hfr : d + 1 ≤ R.frames) (hlo : 64 * d + 64 ≤ R.locals) (hw : ri_wt r ≤ 8)
    (w1 : lw_tbl[i1]? = some (.methodLink M.2.2.2.2.1 idx N.1)) (w2 : lw_tbl[i2]? = some (.instanceMethod N.1)) (w3 : lw_tbl[i3]? = some (.selects "java/lang/String" N.1 N.1)) (hk : k + N.2.2.2.2.2.1 ≤ R.cells) (hz : z + N.2.2.2.2.2.2 ≤ R.slots) (hd : decode M.2.1 pc = .ok (.invokevirtual idx, 3))
    (kk : ∀ v h', P v h' → ri_Ab p l e R s m args below meth c Q E D cA M.2.2.1 (pc + 3, lo, v.toList ++ r, h', k + N.2.2.2.2.2.1, z + N.2.2.2.2.2.2)) : ri_Ab p l e R s m args below meth c Q E D cA M.2.2.1 (pc, lo, ys ++ .retAddr 5 :: r, h, k, z) := by
  obtain ⟨hx, hb, hml, hown, hts, hK, hX, -⟩ := X
  have ⟨_, _, ⟨t5, t6, g1, g2, g3, g4, g5, g6, g7⟩, _⟩ := hX
  intro H ls locs hl hR hS
  obtain ⟨cellV, f1, f2, f3, -⟩ := g4.kept hS.2.1
  have e5 : ri_cv E (.retAddr 5) = .ref t5 := by show va_rf (E.2.1 5) = _; rw [g1]; rfl
  show W p l e R s m args below meth c H locs k z Q (F0 m pc ls ((ys ++ .retAddr 5 :: r).map (ri_cv E)))
  refine ri_goon (rest := r.map (ri_cv E)) (va_runV (nL := M.2.2.1) (Ts := []) (As := (ys.reverse).map (ri_cv E)) (b := t5) (C := "java/lang/String") ⟨hx, hb, hml, hown, fun w h => absurd h List.not_mem_nil⟩ hM ⟨ri_cb hts hMk hfr hlo (ri_wd hts w1 rfl), ri_wd hts w2 rfl, ri_wd hts w3 rfl⟩
    ⟨ri_blind E D cA _ h, ⟨cellV, f1, f2, f3⟩, fun U hU hW => ⟨by rw [List.map_cons, e5], ri_pre hK hX hS hR hU hW⟩⟩ rfl (by rw [List.length_map, List.length_reverse]; exact hn) hl.1 (by rw [← e5]; exact ri_stk ys (.retAddr 5) r) (lv_room (by rw [ri_wt_cv]; exact hw)) hd ⟨hk, hz⟩) hS (fun v h' H1 locs1 hP hR1 hS1 => ?_)
  rw [ri_vt]
  exact kk v h' hP H1 ls locs1 hl hR1 hS1
/-- a constructor -/
theorem ri_r_ctor (X : ri_Cx p s m args meth c E D cA M) {N : ri_M} {n d idx b i1 i2 : Nat} {ys : List Value} {P : Option Value → ri_H → Prop} (hM : ri_Met l E D cA d N (.ref b :: ys.reverse) h P) (hMk : ri_Mk N n) (hn : ys.length = n) (hfr : d + 1 ≤ R.frames) (hlo : 64 * d + 64 ≤ R.locals) (hw : ri_wt r ≤ 8) (hinit : N.1.name = "<init>") (hret : N.2.2.2.1 = none)
    (w1 : lw_tbl[i1]? = some (.methodLink M.2.2.2.2.1 idx N.1) ∨ lw_tbl[i1]? = some (.methodLinkNest M.2.2.2.2.1 idx N.1 "LakeLearns")) (w2 : lw_tbl[i2]? = some (.instanceMethod N.1)) (hk : k + N.2.2.2.2.2.1 ≤ R.cells) (hz : z + N.2.2.2.2.2.2 ≤ R.slots) (hd : decode M.2.1 pc = .ok (.invokespecial idx, 3))
    (kk : ∀ v h', P v h' → ri_Ab p l e R s m args below meth c Q E D cA M.2.2.1 (pc + 3, lo, v.toList ++ r, h', k + N.2.2.2.2.2.1, z + N.2.2.2.2.2.2)) : ri_Ab p l e R s m args below meth c Q E D cA M.2.2.1 (pc, lo, ys ++ .ref b :: r, h, k, z) := by
  obtain ⟨hx, hb, hml, hown, hts, hK, hX, -⟩ := X
  intro H ls locs hl hR hS
  show W p l e R s m args below meth c H locs k z Q (F0 m pc ls ((ys ++ .ref b :: r).map (ri_cv E)))
  rcases w1 with w1 | w1
  · have hcb := ri_cb (R := R) hts hMk hfr hlo (ri_wd hts w1 rfl)
    rw [hret] at hcb
    refine ri_goon (rest := r.map (ri_cv E)) (va_runI (nL := M.2.2.1) (Ts := []) (As := (ys.reverse).map (ri_cv E)) (b := E.1 + b) ⟨hx, hb, hml, hown, fun w h => absurd h List.not_mem_nil⟩ hM ⟨hcb, hinit, ri_wd hts w2 rfl⟩
      ⟨ri_blind E D cA _ h, fun U hU hW => ⟨rfl, ri_pre hK hX hS hR hU hW⟩⟩ rfl (by rw [List.length_map, List.length_reverse]; exact hn) hl.1 (ri_stk ys (.ref b) r) (lv_room (by rw [ri_wt_cv]; exact hw)) hd ⟨hk, hz⟩) hS (fun v h' H1 locs1 hP hR1 hS1 => ?_)
    rw [ri_vt]
    exact kk v h' hP H1 ls locs1 hl hR1 hS1
  · have hcb := ri_cN (R := R) hts hMk hfr hlo (ri_wd hts w1 rfl)
    rw [hret] at hcb
    refine ri_goon (rest := r.map (ri_cv E)) (va_runIN (nL := M.2.2.1) (Ts := []) (As := (ys.reverse).map (ri_cv E)) (b := E.1 + b) ⟨hx, hb, hml, hown, fun w h => absurd h List.not_mem_nil⟩ hM ⟨hcb, hinit, ri_wd hts w2 rfl⟩
      ⟨ri_blind E D cA _ h, fun U hU hW => ⟨rfl, ri_pre hK hX hS hR hU hW⟩⟩ rfl (by rw [List.length_map, List.length_reverse]; exact hn) hl.1 (ri_stk ys (.ref b) r) (lv_room (by rw [ri_wt_cv]; exact hw)) hd ⟨hk, hz⟩) hS (fun v h' H1 locs1 hP hR1 hS1 => ?_)
    rw [ri_vt]
    exact kk v h' hP H1 ls locs1 hl hR1 hS1
/-- static -/
theorem ri_r_stat (X : ri_Cx p s m args meth c E D cA M) {N : ri_M} {n d idx i1 i2 : Nat} {ys : List Value} {P : Option Value → ri_H → Prop} (hM : ri_Met l E D cA d N ys.reverse h P) (hMk : ri_Mk N n) (hn : ys.length = n) (hfr : d + 1 ≤ R.frames) (hlo : 64 * d + 64 ≤ R.locals) (hw : ri_wt r ≤ 8)
    (w1 : lw_tbl[i1]? = some (.methodLink M.2.2.2.2.1 idx N.1)) (w2 : lw_tbl[i2]? = some (.static N.1)) (hk : k + N.2.2.2.2.2.1 ≤ R.cells) (hz : z + N.2.2.2.2.2.2 ≤ R.slots) (hd : decode M.2.1 pc = .ok (.invokestatic idx, 3))
    (kk : ∀ v h', P v h' → ri_Ab p l e R s m args below meth c Q E D cA M.2.2.1 (pc + 3, lo, v.toList ++ r, h', k + N.2.2.2.2.2.1, z + N.2.2.2.2.2.2)) : ri_Ab p l e R s m args below meth c Q E D cA M.2.2.1 (pc, lo, ys ++ r, h, k, z) := by
  obtain ⟨hx, hb, hml, hown, hts, hK, hX, -⟩ := X
  intro H ls locs hl hR hS
  show W p l e R s m args below meth c H locs k z Q (F0 m pc ls ((ys ++ r).map (ri_cv E)))
  refine ri_goon (rest := r.map (ri_cv E)) (va_runS (nL := M.2.2.1) (Ts := []) (As := (ys.reverse).map (ri_cv E)) ⟨hx, hb, hml, hown, fun w h => absurd h List.not_mem_nil⟩ hM ⟨ri_cb hts hMk hfr hlo (ri_wd hts w1 rfl), ri_wd hts w2 rfl⟩
    ⟨ri_blind E D cA _ h, fun U hU hW => ⟨rfl, ri_pre hK hX hS hR hU hW⟩⟩ rfl (by rw [List.length_map, List.length_reverse]; exact hn) hl.1 (ri_stk0 ys r) (lv_room (by rw [ri_wt_cv]; exact hw)) hd ⟨hk, hz⟩) hS (fun v h' H1 locs1 hP hR1 hS1 => ?_)
  rw [ri_vt]
  exact kk v h' hP H1 ls locs1 hl hR1 hS1
/-- Object() -/
theorem ri_r_obj (X : ri_Cx p s m args meth c E D cA M) {idx b i1 : Nat} (hw : ri_wt r ≤ 8) (hfr : 1 ≤ R.frames) (hlo : 60 ≤ R.locals) (w1 : lw_tbl[i1]? = some (.methodLink M.2.2.2.2.1 idx objectInit)) (hd : decode M.2.1 pc = .ok (.invokespecial idx, 3))
    (kk : ri_Ab p l e R s m args below meth c Q E D cA M.2.2.1 (pc + 3, lo, r, h, k, z)) : ri_Ab p l e R s m args below meth c Q E D cA M.2.2.1 (pc, lo, .ref b :: r, h, k, z) := by
  obtain ⟨hx, hb, hml, hown, hts, hK, hX, -⟩ := X
  intro H ls locs hl hR hS
  have hwt : ((r.map (ri_cv E)).map fun v => v.category).sum ≤ 8 := by rw [ri_wt_cv]; exact hw
  exact W.objInit hx hb hown (ri_wd hts w1 rfl) (ri_wd hts ri_w_oin rfl) (ri_wd hts ri_w_oco rfl) rfl (by rw [hml]; exact hl.1) rfl hd hfr (by show 2 * 0 + _ + 12 ≤ _; omega) (kk H ls locs hl hR hS)
end RIF
