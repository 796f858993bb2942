def la_C (p : Program) (s : State) (m : MethodId) (meth : Method) (c : Code) (E : ri_V) (D : va_G) (cA : Nat → ClassId) (b L : Nat) (xs : Nat → Int32) : Prop :=
  ri_Cx p s m #[Value.ref b] meth c E D cA ri_lw.1 ∧ E.2.1 8 = some b ∧ va_X b L xs s s.heap ∧ b < s.heap.size ∧ E.1 = s.heap.size ∧ L ≤ 3072 ∧ meth.sig.returnType = ret ∧ meth.locks = false
abbrev la_Ab (p : Program) (l : Launch) (e : Env) (s : State) (m : MethodId) (below : List Frame) (meth : Method) (c : Code) (E : ri_V) (D : va_G) (cA : Nat → ClassId) (b : Nat) (f : ri_F) : Prop := ri_Ab p l e room_1 s m #[Value.ref b] below meth c (lw_Z below #[Value.ref b] s) E D cA 7 f
def la_dk (pc i : Nat) : Bool := decide (decode code pc = .ok (.aload_n 0, 1)) && (decide (decode code (pc + 1) = .ok (.iload 4, 2)) && (decide (decode code (pc + 3) = .ok (.iconst (i : Int), 1)) && (decide (decode code (pc + 4) = .ok (.iadd, 1)) && decide (decode code (pc + 5) = .ok (.iaload, 1)))))
def la_da : Nat → Nat → Nat → Bool
  | _, _, 0 => true
  | pc, i, n + 1 => la_dk pc i && la_da (pc + 6) (i + 1) n
def lo_i (i : Nat) : List (Nat × Value) := [(4, .int (nI i)), (3, .ref 227), (2, .ref 209), (1, .ref 0), (0, .retAddr 8)]
theorem la_add (a b : Nat) : nI a + Int32.ofInt (b : Int) = nI (a + b) := by
  show Int32.ofNat a + Int32.ofNat b = Int32.ofNat (a + b)
  rw [Int32.ofNat_add]
theorem la_cmp {L i : Nat} (hL : L ≤ 3072) (hi : i ≤ 3078) : decide (Int32.ofNat L - (Int8.ofInt 6).toInt32 < nI i) = decide (L < i + 6) := by
  have e6 : (Int8.ofInt 6).toInt32.toInt = 6 := by decide
  have eL : (Int32.ofNat L).toInt = (L : Int) := Int32.toInt_ofNat_small (by omega)
  have ei : (nI i).toInt = (i : Int) := Int32.toInt_ofNat_small (by omega)
  have es : (Int32.ofNat L - (Int8.ofInt 6).toInt32).toInt = (L : Int) - 6 := by
    rw [Int32.toInt_sub, eL, e6]
    exact sx_bm (by omega) (by omega)
  apply decide_eq_decide.mpr
  rw [Int32.lt_iff_toInt_lt, es, ei]
  omega
def la_ys (xs : Nat → Int32) (i n : Nat) : List Int32 := (List.range n).map (fun k => xs (i + 1 + k))
theorem la_ysl (xs : Nat → Int32) (i n : Nat) : (la_ys xs i n).length = n := by
  unfold la_ys
  rw [List.length_map, List.length_range]
theorem la_ysg {xs : Nat → Int32} {i n j : Nat} {x : Int32} (h : (la_ys xs i n)[j]? = some x) : x = xs (i + 1 + j) := by
  unfold la_ys at h
  rw [List.getElem?_map] at h
  cases e : (List.range n)[j]? with
  | none => rw [e] at h; cases h
  | some k =>
    rw [e] at h
    obtain ⟨h1, h2⟩ := List.getElem?_eq_some_iff.mp e
    rw [List.getElem_range] at h2
    subst h2
    exact (Option.some.inj h).symm
def la_op : ri_En := (.pop, 1, [], .null)
/-- a case whose answers are dropped -/
def la_cok (pc n j1 j2 idx1 idx2 a1 a2 a3 b1 b2 b3 : Nat) : Bool :=
  decide (decode code pc = .ok (.aload_n 1, 1)) && (la_da (pc + 1) 1 n && (decide (decode code (pc + 1 + 6 * n) = .ok (.invokevirtual idx1, 3)) && (ri_ivV ri_md ri_lw.1 idx1 [1, j1, n, 11, a1, a2, a3] &&
  (ri_ok ri_md ri_lw.1 (pc + 4 + 6 * n) la_op && (decide (decode code (pc + 5 + 6 * n) = .ok (.aload_n 2, 1)) && (la_da (pc + 6 + 6 * n) 1 n && (decide (decode code (pc + 6 + 12 * n) = .ok (.invokevirtual idx2, 3)) && (ri_ivV ri_md ri_lw.1 idx2 [1, j2, n, 12, b1, b2, b3] &&
  (ri_ok ri_md ri_lw.1 (pc + 9 + 12 * n) la_op && (decide (decode code (pc + 10 + 12 * n) = .ok (.goto (1238 - ((pc + 10 + 12 * n : Nat) : Int)), 3)) && (match ri_md[j1]?, ri_md[j2]? with
    | some q1, some q2 => Nat.beq q1.1.2.2.2.2.2.1 0 && (Nat.beq q1.1.2.2.2.2.2.2 0 && (Nat.beq q2.1.2.2.2.2.2.1 0 && Nat.beq q2.1.2.2.2.2.2.2 0))
    | _, _ => false)))))))))))
/-- a case whose answers are compared -/
def la_cko (pc n j1 j2 idx1 idx2 a1 a2 a3 b1 b2 b3 : Nat) : Bool :=
  decide (decode code pc = .ok (.aload_n 1, 1)) && (la_da (pc + 1) 1 n && (decide (decode code (pc + 1 + 6 * n) = .ok (.invokevirtual idx1, 3)) && (ri_ivV ri_md ri_lw.1 idx1 [1, j1, n, 11, a1, a2, a3] &&
  (decide (decode code (pc + 4 + 6 * n) = .ok (.aload_n 2, 1)) && (la_da (pc + 5 + 6 * n) 1 n && (decide (decode code (pc + 5 + 12 * n) = .ok (.invokevirtual idx2, 3)) && (ri_ivV ri_md ri_lw.1 idx2 [1, j2, n, 12, b1, b2, b3] &&
  (decide (decode code (pc + 8 + 12 * n) = .ok (.if_icmp .eq (1238 - ((pc + 8 + 12 * n : Nat) : Int)), 3)) && (match ri_md[j1]?, ri_md[j2]? with
    | some q1, some q2 => Nat.beq q1.1.2.2.2.2.2.1 0 && (Nat.beq q1.1.2.2.2.2.2.2 0 && (Nat.beq q2.1.2.2.2.2.2.1 0 && Nat.beq q2.1.2.2.2.2.2.2 0))
    | _, _ => false)))))))))
theorem la_209 {hc hm : ri_H} {q : ri_C} (hn : hc.length = 209) (hq : hm[0]? = some q) : (hc ++ hm.map (ri_shC 209))[209]? = some (ri_shC 209 q) := by
  rw [List.getElem?_append_right (by omega), hn, Nat.sub_self, List.getElem?_map, hq]
  rfl
theorem la_ints (ys : List Int32) : (ys.map Value.int).map (ri_sh 209) = ys.map Value.int := by
  rw [List.map_map]
  apply List.map_congr_left
  intro y _
  rfl
/-- the reference's call in its own world, as it stands in the law's -/
theorem la_mod (l : Launch) (E : ri_V) (D : va_G) (cA : Nat → ClassId) {j : Nat} {q : ri_M × ri_T} {ys : List Int32} {hc hm h2 : ri_H} {x : Int32} (hq : ri_md[j]? = some q) (hn : hc.length = 209) (hs : ri_calE ri_md 30 j (.ref 0 :: ys.map Value.int) hm = some (some (.int x), h2)) : ri_Met l E D cA 30 q.1 (.ref 209 :: ys.map Value.int) (hc ++ hm.map (ri_shC 209)) (fun a b => a = some (.int x) ∧ b = hc ++ h2.map (ri_shC 209)) := by
  have h0 := ri_shift (hc := hc) hn (ri_runE l (E.1 + 209, E.2) D cA hq hs)
  have e1 : (Value.ref 0 :: ys.map Value.int).map (ri_sh 209) = .ref 209 :: ys.map Value.int := by
    rw [List.map_cons, la_ints]
    rfl
  rw [e1] at h0
  refine h0.mono ?_
  rintro a b ⟨v', hm', ⟨rfl, rfl⟩, rfl, rfl⟩
  exact ⟨rfl, rfl⟩
section LAW
variable {p : Program} {l : Launch} {e : Env} {s : State} {m : MethodId} {below : List Frame} {meth : Method} {c : Code} {E : ri_V} {D : va_G} {cA : Nat → ClassId} {b L : Nat} {xs : Nat → Int32} {pc k z n : Nat} {lo : List (Nat × Value)} {st r : List Value} {h : ri_H} {W0 : cs_W}
theorem la_hdc (E : ri_V) : ∀ q ∈ ([] : ri_O), ri_hd q.1 (ri_ic E q.2.1) (ri_ic E q.2.2.1) = q.2.2.2 := fun _ h => absurd h List.not_mem_nil
theorem la_Ca (l : Launch) (E : ri_V) (D : va_G) (cA : Nat → ClassId) : ri_Ca l E D cA ri_md (ri_calE ri_md 30) 30 ri_lw.1 room_1 :=
  ⟨ri_mk_all, fun j q as h v h' hq hs => ri_runE l E D cA hq hs, Nat.le_refl _, Nat.le_refl _, by decide, by decide⟩
theorem la_slen (X : la_C p s m meth c E D cA b L xs) (hd : decode code pc = .ok (.arraylength, 1)) (kk : la_Ab p l e s m below meth c E D cA b (pc + 1, lo, .int (Int32.ofNat L) :: st, h, k, z)) : la_Ab p l e s m below meth c E D cA b (pc, lo, .retAddr 8 :: st, h, k, z) := by
  obtain ⟨⟨hx, hb, -⟩, h8, hX, hbl, hE, -⟩ := X
  intro H ls locs hl hR hS
  have e8 : ri_cv E (.retAddr 8) = .ref b := by show va_rf (E.2.1 8) = _; rw [h8]; rfl
  show W p l e room_1 s m #[Value.ref b] below meth c H locs k z _ (F0 m pc ls (ri_cv E (.retAddr 8) :: st.map (ri_cv E)))
  rw [e8]
  exact va_slen (A := ri_A E) hx hb hX hbl (by show ¬ E.1 ≤ b; rw [hE]; exact Nat.not_le.mpr hbl) hS hd (kk H ls locs hl hR hS)
theorem la_sld (X : la_C p s m meth c E D cA b L xs) {j : Nat} (hj : j < L) (hd : decode code pc = .ok (.iaload, 1)) (kk : la_Ab p l e s m below meth c E D cA b (pc + 1, lo, .int (xs j) :: st, h, k, z)) : la_Ab p l e s m below meth c E D cA b (pc, lo, .int (nI j) :: .retAddr 8 :: st, h, k, z) := by
  obtain ⟨⟨hx, hb, -⟩, h8, hX, hbl, hE, hL, -⟩ := X
  intro H ls locs hl hR hS
  have e8 : ri_cv E (.retAddr 8) = .ref b := by show va_rf (E.2.1 8) = _; rw [h8]; rfl
  have kk : W p l e room_1 s m #[Value.ref b] below meth c H locs k z _ (F0 m (pc + 1) ls (.int (xs j) :: st.map (ri_cv E))) := kk H ls locs hl hR hS
  show W p l e room_1 s m #[Value.ref b] below meth c H locs k z _ (F0 m pc ls (.int (nI j) :: ri_cv E (.retAddr 8) :: st.map (ri_cv E)))
  rw [e8]
  refine va_sld (A := ri_A E) hx hb hX hbl (by show ¬ E.1 ≤ b; rw [hE]; exact Nat.not_le.mpr hbl) hS (i := nI j) (vp_in_nI hj (by omega)) hd ?_
  rw [nI_clamp (by omega)]
  exact kk
theorem la_arg (X : la_C p s m meth c E D cA b L xs) {i o : Nat} (h0 : ri_lk lo 0 = some (.retAddr 8)) (h4 : ri_lk lo 4 = some (.int (nI i))) (hi : i + o < L) (hk : la_dk pc o = true) (kk : la_Ab p l e s m below meth c E D cA b (pc + 6, lo, .int (xs (i + o)) :: st, h, k, z)) : la_Ab p l e s m below meth c E D cA b (pc, lo, st, h, k, z) := by
  unfold la_dk at hk
  simp only [Bool.and_eq_true, decide_eq_true_eq] at hk
  obtain ⟨d0, d1, d3, d4, d5⟩ := hk
  have ⟨hx, hb, _⟩ := X.1
  refine ri_r_ald X.1 (i := 0) (v := .retAddr 8) h0 rfl (n := 1) (Or.inl ⟨0, rfl, rfl, d0⟩) ?_
  refine ri_r_ild X.1 (i := 4) (v := .int (nI i)) h4 rfl (n := 2) (Or.inr ⟨rfl, d1⟩) ?_
  refine ri_r_push X.1 (v := .int (Int32.ofInt (o : Int))) (n := 1) (fun H ls locs rest w => lv_iconst hx hb d3 rfl w) rfl ?_
  refine ri_r_stk (pc' := pc + 5) (st' := .int (nI i + Int32.ofInt (o : Int)) :: .retAddr 8 :: st) (fun H ls locs w => lv_iadd hx hb d4 w) ?_
  rw [la_add]
  exact la_sld X hi d5 kk
theorem la_args (X : la_C p s m meth c E D cA b L xs) {i : Nat} (h0 : ri_lk lo 0 = some (.retAddr 8)) (h4 : ri_lk lo 4 = some (.int (nI i))) : ∀ (ys : List Int32) (pc o : Nat) (st : List Value), i + o + ys.length ≤ L → la_da pc o ys.length = true → (∀ (j : Nat) (x : Int32), ys[j]? = some x → x = xs (i + o + j)) → la_Ab p l e s m below meth c E D cA b (pc + 6 * ys.length, lo, (ys.map Value.int).reverse ++ st, h, k, z) → la_Ab p l e s m below meth c E D cA b (pc, lo, st, h, k, z) := by
  intro ys
  induction ys with
  | nil =>
    intro pc o st h1 h2 h3 kk
    exact kk
  | cons y ys ih =>
    intro pc o st hi hd hv kk
    have hd : (la_dk pc o && la_da (pc + 6) (o + 1) ys.length) = true := hd
    obtain ⟨h1, h2⟩ := (Bool.and_eq_true _ _).mp hd
    rw [List.length_cons] at hi kk
    refine la_arg X h0 h4 (by omega) h1 ?_
    have e0 : y = xs (i + o) := hv 0 y rfl
    rw [← e0]
    refine ih (pc + 6) (o + 1) (.int y :: st) (by omega) h2 (fun j w hj => ?_) ?_
    · have := hv (j + 1) w hj
      rw [show i + (o + 1) + j = i + o + (j + 1) by omega]
      exact this
    · rw [List.map_cons, List.reverse_cons, List.append_assoc] at kk
      rw [show pc + 6 + 6 * ys.length = pc + 6 * (ys.length + 1) by omega]
      exact kk
theorem la_call (X : la_C p s m meth c E D cA b L xs) {idx j t i1 i2 i3 b0 : Nat} {q : ri_M × ri_T} {q0 : ri_C} {as : List Value} {h' : ri_H} {v : Value} (hq : ri_md[j]? = some q) (hM : ri_Met l E D cA 30 q.1 (.ref b0 :: as) h (fun a b => a = some v ∧ b = h')) (hb0 : h[b0]? = some q0) (ht : q0.1 = t) (hok : ri_ivV ri_md ri_lw.1 idx [1, j, as.length, t, i1, i3, i2] = true) (hd : decode code pc = .ok (.invokevirtual idx, 3)) (hbud : q.1.2.2.2.2.2.1 = 0 ∧ q.1.2.2.2.2.2.2 = 0) (hk : k ≤ 601024) (hz : z ≤ 7293034) (hw : ri_wt r ≤ 8)
    (kk : la_Ab p l e s m below meth c E D cA b (pc + 3, lo, v :: r, h', k, z)) : la_Ab p l e s m below meth c E D cA b (pc, lo, as.reverse ++ .ref b0 :: r, h, k, z) := by
  have hi : (match ri_md[j]?, vwCl[t]? with
    | some q, some r => Nat.blt t 13 && (ri_wi i1 (.methodLink ri_lw.1.2.2.2.2.1 idx q.1.1) && (ri_wi i3 (.selects r.1 q.1.1 q.1.1) && (ri_wi i2 (.instanceMethod q.1.1) && decide ((parseMethodDescriptor q.1.1.desc).map (fun d => d.parameters.length) = some as.length))))
    | _, _ => false) = true := hok
  split at hi
  · next q' rr hq' hr =>
    cases hq.symm.trans hq'
    simp only [Bool.and_eq_true, Nat.blt_eq, decide_eq_true_eq] at hi
    obtain ⟨n', hn'⟩ := ri_mk_all j q hq
    have e1 : as = as.reverse.reverse := (List.reverse_reverse as).symm
    rw [e1] at hM
    refine ri_r_virt X.1 (N := q.1) (ys := as.reverse) (d := 30) (P := fun a b => a = some v ∧ b = h') hM (ri_mkn hn' hi.2.2.2.2) (by rw [List.length_reverse]) (by decide) (by decide) hw hb0 (by rw [ht]; exact hi.1) (by rw [ht]; exact hr) (ri_wi_ok hi.2.1) (ri_wi_ok hi.2.2.2.1) (ri_wi_ok hi.2.2.1) (by rw [hbud.1]; exact hk) (by rw [hbud.2]; exact hz) hd ?_
    rintro w hw ⟨rfl, rfl⟩
    rw [hbud.1, hbud.2]
    exact kk
  · cases hi
theorem la_L0 {hc hm : ri_H} (HL : cs_L W0 hc hm) (t : ri_H) : (∃ q : ri_C, (hc ++ t)[0]? = some q ∧ q.1 = 11) ∧ ∃ q : ri_C, hm[0]? = some q ∧ q.1 = 12 := by
  obtain ⟨l1, l2, -, l4, -⟩ := HL
  obtain ⟨vs, g1, -⟩ := l2 0 (kc_G.headD (0, [])) rfl
  obtain ⟨ws, g2, -⟩ := l4 0 (km_G.headD (0, [])) rfl
  exact ⟨⟨_, (List.getElem?_append_left (by omega)).trans g1, rfl⟩, ⟨_, g2, rfl⟩⟩
/-- two calls, their answers dropped -/
theorem la_case (X : la_C p s m meth c E D cA b L xs) {i : Nat} (hi : i + 6 ≤ L) (hk : k ≤ 601024) (hz : z ≤ 7293034) {j1 j2 idx1 idx2 a1 a2 a3 b1 b2 b3 : Nat} (hok : la_cok pc n j1 j2 idx1 idx2 a1 a2 a3 b1 b2 b3 = true) (h5 : n ≤ 5) {hc hm : ri_H} {R : Int32 → Int32 → Prop} (HL : cs_L W0 hc hm) (hR : cs_R R W0 j1 j2 (la_ys xs i n) hc hm (hm.map (ri_shC 209)))
    (hend : ∀ hc' hm' : ri_H, cs_L W0 hc' hm' → la_Ab p l e s m below meth c E D cA b (1238, lo_i i, [], hc' ++ hm'.map (ri_shC 209), k, z)) : la_Ab p l e s m below meth c E D cA b (pc, lo_i i, [], hc ++ hm.map (ri_shC 209), k, z) := by
  obtain ⟨x1, x2, hc', hm', c1, c2, HL', -⟩ := hR
  have hln := la_ysl xs i n
  obtain ⟨⟨q0, g1, g2⟩, q9, g3, g4⟩ := la_L0 HL (hm.map (ri_shC 209))
  unfold la_cok at hok
  simp only [Bool.and_eq_true, decide_eq_true_eq] at hok
  obtain ⟨o1, o2, o3, o4, o5, o6, o7, o8, o9, o10, o11, o12⟩ := hok
  have ⟨hx, hb, _⟩ := X.1
  split at o12
  · next q1 q2 e1 e2 =>
    simp only [Bool.and_eq_true, Nat.beq_eq] at o12
    refine ri_r_ald X.1 (i := 1) (v := .ref 0) rfl rfl (n := 1) (Or.inl ⟨1, rfl, rfl, o1⟩) ?_
    refine la_args X (i := i) rfl rfl (la_ys xs i n) (pc + 1) 1 _ (by rw [hln]; omega) (by rw [hln]; exact o2) (fun j x hj => la_ysg hj) ?_
    rw [hln]
    refine la_call X (j := j1) (b0 := 0) e1 (ri_runE l E D cA e1 c1) g1 g2 (by rw [List.length_map, hln]; exact o4) o3 ⟨o12.1, o12.2.1⟩ hk hz (by decide) ?_
    rw [show pc + 1 + 6 * n + 3 = pc + 4 + 6 * n by omega]
    refine ri_snd X.1 (la_Ca l E D cA) (la_hdc E) o5 rfl ?_
    rw [show pc + 4 + 6 * n + 1 = pc + 5 + 6 * n by omega]
    refine ri_r_ald X.1 (i := 2) (v := .ref 209) rfl rfl (n := 1) (Or.inl ⟨2, rfl, rfl, o6⟩) ?_
    rw [show pc + 5 + 6 * n + 1 = pc + 6 + 6 * n by omega]
    refine la_args X (i := i) rfl rfl (la_ys xs i n) (pc + 6 + 6 * n) 1 _ (by rw [hln]; omega) (by rw [hln]; exact o7) (fun j x hj => la_ysg hj) ?_
    rw [hln, show pc + 6 + 6 * n + 6 * n = pc + 6 + 12 * n by omega]
    refine la_call X (j := j2) (b0 := 209) e2 (la_mod l E D cA e2 HL'.1 c2) (la_209 HL'.1 g3) (show (ri_shC 209 q9).1 = 12 from g4) (by rw [List.length_map, hln]; exact o9) o8 ⟨o12.2.2.1, o12.2.2.2⟩ hk hz (by decide) ?_
    rw [show pc + 6 + 12 * n + 3 = pc + 9 + 12 * n by omega]
    refine ri_snd X.1 (la_Ca l E D cA) (la_hdc E) o10 rfl ?_
    rw [show pc + 9 + 12 * n + 1 = pc + 10 + 12 * n by omega]
    refine ri_r_stk (pc' := 1238) (st' := []) (fun H ls locs w => lv_goto hx hb o11 (by omega) w) ?_
    exact hend hc' hm' HL'
  · cases o12
/-- two calls, their answers compared -/
theorem la_caso (X : la_C p s m meth c E D cA b L xs) {i : Nat} (hi : i + 6 ≤ L) (hk : k ≤ 601024) (hz : z ≤ 7293034) {j1 j2 idx1 idx2 a1 a2 a3 b1 b2 b3 : Nat} (hok : la_cko pc n j1 j2 idx1 idx2 a1 a2 a3 b1 b2 b3 = true) (h5 : n ≤ 5) {hc hm : ri_H} (HL : cs_L W0 hc hm) (hR : cs_R (fun a b => a = b) W0 j1 j2 (la_ys xs i n) hc hm (hm.map (ri_shC 209)))
    (hend : ∀ hc' hm' : ri_H, cs_L W0 hc' hm' → la_Ab p l e s m below meth c E D cA b (1238, lo_i i, [], hc' ++ hm'.map (ri_shC 209), k, z)) : la_Ab p l e s m below meth c E D cA b (pc, lo_i i, [], hc ++ hm.map (ri_shC 209), k, z) := by
  obtain ⟨x1, x2, hc', hm', c1, c2, HL', rfl⟩ := hR
  have hln := la_ysl xs i n
  obtain ⟨⟨q0, g1, g2⟩, q9, g3, g4⟩ := la_L0 HL (hm.map (ri_shC 209))
  unfold la_cko at hok
  simp only [Bool.and_eq_true, decide_eq_true_eq] at hok
  obtain ⟨o1, o2, o3, o4, o5, o6, o7, o8, o9, o10⟩ := hok
  have ⟨hx, hb, _⟩ := X.1
  split at o10
  · next q1 q2 e1 e2 =>
    simp only [Bool.and_eq_true, Nat.beq_eq] at o10
    refine ri_r_ald X.1 (i := 1) (v := .ref 0) rfl rfl (n := 1) (Or.inl ⟨1, rfl, rfl, o1⟩) ?_
    refine la_args X (i := i) rfl rfl (la_ys xs i n) (pc + 1) 1 _ (by rw [hln]; omega) (by rw [hln]; exact o2) (fun j x hj => la_ysg hj) ?_
    rw [hln]
    refine la_call X (j := j1) (b0 := 0) e1 (ri_runE l E D cA e1 c1) g1 g2 (by rw [List.length_map, hln]; exact o4) o3 ⟨o10.1, o10.2.1⟩ hk hz (by decide) ?_
    rw [show pc + 1 + 6 * n + 3 = pc + 4 + 6 * n by omega]
    refine ri_r_ald X.1 (i := 2) (v := .ref 209) rfl rfl (n := 1) (Or.inl ⟨2, rfl, rfl, o5⟩) ?_
    rw [show pc + 4 + 6 * n + 1 = pc + 5 + 6 * n by omega]
    refine la_args X (i := i) rfl rfl (la_ys xs i n) (pc + 5 + 6 * n) 1 _ (by rw [hln]; omega) (by rw [hln]; exact o6) (fun j x hj => la_ysg hj) ?_
    rw [hln, show pc + 5 + 6 * n + 6 * n = pc + 5 + 12 * n by omega]
    refine la_call X (j := j2) (b0 := 209) e2 (la_mod l E D cA e2 HL'.1 c2) (la_209 HL'.1 g3) (show (ri_shC 209 q9).1 = 12 from g4) (by rw [List.length_map, hln]; exact o8) o7 ⟨o10.2.2.1, o10.2.2.2⟩ hk hz (show ri_wt [Value.int x1] ≤ 8 from (show (1 : Nat) ≤ 8 from by decide)) ?_
    rw [show pc + 5 + 12 * n + 3 = pc + 8 + 12 * n by omega]
    refine ri_r_icmp X.1 (x := .int x1) (y := .int x1) (b := true) rfl rfl (by show decide _ = true; exact decide_eq_true rfl) o9 (tgt := 1238) (by omega) ?_
    exact hend hc' hm' HL'
  · cases o10
end LAW
