def ri_hI (c : Nat) (a b : Int) : Bool := match c with
  | 0 => decide (a = b)
  | 1 => decide (¬ a = b)
  | 2 => decide (a < b)
  | 3 => decide (b ≤ a)
  | 4 => decide (b < a)
  | 5 => decide (a ≤ b)
  | _ => decide (a < 0 ∨ b < a)
theorem ri_hd_i (c : Nat) (a b : Int32) : ri_hd c a b = ri_hI c a.toInt b.toInt := by
  unfold ri_hd ri_hI
  split <;> simp [Int32.lt_iff_toInt_lt, Int32.le_iff_toInt_le, ← Int32.toInt_inj]
theorem la_q {E : ri_V} {x y : Value} {vx vy : Int} (c : Nat) (hx : (ri_ic E x).toInt = vx) (hy : (ri_ic E y).toInt = vy) {b : Bool} (h : ri_hI c vx vy = b) : ri_hd c (ri_ic E x) (ri_ic E y) = b := by
  rw [ri_hd_i, hx, hy]
  exact h
def la_C (p : Program) (s : State) (m : MethodId) (meth : Method) (c : Code) (E : ri_V) (D : va_G) (cA : Nat → ClassId) (b L : Nat) (xs : Nat → Int32) : Prop :=
  ri_Cx p s m #[Value.ref b] meth c E D cA ri_law.1 ∧ E.2.1 8 = some b ∧ va_X b L xs s s.heap ∧ b < s.heap.size ∧ E.1 = s.heap.size ∧ (∀ j, E.2.2 j = xs j) ∧ meth.sig.returnType = ret ∧ meth.locks = false
abbrev la_Ab (p : Program) (l : Launch) (e : Env) (s : State) (m : MethodId) (below : List Frame) (meth : Method) (c : Code) (E : ri_V) (D : va_G) (cA : Nat → ClassId) (b : Nat) (f : ri_F) : Prop := ri_Ab p l e room_1 s m #[Value.ref b] below meth c (lw_Z below #[Value.ref b] s) E D cA 7 f
def la_dk (pc i : Nat) : Bool := decide (decode code pc = .ok (.aload_n 0, 1)) && (decide (decode code (pc + 1) = .ok (.iload 4, 2)) && (decide (decode code (pc + 3) = .ok (.iconst (i : Int), 1)) && (decide (decode code (pc + 4) = .ok (.iadd, 1)) && decide (decode code (pc + 5) = .ok (.iaload, 1)))))
def la_da : Nat → Nat → Nat → Bool
  | _, _, 0 => true
  | pc, i, n + 1 => la_dk pc i && la_da (pc + 6) (i + 1) n
/-- the model's cells and the law's own, in a world of their own -/
def hm_fr : ri_H := h_n1 ++ [(15, [.long 0])]
theorem ri_ic_sh (E : ri_V) (n : Nat) (v : Value) : ri_ic (E.1 + n, E.2) v = ri_ic E v := by cases v <;> rfl
/-- the two calls of a case, on the fresh heap: the answers are one -/
noncomputable def ri_pr (dc : ri_O) (j1 j2 : Nat) (as : List Value) : Bool := match ri_call dc ri_md 9 j1 (.ref 0 :: as) h_fr with
  | some (some v1, h1) => Nat.ble 209 h1.length && (ri_eqH (h1.drop 209) (hm_fr.map (ri_shC 209)) && (ri_isI v1 && (match ri_call dc ri_md 9 j2 (.ref 0 :: as) hm_fr with
    | some (some v2, _) => decide (v1 = v2)
    | _ => false)))
  | _ => false
theorem ri_pr_inv {dc : ri_O} {j1 j2 : Nat} {as : List Value} (hp : ri_pr dc j1 j2 as = true) : ∃ (v : Value) (h1 hc h2 : ri_H), ri_call dc ri_md 9 j1 (.ref 0 :: as) h_fr = some (some v, h1) ∧ hc.length = 209 ∧ h1 = hc ++ hm_fr.map (ri_shC 209) ∧ ri_call dc ri_md 9 j2 (.ref 0 :: as) hm_fr = some (some v, h2) ∧ ri_isI v = true := by
  unfold ri_pr at hp
  split at hp
  · next v1 h1 e1 =>
    simp only [Bool.and_eq_true, Nat.ble_eq] at hp
    obtain ⟨p1, p2, p3, p4⟩ := hp
    have p2 := ri_eqH_ok _ _ p2
    split at p4
    · next v2 h2 e2 =>
      have e3 := of_decide_eq_true p4
      subst e3
      exact ⟨v1, h1, h1.take 209, h2, e1, by rw [List.length_take]; omega, by rw [← p2, List.take_append_drop], e2, p3⟩
    · cases p4
  · cases hp
theorem hm_209 (hc : ri_H) (hn : hc.length = 209) : ∃ q : ri_C, (hc ++ hm_fr.map (ri_shC 209))[209]? = some q ∧ q.1 = 12 := by
  refine ⟨ri_shC 209 (hm_fr.headD (0, [])), ?_, rfl⟩
  rw [List.getElem?_append_right (by omega), hn]
  rfl
theorem ri_no_ref {E : ri_V} {xs : Nat → Int32} {as : List Value} (hv : ∀ (j : Nat) (v : Value), as[j]? = some v → ri_cv E v = .int (xs (1 + j))) : as.map (ri_sh 209) = as := by
  have h : ∀ v ∈ as, ri_sh 209 v = v := by
    intro v hm
    obtain ⟨j, hj⟩ := List.getElem?_of_mem hm
    have := hv j v hj
    cases v with
    | ref k => cases this
    | _ => rfl
  exact (List.map_congr_left h).trans (List.map_id _)
/-- the model's call in its own world, as it stands in the law's -/
theorem la_mod (l : Launch) (E : ri_V) (D : va_G) (cA : Nat → ClassId) {dc : ri_O} (hdc : ∀ q ∈ dc, ri_hd q.1 (ri_ic E q.2.1) (ri_ic E q.2.2.1) = q.2.2.2) {j : Nat} {q : ri_M × ri_T} {as : List Value} {hc h2 : ri_H} {v : Value} (hq : ri_md[j]? = some q) (hn : hc.length = 209) (hs : ri_call dc ri_md 9 j (.ref 0 :: as) hm_fr = some (some v, h2)) (hI : ri_isI v = true) (has : as.map (ri_sh 209) = as) : ri_Met l E D cA 9 q.1 (.ref 209 :: as) (hc ++ hm_fr.map (ri_shC 209)) (fun a b => a = some v ∧ b = hc ++ h2.map (ri_shC 209)) := by
  have hdc' : ∀ q ∈ dc, ri_hd q.1 (ri_ic (E.1 + 209, E.2) q.2.1) (ri_ic (E.1 + 209, E.2) q.2.2.1) = q.2.2.2 := by
    intro q hm
    rw [ri_ic_sh, ri_ic_sh]
    exact hdc q hm
  have h0 := ri_shift (hc := hc) hn (ri_run l (E.1 + 209, E.2) D cA hdc' hq hs)
  have e1 : (Value.ref 0 :: as).map (ri_sh 209) = .ref 209 :: as := by
    rw [List.map_cons, has]
    rfl
  rw [e1] at h0
  refine h0.mono ?_
  rintro a b ⟨v', hm', ⟨rfl, rfl⟩, rfl, rfl⟩
  refine ⟨?_, rfl⟩
  cases v <;> first | rfl | cases hI
def la_cok (pc n j1 j2 idx1 idx2 a1 a2 a3 b1 b2 b3 : Nat) : Bool :=
  decide (decode code pc = .ok (.aload_n 1, 1)) && (la_da (pc + 1) 1 n && (decide (decode code (pc + 1 + 6 * n) = .ok (.invokevirtual idx1, 3)) && (ri_ivV ri_md ri_law.1 idx1 [1, j1, n, 11, a1, a2, a3] &&
  (decide (decode code (pc + 4 + 6 * n) = .ok (.aload_n 2, 1)) && (la_da (pc + 5 + 6 * n) 1 n && (decide (decode code (pc + 5 + 12 * n) = .ok (.invokevirtual idx2, 3)) && (ri_ivV ri_md ri_law.1 idx2 [1, j2, n, 12, b1, b2, b3] &&
  (decide (decode code (pc + 8 + 12 * n) = .ok (.if_icmp .eq (1266 - ((pc + 8 + 12 * n : Nat) : Int)), 3)) && (match ri_md[j1]?, ri_md[j2]? with
    | some q1, some q2 => Nat.beq q1.1.2.2.2.2.2.1 0 && (Nat.beq q1.1.2.2.2.2.2.2 0 && (Nat.beq q2.1.2.2.2.2.2.1 0 && Nat.beq q2.1.2.2.2.2.2.2 0))
    | _, _ => false)))))))))
section LAW
variable {p : Program} {l : Launch} {e : Env} {s : State} {m : MethodId} {below : List Frame} {meth : Method} {c : Code} {E : ri_V} {D : va_G} {cA : Nat → ClassId} {b L : Nat} {xs : Nat → Int32} {pc k z n : Nat} {lo : List (Nat × Value)} {st r : List Value} {h : ri_H} {dc : ri_O}
theorem la_slen (X : la_C p s m meth c E D cA b L xs) (hd : decode code pc = .ok (.arraylength, 1)) (kk : la_Ab p l e s m below meth c E D cA b (pc + 1, lo, .int (Int32.ofNat L) :: st, h, k, z)) : la_Ab p l e s m below meth c E D cA b (pc, lo, .retAddr 8 :: st, h, k, z) := by
  obtain ⟨⟨hx, hb, -⟩, h8, hX, hbl, hE, -⟩ := X
  intro H ls locs hl hR hS
  have e8 : ri_cv E (.retAddr 8) = .ref b := by show va_rf (E.2.1 8) = _; rw [h8]; rfl
  show W p l e room_1 s m #[Value.ref b] below meth c H locs k z _ (F0 m pc ls (ri_cv E (.retAddr 8) :: st.map (ri_cv E)))
  rw [e8]
  exact va_slen (A := ri_A E) hx hb hX hbl (by show ¬ E.1 ≤ b; rw [hE]; exact Nat.not_le.mpr hbl) hS hd (kk H ls locs hl hR hS)
theorem la_sld (X : la_C p s m meth c E D cA b L xs) {j : Nat} (hj : j < L) (hL : L < 16) (hd : decode code pc = .ok (.iaload, 1)) {v : Value} (hv : ri_cv E v = .int (xs j)) (kk : la_Ab p l e s m below meth c E D cA b (pc + 1, lo, v :: st, h, k, z)) : la_Ab p l e s m below meth c E D cA b (pc, lo, .int (nI j) :: .retAddr 8 :: st, h, k, z) := by
  obtain ⟨⟨hx, hb, -⟩, h8, hX, hbl, hE, -⟩ := X
  intro H ls locs hl hR hS
  have e8 : ri_cv E (.retAddr 8) = .ref b := by show va_rf (E.2.1 8) = _; rw [h8]; rfl
  have kk : W p l e room_1 s m #[Value.ref b] below meth c H locs k z _ (F0 m (pc + 1) ls (ri_cv E v :: st.map (ri_cv E))) := kk H ls locs hl hR hS
  show W p l e room_1 s m #[Value.ref b] below meth c H locs k z _ (F0 m pc ls (.int (nI j) :: ri_cv E (.retAddr 8) :: st.map (ri_cv E)))
  rw [e8]
  rw [hv] at kk
  refine va_sld (A := ri_A E) hx hb hX hbl (by show ¬ E.1 ≤ b; rw [hE]; exact Nat.not_le.mpr hbl) hS (i := nI j) (vp_in_nI hj (by omega)) hd ?_
  rw [nI_clamp (by omega)]
  exact kk
theorem la_arg (X : la_C p s m meth c E D cA b L xs) {i : Nat} (hi : i < L) (hL : L < 16) (hk : la_dk pc i = true) {v : Value} (hv : ri_cv E v = .int (xs i)) (kk : la_Ab p l e s m below meth c E D cA b (pc + 6, lo_law, v :: st, h, k, z)) : la_Ab p l e s m below meth c E D cA b (pc, lo_law, st, h, k, z) := by
  unfold la_dk at hk
  simp only [Bool.and_eq_true, decide_eq_true_eq] at hk
  obtain ⟨d0, d1, d3, d4, d5⟩ := hk
  have ⟨hx, hb, _⟩ := X.1
  refine ri_r_ald X.1 (i := 0) (v := .retAddr 8) rfl rfl (n := 1) (Or.inl ⟨0, rfl, rfl, d0⟩) ?_
  refine ri_r_ild X.1 (i := 4) (v := .int 0) rfl rfl (n := 2) (Or.inr ⟨rfl, d1⟩) ?_
  refine ri_r_push X.1 (v := .int (Int32.ofInt (i : Int))) (n := 1) (fun H ls locs rest w => lv_iconst hx hb d3 rfl w) rfl ?_
  refine ri_r_stk (pc' := pc + 5) (st' := .int (0 + Int32.ofInt (i : Int)) :: .retAddr 8 :: st) (fun H ls locs w => lv_iadd hx hb d4 w) ?_
  have e0 : (0 : Int32) + Int32.ofInt (i : Int) = nI i := by
    rw [Int32.zero_add]
    rfl
  rw [e0]
  exact la_sld X hi hL d5 hv kk
theorem la_args (X : la_C p s m meth c E D cA b L xs) (hL : L < 16) : ∀ (as : List Value) (pc i : Nat) (st : List Value), i + as.length ≤ L → la_da pc i as.length = true → (∀ (j : Nat) (v : Value), as[j]? = some v → ri_cv E v = .int (xs (i + j))) → la_Ab p l e s m below meth c E D cA b (pc + 6 * as.length, lo_law, as.reverse ++ st, h, k, z) → la_Ab p l e s m below meth c E D cA b (pc, lo_law, st, h, k, z) := by
  intro as
  induction as with
  | nil =>
    intro pc i st h1 h2 h3 kk
    exact kk
  | cons v as ih =>
    intro pc i st hi hd hv kk
    have hd : (la_dk pc i && la_da (pc + 6) (i + 1) as.length) = true := hd
    obtain ⟨h1, h2⟩ := (Bool.and_eq_true _ _).mp hd
    rw [List.length_cons] at hi kk
    refine la_arg X (v := v) (by omega) hL h1 (by have := hv 0 v rfl; simpa using this) ?_
    refine ih (pc + 6) (i + 1) (v :: st) (by omega) h2 (fun j w hj => ?_) ?_
    · have := hv (j + 1) w hj
      rw [show i + 1 + j = i + (j + 1) by omega]
      exact this
    · rw [List.reverse_cons, List.append_assoc] at kk
      rw [show pc + 6 + 6 * as.length = pc + 6 * (as.length + 1) by omega]
      exact kk
theorem la_call (X : la_C p s m meth c E D cA b L xs) {idx j t i1 i2 i3 b0 : Nat} {q : ri_M × ri_T} {q0 : ri_C} {as : List Value} {h' : ri_H} {v : Value} (hq : ri_md[j]? = some q) (hM : ri_Met l E D cA 9 q.1 (.ref b0 :: as) h (fun a b => a = some v ∧ b = h')) (hb0 : h[b0]? = some q0) (ht : q0.1 = t) (hok : ri_ivV ri_md ri_law.1 idx [1, j, as.length, t, i1, i3, i2] = true) (hd : decode code pc = .ok (.invokevirtual idx, 3)) (hbud : q.1.2.2.2.2.2.1 = 0 ∧ q.1.2.2.2.2.2.2 = 0) (hk : k ≤ 600002) (hz : z ≤ 7302232) (hw : ri_wt r ≤ 8)
    (kk : la_Ab p l e s m below meth c E D cA b (pc + 3, lo, v :: r, h', k, z)) : la_Ab p l e s m below meth c E D cA b (pc, lo, as.reverse ++ .ref b0 :: r, h, k, z) := by
  have hi : (match ri_md[j]?, vwCl[t]? with
    | some q, some r => Nat.blt t 13 && (ri_wi i1 (.methodLink ri_law.1.2.2.2.2.1 idx q.1.1) && (ri_wi i3 (.selects r.1 q.1.1 q.1.1) && (ri_wi i2 (.instanceMethod q.1.1) && decide ((parseMethodDescriptor q.1.1.desc).map (fun d => d.parameters.length) = some as.length))))
    | _, _ => false) = true := hok
  split at hi
  · next q' rr hq' hr =>
    cases hq.symm.trans hq'
    simp only [Bool.and_eq_true, Nat.blt_eq, decide_eq_true_eq] at hi
    obtain ⟨n', hn'⟩ := ri_mk_all j q hq
    have e1 : as = as.reverse.reverse := (List.reverse_reverse as).symm
    rw [e1] at hM
    refine ri_r_virt X.1 (N := q.1) (ys := as.reverse) (d := 9) (P := fun a b => a = some v ∧ b = h') hM (ri_mkn hn' hi.2.2.2.2) (by rw [List.length_reverse]) (by decide) (by decide) hw hb0 (by rw [ht]; exact hi.1) (by rw [ht]; exact hr) (ri_wi_ok hi.2.1) (ri_wi_ok hi.2.2.2.1) (ri_wi_ok hi.2.2.1) (by rw [hbud.1]; exact hk) (by rw [hbud.2]; exact hz) hd ?_
    rintro w hw ⟨rfl, rfl⟩
    rw [hbud.1, hbud.2]
    exact kk
  · cases hi
/-- a case of the law: two calls, their answers compared -/
theorem la_case (X : la_C p s m meth c E D cA b L xs) (hL : L = 6) (hend : ∀ (h : ri_H) (k z : Nat), k ≤ 600002 → z ≤ 7302232 → la_Ab p l e s m below meth c E D cA b (1266, lo_law, [], h, k, z)) {j1 j2 idx1 idx2 a1 a2 a3 b1 b2 b3 : Nat} (hok : la_cok pc n j1 j2 idx1 idx2 a1 a2 a3 b1 b2 b3 = true) (hdc : ∀ q ∈ dc, ri_hd q.1 (ri_ic E q.2.1) (ri_ic E q.2.2.1) = q.2.2.2) {as : List Value} (hn : as.length = n) (h5 : n ≤ 5) (hv : ∀ (j : Nat) (v : Value), as[j]? = some v → ri_cv E v = .int (xs (1 + j))) (hpr : ri_pr dc j1 j2 as = true) :
    la_Ab p l e s m below meth c E D cA b (pc, lo_law, [], h_fr, 228, 7820) := by
  subst hn
  obtain ⟨v, h1, hc, h2, c1, hcl, rfl, c2, hI⟩ := ri_pr_inv hpr
  obtain ⟨q, g1, g2⟩ := hm_209 hc hcl
  unfold la_cok at hok
  simp only [Bool.and_eq_true, decide_eq_true_eq] at hok
  obtain ⟨o1, o2, o3, o4, o5, o6, o7, o8, o9, o10⟩ := hok
  have ⟨hx, hb, _⟩ := X.1
  split at o10
  · next q1 q2 e1 e2 =>
    simp only [Bool.and_eq_true, Nat.beq_eq] at o10
    refine ri_r_ald X.1 (i := 1) (v := .ref 0) rfl rfl (n := 1) (Or.inl ⟨1, rfl, rfl, o1⟩) ?_
    refine la_args X (by omega) as (pc + 1) 1 _ (by omega) o2 hv ?_
    refine la_call X (j := j1) (b0 := 0) e1 (ri_run l E D cA hdc e1 c1) rfl rfl o4 o3 ⟨o10.1, o10.2.1⟩ (by decide) (by decide) (by decide) ?_
    rw [show pc + 1 + 6 * as.length + 3 = pc + 4 + 6 * as.length by omega]
    refine ri_r_ald X.1 (i := 2) (v := .ref 209) rfl rfl (n := 1) (Or.inl ⟨2, rfl, rfl, o5⟩) ?_
    rw [show pc + 4 + 6 * as.length + 1 = pc + 5 + 6 * as.length by omega]
    refine la_args X (by omega) as (pc + 5 + 6 * as.length) 1 _ (by omega) o6 hv ?_
    rw [show pc + 5 + 6 * as.length + 6 * as.length = pc + 5 + 12 * as.length by omega]
    refine la_call X (j := j2) (b0 := 209) e2 (la_mod l E D cA hdc e2 hcl c2 hI (ri_no_ref hv)) g1 g2 o8 o7 ⟨o10.2.2.1, o10.2.2.2⟩ (by decide) (by decide) (by
      have : ri_wt [v] = 1 := by cases v <;> first | rfl | cases hI
      omega) ?_
    rw [show pc + 5 + 12 * as.length + 3 = pc + 8 + 12 * as.length by omega]
    refine ri_r_icmp X.1 (x := v) (y := v) (b := true) hI hI (by show decide _ = true; exact decide_eq_true rfl) o9 (tgt := 1266) (by omega) ?_
    exact hend _ 228 7820 (by decide) (by decide)
  · cases o10
end LAW
