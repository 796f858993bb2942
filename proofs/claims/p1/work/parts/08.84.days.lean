def dc_c : ri_O := [(2, .float 1, .int 1, false), (5, .float 1, .int 60, true), (2, .int 600, .float 1, false), (5, .float 1, .int 0, false)]
def dc_m : ri_O := [(2, .float 1, .int 1, false), (4, .float 1, .int 60, false)]
def lo_c : List (Nat × Value) := [(2, .float 1), (0, .ref 0), (1, .float 1)]
def lo_m : List (Nat × Value) := [(0, .ref 0), (1, .float 1)]
set_option maxRecDepth 100000 in
theorem dy_c : ri_is (ri_sn (ri_st dc_c (ri_call dc_c ri_md 8) (ri_bud ri_md) md_115) 24 (0, ri_as 0 [.ref 0, .float 1], [], h_fr, 0, 0)) (49, lo_c, [.float 1, .ref 23, .ref 35], h_d 0, 0, 0) = true := by decide +kernel
set_option maxRecDepth 100000 in
theorem dy_m : ri_is (ri_sn (ri_st dc_m (ri_call dc_m ri_md 8) (ri_bud ri_md) md_209) 18 (0, ri_as 0 [.ref 0, .float 1], [], hm_fr, 0, 0)) (38, lo_m, [.float 1, .ref 0], hm_d 0, 0, 0) = true := by decide +kernel
set_option maxRecDepth 100000 in
theorem dy_cc (dc : ri_O) (cal : Nat → List Value → ri_H → Option (Option Value × ri_H)) (h : ri_H) : ri_sn (ri_st dc cal (ri_bud ri_md) md_115) 2 (52, lo_c, [], h, 0, 0) = some (70000, [], [.float 1], h, 0, 0) := rfl
set_option maxRecDepth 100000 in
theorem dy_mm (dc : ri_O) (cal : Nat → List Value → ri_H → Option (Option Value × ri_H)) (h : ri_H) (v : Int32) : ri_sn (ri_st dc cal (ri_bud ri_md) md_209) 1 (41, lo_m, [.int v], h, 0, 0) = some (70000, [], [.int v], h, 0, 0) := rfl
set_option maxRecDepth 100000 in
theorem dy_ic : ri_ivV ri_md md_115.1 257 [1, 63, 2, 6, 867, 869, 868] = true := by decide +kernel
set_option maxRecDepth 100000 in
theorem dy_im : ri_ivV ri_md md_209.1 317 [1, 205, 1, 12, 1677, 70, 1679] = true := by decide +kernel
theorem dy_dc : decode md_115.1.2.1 49 = .ok (.invokevirtual 257, 3) := by decide +kernel
theorem dy_dm : decode md_209.1.2.1 38 = .ok (.invokevirtual 317, 3) := by decide +kernel
theorem dy_kc (n : Nat) : ∃ q : ri_C, (h_d n)[35]? = some q ∧ q.1 = 6 := by
  unfold h_d
  rw [List.getElem?_append_left (by rw [hcd_len]; decide)]
  unfold hcd
  rw [List.getElem?_append_right (by rw [hcA_len]; decide), hcA_len]
  exact ⟨_, rfl, rfl⟩
theorem dy_km : ∀ n : Nat, ∃ q : ri_C, (hm_d n)[0]? = some q ∧ q.1 = 12 := fun _ => ⟨_, rfl, rfl⟩
/-- a call by a contract, in any method -/
theorem ri_vcall {p : Program} {l : Launch} {e : Env} {R : Room} {s : State} {m : MethodId} {args : Array Value} {below : List Frame} {meth : Method} {c : Code} {Q : State → Prop} {E : ri_V} {D : va_G} {cA : Nat → ClassId} {M : ri_M} {pc k z d : Nat} {lo : List (Nat × Value)} {r : List Value} {h : ri_H} (X : ri_Cx p s m args meth c E D cA M) {idx j t i1 i2 i3 b0 : Nat} {q : ri_M × ri_T} {q0 : ri_C} {as : List Value} {h' : ri_H} {v : Option Value} (hq : ri_md[j]? = some q) (hM : ri_Met l E D cA d q.1 (.ref b0 :: as) h (fun a b => a = v ∧ b = h')) (hb0 : h[b0]? = some q0) (ht : q0.1 = t) (hok : ri_ivV ri_md M idx [1, j, as.length, t, i1, i3, i2] = true) (hd : decode M.2.1 pc = .ok (.invokevirtual idx, 3)) (hfr : d + 1 ≤ R.frames) (hlo : 64 * d + 64 ≤ R.locals) (hk : k + q.1.2.2.2.2.2.1 ≤ R.cells) (hz : z + q.1.2.2.2.2.2.2 ≤ R.slots) (hw : ri_wt r ≤ 8)
    (kk : ri_Ab p l e R s m args below meth c Q E D cA M.2.2.1 (pc + 3, lo, v.toList ++ r, h', k + q.1.2.2.2.2.2.1, z + q.1.2.2.2.2.2.2)) : ri_Ab p l e R s m args below meth c Q E D cA M.2.2.1 (pc, lo, as.reverse ++ .ref b0 :: r, h, k, z) := by
  have hi : (match ri_md[j]?, vwCl[t]? with
    | some q, some r => Nat.blt t 13 && (ri_wi i1 (.methodLink M.2.2.2.2.1 idx q.1.1) && (ri_wi i3 (.selects r.1 q.1.1 q.1.1) && (ri_wi i2 (.instanceMethod q.1.1) && decide ((parseMethodDescriptor q.1.1.desc).map (fun d => d.parameters.length) = some as.length))))
    | _, _ => false) = true := hok
  split at hi
  · next q' rr hq' hr =>
    cases hq.symm.trans hq'
    simp only [Bool.and_eq_true, Nat.blt_eq, decide_eq_true_eq] at hi
    obtain ⟨n', hn'⟩ := ri_mk_all j q hq
    have e1 : as = as.reverse.reverse := (List.reverse_reverse as).symm
    rw [e1] at hM
    refine ri_r_virt X (N := q.1) (ys := as.reverse) (d := d) (P := fun a b => a = v ∧ b = h') hM (ri_mkn hn' hi.2.2.2.2) (by rw [List.length_reverse]) hfr hlo hw hb0 (by rw [ht]; exact hi.1) (by rw [ht]; exact hr) (ri_wi_ok hi.2.1) (ri_wi_ok hi.2.2.2.1) (ri_wi_ok hi.2.2.1) hk hz hd ?_
    rintro w hw ⟨rfl, rfl⟩
    exact kk
  · cases hi
theorem dy_cmet (l : Launch) (E : ri_V) (D : va_G) (cA : Nat → ClassId) {n : Nat} (hn0 : 1 ≤ n) (hn : n ≤ 60) (hE : (ri_ic E (.float 1)).toInt = (n : Int)) : ri_Met l E D cA 9 md_115.1 [.ref 0, .float 1] h_fr (fun a b => a = some (.float 1) ∧ b = h_d n) := by
  have hdc : ∀ q ∈ dc_c, ri_hd q.1 (ri_ic E q.2.1) (ri_ic E q.2.2.1) = q.2.2.2 := List.forall_mem_cons.mpr ⟨la_q 2 hE (show (ri_ic E (.int 1)).toInt = 1 from (show (1 : Int32).toInt = 1 from by decide)) (decide_eq_false (by omega)), List.forall_mem_cons.mpr ⟨la_q 5 hE (show (ri_ic E (.int 60)).toInt = 60 from (show (60 : Int32).toInt = 60 from by decide)) (decide_eq_true (by omega)), List.forall_mem_cons.mpr ⟨la_q 2 (show (ri_ic E (.int 600)).toInt = 600 from (show (600 : Int32).toInt = 600 from by decide)) hE (decide_eq_false (by omega)), List.forall_mem_cons.mpr ⟨la_q 5 hE (show (ri_ic E (.int 0)).toInt = 0 from (show (0 : Int32).toInt = 0 from by decide)) (decide_eq_false (by omega)), fun _ h => absurd h List.not_mem_nil⟩⟩⟩⟩
  obtain ⟨w, hMk⟩ := mk_115
  refine ri_met_of hMk (by decide) (fun p e s m args below meth c X hrt hlk => ?_)
  have C : ri_Ca l E D cA ri_md (ri_call dc_c ri_md 8) 8 md_115.1 (ri_rm 9 md_115.1) := ⟨ri_mk_all, fun j q as h v h' hq hs => ri_run l E D cA hdc hq hs, Nat.le_refl _, Nat.le_refl _, by decide, by decide⟩
  have gfin : ri_Gd p l e (ri_rm 9 md_115.1) s m args below meth c (MQ below (ri_Qc E D cA (fun a b => a = some (.float 1) ∧ b = h_d n)) args s md_115.1.2.2.2.2.2.1 md_115.1.2.2.2.2.2.2 (ri_A E)) E D cA md_115.1.2.2.1 (fun a b => a = some (.float 1) ∧ b = h_d n) md_115.1.2.2.2.2.2.1 md_115.1.2.2.2.2.2.2 (70000, [], [.float 1], h_d n, 0, 0) := Or.inl ⟨rfl, ⟨rfl, rfl⟩, Nat.zero_le _, Nat.zero_le _⟩
  have g2 := ri_sn_snd X C hdc ot_115 hrt hlk _ _ _ (dy_cc _ _ (h_d n)) (fun h => by cases h) gfin
  obtain ⟨q0, k1, k2⟩ := dy_kc 0
  have g1 := ri_vcall (r := []) (lo := lo_c) (k := 0) (z := 0) X (j := 63) (q := md_63) (b0 := 35) (as := [.ref 23, .float 1]) rfl (pd_met l E D cA hn hE) k1 k2 dy_ic dy_dc (by decide) (by decide) (by decide) (by decide) (by decide) g2
  exact ri_sn_snd X C hdc ot_115 hrt hlk _ _ _ (ri_is_ok dy_c) (fun h => by cases h) (Or.inr ⟨(fun h => by cases h), g1⟩)
theorem dy_mmet (l : Launch) (E : ri_V) (D : va_G) (cA : Nat → ClassId) {n : Nat} (hn0 : 1 ≤ n) (hn : n ≤ 60) (hE : (ri_ic E (.float 1)).toInt = (n : Int)) : ri_Met l E D cA 9 md_209.1 [.ref 0, .float 1] hm_fr (fun a b => a = some (.int (nI n)) ∧ b = hm_d n) := by
  have hdc : ∀ q ∈ dc_m, ri_hd q.1 (ri_ic E q.2.1) (ri_ic E q.2.2.1) = q.2.2.2 := List.forall_mem_cons.mpr ⟨la_q 2 hE (show (ri_ic E (.int 1)).toInt = 1 from (show (1 : Int32).toInt = 1 from by decide)) (decide_eq_false (by omega)), List.forall_mem_cons.mpr ⟨la_q 4 hE (show (ri_ic E (.int 60)).toInt = 60 from (show (60 : Int32).toInt = 60 from by decide)) (decide_eq_false (by omega)), fun _ h => absurd h List.not_mem_nil⟩⟩
  obtain ⟨w, hMk⟩ := mk_209
  refine ri_met_of hMk (by decide) (fun p e s m args below meth c X hrt hlk => ?_)
  have C : ri_Ca l E D cA ri_md (ri_call dc_m ri_md 8) 8 md_209.1 (ri_rm 9 md_209.1) := ⟨ri_mk_all, fun j q as h v h' hq hs => ri_run l E D cA hdc hq hs, Nat.le_refl _, Nat.le_refl _, by decide, by decide⟩
  have gfin : ri_Gd p l e (ri_rm 9 md_209.1) s m args below meth c (MQ below (ri_Qc E D cA (fun a b => a = some (.int (nI n)) ∧ b = hm_d n)) args s md_209.1.2.2.2.2.2.1 md_209.1.2.2.2.2.2.2 (ri_A E)) E D cA md_209.1.2.2.1 (fun a b => a = some (.int (nI n)) ∧ b = hm_d n) md_209.1.2.2.2.2.2.1 md_209.1.2.2.2.2.2.2 (70000, [], [.int (nI n)], hm_d n, 0, 0) := Or.inl ⟨rfl, ⟨rfl, rfl⟩, Nat.zero_le _, Nat.zero_le _⟩
  have g2 := ri_sn_snd X C hdc ot_209 hrt hlk _ _ _ (dy_mm _ _ (hm_d n) (nI n)) (fun h => by cases h) gfin
  obtain ⟨q0, k1, k2⟩ := dy_km 0
  have g1 := ri_vcall (r := []) (lo := lo_m) (k := 0) (z := 0) X (j := 205) (q := md_205) (b0 := 0) (as := [.float 1]) rfl (gd_met l E D cA hn hE) k1 k2 dy_im dy_dm (by decide) (by decide) (by decide) (by decide) (by decide) g2
  exact ri_sn_snd X C hdc ot_209 hrt hlk _ _ _ (ri_is_ok dy_m) (fun h => by cases h) (Or.inr ⟨(fun h => by cases h), g1⟩)
