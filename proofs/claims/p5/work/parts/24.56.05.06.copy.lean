theorem ri_w_mns : lw_tbl[644]? = some (.static Lib.Math.min.name) := by decide +kernel
theorem ri_w_mxs : lw_tbl[1015]? = some (.static Lib.Math.max.name) := by decide +kernel
theorem ri_w_mi : lw_tbl[116]? = some (.initialized "java/lang/Math") := by decide +kernel
theorem ri_w_mnc : lw_tbl[645]? = some (.code Lib.Math.min.name Lib.Math.min.code 2 (some .int)) := by decide +kernel
theorem ri_w_mxc : lw_tbl[1016]? = some (.code Lib.Math.max.name Lib.Math.max.code 2 (some .int)) := by decide +kernel
theorem ri_w_same : lw_tbl[248]? = some (.sameMethod "[I" "java/lang/Object" "clone" "()Ljava/lang/Object;") := by decide +kernel
theorem ri_w_nat : lw_tbl[249]? = some (.native ⟨"java/lang/Object", "clone", "()Ljava/lang/Object;"⟩) := by decide +kernel
theorem ri_w_ins : lw_tbl[250]? = some (.instanceMethod ⟨"java/lang/Object", "clone", "()Ljava/lang/Object;"⟩) := by decide +kernel
theorem ri_w_sel : lw_tbl[251]? = some (.selects "[I" ⟨"[I", "clone", "()Ljava/lang/Object;"⟩ ⟨"java/lang/Object", "clone", "()Ljava/lang/Object;"⟩) := by decide +kernel
theorem ri_w_cas : lw_tbl[252]? = some (.castable "[I" "java/lang/Cloneable") := by decide +kernel
theorem ri_w_acn : lw_tbl[671]? = some (.native arraycopyName) := by decide +kernel
theorem ri_w_acs : lw_tbl[670]? = some (.static arraycopyName) := by decide +kernel
theorem ri_w_aci : lw_tbl[117]? = some (.initialized "java/lang/System") := by decide +kernel
theorem ri_w_oin : lw_tbl[129]? = some (.instanceMethod objectInit) := by decide +kernel
theorem ri_w_oco : lw_tbl[130]? = some (.code objectInit ⟨#[0xb1]⟩ 1 none) := by decide +kernel
section RIE
variable {p : Program} {l : Launch} {e : Env} {R : Room} {s : State} {m : MethodId} {args : Array Value} {below : List Frame} {meth : Method} {c : Code} {Q : State → Prop} {E : ri_V} {D : va_G} {cA : Nat → ClassId} {M : ri_M} {pc k z nL : Nat} {lo : List (Nat × Value)} {st r : List Value} {h : ri_H} {f' : ri_F}
theorem ri_r_clone (X : ri_Cx p s m args meth c E D cA M) {n idx j : Nat} (h1 : 1 ≤ n) (h4 : n ≤ 4) (hw : ri_wt st ≤ 8) (hj : lw_tbl[j]? = some (.methodLink M.2.2.2.2.1 idx ⟨"[I", "clone", "()Ljava/lang/Object;"⟩)) (hfr : 1 ≤ R.frames) (hlo : 60 ≤ R.locals) (hk : k + 1 ≤ R.cells) (hz : z + (ri_xl n).length ≤ R.slots) (hd : decode M.2.1 pc = .ok (.invokevirtual idx, 3))
    (kk : ri_Ab p l e R s m args below meth c Q E D cA M.2.2.1 (pc + 3, lo, .ref h.length :: st, h ++ [(13, (ri_xl n).map Value.int)], k + 1, z + (ri_xl n).length)) : ri_Ab p l e R s m args below meth c Q E D cA M.2.2.1 (pc, lo, .retAddr n :: st, h, k, z) := by
  obtain ⟨hx, hb, hml, hown, hts, hK, ⟨x1, -⟩, -⟩ := X
  intro H ls locs hl hR hS
  obtain ⟨t, e1, -, cell, c1, c2, c3, c4, c5, c6, c7⟩ := x1 n h1 h4
  show W p l e R s m args below meth c H locs k z Q (F0 m pc ls (va_rf (E.2.1 n) :: st.map (ri_cv E)))
  rw [e1]
  show W p l e R s m args below meth c H locs k z Q (F0 m pc ls (.ref t :: st.map (ri_cv E)))
  have hcA : cell.cls = cA 13 := Option.some.inj (c6.symm.trans (va_nm_int (ri_arr hK (t := 13) (by omega) (by omega)).2))
  obtain ⟨c0, t0', f1, f2, f3⟩ := Cond.castable_spec (va_Nw.use (A := args) rfl (va_Nw.of rfl (ri_wd hts ri_w_cas rfl)))
  cases c6.symm.trans f1
  intro T hT X
  have hcellT : T.heap[t]? = some cell := by rw [hT, hS.2.1 t (Array.getElem?_eq_some_iff.mp c1).1 c7]; exact c1
  obtain ⟨-, kA, hkA, comp, hkind⟩ := State.isArrayOf_alike X.warmed.alike c2
  obtain ⟨hst, kS, hkS, compS, hkindS⟩ := c2
  have hwt : ((st.map (ri_cv E)).map fun v => v.category).sum ≤ 8 := by rw [ri_wt_cv]; exact hw
  obtain ⟨vm', X', st2⟩ := X.cloneArray hx hown (ri_wd hts hj rfl) (ri_wd hts ri_w_same rfl) (ri_wd hts ri_w_nat rfl) (ri_wd hts ri_w_ins rfl) (ri_wd hts ri_w_sel rfl) (a := t) (cell := cell) hcellT hst c3 c6 f2 f3
    (fun i v hv => by
      have hk' : T.vm.classes[cell.cls]? = some kA := hkA
      have hv' : fits .int v = true := by
        have hi : i < (ri_xl n).length := by rw [← c4]; exact (Array.getElem?_eq_some_iff.mp hv).1
        rw [c5 i hi] at hv
        cases hv
        rfl
      simpa [State.fitsSlot, State.slotType?, hk', hkind] using hv')
    (g := F0 m pc ls (.ref t :: st.map (ri_cv E))) rfl (by rw [hml]; exact hl.1) rfl (by rw [hb]; exact hd) hfr (by show 2 * 0 + _ + 14 ≤ _; omega) hk (by rw [c4]; exact hz) (hloader := Vm.clonesLoader_of_array hkS hkindS)
  have hcellE : ({ cls := cell.cls, slots := cell.slots } : Cell) = arrV (cA 13) ((ri_xl n).map Value.int).length (fun j => ri_cv E (((ri_xl n).map Value.int).getD j .null)) := by
    unfold arrV
    rw [hcA]
    congr 1
    apply Array.ext
    · rw [c4]; simp
    · intro i hi1 hi2
      have hi : i < (ri_xl n).length := by rw [← c4]; exact hi1
      have e0 := c5 i hi
      rw [Array.getElem?_eq_getElem hi1] at e0
      have e0 := Option.some.inj e0
      rw [e0, Array.getElem_ofFn]
      show Value.int ((ri_xl n).getD i 0) = ri_cv E (((ri_xl n).map Value.int).getD i .null)
      rw [List.getD_eq_getElem?_getD, List.getD_eq_getElem?_getD, List.getElem?_map, List.getElem?_eq_getElem hi]
      rfl
  rw [hcellE, c4] at X'
  generalize hH1 : H.push (arrV (cA 13) ((ri_xl n).map Value.int).length (fun j => ri_cv E (((ri_xl n).map Value.int).getD j .null))) = H1
  have z1 : H1.size = H.size + 1 := by rw [← hH1, Array.size_push]
  have e1 : H1[H.size]? = some (arrV (cA 13) ((ri_xl n).map Value.int).length (fun j => ri_cv E (((ri_xl n).map Value.int).getD j .null))) := by rw [← hH1, Array.getElem?_push_size]
  have o1 : ∀ q : Nat, q < H.size → H1[q]? = H[q]? := fun q hq => by rw [← hH1, Array.getElem?_push, if_neg (Nat.ne_of_lt hq)]
  rw [hR.1] at e1
  obtain ⟨t2, b1, b2⟩ := kk H1 ls locs hl (hR.push z1 o1 ⟨fun hh => absurd hh (by show ¬ 13 < 13; omega), fun _ _ => e1⟩) (ri_S.push hS z1 o1) ((T.setVm vm').pushCell (arrV (cA 13) ((ri_xl n).map Value.int).length (fun j => ri_cv E (((ri_xl n).map Value.int).getD j .null)))) (by rw [← hH1, ← hT]; rfl) X'
  refine ⟨t2, st2 t2 ?_, b2⟩
  rw [hcellE, hT, hR.1]
  exact b1
theorem ri_cpy_len {f g : List Value} {sp dp n : Nat} (h1 : sp + n ≤ f.length) (h2 : dp + n ≤ g.length) : (ri_cpy f g sp dp n).length = g.length := by
  unfold ri_cpy
  simp only [List.length_append, List.length_take, List.length_drop]
  omega
theorem ri_cpy_at {f g : List Value} {sp dp n : Nat} (h1 : sp + n ≤ f.length) (h2 : dp + n ≤ g.length) (j : Nat) : (ri_cpy f g sp dp n).getD j .null = va_cpy (fun i => f.getD i .null) (fun i => g.getD i .null) sp dp n j := by
  unfold ri_cpy va_cpy
  simp only [List.getD_eq_getElem?_getD]
  by_cases ha : j < dp
  · rw [if_neg (by omega), List.append_assoc, List.getElem?_append_left (by rw [List.length_take]; omega), List.getElem?_take_of_lt ha]
  · by_cases hb : j < dp + n
    · rw [if_pos (by omega), List.append_assoc, List.getElem?_append_right (by rw [List.length_take]; omega), List.getElem?_append_left (by simp only [List.length_take, List.length_drop]; omega)]
      rw [List.length_take, List.getElem?_take_of_lt (by omega), List.getElem?_drop]
      congr 2
      omega
    · rw [if_neg (by omega), List.getElem?_append_right (by simp only [List.length_append, List.length_take, List.length_drop]; omega), List.getElem?_drop]
      congr 2
      simp only [List.length_append, List.length_take, List.length_drop]
      omega
theorem ri_pos {z : Int32} (hz : ¬ z < 0) : z.toInt = (z.toNatClampNeg : Int) := by
  have hz0 : (0 : Int) ≤ z.toInt := by
    have := Int32.not_lt.mp hz
    simpa using Int32.le_iff_toInt_le.mp this
  show z.toInt = ((z.toInt.toNat : Nat) : Int)
  omega
/-- System.arraycopy between arrays of ints or of longs -/
theorem ri_r_copy (X : ri_Cx p s m args meth c E D cA M) {ra rb idx j t : Nat} {a : Value} {xs ys : List Value} {sp dp n : Int32} (ha : ri_cv E a = .ref ra)
    (hsrc : ∀ H locs, ri_R E D cA h H → va_S (ri_A E) s.heap H locs → ∃ cell : Cell, H[ra]? = some cell ∧ s.isArrayOf cell (ri_ty t) ∧ cell.vm ≠ .unknown ∧ cell.slots.size = xs.length ∧ ∀ j : Nat, j < xs.length → cell.slots[j]? = some (ri_cv E (xs.getD j .null)))
    (hq : h[rb]? = some (t, ys)) (ht : t = 13 ∨ t = 15) (h1 : ¬ sp < 0) (h2 : ¬ dp < 0) (h3 : ¬ n < 0) (h4 : sp.toNatClampNeg + n.toNatClampNeg ≤ xs.length) (h5 : dp.toNatClampNeg + n.toNatClampNeg ≤ ys.length) (hfit : ∀ i, i < n.toNatClampNeg → fits (ri_ty t) (ri_cv E (xs.getD (sp.toNatClampNeg + i) .null)) = true)
    (hj : lw_tbl[j]? = some (.methodLink M.2.2.2.2.1 idx arraycopyName)) (hw : ri_wt st ≤ 8) (hfr : 1 ≤ R.frames) (hlo : 60 ≤ R.locals) (hd : decode M.2.1 pc = .ok (.invokestatic idx, 3))
    (kk : ri_Ab p l e R s m args below meth c Q E D cA M.2.2.1 (pc + 3, lo, st, h.set rb (t, ri_cpy xs ys sp.toNatClampNeg dp.toNatClampNeg n.toNatClampNeg), k, z)) : ri_Ab p l e R s m args below meth c Q E D cA M.2.2.1 (pc, lo, .int n :: .int dp :: .ref rb :: .int sp :: a :: st, h, k, z) := by
  obtain ⟨hx, hb, hml, hown, hts, hK, -⟩ := X
  intro H ls locs hl hR hS
  obtain ⟨cell, s1, s2, s3, s4, s5⟩ := hsrc H locs hR hS
  have ht' : 13 ≤ t ∧ t ≤ 18 := by omega
  have hc1 : H[E.1 + rb]? = some (arrV (cA t) ys.length (fun j => ri_cv E (ys.getD j .null))) := (hR.2 rb _ hq).2 ht'.1 ht'.2
  show W p l e R s m args below meth c H locs k z Q (F0 m pc ls (.int n :: .int dp :: .ref (E.1 + rb) :: .int sp :: ri_cv E a :: st.map (ri_cv E)))
  rw [ha]
  intro T hT X
  have hwt : ((st.map (ri_cv E)).map fun v => v.category).sum ≤ 8 := by rw [ri_wt_cv]; exact hw
  obtain ⟨d1, k0, hk0, cm0, hkk0⟩ := s2
  obtain ⟨-, k1, hk1, cm1, hkk1⟩ := (ri_arr hK ht'.1 ht'.2).1 ys.length (fun j => ri_cv E (ys.getD j .null))
  have hty : ((refKind (ri_ty t) != refKind (ri_ty t)) || (!refKind (ri_ty t) && ri_ty t != ri_ty t)) = false := by rcases ht with rfl | rfl <;> rfl
  have hread : ∀ i, i < n.toNatClampNeg → cell.slots.getD (sp.toNatClampNeg + i) .null = ri_cv E (xs.getD (sp.toNatClampNeg + i) .null) := fun i hi => by
    rw [Array.getD_eq_getD_getElem?, s5 _ (by omega)]; rfl
  obtain ⟨vm', X', step⟩ := X.arraycopy hx hown (ri_wd hts hj rfl) (ri_wd hts ri_w_acn rfl) (ri_wd hts ri_w_acs rfl) (ri_wd hts ri_w_aci rfl) (src := ra) (dst := E.1 + rb) (cs := cell) (cd := arrV (cA t) ys.length (fun j => ri_cv E (ys.getD j .null))) (srcPos := sp) (destPos := dp) (n := n) (by rw [hT]; exact s1) (by rw [hT]; exact hc1)
    d1 (fun _ h => by cases h) s3 (fun h => by cases h) hk0 hk1 hkk0 hkk1 hty h1 h2 h3
    (by rw [ri_pos h1, ri_pos h3, s4]; omega) (by rw [ri_pos h2, ri_pos h3, arrV_size]; omega)
    (fun vm₁ _ i hi => by
      rw [hread i hi]
      refine ⟨hfit i hi, ?_⟩
      have hf := hfit i hi
      cases hv : ri_cv E (xs.getD (sp.toNatClampNeg + i) .null) with
      | ref a =>
        rw [hv] at hf
        rcases ht with rfl | rfl <;> cases hf
      | _ => exact trivial)
    (g := F0 m pc ls (.int n :: .int dp :: .ref (E.1 + rb) :: .int sp :: .ref ra :: st.map (ri_cv E))) rfl (by rw [hml]; exact hl.1) (rest := st.map (ri_cv E)) rfl (by rw [hb]; exact hd) hfr (by
      have : nativeFrameWords "java/lang/System" "arraycopy" 5 ≤ 20 := by decide
      show 2 * 0 + _ + _ ≤ _; omega)
  have e1 : copied cell (arrV (cA t) ys.length (fun j => ri_cv E (ys.getD j .null))) sp dp n = arrV (cA t) (ri_cpy xs ys sp.toNatClampNeg dp.toNatClampNeg n.toNatClampNeg).length (fun j => ri_cv E ((ri_cpy xs ys sp.toNatClampNeg dp.toNatClampNeg n.toNatClampNeg).getD j .null)) := by
    have e2 : cell.stretch sp.toNatClampNeg n.toNatClampNeg = (arrV (cA t) xs.length (fun j => ri_cv E (xs.getD j .null))).stretch sp.toNatClampNeg n.toNatClampNeg := by
      unfold Cell.stretch
      apply List.map_congr_left
      intro i hi
      have hi' := List.mem_range.mp hi
      rw [hread i hi', Array.getD_eq_getD_getElem?, arrV_read _ _ (by omega)]
      rfl
    show (arrV (cA t) ys.length (fun j => ri_cv E (ys.getD j .null))).storeRun dp.toNatClampNeg (cell.stretch sp.toNatClampNeg n.toNatClampNeg) = _
    rw [e2]
    refine (va_copied (fun v : Value => v) (cA t) (cA t) (fun j => ri_cv E (xs.getD j .null)) (fun j => ri_cv E (ys.getD j .null)) h4).trans ?_
    rw [ri_cpy_len h4 h5]
    congr 1
    funext j
    rw [ri_cpy_at h4 h5]
    unfold va_cpy
    split <;> rfl
  rw [e1] at X' step
  have hl1 : E.1 + rb < H.size := (Array.getElem?_eq_some_iff.mp hc1).1
  generalize hH1 : H.setIfInBounds (E.1 + rb) (arrV (cA t) (ri_cpy xs ys sp.toNatClampNeg dp.toNatClampNeg n.toNatClampNeg).length (fun j => ri_cv E ((ri_cpy xs ys sp.toNatClampNeg dp.toNatClampNeg n.toNatClampNeg).getD j .null))) = H1
  have z1 : H1.size = H.size := by rw [← hH1]; simp
  have g1 : H1[E.1 + rb]? = some (arrV (cA t) (ri_cpy xs ys sp.toNatClampNeg dp.toNatClampNeg n.toNatClampNeg).length (fun j => ri_cv E ((ri_cpy xs ys sp.toNatClampNeg dp.toNatClampNeg n.toNatClampNeg).getD j .null))) := by rw [← hH1]; simp [Array.getElem?_setIfInBounds, hl1]
  have oq : ∀ q : Nat, q ≠ E.1 + rb → H1[q]? = H[q]? := fun q hq => by rw [← hH1]; simp [Array.getElem?_setIfInBounds, Ne.symm hq]
  obtain ⟨t2, a1, b1⟩ := kk H1 ls _ hl (hR.set z1 oq ⟨fun hh => absurd ht'.1 (Nat.not_le.mpr hh), fun _ _ => g1⟩) ⟨by rw [z1]; exact hS.1, fun q y1 y2 => by
      rw [oq q (fun e => y2 (by rw [e]; show E.1 ≤ E.1 + rb; omega))]
      exact hS.2.1 q y1 y2, fun q hq => by
      rcases List.mem_append.mp hq with hh | hh
      · exact hS.2.2 q hh
      · obtain ⟨w, -, hw⟩ := List.mem_map.mp hh
        rw [← hw]
        show E.1 ≤ E.1 + rb; omega⟩ _ (by rw [← hH1, ← hT]; rfl) X'
  exact ⟨t2, step t2 a1, b1⟩
end RIE
