section RID
variable {p : Program} {l : Launch} {e : Env} {R : Room} {s : State} {m : MethodId} {args : Array Value} {below : List Frame} {meth : Method} {c : Code} {Q : State → Prop} {E : ri_V} {D : va_G} {cA : Nat → ClassId} {M : ri_M} {pc k z nL : Nat} {lo : List (Nat × Value)} {st r : List Value} {h : ri_H} {f' : ri_F}
theorem ri_arrV (cI : ClassId) {N : Nat} {f g : Nat → Value} (hfg : ∀ j, j < N → f j = g j) : arrV cI N f = arrV cI N g := by
  unfold arrV
  congr 2
  funext j
  exact hfg j.val j.isLt
theorem ri_dv_cs (d : String) : ri_dv d = .null ∨ ri_dv d = .int 0 ∨ ri_dv d = .long 0 := by
  unfold ri_dv
  split
  · exact Or.inr (Or.inl rfl)
  · exact Or.inr (Or.inl rfl)
  · exact Or.inr (Or.inr rfl)
  · exact Or.inl rfl
theorem ri_new_inv {t nx : Nat} {fs : List Value} (hs : ri_new M t nx fs lo st h k z = some f') : k + 1 ≤ M.2.2.2.2.2.1 ∧ z + fs.length ≤ M.2.2.2.2.2.2 ∧ f' = (nx, lo, .ref h.length :: st, h ++ [(t, fs)], k + 1, z + fs.length) := by
  unfold ri_new at hs
  cases hg : (Nat.ble (k + 1) M.2.2.2.2.2.1 && Nat.ble (z + fs.length) M.2.2.2.2.2.2) with
  | false => rw [hg] at hs; cases hs
  | true =>
    rw [hg] at hs
    simp only [Bool.and_eq_true, Nat.ble_eq] at hg
    exact ⟨hg.1, hg.2, (Option.some.inj hs).symm⟩
theorem ri_r_new (X : ri_Cx p s m args meth c E D cA M) {t idx i1 i2 i3 : Nat} {rr : vw_C} {fs : List Value} (h13 : t < 13) (hr : vwCl[t]? = some rr) (hf : ri_df t = some fs) (w1 : lw_tbl[i1]? = some (.classLink M.2.2.2.2.1 idx rr.1)) (w2 : lw_tbl[i2]? = some (.instantiable rr.1 rr.2.2)) (w3 : lw_tbl[i3]? = some (.initialized rr.1)) (hk : k + 1 ≤ R.cells) (hz : z + fs.length ≤ R.slots) (hd : decode M.2.1 pc = .ok (.new idx, 3))
    (kk : ri_Ab p l e R s m args below meth c Q E D cA M.2.2.1 (pc + 3, lo, .ref h.length :: st, h ++ [(t, fs)], k + 1, z + fs.length)) : ri_Ab p l e R s m args below meth c Q E D cA M.2.2.1 (pc, lo, st, h, k, z) := by
  obtain ⟨hx, hb, -, hown, hts, hK, -⟩ := X
  intro H ls locs hl hR hS
  obtain ⟨ty0, fs', hf', hlen, hin, hty, hdv, -⟩ := ri_cls hr
  cases hf.symm.trans hf'
  have hKn := hK.1 t rr hr
  rw [hlen] at hz kk
  refine W.newcK hx hb hown (ri_wd hts w1 rfl) (ri_wd hts w2 rfl) (ri_wd hts w3 rfl) rfl hd hk hz hKn.2.1 hR.1 (fun H1 kC hkC e1 z1 o1 => ?_)
  have o1' : ∀ q : Nat, q < H.size → H1[q]? = H[q]? := fun q hq => o1 q (by rw [← hR.1]; exact hq)
  have z1' : H1.size = H.size + 1 := by rw [z1, hR.1]
  refine kk H1 ls locs hl (hR.push z1' o1' ⟨fun _ => ⟨rr, hr, ?_⟩, fun hh _ => absurd h13 (Nat.not_lt.mpr hh)⟩) (ri_S.push hS z1' o1')
  refine (u_born ty0 (ri_fl hts) hin hKn hkC e1 hty).to (fun j hj => ?_)
  rw [hdv j hj]
  have hcl : ∀ d : Value, d = .null ∨ d = .int 0 ∨ d = .long 0 → ri_cv E d = d := by rintro d (rfl | rfl | rfl) <;> rfl
  refine (hcl _ ?_).symm
  have hfs : fs = (List.range rr.2.2).map (fun k => ri_dv (rr.2.1 k).2.2.1) := by
    unfold ri_df at hf
    rw [hr] at hf
    exact (Option.some.inj hf).symm
  rw [hfs, List.getD_eq_getElem?_getD, List.getElem?_map, List.getElem?_range hj]
  exact ri_dv_cs _
theorem ri_r_newa (X : ri_Cx p s m args meth c E D cA M) {t i1 : Nat} {n : Int32} {a : ArrayType} {v : Value} (ha : (a = .int ∧ t = 13 ∧ v = .int 0) ∨ (a = .byte ∧ t = 14 ∧ v = .int 0) ∨ (a = .long ∧ t = 15 ∧ v = .long 0) ∨ (a = .boolean ∧ t = 16 ∧ v = .int 0)) (hn : ¬ n < 0) (hN : n.toNatClampNeg ≤ 100000) (w1 : lw_tbl[i1]? = some (.arrayClass (newarray.typeOf a))) (hk : k + 1 ≤ R.cells) (hz : z + n.toNatClampNeg ≤ R.slots) (hd : decode M.2.1 pc = .ok (.newarray a, 2))
    (kk : ri_Ab p l e R s m args below meth c Q E D cA M.2.2.1 (pc + 2, lo, .ref h.length :: st, h ++ [(t, List.replicate n.toNatClampNeg v)], k + 1, z + n.toNatClampNeg)) : ri_Ab p l e R s m args below meth c Q E D cA M.2.2.1 (pc, lo, .int n :: st, h, k, z) := by
  obtain ⟨hx, hb, -, hown, hts, hK, -⟩ := X
  intro H ls locs hl hR hS
  have hcb : n.toNatClampNeg * componentBytes (newarray.typeOf a) ≤ 536870912 := by
    have : componentBytes (newarray.typeOf a) ≤ 8 := by rcases ha with ⟨rfl, -⟩ | ⟨rfl, -⟩ | ⟨rfl, -⟩ | ⟨rfl, -⟩ <;> decide
    calc n.toNatClampNeg * componentBytes (newarray.typeOf a) ≤ 100000 * 8 := Nat.mul_le_mul hN this
      _ ≤ 536870912 := by decide
  have ht : 13 ≤ t ∧ t ≤ 18 := by omega
  refine va_newaK hx hb (ri_wd hts w1 rfl) (N := n.toNatClampNeg) rfl hd rfl hn rfl hcb hk hz hR.1 (fun H1 cA' e1 z1 o1 hAr hNm => ?_)
  have o1' : ∀ q : Nat, q < H.size → H1[q]? = H[q]? := fun q hq => o1 q (by rw [← hR.1]; exact hq)
  have z1' : H1.size = H.size + 1 := by rw [z1, hR.1]
  have hcA : cA' = cA t := by
    have h2 := (ri_arr hK ht.1 ht.2).2
    rcases ha with ⟨rfl, rfl, -⟩ | ⟨rfl, rfl, -⟩ | ⟨rfl, rfl, -⟩ | ⟨rfl, rfl, -⟩ <;> exact Option.some.inj (hNm.symm.trans h2)
  subst hcA
  refine kk H1 ls locs hl (hR.push z1' o1' ⟨fun hh => absurd ht.1 (Nat.not_le.mpr hh), fun _ _ => ?_⟩) (ri_S.push hS z1' o1')
  rw [e1]
  dsimp only
  rw [List.length_replicate]
  congr 1
  refine ri_arrV _ (fun j hj => ?_)
  rw [List.getD_eq_getElem?_getD, List.getElem?_replicate, if_pos hj]
  rcases ha with ⟨rfl, rfl, rfl⟩ | ⟨rfl, rfl, rfl⟩ | ⟨rfl, rfl, rfl⟩ | ⟨rfl, rfl, rfl⟩ <;> rfl
theorem ri_r_anew (X : ri_Cx p s m args meth c E D cA M) {t idx i1 i2 : Nat} {n : Int32} {C : String} (ha : (t = 17 ∧ C = RX6) ∨ (t = 18 ∧ C = RX3)) (hn : ¬ n < 0) (hN : n.toNatClampNeg ≤ 100000) (w1 : lw_tbl[i1]? = some (.classLink M.2.2.2.2.1 idx C)) (w2 : lw_tbl[i2]? = some (.arrayOver (.object C))) (hk : k + 1 ≤ R.cells) (hz : z + n.toNatClampNeg ≤ R.slots) (hd : decode M.2.1 pc = .ok (.anewarray idx, 3))
    (kk : ri_Ab p l e R s m args below meth c Q E D cA M.2.2.1 (pc + 3, lo, .ref h.length :: st, h ++ [(t, List.replicate n.toNatClampNeg .null)], k + 1, z + n.toNatClampNeg)) : ri_Ab p l e R s m args below meth c Q E D cA M.2.2.1 (pc, lo, .int n :: st, h, k, z) := by
  obtain ⟨hx, hb, -, hown, hts, hK, -⟩ := X
  intro H ls locs hl hR hS
  have ht : 13 ≤ t ∧ t ≤ 18 := by omega
  refine W.anew hx hb hown (ri_wd hts w1 rfl) (ri_wd hts w2 rfl) rfl hd rfl hn (by omega) hk hz (fun cA' kA comp f1 f2 f3 f4 => ?_)
  generalize hH1 : H.push ({ cls := cA', slots := Array.replicate n.toNatClampNeg .null, vm := .none } : Cell) = H1
  have z1 : H1.size = H.size + 1 := by rw [← hH1, Array.size_push]
  have e1 : H1[H.size]? = some (arrV cA' n.toNatClampNeg (fun _ => .null)) := by rw [← hH1, Array.getElem?_push_size, ← arrV_new]
  have o1 : ∀ q : Nat, q < H.size → H1[q]? = H[q]? := fun q hq => by rw [← hH1, Array.getElem?_push, if_neg (Nat.ne_of_lt hq)]
  have hcA : cA' = cA t := by
    have h2 := (ri_arr hK ht.1 ht.2).2
    rcases ha with ⟨rfl, rfl⟩ | ⟨rfl, rfl⟩
    · obtain ⟨_, _, _, _, _, h5⟩ := h2
      exact Option.some.inj (f1.symm.trans h5)
    · obtain ⟨_, _, _, _, _, h5⟩ := h2
      exact Option.some.inj (f1.symm.trans h5)
  subst hcA
  rw [hR.1] at e1
  have kk : W p l e R s m args below meth c H1 locs (k + 1) (z + n.toNatClampNeg) Q (F0 m (pc + 3) ls (.ref (E.1 + h.length) :: st.map (ri_cv E))) := kk H1 ls locs hl (hR.push z1 o1 ⟨fun hh => absurd ht.1 (Nat.not_le.mpr hh), fun _ _ => by
      rw [e1]
      dsimp only
      rw [List.length_replicate]
      congr 1
      refine ri_arrV _ (fun j hj => ?_)
      rw [List.getD_eq_getElem?_getD, List.getElem?_replicate, if_pos hj]
      rfl⟩) (ri_S.push hS z1 o1)
  rw [← hR.1] at kk
  exact kk
theorem ri_r_gets (X : ri_Cx p s m args meth c E D cA M) {w idx j : Nat} {v : Value} (hw : (1 ≤ w ∧ w ≤ 4 ∧ v = .retAddr w ∧ lw_tbl[j]? = some (.fieldLinkNest M.2.2.2.2.1 idx "LakeLearns" (ri_xn w) "[I" "LakeLearns")) ∨ (v = .int 1 ∧ lw_tbl[j]? = some (.fieldLink M.2.2.2.2.1 idx "java/lang/String" "COMPACT_STRINGS" "Z")) ∨ (v = .retAddr 7 ∧ lw_tbl[j]? = some (.fieldLink M.2.2.2.2.1 idx "jdk/internal/util/Preconditions" "SIOOBE_FORMATTER" "Ljava/util/function/BiFunction;")))
    (hd : decode M.2.1 pc = .ok (.getstatic idx, 3))
    (kk : ri_Ab p l e R s m args below meth c Q E D cA M.2.2.1 (pc + 3, lo, v :: st, h, k, z)) : ri_Ab p l e R s m args below meth c Q E D cA M.2.2.1 (pc, lo, st, h, k, z) := by
  obtain ⟨hx, hb, -, hown, hts, hK, ⟨x1, x2, -, x4⟩, -⟩ := X
  intro H ls locs hl hR hS
  have kk : W p l e R s m args below meth c H locs k z Q (F0 m (pc + 3) ls (ri_cv E v :: st.map (ri_cv E))) := kk H ls locs hl hR hS
  rcases hw with ⟨h1, h4, rfl, hj⟩ | ⟨rfl, hj⟩ | ⟨rfl, hj⟩
  · obtain ⟨t, e1, hZ, -⟩ := x1 w h1 h4
    have e2 : ri_cv E (.retAddr w) = .ref t := by show va_rf (E.2.1 w) = _; rw [e1]; rfl
    rw [e2] at kk
    exact va_getsN hx hb hZ hS hown (ri_wd hts hj rfl) (fun _ h => h) hd kk
  · exact va_gets hx hb x2 hS hown (ri_wd hts hj rfl) (fun _ h => h) hd kk
  · exact va_gets hx hb x4 hS hown (ri_wd hts hj rfl) (fun _ h => h) hd kk
theorem ri_r_ldcS (X : ri_Cx p s m args meth c E D cA M) (ho : M.2.2.2.2.1 = "LakeLearns$Reader") (hd : decode M.2.1 pc = .ok (.ldc 48, 2))
    (kk : ri_Ab p l e R s m args below meth c Q E D cA M.2.2.1 (pc + 2, lo, .retAddr 5 :: st, h, k, z)) : ri_Ab p l e R s m args below meth c Q E D cA M.2.2.1 (pc, lo, st, h, k, z) := by
  obtain ⟨hx, hb, -, hown, hts, hK, ⟨-, -, ⟨t5, t6, g1, g2, g3, -⟩, -⟩, -⟩ := X
  intro H ls locs hl hR hS
  have kk : W p l e R s m args below meth c H locs k z Q (F0 m (pc + 2) ls (ri_cv E (.retAddr 5) :: st.map (ri_cv E))) := kk H ls locs hl hR hS
  have e5 : ri_cv E (.retAddr 5) = .ref t5 := by show va_rf (E.2.1 5) = _; rw [g1]; rfl
  rw [e5] at kk
  rw [ho] at hown
  exact va_ldcS hx hb hown g3 hd kk
theorem ri_r_cast (X : ri_Cx p s m args meth c E D cA M) {r0 idx j : Nat} {q : ri_C} (hq : h[r0]? = some q) (h13 : q.1 = 13) (hj : lw_tbl[j]? = some (.classLink M.2.2.2.2.1 idx "[I")) (hd : decode M.2.1 pc = .ok (.checkcast idx, 3))
    (kk : ri_Ab p l e R s m args below meth c Q E D cA M.2.2.1 (pc + 3, lo, .ref r0 :: st, h, k, z)) : ri_Ab p l e R s m args below meth c Q E D cA M.2.2.1 (pc, lo, .ref r0 :: st, h, k, z) := by
  obtain ⟨hx, hb, -, hown, hts, hK, -⟩ := X
  intro H ls locs hl hR hS
  have hc := (hR.2 r0 q hq).2 (by omega) (by omega)
  have hnm : s.vm.findClass "[I" = some (cA q.1) := by rw [h13]; exact va_nm_int (ri_arr hK (t := 13) (by omega) (by omega)).2
  intro T hT X'
  obtain ⟨vm', X2, st2⟩ := X'.checkcastYes hx hown (ri_wd hts hj rfl) (by rw [hT]; exact hc) rfl hnm (va_asg _ _) (g := F0 m pc ls (.ref (E.1 + r0) :: st.map (ri_cv E))) rfl rfl (by rw [hb]; exact hd)
  obtain ⟨t, a1, b1⟩ := kk H ls locs hl hR hS (T.setVm vm') hT X2
  exact ⟨t, st2 t a1, b1⟩
end RID
