section RIB
variable {p : Program} {l : Launch} {e : Env} {R : Room} {s : State} {m : MethodId} {args : Array Value} {below : List Frame} {meth : Method} {c : Code} {Q : State → Prop} {E : ri_V} {D : va_G} {cA : Nat → ClassId} {M : ri_M} {pc k z nL : Nat} {lo : List (Nat × Value)} {st r : List Value} {h : ri_H} {f' : ri_F}
theorem ri_r_stk {pc' : Nat} {st' : List Value} (hrow : ∀ (H : Heap) (ls : Array Slot) (locs : List Loc), W p l e R s m args below meth c H locs k z Q (F0 m pc' ls (st'.map (ri_cv E))) → W p l e R s m args below meth c H locs k z Q (F0 m pc ls (st.map (ri_cv E))))
    (kk : ri_Ab p l e R s m args below meth c Q E D cA nL (pc', lo, st', h, k, z)) : ri_Ab p l e R s m args below meth c Q E D cA nL (pc, lo, st, h, k, z) := fun H ls locs hl hR hS => hrow H ls locs (kk H ls locs hl hR hS)
theorem ri_fl (hts : ∀ w ∈ lw_tbl, ri_stb w = true → w.before args s = true) : ∀ w ∈ lw_tbl.filter ri_stb, w.before args s = true := fun w hw => hts w (List.mem_filter.mp hw).1 (List.mem_filter.mp hw).2
theorem ri_gD (E : ri_V) (l : List Value) (j : Nat) : ri_cv E (l.getD j .null) = (l.map (ri_cv E)).getD j .null := by
  rw [List.getD_eq_getElem?_getD, List.getD_eq_getElem?_getD, List.getElem?_map]
  cases l[j]? <;> rfl
theorem ri_P1 {H : Heap} {j : Nat} {q : ri_C} (hc : ri_cell E D cA j q H) (h13 : q.1 < 13) : va_P D vwCl [(E.1 + j, .inr (q.1, q.2.map (ri_cv E)))] H := by
  intro i x hx
  have hz : i < 1 := (List.getElem?_eq_some_iff.mp hx).1
  rw [show i = 0 by omega] at hx
  cases hx
  obtain ⟨r0, h1, h2⟩ := hc.1 h13
  exact ⟨r0, h1, h2.to (fun n _ => ri_gD E q.2 n)⟩
theorem ri_r_getf (X : ri_Cx p s m args meth c E D cA M) {i r0 idx j : Nat} {q : ri_C} {v : Value} {rr : vw_C} (hq : h[r0]? = some q) (h13 : q.1 < 13) (hv : q.2[i]? = some v) (hr : vwCl[q.1]? = some rr) (hi : i < rr.2.2) (hlink : lw_tbl[j]? = some (.fieldLink M.2.2.2.2.1 idx (rr.2.1 i).1 (rr.2.1 i).2.1 (rr.2.1 i).2.2.1)) (hd : decode M.2.1 pc = .ok (.getfield idx, 3))
    (kk : ri_Ab p l e R s m args below meth c Q E D cA M.2.2.1 (pc + 3, lo, v :: st, h, k, z)) : ri_Ab p l e R s m args below meth c Q E D cA M.2.2.1 (pc, lo, .ref r0 :: st, h, k, z) := by
  obtain ⟨hx, hb, -, hown, hts, hK, -⟩ := X
  intro H ls locs hl hR hS
  obtain ⟨ty0, fs, -, -, hin, -⟩ := ri_cls hr
  exact va_get (C := rr.1) (T := rr.2.1) (N := rr.2.2) (ci := q.1) hx hb (ri_fl hts) hin hown hK (ri_P1 (hR.2 r0 q hq) h13) 0 rfl hr i hi (ri_wd hts hlink rfl) (fun _ h => h) (v := ri_cv E v) (by rw [List.getElem?_map, hv]; rfl) hd (kk H ls locs hl hR hS)
theorem ri_r_getS (X : ri_Cx p s m args meth c E D cA M) {idx j w : Nat} {v : Value} (hw : (w = 0 ∧ v = .int 0 ∧ lw_tbl[j]? = some (.fieldLink M.2.2.2.2.1 idx "java/lang/String" "coder" "B")) ∨ (w = 1 ∧ v = .retAddr 6 ∧ lw_tbl[j]? = some (.fieldLink M.2.2.2.2.1 idx "java/lang/String" "value" "[B"))) (hd : decode M.2.1 pc = .ok (.getfield idx, 3))
    (kk : ri_Ab p l e R s m args below meth c Q E D cA M.2.2.1 (pc + 3, lo, v :: st, h, k, z)) : ri_Ab p l e R s m args below meth c Q E D cA M.2.2.1 (pc, lo, .retAddr 5 :: st, h, k, z) := by
  obtain ⟨hx, hb, -, hown, hts, hK, ⟨-, -, ⟨t5, t6, g1, g2, g3, g4, g5, g6, g7⟩, -⟩, -⟩ := X
  intro H ls locs hl hR hS
  have kk : W p l e R s m args below meth c H locs k z Q (F0 m (pc + 3) ls (ri_cv E v :: st.map (ri_cv E))) := kk H ls locs hl hR hS
  have e5 : ri_cv E (.retAddr 5) = .ref t5 := by show va_rf (E.2.1 5) = _; rw [g1]; rfl
  show W p l e R s m args below meth c H locs k z Q (F0 m pc ls (ri_cv E (.retAddr 5) :: st.map (ri_cv E)))
  rw [e5]
  rcases hw with ⟨-, rfl, hj⟩ | ⟨-, rfl, hj⟩
  · exact vk_getf hx hb g5 hS hown (ri_wd hts hj rfl) (fun _ h => h) hd kk
  · have e6 : ri_cv E (.retAddr 6) = .ref t6 := by show va_rf (E.2.1 6) = _; rw [g2]; rfl
    rw [e6] at kk
    exact vk_getf hx hb g6 hS hown (ri_wd hts hj rfl) (fun _ h => h) hd kk
theorem ri_fit_ok {q : Nat} {v : Value} {ty : FieldType} (hf : ri_fit q v = true) (ht : (q = 0 ∧ ty = .int) ∨ (q = 1 ∧ ty = .boolean) ∨ (q = 2 ∧ ty = .long) ∨ (q = 3 ∧ ((∃ n, ty = .object n) ∨ ∃ t, ty = .array t))) : narrow ty (ri_cv E v) = ri_cv E v ∧ fits ty (ri_cv E v) = true := by
  rcases ht with ⟨rfl, rfl⟩ | ⟨rfl, rfl⟩ | ⟨rfl, rfl⟩ | ⟨rfl, ⟨n, rfl⟩ | ⟨t, rfl⟩⟩
  · cases v <;> first | (simp [ri_fit] at hf; done) | exact ⟨rfl, rfl⟩
  · cases v with
    | int x =>
      simp only [ri_fit, Bool.or_eq_true, decide_eq_true_eq] at hf
      rcases hf with rfl | rfl
      · exact ⟨rfl, rfl⟩
      · exact ⟨rfl, rfl⟩
    | _ => simp [ri_fit] at hf
  · cases v <;> first | (simp [ri_fit] at hf; done) | exact ⟨rfl, rfl⟩
  · cases v <;> first | (simp [ri_fit] at hf; done) | exact ⟨rfl, rfl⟩
  · cases v <;> first | (simp [ri_fit] at hf; done) | exact ⟨rfl, rfl⟩
theorem ri_updV {fs : List Value} {i : Nat} (hi : i < fs.length) (v : Value) (n : Nat) : updV (fun j => ri_cv E (fs.getD j .null)) i (ri_cv E v) n = ri_cv E ((fs.set i v).getD n .null) := by
  unfold updV
  by_cases hn : n = i
  · subst hn
    simp [hi]
  · rw [if_neg hn]
    show ri_cv E (fs.getD n .null) = _
    rw [List.getD_eq_getElem?_getD, List.getD_eq_getElem?_getD, List.getElem?_set_ne (Ne.symm hn)]
theorem ri_r_putf (X : ri_Cx p s m args meth c E D cA M) {i r0 idx j qt : Nat} {q : ri_C} {v : Value} {rr : vw_C} {ty : FieldType} (hq : h[r0]? = some q) (h13 : q.1 < 13) (hil : i < q.2.length) (hr : vwCl[q.1]? = some rr) (hi : i < rr.2.2) (hlink : lw_tbl[j]? = some (.fieldLink M.2.2.2.2.1 idx (rr.2.1 i).1 (rr.2.1 i).2.1 (rr.2.1 i).2.2.1))
    (hpd : parseFieldDescriptor (rr.2.1 i).2.2.1 = some ty) (hqt : (qt = 0 ∧ ty = .int) ∨ (qt = 1 ∧ ty = .boolean) ∨ (qt = 2 ∧ ty = .long) ∨ (qt = 3 ∧ ((∃ n, ty = .object n) ∨ ∃ t, ty = .array t))) (hfit : ri_fit qt v = true) (hfin : (rr.2.1 i).2.2.2 = false ∨ ((rr.2.1 i).2.2.2 = true ∧ M.1.name = "<init>" ∧ (rr.2.1 i).1 = M.2.2.2.2.1)) (hd : decode M.2.1 pc = .ok (.putfield idx, 3))
    (kk : ri_Ab p l e R s m args below meth c Q E D cA M.2.2.1 (pc + 3, lo, st, h.set r0 (q.1, q.2.set i v), k, z)) : ri_Ab p l e R s m args below meth c Q E D cA M.2.2.1 (pc, lo, v :: .ref r0 :: st, h, k, z) := by
  obtain ⟨hx, hb, -, hown, hts, hK, -, hnm, hE⟩ := X
  intro H ls locs hl hR hS0
  obtain ⟨ty0, fs, -, -, hin, hty, -, hna⟩ := ri_cls hr
  have hts := ri_fl hts
  have hlink : (Cond.fieldLink M.2.2.2.2.1 idx (rr.2.1 i).1 (rr.2.1 i).2.1 (rr.2.1 i).2.2.1).before args s = true := hts _ (List.mem_filter.mpr ⟨List.mem_of_getElem? hlink, rfl⟩)
  have hap := va_apart (own := M.2.2.2.2.1) hts hin ty0 hty hna hK hr
  obtain ⟨r1, h1, cell, q1, q2, q3, q4⟩ := (hR.2 r0 q hq).1 h13
  cases h1.symm.trans hr
  obtain ⟨hS, hfc, kC, hkC, hkind⟩ := hK.1 q.1 _ hr
  obtain ⟨cf, kf, fi, f, hfi, hsl⟩ := hS i hi
  have hlay := hts _ (hin _ (u_in_lay hi))
  unfold u_lay at hlay
  have hst := (u_facts hfc hkC (u_lays hts hin hi) hfi).1
  obtain ⟨hn, hf⟩ := ri_fit_ok (E := E) hfit hqt
  have fin : ∀ H' : Heap, H'[E.1 + r0]? = some (cell.setSlot f.slot (ri_cv E v)) → H'.size = H.size → (∀ a, a ≠ E.1 + r0 → H'[a]? = H[a]?) → W p l e R s m args below meth c H' (locs ++ [⟨E.1 + r0, f.slot⟩]) k z Q (F0 m (pc + 3) ls (st.map (ri_cv E))) := by
    intro H' e1 e2 e3
    rw [hsl] at e1
    refine kk H' ls _ hl (hR.set e2 e3 ⟨fun _ => ⟨rr, hr, ?_⟩, fun h _ => absurd h13 (Nat.not_lt.mpr h)⟩) (hS0.put e2 e3 (by show E.1 ≤ E.1 + r0; omega))
    exact t_OB.to (V := updV (fun j => ri_cv E (q.2.getD j .null)) i (ri_cv E v)) ⟨_, e1, q2, q3, t_set q4 hap hi (ri_cv E v)⟩ (fun n _ => ri_updV hil v n)
  rcases hfin with hfin | ⟨hfin, hin2, hdecl⟩
  · rw [if_neg (by rw [hfin]; decide)] at hlay
    have h6 := u_store hfc hkC hkind hlay hfi hpd hn hf
    exact W.putK hx hb (f := f) ⟨hown, hlink, ⟨_, _, _, hfi⟩, hst⟩ (by rw [q2]; exact h6) q1 q3 (by rw [hsl]; exact k2_hasslot (q4 i hi)) rfl rfl hd fin
  · rw [if_pos hfin] at hlay
    have hcf : m.cls = cf := by
      obtain ⟨_, _, c', _, _, _, -, -, hf', -, -, -, hown2, -⟩ := Cond.laysFinal_spec hlay
      have e1 : c' = cf := by have := hfi.symm.trans hf'; simp at this; exact this.1.symm
      rw [hdecl] at hown2
      rw [← e1]; exact Option.some.inj (hown.symm.trans hown2)
    have h6 := u_fits hfc hkC hkind (Or.inr hlay) hfi hpd hn hf
    exact W.putFinK hx hb hown hlink hfi hst hcf (hnm.trans hin2) (by rw [q2]; exact h6) q1 q3 (by rw [hsl]; exact k2_hasslot (q4 i hi)) rfl rfl hd fin
end RIB
