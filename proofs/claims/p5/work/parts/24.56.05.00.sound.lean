/-! The abstract machine's steps hold of the machine -/
def ri_stb (w : Cond) : Bool := goodWord w || (match w with
  | .fieldLinkNest .. => true
  | .methodLinkNest .. => true
  | .arrayOver (.object _) => true
  | .castable .. => true
  | _ => false)
theorem ri_stb_at {w : Cond} (h : ri_stb w = true) {args a' : Array Value} {s U : State} (hW : s.WarmedH U.vm) (hb : w.before args s = true) : w.before a' U = true := by
  unfold ri_stb at h
  rcases (Bool.or_eq_true _ _).mp h with h | h
  · exact word_at hW (good_of_word h) hb
  · cases w with
    | fieldLinkNest a i b n d h' => exact va_Nw.use rfl (va_Nw.warmF hW (va_Nw.of rfl hb))
    | methodLinkNest a i x h' => exact va_Nw.use rfl (va_Nw.warmM hW (va_Nw.of rfl hb))
    | arrayOver ty => cases ty with
      | object C => exact va_AO.use (va_AO.moved hW.alike (va_AO.of hb))
      | _ => simp at h
    | castable a b => exact va_Nw.use rfl (va_Nw.warmC hW (va_Nw.of rfl hb))
    | _ => simp at h
theorem ri_cat (E : ri_V) (v : Value) : (ri_cv E v).category = v.category := by
  cases v with
  | retAddr n => show (va_rf (E.2.1 n)).category = 1; cases E.2.1 n <;> rfl
  | _ => rfl
theorem ri_isI_cv {E : ri_V} {v : Value} (h : ri_isI v = true) : ri_cv E v = .int (ri_ic E v) := by
  cases v <;> first | rfl | (simp [ri_isI] at h)
theorem ri_isL_cv {E : ri_V} {v : Value} (h : ri_isL v = true) : ∃ x, v = .long x ∧ ri_cv E v = .long x := by
  cases v <;> first | exact ⟨_, rfl, rfl⟩ | (simp [ri_isL] at h)
theorem ri_isA_cv {E : ri_V} {v : Value} (h : ri_isA v = true) : ri_cv E v = .null ∨ ∃ a, ri_cv E v = .ref a := by
  cases v with
  | ref a => exact Or.inr ⟨_, rfl⟩
  | null => exact Or.inl rfl
  | retAddr n =>
    show va_rf (E.2.1 n) = .null ∨ ∃ a, va_rf (E.2.1 n) = .ref a
    cases E.2.1 n with
    | none => exact Or.inl rfl
    | some a => exact Or.inr ⟨a, rfl⟩
  | _ => simp [ri_isA] at h
theorem ri_lk_mem {lo : List (Nat × Value)} {i : Nat} {v : Value} (h : ri_lk lo i = some v) : (i, v) ∈ lo := by
  induction lo with
  | nil => simp [ri_lk] at h
  | cons q t ih =>
    unfold ri_lk at h
    cases hb : Nat.beq q.1 i with
    | true =>
      rw [hb] at h
      have h1 : q.1 = i := Nat.eq_of_beq_eq_true hb
      have h2 : q.2 = v := by simpa using h
      rw [← h1, ← h2]
      exact List.mem_cons_self
    | false =>
      rw [hb] at h
      exact List.mem_cons_of_mem _ (ih (by simpa using h))
def ri_mp (E : ri_V) (lo : List (Nat × Value)) : List (Nat × Value) := lo.map fun q => (q.1, ri_cv E q.2)
theorem ri_lk_at {E : ri_V} {lo : List (Nat × Value)} {i nL : Nat} {v : Value} {ls : Array Slot} (hl : lv_has ls nL (ri_mp E lo)) (h : ri_lk lo i = some v) : ls[i]? = some (.val (ri_cv E v)) :=
  hl.2.2 (i, ri_cv E v) (List.mem_map.mpr ⟨(i, v), ri_lk_mem h, rfl⟩)
theorem ri_lk_pl {E : ri_V} {lo : List (Nat × Value)} {i : Nat} {v : Value} (h : ri_lk lo i = some v) : ∃ k : Nat, (ri_mp E lo)[k]? = some (i, ri_cv E v) := by
  have hm : (i, ri_cv E v) ∈ ri_mp E lo := List.mem_map.mpr ⟨(i, v), ri_lk_mem h, rfl⟩
  exact List.getElem?_of_mem hm
theorem ri_mp_st1 (E : ri_V) (lo : List (Nat × Value)) (i : Nat) (v : Value) : (i, ri_cv E v) :: (ri_mp E lo).filter (fun q => !(q.1 == i) && !(q.1 + 1 == i && q.2.category == 2)) = ri_mp E (ri_st1 lo i v) := by
  unfold ri_mp ri_st1
  rw [List.map_cons, List.filter_map]
  congr 2
  apply List.filter_congr
  intro q _
  simp only [Function.comp_apply, ri_cat]
theorem ri_mp_as (E : ri_V) : ∀ (vs : List Value) (i : Nat), lv_args i (vs.map (ri_cv E)) = ri_mp E (ri_as i vs)
  | [], _ => rfl
  | v :: vs, i => by
    show (i, ri_cv E v) :: lv_args (if (ri_cv E v).category = 2 then i + 2 else i + 1) (vs.map (ri_cv E)) = (i, ri_cv E v) :: ri_mp E (ri_as (if v.category = 2 then i + 2 else i + 1) vs)
    rw [ri_cat, ri_mp_as E vs]
theorem ri_wt_cv (E : ri_V) (st : List Value) : ((st.map (ri_cv E)).map fun v => v.category).sum = ri_wt st := by
  unfold ri_wt
  rw [List.map_map]
  congr 1
  apply List.map_congr_left
  intro v _
  exact ri_cat E v
/-- what a cell is -/
def ri_cell (E : ri_V) (D : va_G) (cA : Nat → ClassId) (k : Nat) (c : ri_C) (H : Heap) : Prop :=
  (c.1 < 13 → ∃ r : vw_C, vwCl[c.1]? = some r ∧ t_OB (E.1 + k) (D.1 c.1) r.2.2 (D.2 c.1) H (fun j => ri_cv E (c.2.getD j .null))) ∧
  (13 ≤ c.1 → c.1 ≤ 18 → H[E.1 + k]? = some (arrV (cA c.1) c.2.length (fun j => ri_cv E (c.2.getD j .null))))
def ri_R (E : ri_V) (D : va_G) (cA : Nat → ClassId) (h : ri_H) (H : Heap) : Prop := H.size = E.1 + h.length ∧ ∀ (k : Nat) (c : ri_C), h[k]? = some c → ri_cell E D cA k c H
theorem ri_cell.kept {E : ri_V} {D : va_G} {cA : Nat → ClassId} {k : Nat} {c : ri_C} {H H1 : Heap} (h : ri_cell E D cA k c H) (hq : H1[E.1 + k]? = H[E.1 + k]?) : ri_cell E D cA k c H1 :=
  ⟨fun h13 => by obtain ⟨r, h1, h2⟩ := h.1 h13; exact ⟨r, h1, h2.kept hq⟩, fun h13 h18 => by rw [hq]; exact h.2 h13 h18⟩
theorem ri_R.set {E : ri_V} {D : va_G} {cA : Nat → ClassId} {h : ri_H} {H H1 : Heap} {k : Nat} {c : ri_C} (hR : ri_R E D cA h H) (hz : H1.size = H.size) (oq : ∀ q : Nat, q ≠ E.1 + k → H1[q]? = H[q]?) (hc : ri_cell E D cA k c H1) : ri_R E D cA (h.set k c) H1 := by
  refine ⟨by rw [hz, hR.1, List.length_set], fun j d hj => ?_⟩
  by_cases hjk : k = j
  · subst hjk
    by_cases hl : k < h.length
    · rw [List.getElem?_set_self hl] at hj
      cases hj
      exact hc
    · rw [List.getElem?_eq_none (by rw [List.length_set]; omega)] at hj
      cases hj
  · rw [List.getElem?_set_ne hjk] at hj
    exact (hR.2 j d hj).kept (oq _ (by omega))
theorem ri_R.push {E : ri_V} {D : va_G} {cA : Nat → ClassId} {h : ri_H} {H H1 : Heap} {c : ri_C} (hR : ri_R E D cA h H) (hz : H1.size = H.size + 1) (oq : ∀ q : Nat, q < H.size → H1[q]? = H[q]?) (hc : ri_cell E D cA h.length c H1) : ri_R E D cA (h ++ [c]) H1 := by
  refine ⟨by rw [hz, hR.1, List.length_append]; rfl, fun j d hj => ?_⟩
  by_cases hl : j < h.length
  · rw [List.getElem?_append_left hl] at hj
    exact (hR.2 j d hj).kept (oq _ (by rw [hR.1]; omega))
  · rw [List.getElem?_append_right (by omega)] at hj
    have hz1 : j - h.length < 1 := (List.getElem?_eq_some_iff.mp hj).1
    have e : j = h.length := by omega
    subst e
    rw [Nat.sub_self] at hj
    cases hj
    exact hc
theorem ri_S.push {E : ri_V} {H0 H H1 : Heap} {locs : List Loc} (hS : va_S (ri_A E) H0 H locs) (hz : H1.size = H.size + 1) (oq : ∀ q : Nat, q < H.size → H1[q]? = H[q]?) : va_S (ri_A E) H0 H1 locs :=
  ⟨by rw [hz]; exact Nat.le_succ_of_le hS.1, fun q h1 h2 => by rw [oq q (Nat.lt_of_lt_of_le h1 hS.1)]; exact hS.2.1 q h1 h2, hS.2.2⟩
