section RIC
variable {p : Program} {l : Launch} {e : Env} {R : Room} {s : State} {m : MethodId} {args : Array Value} {below : List Frame} {meth : Method} {c : Code} {Q : State → Prop} {E : ri_V} {D : va_G} {cA : Nat → ClassId} {M : ri_M} {pc k z nL : Nat} {lo : List (Nat × Value)} {st r : List Value} {h : ri_H} {f' : ri_F}
/-- the element types of the kinds of arrays -/
def ri_ty (t : Nat) : FieldType := match t with
  | 13 => .int
  | 14 => .byte
  | 15 => .long
  | 16 => .boolean
  | 17 => .object RX6
  | _ => .object RX3
theorem ri_arr (hK : va_K D vwCl (ri_tys cA) s) {t : Nat} (h1 : 13 ≤ t) (h2 : t ≤ 18) : ArrOfT s (cA t) (ri_ty t) ∧ va_RA s (cA t) (ri_ty t) := by
  rcases (show t = 13 ∨ t = 14 ∨ t = 15 ∨ t = 16 ∨ t = 17 ∨ t = 18 by omega) with rfl | rfl | rfl | rfl | rfl | rfl
  · exact hK.2 0 _ rfl
  · exact hK.2 1 _ rfl
  · exact hK.2 2 _ rfl
  · exact hK.2 3 _ rfl
  · exact hK.2 4 _ rfl
  · exact hK.2 5 _ rfl
theorem ri_nn {i : Int32} {n : Nat} (h0 : ¬ i < 0) (h1 : i.toNatClampNeg < n) (cI : ClassId) (f : Nat → Value) : ¬ (i < 0 ∨ (arrV cI n f).slots.size ≤ i.toNatClampNeg) := by
  rw [arrV_size]
  rintro (q | q)
  · exact h0 q
  · omega
theorem ri_elt {q : List Value} {n : Nat} {v : Value} (hv : q[n]? = some v) : ri_cv E v = ri_cv E (q.getD n .null) := by
  rw [List.getD_eq_getElem?_getD, hv]; rfl
theorem ri_ald_inv {g : Nat → Bool} {x : Nat} {a : Value} {i : Int32} {v : Value} (hs : ri_ald g x a i h = some v) :
    (∃ r0 q, a = .ref r0 ∧ h[r0]? = some q ∧ g q.1 = true ∧ ¬ i < 0 ∧ q.2[i.toNatClampNeg]? = some v) ∨ (∃ n y, a = .retAddr n ∧ ((x = 1 ∧ 1 ≤ n ∧ n ≤ 4) ∨ (x = 2 ∧ n = 6)) ∧ ¬ i < 0 ∧ (ri_xl n)[i.toNatClampNeg]? = some y ∧ v = .int y) := by
  unfold ri_ald at hs
  split at hs
  · next r0 =>
    split at hs
    · next q hq =>
      cases hg : (g q.1 && !decide (i < 0)) with
      | false => rw [hg] at hs; cases hs
      | true =>
        rw [hg] at hs
        simp only [Bool.and_eq_true, Bool.not_eq_true', decide_eq_false_iff_not] at hg
        exact Or.inl ⟨r0, q, rfl, hq, hg.1, hg.2, hs⟩
    · cases hs
  · next n =>
    cases hg : (Nat.beq x 1 && (Nat.ble 1 n && Nat.ble n 4) || (Nat.beq x 2 && Nat.beq n 6)) with
    | false => rw [hg] at hs; cases hs
    | true =>
      rw [hg] at hs
      cases hd : (!decide (i < 0)) with
      | false => rw [hd] at hs; cases hs
      | true =>
        rw [hd] at hs
        simp only [Bool.or_eq_true, Bool.and_eq_true, Nat.beq_eq, Nat.ble_eq] at hg
        simp only [Bool.not_eq_true', decide_eq_false_iff_not] at hd
        obtain ⟨y, hy, rfl⟩ := Option.map_eq_some_iff.mp (show ((ri_xl n)[i.toNatClampNeg]?).map Value.int = some v from hs)
        exact Or.inr ⟨n, y, rfl, by simpa using hg, hd, hy, rfl⟩
  · cases hs
theorem ri_ast_inv {g : Nat → Bool} {a : Value} {i : Int32} {v : Value} {h' : ri_H} (hs : ri_ast g a i v h = some h') :
    ∃ r0 q, a = .ref r0 ∧ h[r0]? = some q ∧ g q.1 = true ∧ ¬ i < 0 ∧ i.toNatClampNeg < q.2.length ∧ h' = h.set r0 (q.1, q.2.set i.toNatClampNeg v) := by
  unfold ri_ast at hs
  split at hs
  · next r0 =>
    split at hs
    · next q hq =>
      cases hg : (g q.1 && (!decide (i < 0) && Nat.blt i.toNatClampNeg q.2.length)) with
      | false => rw [hg] at hs; cases hs
      | true =>
        rw [hg] at hs
        simp only [Bool.and_eq_true, Bool.not_eq_true', decide_eq_false_iff_not, Nat.blt_eq] at hg
        exact ⟨r0, q, rfl, hq, hg.1, hg.2.1, hg.2.2, (Option.some.inj hs).symm⟩
    · cases hs
  · cases hs
/-- a read of an array of one's own -/
theorem ri_r_ald1 (X : ri_Cx p s m args meth c E D cA M) {r0 : Nat} {q : ri_C} {i : Int32} {v : Value} (hq : h[r0]? = some q) (hi : ¬ i < 0) (hv : q.2[i.toNatClampNeg]? = some v)
    (hd : (q.1 = 13 ∧ decode M.2.1 pc = .ok (.iaload, 1)) ∨ (q.1 = 14 ∧ decode M.2.1 pc = .ok (.baload, 1)) ∨ (q.1 = 16 ∧ decode M.2.1 pc = .ok (.baload, 1)) ∨ (q.1 = 15 ∧ decode M.2.1 pc = .ok (.laload, 1)) ∨ ((q.1 = 17 ∨ q.1 = 18) ∧ decode M.2.1 pc = .ok (.aaload, 1)))
    (kk : ri_Ab p l e R s m args below meth c Q E D cA M.2.2.1 (pc + 1, lo, v :: st, h, k, z)) : ri_Ab p l e R s m args below meth c Q E D cA M.2.2.1 (pc, lo, .int i :: .ref r0 :: st, h, k, z) := by
  obtain ⟨hx, hb, -, hown, hts, hK, -⟩ := X
  intro H ls locs hl hR hS
  have kk : W p l e R s m args below meth c H locs k z Q (F0 m (pc + 1) ls (ri_cv E v :: st.map (ri_cv E))) := kk H ls locs hl hR hS
  rw [ri_elt hv] at kk
  have hlt : i.toNatClampNeg < q.2.length := (List.getElem?_eq_some_iff.mp hv).1
  have hc : 13 ≤ q.1 → q.1 ≤ 18 → H[E.1 + r0]? = some (arrV (cA q.1) q.2.length (fun j => ri_cv E (q.2.getD j .null))) := (hR.2 r0 q hq).2
  obtain ⟨t, xs⟩ := q
  dsimp only at hc hd hlt kk
  rcases hd with ⟨rfl, hd⟩ | ⟨rfl, hd⟩ | ⟨rfl, hd⟩ | ⟨rfl, hd⟩ | ⟨rfl | rfl, hd⟩
  · exact W.iald hx hb (hc (by omega) (by omega)) ((ri_arr hK (t := 13) (by omega) (by omega)).1 _ _) (fun h => by cases h) (ri_nn hi hlt _ _) (arrV_read _ _ hlt) rfl rfl hd kk
  · exact W.bald hx hb (hc (by omega) (by omega)) ((ri_arr hK (t := 14) (by omega) (by omega)).1 _ _) (fun h => by cases h) (ri_nn hi hlt _ _) (arrV_read _ _ hlt) rfl rfl hd kk
  · exact W.zald hx hb (hc (by omega) (by omega)) ((ri_arr hK (t := 16) (by omega) (by omega)).1 _ _) (fun h => by cases h) (ri_nn hi hlt _ _) (arrV_read _ _ hlt) rfl rfl hd kk
  · exact W.lald hx hb (hc (by omega) (by omega)) ((ri_arr hK (t := 15) (by omega) (by omega)).1 _ _) (fun h => by cases h) (ri_nn hi hlt _ _) (arrV_read _ _ hlt) rfl rfl hd kk
  · exact W.aald (ty := .object RX6) hx hb (hc (by omega) (by omega)) ((ri_arr hK (t := 17) (by omega) (by omega)).1 _ _) rfl (fun h => by cases h) (ri_nn hi hlt _ _) (arrV_read _ _ hlt) rfl rfl hd kk
  · exact W.aald (ty := .object RX3) hx hb (hc (by omega) (by omega)) ((ri_arr hK (t := 18) (by omega) (by omega)).1 _ _) rfl (fun h => by cases h) (ri_nn hi hlt _ _) (arrV_read _ _ hlt) rfl rfl hd kk
/-- a read of a table -/
theorem ri_r_ald2 (X : ri_Cx p s m args meth c E D cA M) {n : Nat} {i : Int32} {y : Int32} (hi : ¬ i < 0) (hv : (ri_xl n)[i.toNatClampNeg]? = some y)
    (hd : (1 ≤ n ∧ n ≤ 4 ∧ decode M.2.1 pc = .ok (.iaload, 1)) ∨ (n = 6 ∧ decode M.2.1 pc = .ok (.baload, 1)))
    (kk : ri_Ab p l e R s m args below meth c Q E D cA M.2.2.1 (pc + 1, lo, .int y :: st, h, k, z)) : ri_Ab p l e R s m args below meth c Q E D cA M.2.2.1 (pc, lo, .int i :: .retAddr n :: st, h, k, z) := by
  obtain ⟨hx, hb, -, hown, hts, hK, ⟨x1, -, ⟨t5, t6, g1, g2, g3, g4, g5, g6, g7⟩, -⟩, -⟩ := X
  intro H ls locs hl hR hS
  have kk : W p l e R s m args below meth c H locs k z Q (F0 m (pc + 1) ls (.int y :: st.map (ri_cv E))) := kk H ls locs hl hR hS
  have hlt : i.toNatClampNeg < (ri_xl n).length := (List.getElem?_eq_some_iff.mp hv).1
  have ey : (ri_xl n).getD i.toNatClampNeg 0 = y := by rw [List.getD_eq_getElem?_getD, hv]; rfl
  show W p l e R s m args below meth c H locs k z Q (F0 m pc ls (.int i :: va_rf (E.2.1 n) :: st.map (ri_cv E)))
  rcases hd with ⟨h1, h4, hd⟩ | ⟨rfl, hd⟩
  · obtain ⟨t, e1, -, cell, c1, c2, c3, c4, c5, c6, c7⟩ := x1 n h1 h4
    rw [e1]
    refine W.iald hx hb (cell := cell) (by rw [hS.2.1 t (Array.getElem?_eq_some_iff.mp c1).1 c7]; exact c1) c2 c3 ?_ (c5 _ hlt) rfl rfl hd (by rw [ey]; exact kk)
    rintro (q | q)
    · exact hi q
    · omega
  · rw [g2]
    exact va_tb hx hb g7 hS (i := i) (by rintro (q | q); exact hi q; exact absurd hlt (Nat.not_lt.mpr q)) (v := .int y) (by rw [ey]) hd kk
theorem ri_r_alen (X : ri_Cx p s m args meth c E D cA M) {a : Value} {n : Int32} (ha : ri_alen a h = some n) (hd : decode M.2.1 pc = .ok (.arraylength, 1))
    (kk : ri_Ab p l e R s m args below meth c Q E D cA M.2.2.1 (pc + 1, lo, .int n :: st, h, k, z)) : ri_Ab p l e R s m args below meth c Q E D cA M.2.2.1 (pc, lo, a :: st, h, k, z) := by
  obtain ⟨hx, hb, -, hown, hts, hK, ⟨x1, -, ⟨t5, t6, g1, g2, g3, g4, g5, g6, g7⟩, -⟩, -⟩ := X
  intro H ls locs hl hR hS
  have kk : W p l e R s m args below meth c H locs k z Q (F0 m (pc + 1) ls (.int n :: st.map (ri_cv E))) := kk H ls locs hl hR hS
  unfold ri_alen at ha
  split at ha
  · next r0 =>
    split at ha
    · next q hq =>
      cases hg : (Nat.ble 13 q.1 && Nat.ble q.1 18) with
      | false => rw [hg] at ha; cases ha
      | true =>
        rw [hg] at ha
        have ha := Option.some.inj ha
        simp only [Bool.and_eq_true, Nat.ble_eq] at hg
        exact W.alen hx hb ((hR.2 r0 q hq).2 hg.1 hg.2) ((ri_arr hK hg.1 hg.2).1 _ _) (by rw [arrV_size]; exact ha) rfl rfl hd kk
    · cases ha
  · next n0 =>
    cases hg : (Nat.ble 1 n0 && Nat.ble n0 4 || Nat.beq n0 6) with
    | false => rw [hg] at ha; cases ha
    | true =>
      rw [hg] at ha
      have ha := Option.some.inj ha
      simp only [Bool.or_eq_true, Bool.and_eq_true, Nat.ble_eq, Nat.beq_eq] at hg
      show W p l e R s m args below meth c H locs k z Q (F0 m pc ls (va_rf (E.2.1 n0) :: st.map (ri_cv E)))
      rcases hg with ⟨h1, h4⟩ | rfl
      · obtain ⟨t, e1, -, cell, c1, c2, c3, c4, c5, c6, c7⟩ := x1 n0 h1 h4
        rw [e1]
        exact W.alen hx hb (cell := cell) (by rw [hS.2.1 t (Array.getElem?_eq_some_iff.mp c1).1 c7]; exact c1) c2 (by rw [c4]; exact ha) rfl rfl hd kk
      · rw [g2]
        exact va_tlen hx hb g7 hS (v := n) ha hd kk
  · cases ha
/-- stores -/
theorem ri_st_cell {r0 t : Nat} {xs : List Value} {H1 : Heap} {n : Nat} {v : Value} (ht : 13 ≤ t) (hn : n < xs.length) (e1 : H1[E.1 + r0]? = some ((arrV (cA t) xs.length (fun j => ri_cv E (xs.getD j .null))).setSlot n (ri_cv E v))) : ri_cell E D cA r0 (t, xs.set n v) H1 := by
  refine ⟨fun h => absurd h (Nat.not_lt.mpr ht), fun _ _ => ?_⟩
  show H1[E.1 + r0]? = some (arrV (cA t) (xs.set n v).length (fun j => ri_cv E ((xs.set n v).getD j .null)))
  rw [e1, arrV_store, List.length_set]
  congr 2
  funext j
  exact ri_updV hn v j
theorem ri_r_ast1 (X : ri_Cx p s m args meth c E D cA M) {r0 : Nat} {q : ri_C} {i : Int32} {v w : Value} (hq : h[r0]? = some q) (hi : ¬ i < 0) (hlt : i.toNatClampNeg < q.2.length)
    (hd : (q.1 = 13 ∧ w = v ∧ ri_isI v = true ∧ decode M.2.1 pc = .ok (.iastore, 1)) ∨ (q.1 = 14 ∧ ri_isI v = true ∧ ri_cv E w = narrow .byte (ri_cv E v) ∧ decode M.2.1 pc = .ok (.bastore, 1)) ∨ (q.1 = 16 ∧ ri_isI v = true ∧ ri_cv E w = narrow .boolean (ri_cv E v) ∧ decode M.2.1 pc = .ok (.bastore, 1)) ∨ (q.1 = 15 ∧ w = v ∧ ri_isL v = true ∧ decode M.2.1 pc = .ok (.lastore, 1)))
    (kk : ri_Ab p l e R s m args below meth c Q E D cA M.2.2.1 (pc + 1, lo, st, h.set r0 (q.1, q.2.set i.toNatClampNeg w), k, z)) : ri_Ab p l e R s m args below meth c Q E D cA M.2.2.1 (pc, lo, v :: .int i :: .ref r0 :: st, h, k, z) := by
  obtain ⟨hx, hb, -, hown, hts, hK, -⟩ := X
  intro H ls locs hl hR hS
  have hc : 13 ≤ q.1 → q.1 ≤ 18 → H[E.1 + r0]? = some (arrV (cA q.1) q.2.length (fun j => ri_cv E (q.2.getD j .null))) := (hR.2 r0 q hq).2
  have fin : 13 ≤ q.1 → ∀ H' : Heap, H'[E.1 + r0]? = some ((arrV (cA q.1) q.2.length (fun j => ri_cv E (q.2.getD j .null))).setSlot i.toNatClampNeg (ri_cv E w)) → H'.size = H.size → (∀ a, a ≠ E.1 + r0 → H'[a]? = H[a]?) → W p l e R s m args below meth c H' (locs ++ [⟨E.1 + r0, i.toNatClampNeg⟩]) k z Q (F0 m (pc + 1) ls (st.map (ri_cv E))) :=
    fun ht H' e1 e2 e3 => kk H' ls _ hl (hR.set e2 e3 (ri_st_cell ht hlt e1)) (hS.put e2 e3 (by show E.1 ≤ E.1 + r0; omega))
  obtain ⟨t, xs⟩ := q
  dsimp only at hc hd hlt fin
  show W p l e R s m args below meth c H locs k z Q (F0 m pc ls (ri_cv E v :: .int i :: .ref (E.1 + r0) :: st.map (ri_cv E)))
  rcases hd with ⟨rfl, rfl, hv, hd⟩ | ⟨rfl, hv, hw, hd⟩ | ⟨rfl, hv, hw, hd⟩ | ⟨rfl, rfl, hv, hd⟩
  · rw [ri_isI_cv hv] at fin ⊢
    exact W.iast hx hb (hc (by omega) (by omega)) ((ri_arr hK (t := 13) (by omega) (by omega)).1 _ _) (fun h => by cases h) (ri_nn hi hlt _ _) rfl rfl hd (fin (by omega))
  · rw [hw, ri_isI_cv hv] at fin
    rw [ri_isI_cv hv]
    exact W.bast hx hb (hc (by omega) (by omega)) ((ri_arr hK (t := 14) (by omega) (by omega)).1 _ _) (fun h => by cases h) (ri_nn hi hlt _ _) rfl rfl hd (fin (by omega))
  · rw [hw, ri_isI_cv hv] at fin
    rw [ri_isI_cv hv]
    exact W.zast hx hb (hc (by omega) (by omega)) ((ri_arr hK (t := 16) (by omega) (by omega)).1 _ _) (fun h => by cases h) (ri_nn hi hlt _ _) rfl rfl hd (fin (by omega))
  · obtain ⟨x, -, hx2⟩ := ri_isL_cv (E := E) hv
    rw [hx2] at fin ⊢
    exact W.last hx hb (hc (by omega) (by omega)) ((ri_arr hK (t := 15) (by omega) (by omega)).1 _ _) (fun h => by cases h) (ri_nn hi hlt _ _) rfl rfl hd (fin (by omega))
theorem ri_r_aast (X : ri_Cx p s m args meth c E D cA M) {r0 w : Nat} {q qw : ri_C} {i : Int32} (hq : h[r0]? = some q) (hw : h[w]? = some qw) (hi : ¬ i < 0) (hlt : i.toNatClampNeg < q.2.length) (hk : (qw.1 = 6 ∧ q.1 = 17) ∨ (qw.1 = 3 ∧ q.1 = 18)) (hd : decode M.2.1 pc = .ok (.aastore, 1))
    (kk : ri_Ab p l e R s m args below meth c Q E D cA M.2.2.1 (pc + 1, lo, st, h.set r0 (q.1, q.2.set i.toNatClampNeg (.ref w)), k, z)) : ri_Ab p l e R s m args below meth c Q E D cA M.2.2.1 (pc, lo, .ref w :: .int i :: .ref r0 :: st, h, k, z) := by
  obtain ⟨hx, hb, -, hown, hts, hK, -⟩ := X
  intro H ls locs hl hR hS
  have ht : 13 ≤ q.1 := by omega
  have hc := (hR.2 r0 q hq).2 ht (by omega)
  obtain ⟨r', hr', cellV, g1, g2, g3, -⟩ := (hR.2 w qw hw).1 (by omega)
  have hcls := (hK.1 qw.1 r' hr').2
  have hRA : va_RA s (cA q.1) (.object r'.1) := by
    rcases hk with ⟨e1, e2⟩ | ⟨e1, e2⟩
    · rw [e1] at hr'; cases hr'
      rw [e2]; exact (ri_arr hK (t := 17) (by omega) (by omega)).2
    · rw [e1] at hr'; cases hr'
      rw [e2]; exact (ri_arr hK (t := 18) (by omega) (by omega)).2
  obtain ⟨kA, comp, k1, k2, k3, -⟩ := hRA
  have hcomp : comp = D.1 qw.1 := Option.some.inj (k3.symm.trans hcls.1)
  subst hcomp
  obtain ⟨kC, hkC, -⟩ := hcls.2
  exact W.aast hx hb hc (fun q h => by cases h) (fun h => by cases h) k1 k2 rfl hkC ⟨hi, by rw [arrV_size]; exact hlt⟩ g1 (fun q h => by rw [g3] at h; cases h) (by rw [g2]; exact hkC) (by rw [g2]; exact va_assign hcls) rfl rfl hd
    (fun H' e1 e2 e3 => kk H' ls _ hl (hR.set e2 e3 (ri_st_cell (v := .ref w) ht hlt e1)) (hS.put e2 e3 (by show E.1 ≤ E.1 + r0; omega)))
end RIC
