/-! what holds between two calls holds of the fresh objects -/
def in_s (w : Nat × Int × Int) (v : Value) : Bool := match w.1, v with
  | 0, .int x => sx_ble w.2.1 x.toInt && sx_ble x.toInt w.2.2
  | 1, .long _ => true
  | 2, .ref k => Nat.beq k w.2.1.toNat
  | 3, .null => true
  | _, _ => false
theorem in_s_ok {w : Nat × Int × Int} {v : Value} (h : in_s w v = true) : sx_slot w v := by
  unfold in_s at h
  unfold sx_slot
  split at h
  · next x e =>
    simp only [Bool.and_eq_true, sx_ble_iff] at h
    rw [e]
    exact ⟨_, rfl, h.1, h.2⟩
  · next x e => rw [e]; exact ⟨_, rfl⟩
  · next k e => rw [e]; exact congrArg Value.ref (Nat.eq_of_beq_eq_true h)
  · next e => rw [e]; exact rfl
  · cases h
def in_r : sx_R → List Value → Bool
  | [], vs => vs.isEmpty
  | q :: t, vs => Nat.ble q.1 vs.length && ((vs.take q.1).all (in_s q.2) && in_r t (vs.drop q.1))
theorem in_r_ok : ∀ {R : sx_R} {vs : List Value}, in_r R vs = true → vs.length = sx_len R ∧ ∀ (i : Nat) (w : Nat × Int × Int), sx_run R i = some w → ∃ v, vs[i]? = some v ∧ sx_slot w v
  | [], vs, h => by
    have h : vs.isEmpty = true := h
    rw [List.isEmpty_iff.mp h]
    exact ⟨rfl, fun i w hw => by cases hw⟩
  | q :: t, vs, h => by
    unfold in_r at h
    simp only [Bool.and_eq_true, Nat.ble_eq] at h
    obtain ⟨h1, h2, h3⟩ := h
    obtain ⟨g1, g2⟩ := in_r_ok h3
    rw [List.length_drop] at g1
    refine ⟨by show vs.length = q.1 + sx_len t; omega, fun i w hw => ?_⟩
    unfold sx_run at hw
    cases e : Nat.blt i q.1 with
    | true =>
      rw [e] at hw
      have hw := Option.some.inj hw
      subst hw
      have hi := Nat.blt_eq.mp e
      have hl : i < vs.length := by omega
      refine ⟨vs[i], List.getElem?_eq_getElem hl, in_s_ok (List.all_eq_true.mp h2 _ ?_)⟩
      refine List.mem_of_getElem? (i := i) ?_
      rw [List.getElem?_take, if_pos hi]
      exact List.getElem?_eq_getElem hl
    | false =>
      rw [e] at hw
      have hi := sx_blt_no e
      obtain ⟨v, v1, v2⟩ := g2 (i - q.1) w hw
      rw [List.getElem?_drop, show q.1 + (i - q.1) = i by omega] at v1
      exact ⟨v, v1, v2⟩
def in_g : sx_G → ri_H → Bool
  | [], _ => true
  | c :: G, q :: h => Nat.beq q.1 c.1 && (in_r c.2 q.2 && in_g G h)
  | _ :: _, [] => false
theorem in_g_ok : ∀ {G : sx_G} {h : ri_H}, in_g G h = true → sx_Inv G h
  | [], _, _ => fun k c hc => by simp at hc
  | c :: G, q :: h, e => by
    unfold in_g at e
    simp only [Bool.and_eq_true] at e
    obtain ⟨e1, e2, e3⟩ := e
    have e1 := Nat.eq_of_beq_eq_true e1
    intro k c' hc
    cases k with
    | zero =>
      rw [List.getElem?_cons_zero] at hc
      cases hc
      obtain ⟨g1, g2⟩ := in_r_ok e2
      refine ⟨q.2, ?_, g1, g2⟩
      rw [List.getElem?_cons_zero, ← e1]
    | succ k =>
      rw [List.getElem?_cons_succ] at hc ⊢
      exact in_g_ok e3 k c' hc
  | _ :: _, [], e => by cases e
/-- a guard on a heap where it counts one at most -/
def in_j (h : ri_H) (g : sx_T) : Bool := match sx_cnt h g.1 with
  | some c => sx_ble c 0 || (sx_ble c 1 && (match sx_at h g.2.1.1 g.2.1.2.1 with
    | some (.int x) => !(sx_ble g.2.1.2.2.1 x.toInt && sx_ble x.toInt g.2.1.2.2.2) || (match sx_at h g.2.2.1 g.2.2.2.1 with
      | some (.int y) => sx_ble g.2.2.2.2.1 y.toInt && sx_ble y.toInt g.2.2.2.2.2
      | _ => true)
    | _ => true))
  | none => true
theorem in_j_ok {h : ri_H} {g : sx_T} (e : in_j h g = true) : sx_gh g h := by
  intro c i x y hc h0 hi hx x1 x2 hy
  unfold in_j at e
  rw [hc] at e
  dsimp only at e
  rcases (Bool.or_eq_true _ _).mp e with e | e
  · have := sx_ble_iff.mp e
    omega
  · simp only [Bool.and_eq_true] at e
    have h1 := sx_ble_iff.mp e.1
    have hi0 : i = 0 := by omega
    subst hi0
    rw [Int.add_zero] at hx hy
    have e2 := e.2
    rw [hx] at e2
    dsimp only at e2
    rw [sx_ble_iff.mpr x1, sx_ble_iff.mpr x2] at e2
    rw [hy] at e2
    simp only [Bool.and_self, Bool.not_true, Bool.false_or, Bool.and_eq_true, sx_ble_iff] at e2
    exact e2
theorem in_jg {gd : List sx_T} {h : ri_H} (e : gd.all (in_j h) = true) (j : Nat) : sx_Jg gd j h := fun g hg => in_j_ok (List.all_eq_true.mp e g (List.mem_of_getElem? hg))
/-- the reference's cells and the law's own, in a world of their own -/
def hm_fr : ri_H := h_n1 ++ [(15, [.long 0])]
set_option maxRecDepth 100000 in
theorem ls_cut0 : ri_eqH (h_fr.drop 209) (hm_fr.map (ri_shC 209)) = true := by decide +kernel
set_option maxRecDepth 100000 in
theorem ls_cutn : (h_fr.take 209).length = 209 := by decide +kernel
theorem ls_cut : h_fr = h_fr.take 209 ++ hm_fr.map (ri_shC 209) := by
  rw [← ri_eqH_ok _ _ ls_cut0, List.take_append_drop]
set_option maxRecDepth 100000 in
theorem in_c : in_g kc_G (h_fr.take 209) = true ∧ kc_gd.all (in_j (h_fr.take 209)) = true := by decide +kernel
set_option maxRecDepth 100000 in
theorem in_m : in_g km_G hm_fr = true ∧ km_gd.all (in_j hm_fr) = true := by decide +kernel
set_option maxRecDepth 100000 in
theorem in_p : mj_int hm_fr 2 174 = some 0 ∧ mj_int hm_fr 17 0 = some 0 ∧ mj_int hm_fr 17 1 = some 0 := by decide +kernel
theorem in_mj : ∀ j ∈ cs_jm, mj_J km_gd j hm_fr := by
  intro j hj
  unfold cs_jm at hj
  simp only [List.mem_cons, List.mem_nil_iff, or_false] at hj
  obtain ⟨p1, p2, p3⟩ := in_p
  rcases hj with rfl | rfl | rfl | rfl | rfl | rfl | rfl | rfl | rfl
  · exact in_jg in_m.2 0
  · exact in_jg in_m.2 1
  · exact in_jg in_m.2 4
  · exact in_jg in_m.2 5
  · exact in_jg in_m.2 6
  · exact in_jg in_m.2 7
  · exact (show mj_P hm_fr from ⟨0, p1, by decide, 0, rfl⟩)
  · exact (show mj_Kk 0 hm_fr from fun a ha h1 => by
      rw [p2] at ha
      cases ha
      omega)
  · exact (show mj_Kk 1 hm_fr from fun a ha h1 => by
      rw [p3] at ha
      cases ha
      omega)
theorem in_L {W : cs_W} (hw : ∀ w ∈ W, cg_Tw w (h_fr.take 209) hm_fr) (hq : cs_Q (h_fr.take 209) hm_fr) : cs_L W (h_fr.take 209) hm_fr :=
  ⟨ls_cutn, in_g_ok in_c.1, fun j _ => in_jg in_c.2 j, in_g_ok in_m.1, in_mj, hw, ⟨0, rfl⟩, hq⟩
