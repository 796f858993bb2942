section SXF
variable {G : sx_G} {J : Nat → ri_H → Prop} {dp : sx_D} {p p0 : List Int} {M : sx_M} {A : sx_A} {B : sx_B} {L : List (Nat × sx_A)} {lo : List (Nat × Value)} {st : List Value} {h : ri_H} {pc n : Nat}
theorem sx_cpy_at {f g : List Value} {s d m : Nat} (hf : s + m ≤ f.length) (hg : d + m ≤ g.length) (i : Nat) : (ri_cpy f g s d m)[i]? = if d ≤ i ∧ i < d + m then f[s + (i - d)]? else g[i]? := by
  unfold ri_cpy
  have l1 : (g.take d).length = d := by rw [List.length_take]; omega
  have l2 : ((f.drop s).take m).length = m := by rw [List.length_take, List.length_drop]; omega
  by_cases c1 : i < d
  · rw [if_neg (by omega), List.getElem?_append_left (by rw [List.length_append, l1]; omega), List.getElem?_append_left (by omega), List.getElem?_take_of_lt c1]
  · by_cases c2 : i < d + m
    · rw [if_pos ⟨by omega, c2⟩, List.getElem?_append_left (by rw [List.length_append, l1, l2]; omega), List.getElem?_append_right (by omega), l1, List.getElem?_take_of_lt (by omega), List.getElem?_drop]
    · rw [if_neg (by omega), List.getElem?_append_right (by rw [List.length_append, l1, l2]; omega), List.length_append, l1, l2, List.getElem?_drop]
      congr 1
      omega
theorem sx_cpy_len {f g : List Value} {s d m : Nat} (hf : s + m ≤ f.length) (hg : d + m ≤ g.length) : (ri_cpy f g s d m).length = g.length := by
  unfold ri_cpy
  simp only [List.length_append, List.length_take, List.length_drop]
  omega
/-- ov, copies, invariants behind a copy into the places a .. b of the cell k -/
def sx_wc (dp : sx_D) (B : sx_B) (k : Nat) (a b : Int) : sx_B := (B.1.filter (fun o => !Nat.beq o.1 k || (match sx_r B.2.1 o.2.1 with
    | some w => sx_ble (w.2 + 1) a || sx_ble (b + 1) w.1
    | none => false)), B.2.1, B.2.2.1, B.2.2.2.1.filter (fun c => !Nat.beq c.1 k && !Nat.beq c.2 k), B.2.2.2.2.filter (sx_jk dp k a b))
theorem sx_wc_ok (HJ : sx_HJ G J dp) (H : sx_E G J p B h) {k s d m : Nat} {c : Nat × sx_R} {fs vs : List Value} (hc : G[k]? = some c) (hk : h[k]? = some (c.1, vs)) (hl : vs.length = sx_len c.2) (hf : s + m ≤ fs.length) (hg : d + m ≤ vs.length) (hv : ∀ (j : Nat) (w : Nat × Int × Int), j < m → sx_run c.2 (d + j) = some w → ∃ v, fs[s + j]? = some v ∧ sx_slot w v) :
    sx_E G J p (sx_wc dp B k (d : Int) ((d : Int) + m - 1)) (h.set k (c.1, ri_cpy fs vs s d m)) ∧ ∀ (k' : Nat) (i : Int), ¬ (k' = k ∧ (d : Int) ≤ i ∧ i ≤ (d : Int) + m - 1) → sx_at (h.set k (c.1, ri_cpy fs vs s d m)) k' i = sx_at h k' i := by
  have hkl : k < h.length := (List.getElem?_eq_some_iff.mp hk).1
  have hfr : ∀ (k' : Nat) (i : Int), ¬ (k' = k ∧ (d : Int) ≤ i ∧ i ≤ (d : Int) + m - 1) → sx_at (h.set k (c.1, ri_cpy fs vs s d m)) k' i = sx_at h k' i := by
    intro k' i hne
    unfold sx_at
    by_cases e : k' = k
    · subst e
      rw [List.getElem?_set_self hkl, hk]
      dsimp only
      split
      · next j =>
        rw [sx_cpy_at hf hg, if_neg]
        rintro ⟨h1, h2⟩
        exact hne ⟨rfl, by show (d : Int) ≤ (j : Int); omega, by show (j : Int) ≤ (d : Int) + m - 1; omega⟩
      · rfl
    · rw [List.getElem?_set_ne (fun h => e h.symm)]
  have hI := H.2.2.2.2.2
  refine ⟨⟨fun o ho => ?_, H.2.1, H.2.2.1, fun cc hcc => ?_, fun jj hjj => ?_, fun k' c' hc' => ?_⟩, hfr⟩
  · obtain ⟨o1, o2⟩ := List.mem_filter.mp ho
    obtain ⟨i, x, h1, h2, h3⟩ := H.1 o o1
    refine ⟨i, x, h1, ?_, h3⟩
    rw [hfr o.1 i ?_]
    · exact h2
    · rintro ⟨e1, e2, e3⟩
      rcases (Bool.or_eq_true _ _).mp o2 with o2 | o2
      · exact sx_nbeq o2 e1
      · split at o2
        · next w hw =>
          have := sx_r_at H.2.1 hw h1
          simp only [Bool.or_eq_true, sx_ble_iff] at o2
          omega
        · cases o2
  · obtain ⟨c1, c2⟩ := List.mem_filter.mp hcc
    obtain ⟨q1, r1, h1, h2, h3⟩ := H.2.2.2.1 cc c1
    simp only [Bool.and_eq_true] at c2
    exact ⟨q1, r1, by rw [List.getElem?_set_ne (fun e => sx_nbeq c2.1 e.symm)]; exact h1, by rw [List.getElem?_set_ne (fun e => sx_nbeq c2.2 e.symm)]; exact h2, h3⟩
  · obtain ⟨j1, j2⟩ := List.mem_filter.mp hjj
    exact sx_jk_ok HJ j2 hfr (H.2.2.2.2.1 jj j1)
  · by_cases e : k' = k
    · subst e
      rw [hc] at hc'
      cases hc'
      obtain ⟨vs', g1, g2, g3⟩ := hI k' c hc
      rw [hk] at g1
      cases g1
      refine ⟨_, List.getElem?_set_self hkl, by rw [sx_cpy_len hf hg]; exact hl, fun i w hw => ?_⟩
      rw [sx_cpy_at hf hg]
      by_cases c1 : d ≤ i ∧ i < d + m
      · rw [if_pos c1]
        exact hv (i - d) w (by omega) (by rw [show d + (i - d) = i by omega]; exact hw)
      · rw [if_neg c1]
        exact g3 i w hw
    · obtain ⟨vs', g1, g2, g3⟩ := hI k' c' hc'
      exact ⟨vs', by rw [List.getElem?_set_ne (fun h => e h.symm)]; exact g1, g2, g3⟩
/-- slots of one run of places fit into another's -/
def sx_sbr (tg : Nat) (R Q : sx_R) : Nat → Nat → Nat → Bool
  | 0, _, _ => true
  | m + 1, s, d => (match sx_run R s, sx_run Q d with
    | some u, some w => Nat.beq u.1 tg && (Nat.beq w.1 tg && (sx_ble w.2.1 u.2.1 && sx_ble u.2.2 w.2.2))
    | _, _ => false) && sx_sbr tg R Q m (s + 1) (d + 1)
theorem sx_sbr_ok {tg : Nat} {R Q : sx_R} : ∀ {m s d : Nat}, sx_sbr tg R Q m s d = true → ∀ j, j < m → ∃ u w, sx_run R (s + j) = some u ∧ sx_run Q (d + j) = some w ∧ u.1 = tg ∧ w.1 = tg ∧ w.2.1 ≤ u.2.1 ∧ u.2.2 ≤ w.2.2
  | 0, _, _, _, j, hj => by omega
  | m + 1, s, d, H, j, hj => by
    unfold sx_sbr at H
    simp only [Bool.and_eq_true] at H
    obtain ⟨h1, h2⟩ := H
    match j with
    | 0 =>
      split at h1
      · next u w hu hw =>
        simp only [Bool.and_eq_true, sx_ble_iff] at h1
        exact ⟨u, w, hu, hw, Nat.eq_of_beq_eq_true h1.1, Nat.eq_of_beq_eq_true h1.2.1, h1.2.2.1, h1.2.2.2⟩
      · cases h1
    | j + 1 =>
      obtain ⟨u, w, g⟩ := sx_sbr_ok h2 j (by omega)
      rw [show s + 1 + j = s + (j + 1) by omega, show d + 1 + j = d + (j + 1) by omega] at g
      exact ⟨u, w, g⟩
theorem sx_sub_slot {u w : Nat × Int × Int} {v : Value} (h1 : u.1 = w.1) (h2 : w.2.1 ≤ u.2.1) (h3 : u.2.2 ≤ w.2.2) (ht : w.1 = 0 ∨ w.1 = 1) (H : sx_slot u v) : sx_slot w v := by
  unfold sx_slot at H ⊢
  rcases ht with e | e <;> rw [h1, e] at H <;> rw [e]
  · obtain ⟨x, g1, g2, g3⟩ := H
    exact ⟨x, g1, by omega, by omega⟩
  · exact H
def sx_tbf (xs : List Int32) (Q : sx_R) : Nat → Nat → Nat → Bool
  | 0, _, _ => true
  | m + 1, s, d => (match xs[s]?, sx_run Q d with
    | some u, some w => Nat.beq w.1 0 && (sx_ble w.2.1 u.toInt && sx_ble u.toInt w.2.2)
    | _, _ => false) && sx_tbf xs Q m (s + 1) (d + 1)
theorem sx_tbf_ok {xs : List Int32} {Q : sx_R} : ∀ {m s d : Nat}, sx_tbf xs Q m s d = true → ∀ j, j < m → ∃ u w, xs[s + j]? = some u ∧ sx_run Q (d + j) = some w ∧ w.1 = 0 ∧ w.2.1 ≤ u.toInt ∧ u.toInt ≤ w.2.2
  | 0, _, _, _, j, hj => by omega
  | m + 1, s, d, H, j, hj => by
    unfold sx_tbf at H
    simp only [Bool.and_eq_true] at H
    obtain ⟨h1, h2⟩ := H
    match j with
    | 0 =>
      split at h1
      · next u w hu hw =>
        simp only [Bool.and_eq_true, sx_ble_iff] at h1
        exact ⟨u, w, hu, hw, Nat.eq_of_beq_eq_true h1.1, h1.2.1, h1.2.2⟩
      · cases h1
    | j + 1 =>
      obtain ⟨u, w, g⟩ := sx_tbf_ok h2 j (by omega)
      rw [show s + 1 + j = s + (j + 1) by omega, show d + 1 + j = d + (j + 1) by omega] at g
      exact ⟨u, w, g⟩
def sx_k1 (iv : sx_I) (t : sx_v) : Option Nat := match sx_r iv t with
  | some r => bif sx_beq r.1 r.2 && (sx_ble 0 r.1 && sx_ble r.1 100000) then some r.1.toNat else none
  | none => none
theorem sx_k1_ok {iv : sx_I} (HP : sx_P iv p) {t : sx_v} {v : Value} {m : Nat} (hg : sx_g p t v) (hk : sx_k1 iv t = some m) : ∃ x : Int32, v = .int x ∧ x.toInt = (m : Int) := by
  unfold sx_k1 at hk
  split at hk
  · next r hr =>
    cases hb : (sx_beq r.1 r.2 && (sx_ble 0 r.1 && sx_ble r.1 100000)) with
    | false => rw [hb] at hk; cases hk
    | true =>
      rw [hb] at hk
      cases hk
      simp only [Bool.and_eq_true, sx_ble_iff] at hb
      have e := sx_beq_ok hb.1
      obtain ⟨y, y1, y2, y3⟩ := sx_r_ok HP hr
      obtain ⟨x, x1, x2⟩ := sx_g_n y1 hg
      exact ⟨x, x1, by omega⟩
  · cases hk
/-- arraycopy -/
def sx_cpy (G : sx_G) (dp : sx_D) (n : Nat) (M : sx_M) (pc : Nat) (A : sx_A) : Option (List (Nat × sx_A)) := match A.2.1 with
  | m :: d :: b :: s :: a :: r => bif Nat.beq b.1 2 && Nat.ble ((r.map sx_ct).sum) 8 then (match sx_k1 A.2.2.2.1 m, sx_k1 A.2.2.2.1 d, sx_k1 A.2.2.2.1 s, G[b.2.1]? with
    | some m, some d, some s, some cb => bif Nat.ble (d + m) (sx_len cb.2) && (Nat.ble 1 m && sx_inm n A.2.2.2.1 M b.2.1 (0, 0, (d : Int)) (0, 0, (d : Int) + (m : Int) - 1)) then
      (bif Nat.beq a.1 2 then (match G[a.2.1]? with
        | some ca => bif Nat.beq ca.1 cb.1 && (Nat.ble (s + m) (sx_len ca.2) && (Nat.beq cb.1 13 && sx_sbr 0 ca.2 cb.2 m s d || Nat.beq cb.1 15 && sx_sbr 1 ca.2 cb.2 m s d)) then
          some [(pc + 3, (A.1, r, bif Nat.beq s 0 && (Nat.beq d 0 && (Nat.beq m (sx_len ca.2) && (Nat.beq m (sx_len cb.2) && !Nat.beq a.2.1 b.2.1))) then ((sx_wc dp A.2.2 b.2.1 (d : Int) ((d : Int) + (m : Int) - 1)).1, (sx_wc dp A.2.2 b.2.1 (d : Int) ((d : Int) + (m : Int) - 1)).2.1, (sx_wc dp A.2.2 b.2.1 (d : Int) ((d : Int) + (m : Int) - 1)).2.2.1, (b.2.1, a.2.1) :: (sx_wc dp A.2.2 b.2.1 (d : Int) ((d : Int) + (m : Int) - 1)).2.2.2.1, (sx_wc dp A.2.2 b.2.1 (d : Int) ((d : Int) + (m : Int) - 1)).2.2.2.2) else sx_wc dp A.2.2 b.2.1 (d : Int) ((d : Int) + (m : Int) - 1)))] else none
        | none => none) else
      bif Nat.beq a.1 5 && (Nat.beq cb.1 13 && (Nat.ble 1 a.2.1 && (Nat.ble a.2.1 4 && (Nat.ble (s + m) (ri_xl a.2.1).length && sx_tbf (ri_xl a.2.1) cb.2 m s d)))) then some [(pc + 3, (A.1, r, sx_wc dp A.2.2 b.2.1 (d : Int) ((d : Int) + (m : Int) - 1)))] else none) else none
    | _, _, _, _ => none) else none
  | _ => none
theorem sx_cpy_ok {e0 : List Int} (HJ : sx_HJ G J dp) (hp : p = p0 ++ e0) (HS : sx_S G J p A lo st h) (hs : sx_cpy G dp p0.length M pc A = some L) : ∃ (m d : Int32) (b : Value) (s : Int32) (a : Value) (r : List Value), st = .int m :: .int d :: b :: .int s :: a :: r ∧ Nat.ble (ri_wt r) 8 = true ∧ sx_To G J p0 M p h L (match ri_copy a b s d m h with
      | some h' => some (pc + 3, lo, r, h', 0, 0)
      | none => none) := by
  unfold sx_cpy at hs
  split at hs
  · next tm td tb ts ta r hv =>
    cases hb : (Nat.beq tb.1 2 && Nat.ble ((r.map sx_ct).sum) 8) with
    | false => rw [hb] at hs; cases hs
    | true =>
      rw [hb] at hs
      simp only [Bool.and_eq_true] at hb
      have h2 := HS.2.1
      rw [hv] at h2
      obtain ⟨vm, vd, vb, s1, rfl, g1, g2, g3, h3⟩ := h2.c3
      obtain ⟨vs, va, s2, rfl, g4, g5, h4⟩ := h3.c2
      have hx := sx_g_R g3 hb.1
      subst hx
      dsimp only [cond_true] at hs
      split at hs
      · next m d s cb hm hd hsx hcb =>
        obtain ⟨Xm, rfl, m1⟩ := sx_k1_ok HS.2.2.2.1 g1 hm
        obtain ⟨Xd, rfl, d1⟩ := sx_k1_ok HS.2.2.2.1 g2 hd
        obtain ⟨Xs, rfl, s1⟩ := sx_k1_ok HS.2.2.2.1 g4 hsx
        refine ⟨Xm, Xd, _, Xs, va, s2, rfl, by rw [sx_wt_ok h4]; exact hb.2, ?_⟩
        cases hk : (Nat.ble (d + m) (sx_len cb.2) && (Nat.ble 1 m && sx_inm p0.length A.2.2.2.1 M tb.2.1 (0, 0, (d : Int)) (0, 0, (d : Int) + (m : Int) - 1))) with
        | false => rw [hk] at hs; cases hs
        | true =>
          rw [hk] at hs
          simp only [Bool.and_eq_true, Nat.ble_eq] at hk
          obtain ⟨vsb, b1, b2, b3⟩ := HS.2.2.2.2.2.2.2 tb.2.1 cb hcb
          have im := sx_i0 (I := Xm) m1 (by omega)
          have id := sx_i0 (I := Xd) d1 (by omega)
          have is := sx_i0 (I := Xs) s1 (by omega)
          have em : Xm.toNatClampNeg = m := by rw [im.2]; rfl
          have ed : Xd.toNatClampNeg = d := by rw [id.2]; rfl
          have es : Xs.toNatClampNeg = s := by rw [is.2]; rfl
          have inn : ∀ (k' : Nat) (i' : Int), ¬ sx_in p0 M k' i' → ¬ (k' = tb.2.1 ∧ (d : Int) ≤ i' ∧ i' ≤ (d : Int) + (m : Int) - 1) := by
            rintro k' i' hni ⟨rfl, e1, e2⟩
            subst hp
            exact hni (sx_inm_ok rfl HS.2.2.2.1 hk.2.2 rfl rfl e1 e2)
          dsimp only [cond_true] at hs
          cases h5 : Nat.beq ta.1 2 with
          | true =>
            rw [h5] at hs
            dsimp only [cond_true] at hs
            have hx := sx_g_R g5 h5
            subst hx
            split at hs
            · next ca hca =>
              cases h6 : (Nat.beq ca.1 cb.1 && (Nat.ble (s + m) (sx_len ca.2) && (Nat.beq cb.1 13 && sx_sbr 0 ca.2 cb.2 m s d || Nat.beq cb.1 15 && sx_sbr 1 ca.2 cb.2 m s d))) with
              | false => rw [h6] at hs; cases hs
              | true =>
                rw [h6] at hs
                have hs := Option.some.inj hs
                simp only [Bool.and_eq_true, Nat.ble_eq] at h6
                obtain ⟨c1, c2, c3⟩ := h6
                have c1 : ca.1 = cb.1 := Nat.eq_of_beq_eq_true c1
                obtain ⟨vsa, a1, a2, a3⟩ := HS.2.2.2.2.2.2.2 ta.2.1 ca hca
                have c4 : ∃ tg, (tg = 0 ∨ tg = 1) ∧ (tg = 0 → cb.1 = 13) ∧ (tg = 1 → cb.1 = 15) ∧ sx_sbr tg ca.2 cb.2 m s d = true := by
                  rcases (Bool.or_eq_true _ _).mp c3 with c | c
                  · simp only [Bool.and_eq_true] at c
                    exact ⟨0, Or.inl rfl, fun _ => Nat.eq_of_beq_eq_true c.1, fun h => (by cases h), c.2⟩
                  · simp only [Bool.and_eq_true] at c
                    exact ⟨1, Or.inr rfl, fun h => (by cases h), fun _ => Nat.eq_of_beq_eq_true c.1, c.2⟩
                obtain ⟨tg, t1, t2, t3, t4⟩ := c4
                have hval : ∀ j, j < m → ∃ v u, vsa[s + j]? = some v ∧ sx_run ca.2 (s + j) = some u ∧ u.1 = tg ∧ sx_slot u v := fun j hj => by
                  obtain ⟨u, w, w1, w2, w3, w4, w5, w6⟩ := sx_sbr_ok t4 j hj
                  obtain ⟨v, v1, v2⟩ := a3 _ _ w1
                  exact ⟨v, u, v1, w1, w3, v2⟩
                obtain ⟨k1, k2⟩ := sx_wc_ok HJ HS.2.2 (k := tb.2.1) (s := s) (d := d) (m := m) (fs := vsa) hcb b1 b2 (by omega) (by omega) (fun j w hj hw => by
                  obtain ⟨u, w', w1, w2, w3, w4, w5, w6⟩ := sx_sbr_ok t4 j hj
                  rw [hw] at w2
                  cases w2
                  obtain ⟨v, v1, v2⟩ := a3 _ _ w1
                  exact ⟨v, v1, sx_sub_slot (w3.trans w4.symm) w5 w6 (by rw [w4]; exact t1) v2⟩)
                have hcp : ri_copy (.ref ta.2.1) (.ref tb.2.1) Xs Xd Xm h = some (h.set tb.2.1 (cb.1, ri_cpy vsa vsb s d m)) := by
                  unfold ri_copy
                  dsimp only
                  rw [b1]
                  dsimp only
                  rw [im.1, id.1, is.1, em, ed, es]
                  have e1 : (Nat.beq cb.1 13 || Nat.beq cb.1 15) = true := by
                    rcases t1 with e | e
                    · rw [t2 e]; rfl
                    · rw [t3 e]; rfl
                  rw [e1, show Nat.ble (d + m) vsb.length = true from Nat.ble_eq.mpr (by omega)]
                  simp only [Bool.not_false, Bool.true_and, cond_true]
                  rw [a1]
                  dsimp only
                  rw [c1, show Nat.beq cb.1 cb.1 = true from Nat.beq_eq.mpr rfl, show Nat.ble (s + m) vsa.length = true from Nat.ble_eq.mpr (by omega)]
                  have e2 : (((vsa.drop s).take m).all fun v => bif Nat.beq cb.1 13 then ri_isI v else ri_isL v) = true := by
                    refine List.all_eq_true.mpr (fun v hvm => ?_)
                    obtain ⟨j, hj⟩ := List.getElem?_of_mem hvm
                    have hjm : j < m := by
                      have := (List.getElem?_eq_some_iff.mp hj).1
                      rw [List.length_take] at this
                      omega
                    rw [List.getElem?_take_of_lt hjm, List.getElem?_drop] at hj
                    obtain ⟨v', u, v1, -, v3, v4⟩ := hval j hjm
                    rw [hj] at v1
                    cases v1
                    unfold sx_slot at v4
                    rcases t1 with e | e
                    · rw [v3, e] at v4
                      obtain ⟨x, rfl, -⟩ := v4
                      rw [t2 e]
                      rfl
                    · rw [v3, e] at v4
                      obtain ⟨x, rfl⟩ := v4
                      rw [t3 e]
                      rfl
                  rw [e2]
                  rfl
                rw [hcp]
                subst hs
                refine ⟨_, List.mem_singleton.mpr rfl, [], lo, s2, _, rfl, ?_, fun k' i' hni => k2 k' i' (inn k' i' hni)⟩
                rw [List.append_nil]
                refine ⟨HS.1, h4, ?_⟩
                dsimp only
                cases h7 : (Nat.beq s 0 && (Nat.beq d 0 && (Nat.beq m (sx_len ca.2) && (Nat.beq m (sx_len cb.2) && !Nat.beq ta.2.1 tb.2.1)))) with
                | false => exact k1
                | true =>
                  simp only [Bool.and_eq_true] at h7
                  have f1 : s = 0 := Nat.eq_of_beq_eq_true h7.1
                  have f2 : d = 0 := Nat.eq_of_beq_eq_true h7.2.1
                  have f3 : m = sx_len ca.2 := Nat.eq_of_beq_eq_true h7.2.2.1
                  have f4 : m = sx_len cb.2 := Nat.eq_of_beq_eq_true h7.2.2.2.1
                  have f5 : ta.2.1 ≠ tb.2.1 := sx_nbeq h7.2.2.2.2
                  refine ⟨k1.1, k1.2.1, k1.2.2.1, fun cc hcc => ?_, k1.2.2.2.2⟩
                  rcases List.mem_cons.mp hcc with rfl | hcc
                  · refine ⟨_, _, List.getElem?_set_self (List.getElem?_eq_some_iff.mp b1).1, by rw [List.getElem?_set_ne (fun e => f5 e.symm)]; exact a1, ?_⟩
                    show ri_cpy vsa vsb s d m = vsa
                    unfold ri_cpy
                    rw [f1, f2, List.take_zero, List.drop_zero, List.nil_append, List.take_of_length_le (by omega), List.drop_eq_nil_of_le (by omega), List.append_nil]
                  · exact k1.2.2.2.1 cc hcc
            · cases hs
          | false =>
            rw [h5] at hs
            dsimp only [cond_false] at hs
            cases h6 : (Nat.beq ta.1 5 && (Nat.beq cb.1 13 && (Nat.ble 1 ta.2.1 && (Nat.ble ta.2.1 4 && (Nat.ble (s + m) (ri_xl ta.2.1).length && sx_tbf (ri_xl ta.2.1) cb.2 m s d))))) with
            | false => rw [h6] at hs; cases hs
            | true =>
              rw [h6] at hs
              cases hs
              simp only [Bool.and_eq_true] at h6
              obtain ⟨c1, c2, c3, c4, c5, c6⟩ := h6
              have hx := sx_g_T g5 c1
              subst hx
              have c5' := Nat.ble_eq.mp c5
              obtain ⟨k1, k2⟩ := sx_wc_ok HJ HS.2.2 (k := tb.2.1) (s := s) (d := d) (m := m) (fs := (ri_xl ta.2.1).map Value.int) hcb b1 b2 (by rw [List.length_map]; exact c5') (by omega) (fun j w hj hw => by
                obtain ⟨u, w', w1, w2, w3, w4, w5⟩ := sx_tbf_ok c6 j hj
                rw [hw] at w2
                cases w2
                refine ⟨.int u, by rw [List.getElem?_map, w1]; rfl, ?_⟩
                unfold sx_slot
                rw [w3]
                exact ⟨u, rfl, w4, w5⟩)
              have hcp : ri_copy (.retAddr ta.2.1) (.ref tb.2.1) Xs Xd Xm h = some (h.set tb.2.1 (cb.1, ri_cpy ((ri_xl ta.2.1).map Value.int) vsb s d m)) := by
                unfold ri_copy
                dsimp only
                rw [b1]
                dsimp only
                rw [im.1, id.1, is.1, em, ed, es]
                have e1 : (Nat.beq cb.1 13 || Nat.beq cb.1 15) = true := by rw [c2]; rfl
                rw [e1, show Nat.ble (d + m) vsb.length = true from Nat.ble_eq.mpr (by omega)]
                simp only [Bool.not_false, Bool.true_and, cond_true]
                rw [c2, c3, c4, c5]
                rfl
              rw [hcp]
              refine ⟨_, List.mem_singleton.mpr rfl, [], lo, s2, _, rfl, ?_, fun k' i' hni => k2 k' i' (inn k' i' hni)⟩
              rw [List.append_nil]
              exact ⟨HS.1, h4, k1⟩
      · cases hs
  · cases hs
end SXF
