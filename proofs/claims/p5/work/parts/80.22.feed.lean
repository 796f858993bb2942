/-! feed and end: what they answer and leave, by the tape's length -/
def cf_x (i : Int) (js : List Nat) : List sx_A := [([], [(0, 0, -1)], ([(0, (0, 0, i), (1, 5, 0))], [(-2147483648, 2147483647), (-2147483648, 2147483647), (-2147483648, 2147483647), (-2147483648, 2147483647), (-2147483648, 2147483647), (921, 940)], [], [], js)), ([], [(1, 5, 20)], ([(0, (0, 0, i), (1, 5, 20))], [(-2147483648, 2147483647), (-2147483648, 2147483647), (-2147483648, 2147483647), (-2147483648, 2147483647), (-2147483648, 2147483647), (0, 920)], [], [], js))]
def ce_x (i : Int) (js : List Nat) : List sx_A := [([], [(0, 0, 0)], ([(0, (0, 0, i), (1, 1, 0))], [(-2147483648, -1), (0, 940)], [], [], js)), ([], [(0, 0, 0)], ([(0, (0, 0, i), (1, 1, 0))], [(1, 2147483647), (0, 940)], [(0, (1, 1, 1), (1, 0, 0), (1, 0, 0))], [], js)), ([], [(0, 0, 1)], ([(0, (0, 0, i), (1, 0, 0))], [(0, 940), (0, 940)], [(0, (1, 0, 0), (1, 1, 0), (1, 1, 0))], [], js))]
section CFE
variable {G : sx_G} {J : Nat → ri_H → Prop} {h : ri_H} {p e : List Int} {ex : sx_A} {x : Int32}
theorem cf_n {s : Nat} {y c : Int} (hy : p[s]? = some y) : sx_n (p ++ e) (1, s, c) = some (y + c) := by
  show (match (p ++ e)[s]? with
    | some y => some (y + c)
    | none => none) = some (y + c)
  rw [sx_ap e hy]
theorem cf_sl {k : Nat} {i : Int} {t : sx_v} (ht : Nat.ble t.1 1 = true) {y : Int} (hy : sx_n p t = some y) (h0 : sx_oh p h (k, (0, 0, i), t)) : ∃ z : Int32, sx_at h k i = some (.int z) ∧ z.toInt = y := by
  obtain ⟨i', v, g1, g2, g3⟩ := h0
  have g1 : i = i' := Option.some.inj g1
  obtain ⟨z, rfl, g4⟩ := sx_g_isn ht g3
  rw [hy] at g4
  rw [← g1] at g2
  exact ⟨z, g2, (Option.some.inj g4).symm⟩
theorem cf_an {t : sx_v} {y : Int} (hy : sx_n p t = some y) (hs : sx_sts p [t] [.int x]) : x.toInt = y := by
  have := sx_g_int hs.1
  rw [hy] at this
  exact (Option.some.inj this).symm
theorem cf_iv {iv : sx_I} {s : Nat} {t : Int × Int} {y : Int} (H : sx_P iv (p ++ e)) (hy : p[s]? = some y) (ht : iv[s]? = some t) : t.1 ≤ y ∧ y ≤ t.2 := by
  obtain ⟨t', h1, h2⟩ := H.get (sx_ap e hy)
  rw [ht] at h1
  cases h1
  exact h2
theorem cf_out {i : Int} {js : List Nat} {y : Int} (hp : p[5]? = some y) (hx : ex ∈ cf_x i js) (S : sx_S G J (p ++ e) ex [] [.int x] h) : ∃ z : Int32, sx_at h 0 i = some (.int z) ∧ ((921 ≤ y ∧ x.toInt = -1 ∧ z.toInt = y) ∨ (y ≤ 920 ∧ x.toInt = y + 20 ∧ z.toInt = y + 20)) := by
  unfold cf_x at hx
  simp only [List.mem_cons, List.mem_nil_iff, or_false] at hx
  obtain ⟨-, S2, S3, S4, -⟩ := S
  rcases hx with rfl | rfl
  · have a1 := cf_iv S4 hp (t := (921, 940)) rfl
    have a2 := cf_an (p := p ++ e) (t := (0, 0, -1)) rfl S2
    obtain ⟨z, z1, z2⟩ := cf_sl (t := (1, 5, 0)) rfl (cf_n hp) (S3 _ List.mem_cons_self)
    exact ⟨z, z1, Or.inl ⟨a1.1, a2, by omega⟩⟩
  · have a1 := cf_iv S4 hp (t := (0, 920)) rfl
    have a2 := cf_an (p := p ++ e) (t := (1, 5, 20)) (cf_n hp) S2
    obtain ⟨z, z1, z2⟩ := cf_sl (t := (1, 5, 20)) rfl (cf_n hp) (S3 _ List.mem_cons_self)
    exact ⟨z, z1, Or.inr ⟨a1.2, a2, z2⟩⟩
theorem ce_out {i : Int} {js : List Nat} {n y : Int} (hn : p[0]? = some n) (hp : p[1]? = some y) (hx : ex ∈ ce_x i js) (S : sx_S G J (p ++ e) ex [] [.int x] h) : ∃ z : Int32, sx_at h 0 i = some (.int z) ∧ (((n ≤ -1 ∨ y + 1 ≤ n) ∧ x.toInt = 0 ∧ z.toInt = y) ∨ (0 ≤ n ∧ n ≤ y ∧ x.toInt = 1 ∧ z.toInt = n)) := by
  unfold ce_x at hx
  simp only [List.mem_cons, List.mem_nil_iff, or_false] at hx
  obtain ⟨-, S2, S3, S4, S5, -⟩ := S
  rcases hx with rfl | rfl | rfl
  · have a1 := cf_iv S4 hn (t := (-2147483648, -1)) rfl
    have a2 := cf_an (p := p ++ e) (t := (0, 0, 0)) rfl S2
    obtain ⟨z, z1, z2⟩ := cf_sl (t := (1, 1, 0)) rfl (cf_n hp) (S3 _ List.mem_cons_self)
    exact ⟨z, z1, Or.inl ⟨Or.inl a1.2, a2, by omega⟩⟩
  · obtain ⟨a, b, f1, f2, f3⟩ : ∃ a b, sx_n (p ++ e) (1, 1, 1) = some a ∧ sx_n (p ++ e) (1, 0, 0) = some b ∧ a ≤ b := S5 _ List.mem_cons_self
    rw [cf_n hp] at f1
    rw [cf_n hn] at f2
    cases f1
    cases f2
    have a2 := cf_an (p := p ++ e) (t := (0, 0, 0)) rfl S2
    obtain ⟨z, z1, z2⟩ := cf_sl (t := (1, 1, 0)) rfl (cf_n hp) (S3 _ List.mem_cons_self)
    exact ⟨z, z1, Or.inl ⟨Or.inr (by omega), a2, by omega⟩⟩
  · obtain ⟨a, b, f1, f2, f3⟩ : ∃ a b, sx_n (p ++ e) (1, 0, 0) = some a ∧ sx_n (p ++ e) (1, 1, 0) = some b ∧ a ≤ b := S5 _ List.mem_cons_self
    rw [cf_n hn] at f1
    rw [cf_n hp] at f2
    cases f1
    cases f2
    have a1 := cf_iv S4 hn (t := (0, 940)) rfl
    have a2 := cf_an (p := p ++ e) (t := (0, 0, 1)) rfl S2
    obtain ⟨z, z1, z2⟩ := cf_sl (t := (1, 0, 0)) rfl (cf_n hn) (S3 _ List.mem_cons_self)
    exact ⟨z, z1, Or.inr ⟨a1.1, by omega, a2, by omega⟩⟩
end CFE
/-- the tape's length, the class's and the reference's -/
def cs_l : (Nat × Int) × (Nat × Int) := ((0, 1), (0, 2))
theorem cs_len {W : cs_W} {hc hm : ri_H} (HL : cs_L W hc hm) (hW : cs_l ∈ W) : ∃ y : Int32, sx_at hc 0 1 = some (.int y) ∧ sx_at hm 0 2 = some (.int y) ∧ 0 ≤ y.toInt ∧ y.toInt ≤ 940 := by
  obtain ⟨y, y1, y2⟩ := HL.2.2.2.2.2.1 _ hW
  have y1 : sx_at hc 0 1 = some (.int y) := y1
  obtain ⟨v, v1, v2⟩ := HL.2.1.at (k := 0) (i := 1) (c := kc_G.headD (0, [])) (w := (0, 0, 940)) rfl (by decide) rfl
  rw [y1] at v1
  cases v1
  obtain ⟨x, e1, e2, e3⟩ : ∃ x : Int32, Value.int y = .int x ∧ (0 : Int) ≤ x.toInt ∧ x.toInt ≤ 940 := v2
  cases e1
  exact ⟨y, y1, y2, e2, e3⟩
def cs_rest (W : cs_W) (X Y : sx_X) : Bool := W.all (fun w => decide (w = cs_l) || (Nat.blt w.1.1 209 && (cg_kp w.1.1 w.1.2 X && cg_kp w.2.1 w.2.2 Y)))
section CSF
variable {W : cs_W} {hc hm t : ri_H} {xs : List Int32}
theorem cs_w {X Y : sx_X} {hc' hm' : ri_H} {z : Int32} (HL : cs_L W hc hm) (hr : cs_rest W X Y = true) (z1 : sx_at hc' 0 1 = some (.int z)) (z2 : sx_at hm' 0 2 = some (.int z)) (K1 : ∀ (k : Nat) (i : Int), k < 209 → cg_kp k i X = true → sx_at hc' k i = sx_at hc k i) (K2 : ∀ (k : Nat) (i : Int), cg_kp k i Y = true → sx_at hm' k i = sx_at hm k i) : ∀ w ∈ W, cg_Tw w hc' hm' := by
  intro w hw
  have q := List.all_eq_true.mp hr w hw
  simp only [Bool.or_eq_true, decide_eq_true_eq, Bool.and_eq_true, Nat.blt_eq] at q
  rcases q with rfl | q
  · exact ⟨z, z1, z2⟩
  · obtain ⟨y, y1, y2⟩ := HL.2.2.2.2.2.1 w hw
    exact ⟨y, by rw [K1 _ _ q.1 q.2.1]; exact y1, by rw [K2 _ _ q.2.2]; exact y2⟩
theorem cs_oh {h : ri_H} {p : List Int} {y : Int32} {s : Nat} {i : Int} (hp : p[s]? = some y.toInt) (h1 : sx_at h 0 i = some (.int y)) : ∀ o ∈ [((0 : Nat), ((0, 0, i) : sx_v), ((1, s, 0) : sx_v))], sx_oh p h o := by
  intro o ho
  rw [List.mem_singleton.mp ho]
  refine ⟨i, .int y, rfl, h1, sx_g_of ?_⟩
  show (match p[s]? with
    | some y => some (y + (0 : Int))
    | none => none) = some y.toInt
  rw [hp]
  show some (y.toInt + 0) = _
  rw [Int.add_zero]
theorem cs_map2 {y : Int} (i : Nat) (x : Int32) (h : xs[i]? = some x) : (xs.map Int32.toInt ++ [y])[i]? = some x.toInt := sx_ap [y] (cs_map i x h)
theorem cs_map3 {y : Int} {n : Nat} (hn : xs.length = n) : (xs.map Int32.toInt ++ [y])[n]? = some y := by
  rw [List.getElem?_append_right (by rw [List.length_map]; omega), List.length_map, hn, Nat.sub_self]
  rfl
theorem cs_iv {n : Nat} {y : Int} (hn : xs.length = n) (h0 : 0 ≤ y) (h1 : y ≤ 940) : sx_P (List.replicate n ((-2147483648 : Int), (2147483647 : Int)) ++ [(0, 940)]) (xs.map Int32.toInt ++ [y]) := by
  rw [← hn]
  exact (cs_full xs).app (iv2 := [(0, 940)]) (p2 := [y]) ⟨⟨h0, h1⟩, trivial⟩
theorem cs_I0 (HL : cs_L W hc hm) : sx_Inv kc_G (hc ++ t) := cs_inv (fun k hk => List.getElem?_append_left (by have := HL.1; rw [kc_len] at hk; omega)) HL.2.1
/-- the bytes behind feed -/
theorem cs_Qf {x1 x2 : Int32} {hc' hm' : ri_H} (HL : cs_L W hc hm) (hW : cs_l ∈ W) (hn : xs.length = 5) (E1 : ri_calE ri_md 30 101 (.ref 0 :: xs.map Value.int) (hc ++ t) = some (some (.int x1), hc' ++ t)) (l2 : hc'.length = 209) (E2 : ri_calE ri_md 30 145 (.ref 0 :: xs.map Value.int) hm = some (some (.int x2), hm')) (I1 : sx_Inv kc_G hc') (I2 : sx_Inv km_G hm') (q3 : cg_ct 3 ka_1 = true) (q6 : cg_ct 6 kb_1 = true) (ql : cs_lc ka_1 = true) (qr : cs_lr kb_1 = true) (qg : cs_gc ka_1 = true) (qh : cs_gm kb_1 = true) (qn : cs_nc ka_1 = true) (qr' : cs_nr kb_1 = true) (qf : cs_fk ka_1 = true) (qf' : cs_fk kb_1 = true) (K1 : ∀ (k : Nat) (i : Int), k < 209 → cg_kp k i ka_1 = true → sx_at hc' k i = sx_at hc k i) (K2 : ∀ (k : Nat) (i : Int), cg_kp k i kb_1 = true → sx_at hm' k i = sx_at hm k i) : cs_Q hc' hm' := by
  obtain ⟨a0, a1, a2, a3, a4, rfl⟩ : ∃ a0 a1 a2 a3 a4 : Int32, xs = [a0, a1, a2, a3, a4] := by
    match xs, hn with
    | [a0, a1, a2, a3, a4], _ => exact ⟨_, _, _, _, _, rfl⟩
  have E1 : ri_calE ri_md (28 + 2) 101 [.ref 0, .int a0, .int a1, .int a2, .int a3, .int a4] (hc ++ t) = some (some (.int x1), hc' ++ t) := E1
  have E2 : ri_calE ri_md (28 + 2) 145 [.ref 0, .int a0, .int a1, .int a2, .int a3, .int a4] hm = some (some (.int x2), hm') := E2
  obtain ⟨y, y1, y2, y3, y4⟩ := cs_len HL hW
  obtain ⟨n, n9, rfl⟩ := nI_940 y3 y4
  have l1 := HL.1
  have z := J_feed (d := 28) (e := 28) E1 E2 (et_ty et_C (cs_I0 HL)) (et_ty et_M HL.2.2.2.1) (n := n) (ei_at (h := hc ++ t) (i := 1) (by rw [cs_at (h := hc) (List.getElem?_append_left (by omega))]; exact y1)) (ei_at (i := 2) y2) n9 (fun i hi => by
    obtain ⟨y, u1, u2⟩ := HL.2.2.2.2.2.2.2.1.1.1.1 i hi
    rw [ei_at (h := hc ++ t) (k := 1) (i := i) (x := y) (by rw [cs_at (h := hc) (List.getElem?_append_left (by omega))]; exact u1), ei_at u2])
  refine ⟨⟨⟨⟨fun i hi => ?_, fun k hk => ?_, fun k hk => ?_, GQ_frm qh (GQ_frc qg HL.2.2.2.2.2.2.2.1.1.1.2.2.2 K1) K2⟩, LQ_frm qr (LQ_frc ql HL.2.2.2.2.2.2.2.1.1.2 K1) K2⟩, NQ_frm qr qr' (NQ_frc qn HL.2.2.2.2.2.2.2.1.2 K1) K2⟩, FQ_frm qf' (FQ_frc qf HL.2.2.2.2.2.2.2.2 K1) K2⟩
  · obtain ⟨u, u1, -⟩ := by_at (c := (14, [(940, 0, (-128), 127)])) I1 rfl rfl hi
    obtain ⟨w, w1, -⟩ := by_at (c := (14, [(940, 0, (-128), 127)])) I2 rfl rfl hi
    have e := z i hi
    rw [ei_at (h := hc' ++ t) (k := 1) (i := i) (x := u) (by rw [cs_at (h := hc') (List.getElem?_append_left (by omega))]; exact u1), ei_at w1] at e
    subst e
    exact ⟨u, u1, w1⟩
  · rw [K1 _ _ (by decide) (cg_ct_kp q3 _)]
    exact HL.2.2.2.2.2.2.2.1.1.1.2.1 k hk
  · rw [K2 _ _ (cg_ct_kp q6 _)]
    exact HL.2.2.2.2.2.2.2.1.1.1.2.2.1 k hk
/-- lake answers alike, and leaves lakes alike -/
theorem cs_lakeJ {x1 x2 : Int32} {hc' hm' : ri_H} (HL : cs_L W hc hm) (hW : cs_l ∈ W) (c1 : ri_calE ri_md 30 104 [.ref 0] (hc ++ t) = some (some (.int x1), hc' ++ t)) (c2 : ri_calE ri_md 30 172 [.ref 0] hm = some (some (.int x2), hm')) : x1 = x2 ∧ ((∃ q, LI q 23 2 0 (eh_V (hc' ++ t)) (eh_V hm') ∧ NL q 23 (eh_V (hc' ++ t)) (eh_l (eh_V hm') 5)) ∨ ((∀ k i, 17 ≤ k → eh_V (hc' ++ t) k i = eh_V (hc ++ t) k i) ∧ (∀ i, i < 1000 → eh_i (eh_V hm') 2 i = eh_i (eh_V hm) 2 i) ∧ KN (eh_V hm) (eh_V hm'))) ∧ FQ (eh_V (hc' ++ t)) (eh_V hm') := by
  have E1 : ri_calE ri_md (22 + 8) 104 [.ref 0] (hc ++ t) = some (some (.int x1), hc' ++ t) := c1
  have E2 : ri_calE ri_md (23 + 7) 172 [.ref 0] hm = some (some (.int x2), hm') := c2
  obtain ⟨y, y1, y2, y3, y4⟩ := cs_len HL hW
  obtain ⟨n, n9, rfl⟩ := nI_940 y3 y4
  have l1 := HL.1
  have bt : ∀ {k : Nat} {i : Int}, k < 209 → sx_at (hc ++ t) k i = sx_at hc k i := fun {k i} hk => cs_at (List.getElem?_append_left (by omega)) i
  obtain ⟨x, e1, e2, e3, e4⟩ := K_lake E1 E2 (et_ty et_C (cs_I0 HL)) (et_ty et_M HL.2.2.2.1) (nc_C (cs_I0 HL)) (n := n) (ei_at (i := 1) ((bt (by decide)).trans y1)) (ei_at (i := 2) y2) n9 (fun i hi => by
    obtain ⟨y, u1, u2⟩ := HL.2.2.2.2.2.2.2.1.1.1.1 i hi
    rw [ei_at (h := hc ++ t) (k := 1) (i := i) (x := y) ((bt (by decide)).trans u1), ei_at u2]) (fun i hi => by
    obtain ⟨w, w1, w2, w3⟩ := by_at (c := (14, [(940, 0, (-128), 127)])) HL.2.2.2.1 rfl rfl hi
    rw [ei_at w1]
    exact ⟨w2, w3⟩) (fun k hk => el_at ((bt (by decide)).trans (HL.2.2.2.2.2.2.2.1.1.1.2.1 k hk))) (fun k hk => el_at (HL.2.2.2.2.2.2.2.1.1.1.2.2.1 k hk))
  cases e1
  cases e2
  exact ⟨rfl, e3, e4⟩
/-- what the lake's frames must keep: all but the lake itself -/
def cs_lkc (X : sx_X) : Bool := cs_q0c X && ((List.range 13).all (fun k => cg_ct (143 + k) X) && (List.range 13).all (fun k => cg_ct (171 + k) X))
def cs_lkm (Y : sx_X) : Bool := cs_q0m Y && (cg_ct 15 Y && (cg_ct 17 Y && cg_ct 16 Y))
theorem cs_lakeQ {X Y : sx_X} {x1 x2 : Int32} {hc' hm' : ri_H} (HL : cs_L W hc hm) (hW : cs_l ∈ W) (q1 : cs_lkc X = true) (q2 : cs_lkm Y = true) (l2 : hc'.length = 209) (c1 : ri_calE ri_md 30 104 [.ref 0] (hc ++ t) = some (some (.int x1), hc' ++ t)) (c2 : ri_calE ri_md 30 172 [.ref 0] hm = some (some (.int x2), hm')) (K1 : ∀ (k : Nat) (i : Int), k < 209 → cg_kp k i X = true → sx_at hc' k i = sx_at hc k i) (K2 : ∀ (k : Nat) (i : Int), cg_kp k i Y = true → sx_at hm' k i = sx_at hm k i) : x1 = x2 ∧ cs_Q hc' hm' := by
  obtain ⟨ex, J, F⟩ := cs_lakeJ HL hW c1 c2
  unfold cs_lkc at q1
  unfold cs_lkm at q2
  rw [Bool.and_eq_true, Bool.and_eq_true] at q1 q2
  rw [Bool.and_eq_true] at q2
  have kx : ∀ k (i : Nat), (143 ≤ k ∧ k ≤ 155) ∨ (171 ≤ k ∧ k ≤ 183) → sx_at hc' k (i : Int) = sx_at hc k (i : Int) := fun k i hk => by
    rcases hk with hk | hk
    · have := List.all_eq_true.mp q1.2.1 (k - 143) (List.mem_range.mpr (by omega))
      rw [show 143 + (k - 143) = k by omega] at this
      exact K1 _ _ (by omega) (cg_ct_kp this _)
    · have := List.all_eq_true.mp q1.2.2 (k - 171) (List.mem_range.mpr (by omega))
      rw [show 171 + (k - 171) = k by omega] at this
      exact K1 _ _ (by omega) (cg_ct_kp this _)
  refine ⟨ex, ⟨⟨cs_Q0_frm q2.1 (cs_Q0_frc q1.1 HL.2.2.2.2.2.2.2.1.1.1 K1) K2, ?_⟩, ?_⟩, FQ_dn l2 F⟩
  · have k15 : ∀ i, eh_i (eh_V hm') 15 i = eh_i (eh_V hm) 15 i := fun i => ei_sx (K2 _ _ (cg_ct_kp q2.2.1 _))
    have k17 : ∀ i, eh_i (eh_V hm') 17 i = eh_i (eh_V hm) 17 i := fun i => ei_sx (K2 _ _ (cg_ct_kp q2.2.2.1 _))
    obtain ⟨⟨q, h1⟩, h2, h3, h4, h5⟩ := HL.2.2.2.2.2.2.2.1.1.2
    refine ⟨?_, ?_, ?_, fun x => ?_, fun x => ?_⟩
    · rcases J with ⟨q', J, -⟩ | ⟨J1, J2, -⟩
      · exact ⟨q', LI_kp J (fun k i _ _ _ => (ei_ap l2 (by omega)).symm) (fun _ _ => rfl)⟩
      · refine ⟨q, LI_kp h1 (fun k i a b c => ?_) (fun j hj => J2 _ (by omega))⟩
        have := ei_eq (J1 k i (by omega))
        rw [ei_ap l2 (by omega), ei_ap HL.1 (by omega)] at this
        exact this
    · rw [show eh_i (eh_V hc') 143 3 = eh_i (eh_V hc) 143 3 from ei_sx (kx 143 3 (by decide)), k17]
      exact h2
    · rw [show eh_i (eh_V hc') 171 3 = eh_i (eh_V hc) 171 3 from ei_sx (kx 171 3 (by decide)), k17]
      exact h3
    · rw [k17] at x
      obtain ⟨q', h6⟩ := h4 x
      exact ⟨q', LI_kp h6 (fun k i a b _ => ei_sx (kx k i (by omega))) (fun _ _ => k15 _)⟩
    · rw [k17] at x
      obtain ⟨q', h6⟩ := h5 x
      exact ⟨q', LI_kp h6 (fun k i a b _ => ei_sx (kx k i (by omega))) (fun _ _ => k15 _)⟩
  · have k16 : ∀ i, eh_l (eh_V hm') 16 i = eh_l (eh_V hm) 16 i := fun i => el_sx (K2 _ _ (cg_ct_kp q2.2.2.2 _))
    have k15 : ∀ i, eh_i (eh_V hm') 15 i = eh_i (eh_V hm) 15 i := fun i => ei_sx (K2 _ _ (cg_ct_kp q2.2.1 _))
    have k17 : ∀ i, eh_i (eh_V hm') 17 i = eh_i (eh_V hm) 17 i := fun i => ei_sx (K2 _ _ (cg_ct_kp q2.2.2.1 _))
    obtain ⟨⟨q, h1⟩, h4, h5⟩ := HL.2.2.2.2.2.2.2.1.2
    refine ⟨?_, fun x => ?_, fun x => ?_⟩
    · rcases J with ⟨q', J, N⟩ | ⟨J1, J2, J3⟩
      · exact ⟨q', NK_mv (NK_LI J N) (fun i _ => (el_ap l2 (by decide)).symm) (fun i _ => (ei_ap l2 (by decide)).symm) (fun i _ => (ei_ap l2 (by decide)).symm) (fun _ _ => rfl) (fun _ _ => rfl)⟩
      · have dn : ∀ k i, 17 ≤ k → k < 209 → eh_V hc' k i = eh_V hc k i := fun k i a b => by
          have e := J1 k i a
          unfold eh_V at e ⊢
          rw [List.getElem?_append_left (by omega), List.getElem?_append_left (by have := HL.1; omega)] at e
          exact e
        exact ⟨q, NK_mv h1 (fun i _ => el_eq (dn _ i (by decide) (by decide))) (fun i _ => ei_eq (dn _ i (by decide) (by decide))) (fun i _ => ei_eq (dn _ i (by decide) (by decide))) (fun j hj => by rw [Nat.zero_add]; exact J2 j (by omega)) (fun j hj => el_eq (J3 j hj))⟩
    · rw [k17] at x
      obtain ⟨q', h6⟩ := h4 x
      exact ⟨q', NK_mv h6 (fun i _ => el_sx (kx _ i (by decide))) (fun i _ => ei_sx (kx _ i (by decide))) (fun i _ => ei_sx (kx _ i (by decide))) (fun j _ => k15 _) (fun j _ => k16 _)⟩
    · rw [k17] at x
      obtain ⟨q', h6⟩ := h5 x
      exact ⟨q', NK_mv h6 (fun i _ => el_sx (kx _ i (by decide))) (fun i _ => ei_sx (kx _ i (by decide))) (fun i _ => ei_sx (kx _ i (by decide))) (fun j _ => k15 _) (fun j _ => k16 _)⟩
theorem cs_imgQ {X Y : sx_X} {y x1 x2 : Int32} {hc' hm' : ri_H} (HL : cs_L W hc hm) (q0 : cs_q0k X Y = true) (qf : cs_fk X = true) (qf' : cs_fk Y = true) (l2 : hc'.length = 209) (c1 : ri_calE ri_md 30 141 [.ref 0, .int y] (hc ++ t) = some (some (.int x1), hc' ++ t)) (c2 : ri_calE ri_md 30 252 [.ref 0, .int y] hm = some (some (.int x2), hm')) (K1 : ∀ (k : Nat) (i : Int), k < 209 → cg_kp k i X = true → sx_at hc' k i = sx_at hc k i) (K2 : ∀ (k : Nat) (i : Int), cg_kp k i Y = true → sx_at hm' k i = sx_at hm k i) : cs_Q hc' hm' :=
  ⟨⟨⟨cs_Q0_fr q0 HL.2.2.2.2.2.2.2.1.1.1 K1 K2, LQ_dn l2 (J_img (d := 28) (e := 28) c1 c2 (et_ty et_C (cs_I0 HL)) (et_ty et_M HL.2.2.2.1) (nc_C (cs_I0 HL)) (LQ_up HL.1 HL.2.2.2.2.2.2.2.1.1.2))⟩, NQ_dn l2 (N_img (d := 28) (e := 28) c1 c2 (et_ty et_C (cs_I0 HL)) (et_ty et_M HL.2.2.2.1) (nc_C (cs_I0 HL)) (NQ_up HL.1 HL.2.2.2.2.2.2.2.1.2))⟩, FQ_frm qf' (FQ_frc qf HL.2.2.2.2.2.2.2.2 K1) K2⟩
theorem cs_rstQ {X Y : sx_X} {y x1 x2 : Int32} {hc' hm' : ri_H} (HL : cs_L W hc hm) (q0 : cs_q0k X Y = true) (qf : cs_fk X = true) (qf' : cs_fk Y = true) (l2 : hc'.length = 209) (c1 : ri_calE ri_md 30 142 [.ref 0, .int y] (hc ++ t) = some (some (.int x1), hc' ++ t)) (c2 : ri_calE ri_md 30 253 [.ref 0, .int y] hm = some (some (.int x2), hm')) (K1 : ∀ (k : Nat) (i : Int), k < 209 → cg_kp k i X = true → sx_at hc' k i = sx_at hc k i) (K2 : ∀ (k : Nat) (i : Int), cg_kp k i Y = true → sx_at hm' k i = sx_at hm k i) : cs_Q hc' hm' :=
  ⟨⟨⟨cs_Q0_fr q0 HL.2.2.2.2.2.2.2.1.1.1 K1 K2, LQ_dn l2 (J_rst (d := 28) (e := 28) c1 c2 (et_ty et_C (cs_I0 HL)) (et_ty et_M HL.2.2.2.1) (nc_C (cs_I0 HL)) (LQ_up HL.1 HL.2.2.2.2.2.2.2.1.1.2))⟩, NQ_dn l2 (N_rst (d := 28) (e := 28) c1 c2 (et_ty et_C (cs_I0 HL)) (et_ty et_M HL.2.2.2.1) (nc_C (cs_I0 HL)) (LQ_up HL.1 HL.2.2.2.2.2.2.2.1.1.2) (NQ_up HL.1 HL.2.2.2.2.2.2.2.1.2))⟩, FQ_frm qf' (FQ_frc qf HL.2.2.2.2.2.2.2.2 K1) K2⟩
/-- count answers alike -/
theorem cs_cnt (HL : cs_L W hc hm) (hW : cs_l ∈ W) (hn : xs.length = 1) (h : cs_R (fun _ _ => True) W 143 254 xs hc hm t) : cs_R (fun a b => a = b) W 143 254 xs hc hm t := by
  obtain ⟨y, rfl⟩ : ∃ y : Int32, xs = [y] := by
    match xs, hn with
    | [y], _ => exact ⟨y, rfl⟩
  obtain ⟨x1, x2, hc', hm', c1, c2, HL', -⟩ := h
  refine ⟨x1, x2, hc', hm', c1, c2, HL', ?_⟩
  have E1 : ri_calE ri_md (29 + 1) 143 [.ref 0, .int y] (hc ++ t) = some (some (.int x1), hc' ++ t) := c1
  have E2 : ri_calE ri_md (28 + 2) 254 [.ref 0, .int y] hm = some (some (.int x2), hm') := c2
  obtain ⟨u, u1, u2, -, -⟩ := cs_len HL hW
  have e := J_cnt E1 E2 (et_ty et_C (cs_I0 HL)) (et_ty et_M HL.2.2.2.1) (LQ_up HL.1 HL.2.2.2.2.2.2.2.1.1.2) (by
    rw [ei_ap HL.1 (by decide), ei_at (i := 1) u1, ei_at (i := 2) u2])
  cases e
  rfl
/-- step answers alike -/
theorem cs_step (HL : cs_L W hc hm) (hn : xs.length = 2) (h : cs_R (fun _ _ => True) W 108 186 xs hc hm t) : cs_R (fun a b => a = b) W 108 186 xs hc hm t := by
  obtain ⟨y, u, rfl⟩ : ∃ y u : Int32, xs = [y, u] := by
    match xs, hn with
    | [y, u], _ => exact ⟨y, u, rfl⟩
  obtain ⟨x1, x2, hc', hm', c1, c2, HL', -⟩ := h
  refine ⟨x1, x2, hc', hm', c1, c2, HL', ?_⟩
  have E1 : ri_calE ri_md (28 + 2) 108 [.ref 0, .int y, .int u] (hc ++ t) = some (some (.int x1), hc' ++ t) := c1
  have E2 : ri_calE ri_md (27 + 3) 186 [.ref 0, .int y, .int u] hm = some (some (.int x2), hm') := c2
  have e := J_step E1 E2 (et_ty et_C (cs_I0 HL)) (et_ty et_M HL.2.2.2.1) (LQ_up HL.1 HL.2.2.2.2.2.2.2.1.1.2)
  cases e
  rfl
/-- apart answers alike -/
theorem cs_apart (HL : cs_L W hc hm) (hn : xs.length = 1) (h : cs_R (fun _ _ => True) W 128 228 xs hc hm t) : cs_R (fun a b => a = b) W 128 228 xs hc hm t := by
  obtain ⟨y, rfl⟩ : ∃ y : Int32, xs = [y] := by
    match xs, hn with
    | [y], _ => exact ⟨y, rfl⟩
  obtain ⟨x1, x2, hc', hm', c1, c2, HL', -⟩ := h
  refine ⟨x1, x2, hc', hm', c1, c2, HL', ?_⟩
  have E1 : ri_calE ri_md (28 + 2) 128 [.ref 0, .int y] (hc ++ t) = some (some (.int x1), hc' ++ t) := c1
  have E2 : ri_calE ri_md (27 + 3) 228 [.ref 0, .int y] hm = some (some (.int x2), hm') := c2
  have e := J_apart E1 E2 (et_ty et_C (cs_I0 HL)) (et_ty et_M HL.2.2.2.1) (LQ_up HL.1 HL.2.2.2.2.2.2.2.1.1.2)
  cases e
  rfl
/-- waves answers alike -/
theorem cs_waves (HL : cs_L W hc hm) (hn : xs.length = 2) (h : cs_R (fun _ _ => True) W 118 214 xs hc hm t) : cs_R (fun a b => a = b) W 118 214 xs hc hm t := by
  obtain ⟨y, u, rfl⟩ : ∃ y u : Int32, xs = [y, u] := by
    match xs, hn with
    | [y, u], _ => exact ⟨y, u, rfl⟩
  obtain ⟨x1, x2, hc', hm', c1, c2, HL', -⟩ := h
  refine ⟨x1, x2, hc', hm', c1, c2, HL', ?_⟩
  have E1 : ri_calE ri_md (27 + 3) 118 [.ref 0, .int y, .int u] (hc ++ t) = some (some (.int x1), hc' ++ t) := c1
  have E2 : ri_calE ri_md (25 + 5) 214 [.ref 0, .int y, .int u] hm = some (some (.int x2), hm') := c2
  have e := J_waves E1 E2 (et_ty et_C (cs_I0 HL)) (et_ty et_M HL.2.2.2.1) (LQ_up HL.1 HL.2.2.2.2.2.2.2.1.1.2)
  cases e
  rfl
/-- does answers alike -/
theorem cs_does (HL : cs_L W hc hm) (hn : xs.length = 2) (h : cs_R (fun _ _ => True) W 117 213 xs hc hm t) : cs_R (fun a b => a = b) W 117 213 xs hc hm t := by
  obtain ⟨y, u, rfl⟩ : ∃ y u : Int32, xs = [y, u] := by
    match xs, hn with
    | [y, u], _ => exact ⟨y, u, rfl⟩
  obtain ⟨x1, x2, hc', hm', c1, c2, HL', -⟩ := h
  refine ⟨x1, x2, hc', hm', c1, c2, HL', ?_⟩
  have E1 : ri_calE ri_md (27 + 3) 117 [.ref 0, .int y, .int u] (hc ++ t) = some (some (.int x1), hc' ++ t) := c1
  have E2 : ri_calE ri_md (25 + 5) 213 [.ref 0, .int y, .int u] hm = some (some (.int x2), hm') := c2
  have e := J_does E1 E2 (et_ty et_C (cs_I0 HL)) (et_ty et_M HL.2.2.2.1) (LQ_up HL.1 HL.2.2.2.2.2.2.2.1.1.2)
  cases e
  rfl
/-- still answers alike -/
theorem cs_still (HL : cs_L W hc hm) (hn : xs.length = 1) (h : cs_R (fun _ _ => True) W 129 229 xs hc hm t) : cs_R (fun a b => a = b) W 129 229 xs hc hm t := by
  obtain ⟨y, rfl⟩ : ∃ y : Int32, xs = [y] := by
    match xs, hn with
    | [y], _ => exact ⟨y, rfl⟩
  obtain ⟨x1, x2, hc', hm', c1, c2, HL', -⟩ := h
  refine ⟨x1, x2, hc', hm', c1, c2, HL', ?_⟩
  have E1 : ri_calE ri_md (26 + 4) 129 [.ref 0, .int y] (hc ++ t) = some (some (.int x1), hc' ++ t) := c1
  have E2 : ri_calE ri_md (23 + 7) 229 [.ref 0, .int y] hm = some (some (.int x2), hm') := c2
  have e := J_still E1 E2 (et_ty et_C (cs_I0 HL)) (et_ty et_M HL.2.2.2.1) (LQ_up HL.1 HL.2.2.2.2.2.2.2.1.1.2)
  cases e
  rfl
/-- learnt answers alike, and leaves GQ -/
def cs_lnk (X Y : sx_X) : Bool := (cg_ct 1 X && cg_ct 3 X) && ((cg_ct 1 Y && cg_ct 6 Y) && ((cs_lc X && cs_lr Y) && ((cs_nc X && cs_nr Y) && (cs_fk X && cs_fk Y))))
theorem cs_lrnQ {X Y : sx_X} {x1 x2 : Int32} {hc' hm' : ri_H} (HL : cs_L W hc hm) (hW : cs_l ∈ W) (q0 : cs_lnk X Y = true) (l2 : hc'.length = 209) (c1 : ri_calE ri_md 30 121 [.ref 0] (hc ++ t) = some (some (.int x1), hc' ++ t)) (c2 : ri_calE ri_md 30 219 [.ref 0] hm = some (some (.int x2), hm')) (K1 : ∀ (k : Nat) (i : Int), k < 209 → cg_kp k i X = true → sx_at hc' k i = sx_at hc k i) (K2 : ∀ (k : Nat) (i : Int), cg_kp k i Y = true → sx_at hm' k i = sx_at hm k i) : x1 = x2 ∧ cs_Q hc' hm' := by
  have E1 : ri_calE ri_md (24 + 6) 121 [.ref 0] (hc ++ t) = some (some (.int x1), hc' ++ t) := c1
  have E2 : ri_calE ri_md (24 + 6) 219 [.ref 0] hm = some (some (.int x2), hm') := c2
  obtain ⟨y, y1, y2, y3, y4⟩ := cs_len HL hW
  obtain ⟨n, n9, rfl⟩ := nI_940 y3 y4
  have l1 := HL.1
  unfold cs_lnk at q0
  simp only [Bool.and_eq_true] at q0
  obtain ⟨⟨a1, a3⟩, ⟨b1, b6⟩, ⟨ql, qr⟩, ⟨qn, qr'⟩, qf, qf'⟩ := q0
  have g0 : GQ (eh_V (hc ++ t)) (eh_V hm) := GQ_kp HL.2.2.2.2.2.2.2.1.1.1.2.2.2 (fun i _ => ei_ap l1 (by decide)) (fun _ _ _ => rfl)
  obtain ⟨z1, z2⟩ := J_learnt (N := n) E1 E2 (et_ty et_C (cs_I0 HL)) (et_ty et_M HL.2.2.2.1) (nc_C (cs_I0 HL)) (LQ_up HL.1 HL.2.2.2.2.2.2.2.1.1.2) n9 (ei_at (h := hc ++ t) (i := 1) (by rw [cs_at (h := hc) (List.getElem?_append_left (by omega))]; exact y1)) (ei_at (i := 2) y2) (fun i hi => by
    obtain ⟨y, u1, u2⟩ := HL.2.2.2.2.2.2.2.1.1.1.1 i hi
    rw [ei_at (h := hc ++ t) (k := 1) (i := i) (x := y) (by rw [cs_at (h := hc) (List.getElem?_append_left (by omega))]; exact u1), ei_at u2]) (fun i hi => by
    obtain ⟨w, w1, w2, w3⟩ := by_at (c := (14, [(940, 0, (-128), 127)])) HL.2.2.2.1 rfl rfl hi
    rw [ei_at w1]
    exact ⟨w2, w3⟩) g0
  cases z1
  refine ⟨rfl, ⟨⟨⟨fun i hi => ?_, fun k hk => ?_, fun k hk => ?_, GQ_kp z2 (fun i _ => (ei_ap l2 (by decide)).symm) (fun _ _ _ => rfl)⟩, LQ_frm qr (LQ_frc ql HL.2.2.2.2.2.2.2.1.1.2 K1) K2⟩, NQ_frm qr qr' (NQ_frc qn HL.2.2.2.2.2.2.2.1.2 K1) K2⟩, FQ_frm qf' (FQ_frc qf HL.2.2.2.2.2.2.2.2 K1) K2⟩
  · obtain ⟨y, u1, u2⟩ := HL.2.2.2.2.2.2.2.1.1.1.1 i hi
    exact ⟨y, by rw [K1 _ _ (by decide) (cg_ct_kp a1 _)]; exact u1, by rw [K2 _ _ (cg_ct_kp b1 _)]; exact u2⟩
  · rw [K1 _ _ (by decide) (cg_ct_kp a3 _)]
    exact HL.2.2.2.2.2.2.2.1.1.1.2.1 k hk
  · rw [K2 _ _ (cg_ct_kp b6 _)]
    exact HL.2.2.2.2.2.2.2.1.1.1.2.2.1 k hk
theorem cs_surely (HL : cs_L W hc hm) (hn : xs.length = 0) (h : cs_R (fun _ _ => True) W 122 220 xs hc hm t) : cs_R (fun a b => a = b) W 122 220 xs hc hm t := by
  obtain rfl := List.length_eq_zero_iff.mp hn
  obtain ⟨x1, x2, hc', hm', c1, c2, HL', -⟩ := h
  refine ⟨x1, x2, hc', hm', c1, c2, HL', ?_⟩
  have E1 : ri_calE ri_md (29 + 1) 122 [.ref 0] (hc ++ t) = some (some (.int x1), hc' ++ t) := c1
  have E2 : ri_calE ri_md (29 + 1) 220 [.ref 0] hm = some (some (.int x2), hm') := c2
  have e := J_surely E1 E2 (et_ty et_C (cs_I0 HL)) (et_ty et_M HL.2.2.2.1) (GQ_kp HL.2.2.2.2.2.2.2.1.1.1.2.2.2 (fun i _ => ei_ap HL.1 (by decide)) (fun _ _ _ => rfl))
  cases e
  rfl
theorem cs_never (HL : cs_L W hc hm) (hn : xs.length = 0) (h : cs_R (fun _ _ => True) W 123 221 xs hc hm t) : cs_R (fun a b => a = b) W 123 221 xs hc hm t := by
  obtain rfl := List.length_eq_zero_iff.mp hn
  obtain ⟨x1, x2, hc', hm', c1, c2, HL', -⟩ := h
  refine ⟨x1, x2, hc', hm', c1, c2, HL', ?_⟩
  have E1 : ri_calE ri_md (29 + 1) 123 [.ref 0] (hc ++ t) = some (some (.int x1), hc' ++ t) := c1
  have E2 : ri_calE ri_md (29 + 1) 221 [.ref 0] hm = some (some (.int x2), hm') := c2
  have e := J_never E1 E2 (et_ty et_C (cs_I0 HL)) (et_ty et_M HL.2.2.2.1) (GQ_kp HL.2.2.2.2.2.2.2.1.1.1.2.2.2 (fun i _ => ei_ap HL.1 (by decide)) (fun _ _ _ => rfl))
  cases e
  rfl
theorem cs_ask (HL : cs_L W hc hm) (hn : xs.length = 0) (h : cs_R (fun _ _ => True) W 124 222 xs hc hm t) : cs_R (fun a b => a = b) W 124 222 xs hc hm t := by
  obtain rfl := List.length_eq_zero_iff.mp hn
  obtain ⟨x1, x2, hc', hm', c1, c2, HL', -⟩ := h
  refine ⟨x1, x2, hc', hm', c1, c2, HL', ?_⟩
  have E1 : ri_calE ri_md (29 + 1) 124 [.ref 0] (hc ++ t) = some (some (.int x1), hc' ++ t) := c1
  have E2 : ri_calE ri_md (29 + 1) 222 [.ref 0] hm = some (some (.int x2), hm') := c2
  have e := J_ask E1 E2 (et_ty et_C (cs_I0 HL)) (et_ty et_M HL.2.2.2.1) (GQ_kp HL.2.2.2.2.2.2.2.1.1.1.2.2.2 (fun i _ => ei_ap HL.1 (by decide)) (fun _ _ _ => rfl))
  cases e
  rfl
/-- sentence answers alike, and leaves the FAULT alike -/
theorem cs_sentQ {X Y : sx_X} {x1 x2 : Int32} {hc' hm' : ri_H} (HL : cs_L W hc hm) (hW : cs_l ∈ W) (q0 : cs_q2k X Y = true) (l2 : hc'.length = 209) (c1 : ri_calE ri_md 30 139 [.ref 0] (hc ++ t) = some (some (.int x1), hc' ++ t)) (c2 : ri_calE ri_md 30 248 [.ref 0] hm = some (some (.int x2), hm')) (K1 : ∀ (k : Nat) (i : Int), k < 209 → cg_kp k i X = true → sx_at hc' k i = sx_at hc k i) (K2 : ∀ (k : Nat) (i : Int), cg_kp k i Y = true → sx_at hm' k i = sx_at hm k i) : x1 = x2 ∧ cs_Q hc' hm' := by
  have E1 : ri_calE ri_md (5 + 25) 139 [.ref 0] (hc ++ t) = some (some (.int x1), hc' ++ t) := c1
  have E2 : ri_calE ri_md (24 + 6) 248 [.ref 0] hm = some (some (.int x2), hm') := c2
  obtain ⟨y, y1, y2, y3, y4⟩ := cs_len HL hW
  obtain ⟨n, n9, rfl⟩ := nI_940 y3 y4
  have l1 := HL.1
  have bt : ∀ {k : Nat} {i : Int}, k < 209 → sx_at (hc ++ t) k i = sx_at hc k i := fun {k i} hk => cs_at (List.getElem?_append_left (by omega)) i
  obtain ⟨q, N⟩ := NS_of (LQ_up (t := t) l1 HL.2.2.2.2.2.2.2.1.1.2) (NQ_up l1 HL.2.2.2.2.2.2.2.1.2)
  have e := J_sent E1 E2 (et_ty et_C (cs_I0 HL)) (et_ty et_M HL.2.2.2.1) (nc_C (cs_I0 HL)) (n := n) (ei_at (i := 1) ((bt (by decide)).trans y1)) (ei_at (i := 2) y2) n9 (fun i hi => by
    obtain ⟨y, u1, u2⟩ := HL.2.2.2.2.2.2.2.1.1.1.1 i hi
    rw [ei_at (h := hc ++ t) (k := 1) (i := i) (x := y) ((bt (by decide)).trans u1), ei_at u2]) (fun i hi => by
    obtain ⟨w, w1, w2, w3⟩ := by_at (c := (14, [(940, 0, (-128), 127)])) HL.2.2.2.1 rfl rfl hi
    rw [ei_at w1]
    exact ⟨w2, w3⟩) (fun k hk => el_at ((bt (by decide)).trans (HL.2.2.2.2.2.2.2.1.1.1.2.1 k hk))) (fun k hk => el_at (HL.2.2.2.2.2.2.2.1.1.1.2.2.1 k hk)) N
  obtain ⟨e1, e2⟩ := e
  cases e1
  exact ⟨rfl, cs_Q2_fr q0 HL.2.2.2.2.2.2.2.1 K1 K2, FQ_dn l2 e2⟩
/-- diary leaves the FAULT alike -/
theorem ky_C : kc_G[0]?.map Prod.fst = some 11 ∧ km_G[0]?.map Prod.fst = some 12 ∧ km_G[2]?.map (fun c => sx_len c.2) = some 355 := by decide +kernel
theorem ky_at {G : sx_G} {h : ri_H} {T k : Nat} (H : sx_Inv G h) (e : G[k]?.map Prod.fst = some T) : ∃ c : ri_C, h[k]? = some c ∧ c.1 = T := by
  cases hc : G[k]? with
  | none => rw [hc] at e; cases e
  | some c =>
    rw [hc] at e
    obtain ⟨vs, h1, -⟩ := H k c hc
    exact ⟨_, h1, Option.some.inj e⟩
theorem ky_len {G : sx_G} {h : ri_H} {n k : Nat} (H : sx_Inv G h) (e : G[k]?.map (fun c => sx_len c.2) = some n) (hn : 0 < n) : ∃ v, eh_V h k 0 = some v := by
  cases hc : G[k]? with
  | none => rw [hc] at e; cases e
  | some c =>
    rw [hc] at e
    have e : sx_len c.2 = n := Option.some.inj e
    obtain ⟨vs, h1, h2, -⟩ := H k c hc
    have hl : 0 < vs.length := by omega
    refine ⟨vs[0]'hl, ?_⟩
    unfold eh_V
    rw [h1]
    exact List.getElem?_eq_getElem hl
theorem cs_diaQ {X Y : sx_X} {y x1 x2 : Int32} {hc' hm' : ri_H} (HL : cs_L W hc hm) (hW : cs_l ∈ W) (q0 : cs_q2k X Y = true) (l2 : hc'.length = 209) (c1 : ri_calE ri_md 30 137 [.ref 0, .int y] (hc ++ t) = some (some (.int x1), hc' ++ t)) (c2 : ri_calE ri_md 30 240 [.ref 0, .int y] hm = some (some (.int x2), hm')) (K1 : ∀ (k : Nat) (i : Int), k < 209 → cg_kp k i X = true → sx_at hc' k i = sx_at hc k i) (K2 : ∀ (k : Nat) (i : Int), cg_kp k i Y = true → sx_at hm' k i = sx_at hm k i) : cs_Q hc' hm' := by
  have E1 : ri_calE ri_md (23 + 7) 137 [.ref 0, .int y] (hc ++ t) = some (some (.int x1), hc' ++ t) := c1
  have E2 : ri_calE ri_md (25 + 5) 240 [.ref 0, .int y] hm = some (some (.int x2), hm') := c2
  obtain ⟨y', y1, y2, y3, y4⟩ := cs_len HL hW
  obtain ⟨n, n9, rfl⟩ := nI_940 y3 y4
  have l1 := HL.1
  have bt : ∀ {k : Nat} {i : Int}, k < 209 → sx_at (hc ++ t) k i = sx_at hc k i := fun {k i} hk => cs_at (List.getElem?_append_left (by omega)) i
  obtain ⟨q, N⟩ := NS_of (LQ_up (t := t) l1 HL.2.2.2.2.2.2.2.1.1.2) (NQ_up l1 HL.2.2.2.2.2.2.2.1.2)
  obtain ⟨cc, kc1, kc2⟩ := ky_at (cs_I0 (t := t) HL) ky_C.1
  obtain ⟨cm, km1, km2⟩ := ky_at HL.2.2.2.1 ky_C.2.1
  have e := J_diary E1 E2 (et_ty et_C (cs_I0 HL)) (et_ty et_M HL.2.2.2.1) (nc_C (cs_I0 HL)) (n := n) (ei_at (i := 1) ((bt (by decide)).trans y1)) (ei_at (i := 2) y2) n9 (fun i hi => by
    obtain ⟨y, u1, u2⟩ := HL.2.2.2.2.2.2.2.1.1.1.1 i hi
    rw [ei_at (h := hc ++ t) (k := 1) (i := i) (x := y) ((bt (by decide)).trans u1), ei_at u2]) (fun i hi => by
    obtain ⟨w, w1, w2, w3⟩ := by_at (c := (14, [(940, 0, (-128), 127)])) HL.2.2.2.1 rfl rfl hi
    rw [ei_at w1]
    exact ⟨w2, w3⟩) (fun k hk => el_at ((bt (by decide)).trans (HL.2.2.2.2.2.2.2.1.1.1.2.1 k hk))) (fun k hk => el_at (HL.2.2.2.2.2.2.2.1.1.1.2.2.1 k hk)) N (FQ_up l1 HL.2.2.2.2.2.2.2.2) kc1 kc2 km1 km2 (ky_len HL.2.2.2.1 ky_C.2.2 (by decide))
  exact ⟨cs_Q2_fr q0 HL.2.2.2.2.2.2.2.1 K1 K2, FQ_dn l2 e⟩
/-- fault answers alike -/
theorem cs_fault (HL : cs_L W hc hm) (hn : xs.length = 0) (h : cs_R (fun _ _ => True) W 106 173 xs hc hm t) : cs_R (fun a b => a = b) W 106 173 xs hc hm t := by
  obtain rfl := List.length_eq_zero_iff.mp hn
  obtain ⟨x1, x2, hc', hm', c1, c2, HL', -⟩ := h
  refine ⟨x1, x2, hc', hm', c1, c2, HL', ?_⟩
  have E1 : ri_calE ri_md (29 + 1) 106 [.ref 0] (hc ++ t) = some (some (.int x1), hc' ++ t) := c1
  have E2 : ri_calE ri_md (29 + 1) 173 [.ref 0] hm = some (some (.int x2), hm') := c2
  obtain ⟨r1, -⟩ := zf_106 E1 rfl (et_ty et_C (cs_I0 HL))
  obtain ⟨r2, -⟩ := zf_173 E2 rfl (et_ty et_M HL.2.2.2.1)
  cases r1
  cases r2
  exact FQ_up HL.1 HL.2.2.2.2.2.2.2.2
theorem cs_feed (hW : cs_l ∈ W) (hr : cs_rest W ka_1 kb_1 = true) (HL : cs_L W hc hm) (V1 : sx_Vd kc_G (sx_Jg kc_gd) ri_md ka_1) (V2 : sx_Vd km_G (mj_J km_gd) ri_md kb_1) (k1 : cg_ok cs_jc 209 101 5 ka_1 = true) (k2 : cg_ok cs_jm 18 145 5 kb_1 = true) (b1 : ri_bud ri_md 101 = some (0, 0)) (b2 : ri_bud ri_md 145 = some (0, 0)) (q3 : cg_ct 3 ka_1 = true) (q6 : cg_ct 6 kb_1 = true) (ql : cs_lc ka_1 = true) (qr : cs_lr kb_1 = true) (qg : cs_gc ka_1 = true) (qh : cs_gm kb_1 = true) (qn : cs_nc ka_1 = true) (qr' : cs_nr kb_1 = true) (qf : cs_fk ka_1 = true) (qf' : cs_fk kb_1 = true) (hn : xs.length = 5) : cs_R (fun a b => a = b) W 101 145 xs hc hm t := by
  obtain ⟨y, y1, y2, y3, y4⟩ := cs_len HL hW
  have l1 := HL.1
  have hp5 : (xs.map Int32.toInt ++ [y.toInt])[5]? = some y.toInt := cs_map3 hn
  have hP := cs_iv (xs := xs) hn y3 y4
  obtain ⟨x1, hc', a1, a2, a3, a4, ⟨ex1, a5, e1, a6⟩, a7⟩ := cs_cls (t := t) HL V1 k1 b1 hn (p := xs.map Int32.toInt ++ [y.toInt]) cs_map2 hP (cs_oh hp5 (by rw [cs_at (h := hc) (List.getElem?_append_left (by omega))]; exact y1))
  obtain ⟨x2, hm', c1, c2, c3, c4, ⟨ex2, c5, e2, c6⟩, c7⟩ := cs_mdl HL V2 k2 b2 hn (p := xs.map Int32.toInt ++ [y.toInt]) cs_map2 hP (cs_oh hp5 y2)
  obtain ⟨z, z1, z2⟩ := cf_out (i := 1) (js := cs_jc) hp5 a5 a6
  obtain ⟨z', w1, w2⟩ := cf_out (i := 2) (js := cs_jm) hp5 c5 c6
  rw [cs_at (h := hc') (List.getElem?_append_left (by omega))] at z1
  have ez : z = z' := Int32.toInt_inj.mp (by omega)
  have exx : x1 = x2 := Int32.toInt_inj.mp (by omega)
  subst ez
  exact ⟨x1, x2, hc', hm', a1, c1, ⟨a2, a3, a4, c2, c3, cs_w HL hr z1 w1 a7 c7, c4, cs_Qf HL hW hn a1 a2 c1 a3 c2 q3 q6 ql qr qg qh qn qr' qf qf' a7 c7⟩, exx⟩
theorem cs_end (hW : cs_l ∈ W) (hr : cs_rest W ka_2 kb_2 = true) (HL : cs_L W hc hm) (V1 : sx_Vd kc_G (sx_Jg kc_gd) ri_md ka_2) (V2 : sx_Vd km_G (mj_J km_gd) ri_md kb_2) (k1 : cg_ok cs_jc 209 103 1 ka_2 = true) (k2 : cg_ok cs_jm 18 147 1 kb_2 = true) (b1 : ri_bud ri_md 103 = some (0, 0)) (b2 : ri_bud ri_md 147 = some (0, 0)) (q0 : cs_qk ka_2 kb_2 = true) (hn : xs.length = 1) : cs_R (fun a b => a = b) W 103 147 xs hc hm t := by
  obtain ⟨y, y1, y2, y3, y4⟩ := cs_len HL hW
  have l1 := HL.1
  obtain ⟨n, hn0⟩ : ∃ n : Int32, xs[0]? = some n := ⟨xs[0]'(by omega), List.getElem?_eq_getElem (by omega)⟩
  have hp5 : (xs.map Int32.toInt ++ [y.toInt])[1]? = some y.toInt := cs_map3 hn
  have hp0 : (xs.map Int32.toInt ++ [y.toInt])[0]? = some n.toInt := cs_map2 0 n hn0
  have hP := cs_iv (xs := xs) hn y3 y4
  obtain ⟨x1, hc', a1, a2, a3, a4, ⟨ex1, a5, e1, a6⟩, a7⟩ := cs_cls (t := t) HL V1 k1 b1 hn (p := xs.map Int32.toInt ++ [y.toInt]) cs_map2 hP (cs_oh hp5 (by rw [cs_at (h := hc) (List.getElem?_append_left (by omega))]; exact y1))
  obtain ⟨x2, hm', c1, c2, c3, c4, ⟨ex2, c5, e2, c6⟩, c7⟩ := cs_mdl HL V2 k2 b2 hn (p := xs.map Int32.toInt ++ [y.toInt]) cs_map2 hP (cs_oh hp5 y2)
  obtain ⟨z, z1, z2⟩ := ce_out (i := 1) (js := cs_jc) hp0 hp5 a5 a6
  obtain ⟨z', w1, w2⟩ := ce_out (i := 2) (js := cs_jm) hp0 hp5 c5 c6
  rw [cs_at (h := hc') (List.getElem?_append_left (by omega))] at z1
  have ez : z = z' := Int32.toInt_inj.mp (by omega)
  have exx : x1 = x2 := Int32.toInt_inj.mp (by omega)
  subst ez
  exact ⟨x1, x2, hc', hm', a1, c1, ⟨a2, a3, a4, c2, c3, cs_w HL hr z1 w1 a7 c7, c4, cs_Q_fr q0 HL.2.2.2.2.2.2.2 a7 c7⟩, exx⟩
end CSF
