/-! both sides of a case of the law, over lists -/
def cs_jc : List Nat := [0, 1, 2, 3, 4, 5, 6, 7, 8, 9]
def cs_jm : List Nat := [0, 1, 4, 5, 6, 7, 8, 9, 10]
abbrev cs_W : Type := List ((Nat × Int) × (Nat × Int))
/-- what holds of the class's cells and of the reference's between two calls; slots named in W are alike -/
def cs_L (W : cs_W) (hc hm : ri_H) : Prop := hc.length = 209 ∧ sx_Inv kc_G hc ∧ (∀ j ∈ cs_jc, sx_Jg kc_gd j hc) ∧ sx_Inv km_G hm ∧ (∀ j ∈ cs_jm, mj_J km_gd j hm) ∧ (∀ t ∈ W, cg_Tw t hc hm) ∧ (∃ v : Int64, hm[18]? = some (15, [.long v])) ∧ cs_Q hc hm
theorem cs_at {h h' : ri_H} {k : Nat} (e : h'[k]? = h[k]?) (i : Int) : sx_at h' k i = sx_at h k i := by
  unfold sx_at
  rw [e]
theorem cs_inv {G : sx_G} {h h' : ri_H} (hk : ∀ k, k < G.length → h'[k]? = h[k]?) (H : sx_Inv G h) : sx_Inv G h' := fun k c hc => by
  rw [hk k (List.getElem?_eq_some_iff.mp hc).1]
  exact H k c hc
theorem cs_dep : cs_jc.all (fun j => ((sx_dpg kc_gd).1 j).all (fun d => Nat.blt d.1 209)) = true ∧ kc_G.length = 209 := by decide +kernel
theorem cs_J {h h' : ri_H} (hk : ∀ k, k < 209 → h'[k]? = h[k]?) {j : Nat} (hj : j ∈ cs_jc) (H : sx_Jg kc_gd j h) : sx_Jg kc_gd j h' :=
  (sx_HJg kc_G kc_gd).1 j h h' (fun d hd i _ _ => cs_at (hk d.1 (Nat.blt_eq.mp (List.all_eq_true.mp (List.all_eq_true.mp cs_dep.1 j hj) d hd))) i) H
theorem cs_split {hc t h' : ri_H} (hl : hc.length = 209) (hlen : h'.length = (hc ++ t).length) (hfar : ∀ k, 209 ≤ k → h'[k]? = (hc ++ t)[k]?) : ∃ hc' : ri_H, hc'.length = 209 ∧ h' = hc' ++ t := by
  have e : h'.drop 209 = t := by
    apply List.ext_getElem?
    intro k
    rw [List.getElem?_drop, hfar _ (by omega), List.getElem?_append_right (by omega), hl, show 209 + k - 209 = k by omega]
  refine ⟨h'.take 209, ?_, ?_⟩
  · rw [List.length_take, hlen, List.length_append]
    omega
  · rw [← e, List.take_append_drop]
theorem cs_kl {h h' : ri_H} (hk : ri_kd h' = ri_kd h) : h'.length = h.length := by
  have := congrArg List.length hk
  unfold ri_kd at this
  rw [List.length_map, List.length_map] at this
  exact this
section CSP
variable {W : cs_W} {X Y : sx_X} {j j1 j2 n : Nat} {hc hm t : ri_H} {p : List Int} {xs : List Int32}
theorem cs_cls (HL : cs_L W hc hm) (V : sx_Vd kc_G (sx_Jg kc_gd) ri_md X) (k1 : cg_ok cs_jc 209 j n X = true) (b1 : ri_bud ri_md j = some (0, 0)) (hn : xs.length = n) (hp : ∀ (i : Nat) (x : Int32), xs[i]? = some x → p[i]? = some x.toInt) (hP : sx_P X.1.2.1.2.2.2.1 p) (hov : ∀ o ∈ X.1.2.1.2.2.1, sx_oh p (hc ++ t) o) :
    ∃ (x : Int32) (hc' : ri_H), ri_calE ri_md 30 j (.ref 0 :: xs.map Value.int) (hc ++ t) = some (some (.int x), hc' ++ t) ∧ hc'.length = 209 ∧ sx_Inv kc_G hc' ∧ (∀ i ∈ cs_jc, sx_Jg kc_gd i hc') ∧ (∃ ex ∈ X.1.2.2.1, ∃ e, sx_S kc_G (sx_Jg kc_gd) (p ++ e) ex [] [.int x] (hc' ++ t)) ∧ (∀ (k : Nat) (i : Int), k < 209 → cg_kp k i X = true → sx_at hc' k i = sx_at hc k i) := by
  obtain ⟨l1, l2, l3, -⟩ := HL
  have hap : ∀ (u : ri_H), u.length = 209 → ∀ k, k < 209 → (u ++ t)[k]? = u[k]? := fun u hu k hk => List.getElem?_append_left (by omega)
  obtain ⟨x, h', c1, c2, c3, c4, c5⟩ := cg_call (d := 30) V k1 (Nat.le_refl _) hn hp hP hov (cs_inv (fun k hk => hap hc l1 k (by rw [cs_dep.2] at hk; exact hk)) l2) (fun i hi => cs_J (fun k hk => hap hc l1 k hk) hi (l3 i hi))
  have hkd : ri_kd h' = ri_kd (hc ++ t) := kd_calE 30 _ _ _ _ _ c1 0 b1
  obtain ⟨hc', e1, rfl⟩ := cs_split (t := t) l1 (cs_kl hkd) (fun k hk => kd_cell hkd (fun i => cg_far k1 c5 hk i))
  refine ⟨x, hc', c1, e1, cs_inv (fun k hk => (hap hc' e1 k (by rw [cs_dep.2] at hk; exact hk)).symm) c2, fun i hi => cs_J (fun k hk => (hap hc' e1 k hk).symm) hi (c3 i hi), c4, fun k i hk hkp => ?_⟩
  have := cg_keep k1 c5 hkp
  rw [cs_at (hap hc' e1 k hk), cs_at (hap hc l1 k hk)] at this
  exact this
theorem cs_mdl (HL : cs_L W hc hm) (V : sx_Vd km_G (mj_J km_gd) ri_md Y) (k1 : cg_ok cs_jm 18 j n Y = true) (b1 : ri_bud ri_md j = some (0, 0)) (hn : xs.length = n) (hp : ∀ (i : Nat) (x : Int32), xs[i]? = some x → p[i]? = some x.toInt) (hP : sx_P Y.1.2.1.2.2.2.1 p) (hov : ∀ o ∈ Y.1.2.1.2.2.1, sx_oh p hm o) :
    ∃ (x : Int32) (hm' : ri_H), ri_calE ri_md 30 j (.ref 0 :: xs.map Value.int) hm = some (some (.int x), hm') ∧ sx_Inv km_G hm' ∧ (∀ i ∈ cs_jm, mj_J km_gd i hm') ∧ (∃ v : Int64, hm'[18]? = some (15, [.long v])) ∧ (∃ ex ∈ Y.1.2.2.1, ∃ e, sx_S km_G (mj_J km_gd) (p ++ e) ex [] [.int x] hm') ∧ (∀ (k : Nat) (i : Int), cg_kp k i Y = true → sx_at hm' k i = sx_at hm k i) := by
  obtain ⟨-, -, -, l4, l5, -, ⟨v, l7⟩, -⟩ := HL
  obtain ⟨x, h', c1, c2, c3, c4, c5⟩ := cg_call (d := 30) V k1 (Nat.le_refl _) hn hp hP hov l4 l5
  have hkd : ri_kd h' = ri_kd hm := kd_calE 30 _ _ _ _ _ c1 0 b1
  exact ⟨x, h', c1, c2, c3, ⟨v, by rw [kd_cell hkd (fun i => cg_far k1 c5 (Nat.le_refl 18) i)]; exact l7⟩, c4, fun k i hkp => cg_keep k1 c5 hkp⟩
/-- a case: both calls end, what holds between calls holds again, the answers are as R says -/
def cs_R (R : Int32 → Int32 → Prop) (W : cs_W) (j1 j2 : Nat) (xs : List Int32) (hc hm t : ri_H) : Prop := ∃ (x1 x2 : Int32) (hc' hm' : ri_H), ri_calE ri_md 30 j1 (.ref 0 :: xs.map Value.int) (hc ++ t) = some (some (.int x1), hc' ++ t) ∧ ri_calE ri_md 30 j2 (.ref 0 :: xs.map Value.int) hm = some (some (.int x2), hm') ∧ cs_L W hc' hm' ∧ R x1 x2
theorem cs_map (i : Nat) (x : Int32) (h : xs[i]? = some x) : (xs.map Int32.toInt)[i]? = some x.toInt := by
  rw [List.getElem?_map, h]
  rfl
theorem cs_tws {X Y : sx_X} {w : (Nat × Int) × (Nat × Int)} {hc' hm' : ri_H} {p1 p2 : List Int} {ex1 ex2 : sx_A} {s1 s2 : List Value} (hw : cg_tw w X Y = true) (h0 : cg_Tw w hc hm) (w209 : w.1.1 < 209) (l' : hc'.length = 209) (x1 : ex1 ∈ X.1.2.2.1) (S1 : sx_S kc_G (sx_Jg kc_gd) p1 ex1 [] s1 (hc' ++ t)) (x2 : ex2 ∈ Y.1.2.2.1) (S2 : sx_S km_G (mj_J km_gd) p2 ex2 [] s2 hm') (K1 : ∀ (k : Nat) (i : Int), k < 209 → cg_kp k i X = true → sx_at hc' k i = sx_at hc k i) (K2 : ∀ (k : Nat) (i : Int), cg_kp k i Y = true → sx_at hm' k i = sx_at hm k i) : cg_Tw w hc' hm' := by
  unfold cg_tw at hw
  rcases (Bool.or_eq_true _ _).mp hw with q | q
  · simp only [Bool.and_eq_true] at q
    obtain ⟨y, y1, y2⟩ := h0
    exact ⟨y, by rw [K1 _ _ w209 q.1]; exact y1, by rw [K2 _ _ q.2]; exact y2⟩
  · obtain ⟨c, -, q⟩ := List.any_eq_true.mp q
    simp only [Bool.and_eq_true] at q
    obtain ⟨y1, g1, e1⟩ := cg_const q.1 x1 S1
    obtain ⟨y2, g2, e2⟩ := cg_const q.2 x2 S2
    have e : y1 = y2 := Int32.toInt_inj.mp (e1.trans e2.symm)
    subst e
    rw [cs_at (h := hc') (List.getElem?_append_left (by omega))] at g1
    exact ⟨y1, g1, g2⟩
def cs_ok0 (W : cs_W) (j1 j2 n : Nat) (X Y : sx_X) : Bool := cg_ok cs_jc 209 j1 n X && (cg_ok cs_jm 18 j2 n Y && (decide (ri_bud ri_md j1 = some (0, 0)) && (decide (ri_bud ri_md j2 = some (0, 0)) && (X.1.2.1.2.2.1.isEmpty && (Y.1.2.1.2.2.1.isEmpty && (decide (X.1.2.1.2.2.2.1 = Y.1.2.1.2.2.2.1) && W.all (fun w => Nat.blt w.1.1 209 && cg_tw w X Y)))))))
theorem cs_pairQ (HL : cs_L W hc hm) (V1 : sx_Vd kc_G (sx_Jg kc_gd) ri_md X) (V2 : sx_Vd km_G (mj_J km_gd) ri_md Y) (hok : cs_ok0 W j1 j2 n X Y = true) (hn : xs.length = n) (hP : sx_P X.1.2.1.2.2.2.1 (xs.map Int32.toInt)) (R : Int32 → Int32 → Prop) (hQ : ∀ (x1 x2 : Int32) (hc' hm' : ri_H), hc'.length = 209 → ri_calE ri_md 30 j1 (.ref 0 :: xs.map Value.int) (hc ++ t) = some (some (.int x1), hc' ++ t) → ri_calE ri_md 30 j2 (.ref 0 :: xs.map Value.int) hm = some (some (.int x2), hm') → (∀ (k : Nat) (i : Int), k < 209 → cg_kp k i X = true → sx_at hc' k i = sx_at hc k i) → (∀ (k : Nat) (i : Int), cg_kp k i Y = true → sx_at hm' k i = sx_at hm k i) → R x1 x2 ∧ cs_Q hc' hm') : cs_R R W j1 j2 xs hc hm t := by
  unfold cs_ok0 at hok
  simp only [Bool.and_eq_true, decide_eq_true_eq] at hok
  obtain ⟨o1, o2, o3, o4, o5, o6, o7, o8⟩ := hok
  have o5 := List.isEmpty_iff.mp o5
  have o6 := List.isEmpty_iff.mp o6
  obtain ⟨x1, hc', a1, a2, a3, a4, ⟨ex1, a5, e1, a6⟩, a7⟩ := cs_cls (t := t) HL V1 o1 o3 hn (p := xs.map Int32.toInt) cs_map hP (by rw [o5]; exact fun o ho => absurd ho List.not_mem_nil)
  obtain ⟨x2, hm', b1, b2, b3, b4, ⟨ex2, b5, e2, b6⟩, b7⟩ := cs_mdl HL V2 o2 o4 hn (p := xs.map Int32.toInt) cs_map (by rw [← o7]; exact hP) (by rw [o6]; exact fun o ho => absurd ho List.not_mem_nil)
  refine ⟨x1, x2, hc', hm', a1, b1, ⟨a2, a3, a4, b2, b3, fun w hw => ?_, b4, (hQ x1 x2 hc' hm' a2 a1 b1 a7 b7).2⟩, (hQ x1 x2 hc' hm' a2 a1 b1 a7 b7).1⟩
  have q := List.all_eq_true.mp o8 w hw
  simp only [Bool.and_eq_true, Nat.blt_eq] at q
  exact cs_tws q.2 (HL.2.2.2.2.2.1 w hw) q.1 a2 a5 a6 b5 b6 a7 b7
def cs_ok (W : cs_W) (j1 j2 n : Nat) (X Y : sx_X) : Bool := cs_qk X Y && cs_ok0 W j1 j2 n X Y
theorem cs_pair (HL : cs_L W hc hm) (V1 : sx_Vd kc_G (sx_Jg kc_gd) ri_md X) (V2 : sx_Vd km_G (mj_J km_gd) ri_md Y) (hok : cs_ok W j1 j2 n X Y = true) (hn : xs.length = n) (hP : sx_P X.1.2.1.2.2.2.1 (xs.map Int32.toInt)) : cs_R (fun _ _ => True) W j1 j2 xs hc hm t := by
  unfold cs_ok at hok
  rw [Bool.and_eq_true] at hok
  exact cs_pairQ HL V1 V2 hok.2 hn hP _ (fun _ _ _ _ _ _ _ K1 K2 => ⟨trivial, cs_Q_fr hok.1 HL.2.2.2.2.2.2.2 K1 K2⟩)
end CSP
theorem cs_full : ∀ (xs : List Int32), sx_P (List.replicate xs.length ((-2147483648 : Int), (2147483647 : Int))) (xs.map Int32.toInt)
  | [] => trivial
  | x :: xs => ⟨⟨by have := Int32.le_toInt x; omega, by have := Int32.toInt_lt x; omega⟩, cs_full xs⟩
