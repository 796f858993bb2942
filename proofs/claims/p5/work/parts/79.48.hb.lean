/-! heightsBehind (class): as the LESSONS lie in the class's lake (cells 23 ..) -/
def LDc (P : Nat) (ku sz : Nat → Nat) (ce hi : Nat → Nat → Nat) (G : eh_W) : Prop := eh_i G 25 1 = nI P ∧ (∀ l, l < P → eh_i G 26 l = nI (ku l) ∧ eh_i G 28 l = nI (sz l) ∧ (∀ i, i < sz l → eh_i G 29 (8 * l + i) = nI (10 * ce l i + hi l i)) ∧ eh_i G 30 l = lv (fun i => eh_i G 29 (8 * l + i)) (sz l)) ∧ ∀ c, c < 6 → ∃ w, w < 256 ∧ eh_i G 27 c = nI w ∧ ∀ l, l < 8 → (Nat.testBit w l = true ↔ l < P ∧ ku l = c)
def xE (c sw P : Nat) (ku sz : Nat → Nat) (ce hi : Nat → Nat → Nat) (cu se : Int32) (G : eh_W) : Prop := cu = nI c ∧ se = nI sw ∧ sw < 256 ∧ c < 6 ∧ LDb P ku sz ce hi ∧ LDc P ku sz ce hi G
/-- all steps lie in the first w cells -/
def LDw (w P : Nat) (sz : Nat → Nat) (ce : Nat → Nat → Nat) : Prop := ∀ l, l < P → ∀ i, i < sz l → ce l i < w
theorem LD_of {q : Nat → Nat} {Gc Gm : eh_W} (h : LI q 23 2 0 Gc Gm) : ∃ ku sz ce hi, LDb (q 1) ku sz ce hi ∧ LDm (q 1) ku sz ce hi Gm ∧ LDc (q 1) ku sz ce hi Gc ∧ ∃ w, 1 ≤ w ∧ w ≤ 8 ∧ eh_i Gc 24 0 = nI w ∧ eh_i Gm 2 0 = nI w ∧ LDw w (q 1) sz ce := by
  obtain ⟨⟨d1, d2, d3, -⟩, ⟨s4, -⟩, ⟨b1, b2, b3⟩, -⟩ := h
  have d1 : eh_i Gc 24 0 = eh_i Gm 2 0 := d1
  have d2 : 1 ≤ (eh_i Gc 24 0).toInt := d2
  have d3 : (eh_i Gc 24 0).toInt ≤ 8 := d3
  obtain ⟨w, w1, w2⟩ := lx_back (x := eh_i Gc 24 0) (k := 8) (by omega) (by omega) (by omega)
  rw [w2] at d1 d2 d3
  rw [lx_i (by omega)] at d2 d3
  have e25 : eh_i Gc 25 1 = nI (q 1) := (s4 1 (by decide)).1
  have e4 : eh_i Gm 2 4 = nI (q 1) := (s4 1 (by decide)).2.1
  have q8 : q 1 ≤ 8 := (s4 1 (by decide)).2.2
  have k : ∀ l, l < q 1 → eh_i Gc 26 l = eh_i Gm 2 (10 + l) ∧ (∃ c, c < 6 ∧ eh_i Gc 26 l = nI c) ∧ ∃ s, s ≤ 8 ∧ eh_i Gc 28 l = nI s ∧ eh_i Gm 2 (18 + l) = nI s ∧ (∀ i, i < s → eh_i Gc 29 (8 * l + i) = eh_i Gm 2 (26 + 8 * l + i) ∧ ∃ ce hi : Nat, ce < 8 ∧ 1 ≤ hi ∧ hi ≤ 3 ∧ eh_i Gc 29 (8 * l + i) = nI (10 * ce + hi) ∧ (ce : Int) < (eh_i Gm 2 0).toInt) ∧ eh_i Gc 30 l = lv (fun i => eh_i Gc 29 (8 * l + i)) s := fun l hl => by
    obtain ⟨a, b, s, d, e, f, g, j⟩ := b1 l hl
    have a : eh_i Gc 26 l = eh_i Gm 2 (0 + (10 + l)) := a
    have f : eh_i Gm 2 (0 + (18 + l)) = nI s := f hl
    rw [Nat.zero_add] at a f
    refine ⟨a, b, s, d, e, f, fun i hi => ?_, j⟩
    obtain ⟨u, x⟩ := g i hi
    have u : eh_i Gc 29 (8 * l + i) = eh_i Gm 2 (0 + (26 + 8 * l + i)) := u
    rw [Nat.zero_add] at u
    exact ⟨u, x⟩
  have t : ∀ l i, l < q 1 → i < (eh_i Gc 28 l).toNatClampNeg → eh_i Gc 29 (8 * l + i) = nI (10 * ((eh_i Gc 29 (8 * l + i)).toNatClampNeg / 10) + (eh_i Gc 29 (8 * l + i)).toNatClampNeg % 10) ∧ (eh_i Gc 29 (8 * l + i)).toNatClampNeg / 10 < 8 ∧ (eh_i Gc 29 (8 * l + i)).toNatClampNeg % 10 < 4 ∧ (eh_i Gc 29 (8 * l + i)).toNatClampNeg / 10 < w := fun l i hl hi => by
    obtain ⟨-, -, s, d, e, -, g, -⟩ := k l hl
    rw [e, lx_cl (by omega)] at hi
    obtain ⟨-, ce, hi', x1, x2, x3, x4, x5⟩ := g i hi
    rw [← d1, lx_i (by omega)] at x5
    rw [x4, lx_cl (by omega)]
    exact ⟨congrArg nI (by omega), by omega, by omega, by omega⟩
  refine ⟨fun l => (eh_i Gc 26 l).toNatClampNeg, fun l => (eh_i Gc 28 l).toNatClampNeg, fun l i => (eh_i Gc 29 (8 * l + i)).toNatClampNeg / 10, fun l i => (eh_i Gc 29 (8 * l + i)).toNatClampNeg % 10, ⟨q8, fun l hl => ?_⟩, ⟨e4, fun l hl => ?_⟩, ⟨e25, fun l hl => ?_, fun c hc => ?_⟩, w, by omega, by omega, w2, d1.symm, fun l hl i hi => (t l i hl hi).2.2.2⟩
  · obtain ⟨-, ⟨c, c6, b⟩, s, d, e, -⟩ := k l hl
    refine ⟨by dsimp only; rw [b, lx_cl (by omega)]; exact c6, by dsimp only; rw [e, lx_cl (by omega)]; exact d, fun i hi => ⟨(t l i hl hi).2.1, (t l i hl hi).2.2.1⟩⟩
  · obtain ⟨a, ⟨c, c6, b⟩, s, d, e, f, g, -⟩ := k l hl
    refine ⟨?_, ?_, fun i hi => ?_⟩
    · dsimp only
      rw [← a, b, lx_cl (by omega)]
    · dsimp only
      rw [f, e, lx_cl (by omega)]
    · have hi2 : i < (eh_i Gc 28 l).toNatClampNeg := hi
      rw [e, lx_cl (by omega)] at hi2
      rw [← (g i hi2).1]
      exact (t l i hl hi).1
  · obtain ⟨a, ⟨c, c6, b⟩, s, d, e, f, g, j⟩ := k l hl
    refine ⟨?_, ?_, fun i hi => (t l i hl hi).1, ?_⟩
    · dsimp only
      rw [b, lx_cl (by omega)]
    · dsimp only
      rw [e, lx_cl (by omega)]
    · dsimp only
      rw [e, lx_cl (by omega)]
      exact j
  · obtain ⟨w, w1, w2, w3⟩ := b3 c hc
    have w2 : eh_i Gc 27 c = nI w := w2
    refine ⟨w, w1, w2, fun l hl => ?_⟩
    have w3 : Nat.testBit w l = true ↔ l < q 1 ∧ eh_i Gc 26 l = nI c := w3 l hl
    rw [w3]
    constructor
    · rintro ⟨a, b⟩
      exact ⟨a, by dsimp only; rw [b, lx_cl (by omega)]⟩
    · rintro ⟨a, b⟩
      obtain ⟨-, ⟨c', c6, e⟩, -⟩ := k l a
      dsimp only at b
      rw [e, lx_cl (by omega)] at b
      exact ⟨a, by rw [e, b]⟩
/-- leaves as digits -/
theorem lv_dg {ce hi : Nat → Nat} : ∀ n, (∀ i, i < n → ce i < 8 ∧ hi i < 4) → ∃ x, x < 65536 ∧ lv (fun i => nI (10 * ce i + hi i)) n = nI x ∧ ∀ k, k < 8 → dg x k = sm (fun i => if ce i = k then hi i else 0) n % 4
  | 0, _ => ⟨0, by decide, rfl, fun k _ => (dg_0 k).trans rfl⟩
  | n + 1, h => by
    obtain ⟨x, x1, x2, x3⟩ := lv_dg n (fun i hi => h i (by omega))
    obtain ⟨h1, h2⟩ := h n (by omega)
    refine ⟨ad x (hi n * 4 ^ ce n), ad_lt _ _, ?_, fun k hk => ?_⟩
    · show add2 (lv (fun i => nI (10 * ce i + hi i)) n) (wv (nI (10 * ce n + hi n))) = _
      rw [x2, wv_nI h1 h2, add2_nI]
    · rw [dg_ad hk, x3 k hk, wv_dg h1 h2 hk]
      show _ = (sm (fun i => if ce i = k then hi i else 0) n + (if ce n = k then hi n else 0)) % 4
      omega
/-- what a lesson that does adds in all -/
theorem rC_sum {f : Nat → Bool} {sz : Nat → Nat} {ce hi : Nat → Nat → Nat} {l k : Nat} (hf : f l = true) (h8 : sz l ≤ 8) : sm (fun i => rC f sz ce hi i l k) 8 = sm (fun i => if ce l i = k then hi l i else 0) (sz l) := by
  rw [sm_tail (m := sz l) 8 h8 (fun i a _ => rC_out (by omega))]
  exact sm_cg (sz l) (fun i hi => rC_ce hf hi)
def hs_C (c sw P : Nat) (ku sz : Nat → Nat) (ce hi : Nat → Nat → Nat) (u : Int32) : Prop := ∃ x, x < 65536 ∧ u = nI x ∧ ∀ k, k < 8 → dg x k = rR (chs c sw ku) sz ce hi P k 8 % 4
section XB
variable {d c sw P : Nat} {ku sz : Nat → Nat} {ce hi : Nat → Nat → Nat} {cu se : Int32} {h' : ri_H} {rs : List Value} {G : eh_W}
theorem shr_z {x l : Nat} (h : x / 2 ^ l = 0) {j : Nat} (hj : l ≤ j) : Nat.testBit x j = false := by
  have : Nat.testBit (x / 2 ^ l) (j - l) = Nat.testBit x (j - l + l) := Nat.testBit_div_two_pow x (j - l)
  rw [h, Nat.zero_testBit, show j - l + l = j by omega] at this
  exact this.symm
theorem chs_w {w l : Nat} (h : Nat.testBit w l = true ↔ l < P ∧ ku l = c) (hl : l < P) : Nat.testBit (sw &&& w) l = chs c sw ku l := by
  rw [Nat.testBit_and]
  unfold chs
  cases Nat.testBit sw l with
  | false => rfl
  | true =>
    by_cases e : ku l = c
    · rw [h.mpr ⟨hl, e⟩, e, eh_bt]
    · rw [lx_no (fun x => e (h.mp x).2), eh_bf e]
theorem xb_loop (ty : eh_ty tC G) (D : xE c sw P ku sz ce hi cu se G) : ∀ (f l : Nat) (lo : List (Nat × Value)) (h : ri_H) (x : Nat), l + f = P → eh_e (ri_calE ri_md (d + 1)) md_33 5 lo [] h rs h' → eh_V h = G → ri_lk lo 0 = some (.ref 23) → ri_lk lo 1 = some (.int cu) → ri_lk lo 2 = some (.int se) → ri_lk lo 3 = some (.int (nI x)) → ri_lk lo 4 = some (.int (nI l)) → x < 65536 → (∀ k, k < 8 → dg x k = sm (fun l => sm (fun i => rC (chs c sw ku) sz ce hi i l k) 8) l % 4) → ∃ u, hs_C c sw P ku sz ce hi u ∧ rs = [.int u] ∧ eh_V h' = G ∧ eh_N h' = eh_N h := by
  obtain ⟨rfl, rfl, hsw, hc6, ⟨hP8, hb⟩, hP, hm, hw⟩ := D
  obtain ⟨w, w1, w2, w3⟩ := hw c hc6
  have fin : ∀ x l, l ≤ P → x < 65536 → (∀ k, k < 8 → dg x k = sm (fun l => sm (fun i => rC (chs c sw ku) sz ce hi i l k) 8) l % 4) → (∀ j, l ≤ j → j < P → chs c sw ku j = false) → hs_C c sw P ku sz ce hi (nI x) := fun x l hl hx hd hz => ⟨x, hx, rfl, fun k hk => by
    rw [hd k hk, ← sm_tail (m := l) P hl (fun j a b => sm_z 8 (fun i _ => rC_no (hz j a b))), sm_swap (fun i l => rC (chs c sw ku) sz ce hi i l k) P 8]
    rfl⟩
  have ha : sw &&& w < 256 := Nat.lt_of_le_of_lt Nat.and_le_left hsw
  intro f
  induction f with
  | zero =>
    intro l lo h x hf E hV l0 l1 l2 l3 l4 hx hd
    have z := xb_l E hV ty l0 l1 l2 l3 l4
    rw [hP, lx_i (a := l) (by omega), lx_i (a := P) (by omega)] at z
    rcases z with ⟨-, r1, r2, r3⟩ | ⟨c, -⟩ | ⟨c, -⟩ | ⟨c, -⟩
    · exact ⟨_, fin x l (by omega) hx hd (fun j a b => by omega), r1, r2, r3⟩
    all_goals omega
  | succ f ih =>
    intro l lo h x hf E hV l0 l1 l2 l3 l4 hx hd
    have hl : l < P := by omega
    obtain ⟨e1, e2, e3, e4⟩ := hm l hl
    obtain ⟨b1, b2, b3⟩ := hb l hl
    have z := xb_l E hV ty l0 l1 l2 l3 l4
    rw [hP, lx_i (a := l) (by omega), lx_i (a := P) (by omega), lx_cl (a := c) (by omega), w2, nI_and, nI_shr (y := sw &&& w) (s := l) (by omega) (by omega), lx_cl (a := l) (by omega), lx_a1] at z
    have hbit : nI ((sw &&& w) / 2 ^ l) &&& 1 = 1 ↔ chs c sw ku l = true := by
      rw [← nI_shr (y := sw &&& w) (s := l) (by omega) (by omega), nI_bit (by omega) (by omega), chs_w (w3 l (by omega)) hl]
    rcases z with ⟨c1, -⟩ | ⟨-, -, c2, h1, lo1, E1, v1, n1, -, m0, m1, m2, m3, m4⟩ | ⟨-, -, c2, h1, lo1, E1, v1, n1, -, m0, m1, m2, m3, m4⟩ | ⟨-, c2, r1, r2, r3⟩
    · omega
    · obtain ⟨u, u1, u2, u3, u4⟩ := ih (l + 1) lo1 h1 x (by omega) E1 v1 m0 m1 m2 m3 m4 hx (fun k hk => by
        rw [hd k hk]
        show _ = (sm (fun l => sm (fun i => rC (chs c sw ku) sz ce hi i l k) 8) l + sm (fun i => rC (chs c sw ku) sz ce hi i l k) 8) % 4
        rw [sm_z 8 (fun i _ => rC_no (lx_no (fun e => c2 (hbit.mpr e)))), Nat.add_zero])
      exact ⟨u, u1, u2, u3, u4.trans n1⟩
    · have hf' := hbit.mp c2
      obtain ⟨y, y1, y2, y3⟩ := lv_dg (ce := ce l) (hi := hi l) (sz l) b3
      have e5 : eh_i G 30 l = nI y := by
        rw [e4, lv_cg (sz l) (fun i hi => e3 i hi)]
        exact y2
      rw [e5] at m3
      have m3 : ri_lk lo1 3 = some (.int (add2 (nI x) (nI y))) := m3
      rw [add2_nI] at m3
      obtain ⟨u, u1, u2, u3, u4⟩ := ih (l + 1) lo1 h1 (ad x y) (by omega) E1 v1 m0 m1 m2 m3 m4 (ad_lt _ _) (fun k hk => by
        rw [dg_ad hk, hd k hk, y3 k hk, ← rC_sum hf' b2]
        show _ = (sm (fun l => sm (fun i => rC (chs c sw ku) sz ce hi i l k) 8) l + sm (fun i => rC (chs c sw ku) sz ce hi i l k) 8) % 4
        omega)
      exact ⟨u, u1, u2, u3, u4.trans n1⟩
    · have hd4 := Nat.div_le_self (sw &&& w) (2 ^ l)
      have c2 : (sw &&& w) / 2 ^ l = 0 := lx_inj (by omega) (by omega) c2
      exact ⟨_, fin x l (by omega) hx hd (fun j a b => by
        rw [← chs_w (w3 j (by omega)) b]
        exact shr_z c2 a), r1, r2, r3⟩
theorem xb_33 {h : ri_H} {v : Option Value} (E : ri_calE ri_md (d + 2) 33 [.ref 23, .int cu, .int se] h = some (v, h')) (hV : eh_V h = G) (ty : eh_ty tC G) (D : xE c sw P ku sz ce hi cu se G) : ∃ u : Int32, hs_C c sw P ku sz ce hi u ∧ v = some (.int u) ∧ eh_V h' = G ∧ eh_N h' = eh_N h := by
  obtain ⟨rs, hrs, E⟩ := eh_in E (q := md_33) rfl
  obtain ⟨h1, lo1, E1, v1, n1, -, m0, m1, m2, m3, m4⟩ := xb_a E hV ty rfl rfl rfl
  obtain ⟨u, u1, r1, r2, r3⟩ := xb_loop ty D P 0 lo1 h1 0 (by omega) E1 v1 m0 m1 m2 m3 m4 (by decide) (fun k _ => (dg_0 k).trans rfl)
  exact ⟨u, u1, by rw [← hrs, r1]; rfl, r2, r3.trans n1⟩
end XB
theorem rR_out {f : Nat → Bool} {sz : Nat → Nat} {ce hi : Nat → Nat → Nat} {P w k n : Nat} (h : LDw w P sz ce) (hk : w ≤ k) : rR f sz ce hi P k n = 0 := sm_z n (fun i _ => sm_z P (fun l hl => by
  by_cases hi : i < sz l
  · cases hf : f l with
    | false => exact rC_no hf
    | true =>
      have := h l hl i hi
      rw [rC_ce hf hi, if_neg (by omega)]
  · exact rC_out hi))
/-- both heights are one number -/
theorem ht_eq {c sw P w : Nat} {ku sz : Nat → Nat} {ce hi : Nat → Nat → Nat} {u : Int32} (h : hs_C c sw P ku sz ce hi u) (hw : LDw w P sz ce) (h8 : w ≤ 8) : u = nI (ht_M c sw P w ku sz ce hi) := by
  obtain ⟨x, x1, rfl, x3⟩ := h
  congr 1
  refine dg_ext 8 x _ x1 (Nat.lt_of_lt_of_le (pkd_lt w _) (Nat.pow_le_pow_right (by decide) h8)) (fun k hk => ?_)
  rw [x3 k hk]
  unfold ht_M
  rw [pkd_dg]
  by_cases e : k < w
  · rw [if_pos e]
  · rw [if_neg e, rR_out hw (by omega)]
