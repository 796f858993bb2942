/-! listen (class): what was heard -/
theorem nI_div {N W : Nat} (hN : N ≤ 100000) (hW : W ≤ 100000) : nI N / nI W = nI (N / W) := by
  apply Int32.toInt_inj.mp
  have hm : nI W ≠ -1 := fun e => by
    have := lx_i hW
    rw [e] at this
    have e1 : (-1 : Int32).toInt = -1 := by decide
    omega
  have hd : N / W ≤ N := Nat.div_le_self N W
  rw [Int32.toInt_div_of_ne_right _ _ hm, lx_i hN, lx_i hW, lx_i (by omega)]
  rfl
theorem nI_rem {N W : Nat} (hN : N ≤ 100000) (hW : W ≤ 100000) : nI N - nI N / nI W * nI W = nI (N % W) := by
  have hd : N / W * W ≤ N := Nat.div_mul_le_self N W
  have hm := Nat.div_add_mod N W
  have hc : W * (N / W) = N / W * W := Nat.mul_comm _ _
  rw [nI_div hN hW, show nI (N / W) * nI W = nI (N / W * W) from (Int32.ofNat_mul _ _).symm, lx_sub hd]
  congr 1
  omega
/-- the guess's own cells but what it answered last -/
def pGu (k i : Nat) : Bool := (Nat.beq k 203 && Nat.ble 3 i) || (Nat.ble 204 k && Nat.ble k 206)
theorem pGu_lo {k i : Nat} (h : k < 203) : pGu k i = false := by
  unfold pGu
  rw [eh_bf (show k ≠ 203 by omega), show Nat.ble 204 k = false from lx_no (fun x => by have := Nat.ble_eq.mp x; omega)]
  rfl
theorem p204 (k i : Nat) (e : pGu k i = false) : Nat.beq k 204 = false := by
  cases x : Nat.beq k 204 with
  | false => rfl
  | true =>
    rw [Nat.eq_of_beq_eq_true x] at e
    have e : true = false := e
    cases e
/-- a block of the tape: its cue and its heights are good -/
def lsX (G : eh_W) (W q0 w j : Nat) : Prop := 0 ≤ (eh_i G 1 (W * j)).toInt ∧ (eh_i G 1 (W * j)).toInt < (q0 : Int) ∧ hOK G w (W * j + 1)
def lsK (G : eh_W) (N W q0 w : Nat) : Prop := N ≠ 0 ∧ N % W = 0 ∧ ∀ j, j < N / W → lsX G W q0 w j
def cbT (G : eh_W) (W j : Nat) : Nat := (eh_i G 1 (W * j)).toNatClampNeg
def hbT (G : eh_W) (W w j : Nat) : Nat := hNM G w (W * j + 1)
/-- what is noted of the first J blocks -/
def lsI (cb hb : Nat → Nat) (J : Nat) (G : eh_W) : Prop := (∀ c, c < 6 → eh_i G 204 c = -1 ∨ ∃ j, j < J ∧ cb j = c ∧ eh_i G 204 c = nI (hb j)) ∧ (eh_i G 203 4 = 0 → ∀ j, j < J → eh_i G 204 (cb j) = nI (hb j)) ∧ (¬ eh_i G 203 4 = 0 → ∃ j j', j < J ∧ j' < J ∧ cb j = cb j' ∧ hb j ≠ hb j') ∧ (eh_i G 203 4 = 0 ∨ eh_i G 203 4 = 1)
theorem nI_nm {a : Nat} (h : a ≤ 100000) : ¬ nI a = -1 := fun e => by
  have := lx_i h
  rw [e] at this
  have e1 : (-1 : Int32).toInt = -1 := by decide
  omega
theorem lsI_0 {cb hb : Nat → Nat} {J : Nat} {G : eh_W} (h : lsI cb hb J G) (hH : ∀ j, hb j < 65536) (hc : eh_i G 204 (cb J) = -1 ∨ eh_i G 204 (cb J) = nI (hb J)) : lsI cb hb (J + 1) (eh_u (eh_u G 203 4 (.int (eh_i G 203 4 ||| 0))) 204 (cb J) (.int (nI (hb J)))) := by
  obtain ⟨i1, i2, i3, i4⟩ := h
  have e4 : eh_i (eh_u (eh_u G 203 4 (.int (eh_i G 203 4 ||| 0))) 204 (cb J) (.int (nI (hb J)))) 203 4 = eh_i G 203 4 := (eh_i_ne _ _ (Or.inl (by decide))).trans ((eh_i_self _ _ _ _).trans Int32.or_zero)
  have es : eh_i (eh_u (eh_u G 203 4 (.int (eh_i G 203 4 ||| 0))) 204 (cb J) (.int (nI (hb J)))) 204 (cb J) = nI (hb J) := eh_i_self _ _ _ _
  have en : ∀ c, c ≠ cb J → eh_i (eh_u (eh_u G 203 4 (.int (eh_i G 203 4 ||| 0))) 204 (cb J) (.int (nI (hb J)))) 204 c = eh_i G 204 c := fun c hc => (eh_i_ne _ _ (Or.inr (fun x => hc x.symm))).trans (eh_i_ne _ _ (Or.inl (by decide)))
  refine ⟨fun c c6 => ?_, fun z j hj => ?_, fun z => ?_, by rw [e4]; exact i4⟩
  · by_cases e : c = cb J
    · rw [e, es]
      exact Or.inr ⟨J, Nat.lt_succ_self J, rfl, rfl⟩
    · rw [en c e]
      rcases i1 c c6 with x | ⟨j, a, b, d⟩
      · exact Or.inl x
      · exact Or.inr ⟨j, by omega, b, d⟩
  · rw [e4] at z
    by_cases e : cb j = cb J
    · rw [e, es]
      by_cases ej : j = J
      · rw [ej]
      · have x := i2 z j (by omega)
        rw [e] at x
        rcases hc with y | y
        · rw [x] at y
          exact absurd y (nI_nm (by have := hH j; omega))
        · rw [← x, y]
    · rw [en _ e]
      exact i2 z j (by
        have : j ≠ J := fun x => e (by rw [x])
        omega)
  · rw [e4] at z
    obtain ⟨j, j', a, b, d⟩ := i3 z
    exact ⟨j, j', by omega, by omega, d⟩
theorem lsI_1 {cb hb : Nat → Nat} {J : Nat} {G : eh_W} (h : lsI cb hb J G) (hJ : cb J < 6) (h1 : ¬ eh_i G 204 (cb J) = -1) (h2 : ¬ eh_i G 204 (cb J) = nI (hb J)) : lsI cb hb (J + 1) (eh_u (eh_u G 203 4 (.int (eh_i G 203 4 ||| 1))) 204 (cb J) (.int (nI (hb J)))) := by
  obtain ⟨i1, i2, i3, i4⟩ := h
  have e4 : eh_i (eh_u (eh_u G 203 4 (.int (eh_i G 203 4 ||| 1))) 204 (cb J) (.int (nI (hb J)))) 203 4 = 1 := by
    refine (eh_i_ne _ _ (Or.inl (by decide))).trans ((eh_i_self _ _ _ _).trans ?_)
    rcases i4 with x | x <;> rw [x] <;> decide
  have es : eh_i (eh_u (eh_u G 203 4 (.int (eh_i G 203 4 ||| 1))) 204 (cb J) (.int (nI (hb J)))) 204 (cb J) = nI (hb J) := eh_i_self _ _ _ _
  have en : ∀ c, c ≠ cb J → eh_i (eh_u (eh_u G 203 4 (.int (eh_i G 203 4 ||| 1))) 204 (cb J) (.int (nI (hb J)))) 204 c = eh_i G 204 c := fun c hc => (eh_i_ne _ _ (Or.inr (fun x => hc x.symm))).trans (eh_i_ne _ _ (Or.inl (by decide)))
  refine ⟨fun c c6 => ?_, fun z => ?_, fun _ => ?_, Or.inr e4⟩
  · by_cases e : c = cb J
    · rw [e, es]
      exact Or.inr ⟨J, Nat.lt_succ_self J, rfl, rfl⟩
    · rw [en c e]
      rcases i1 c c6 with x | ⟨j, a, b, d⟩
      · exact Or.inl x
      · exact Or.inr ⟨j, by omega, b, d⟩
  · rw [e4] at z
    exact absurd z (by decide)
  · rcases i1 _ hJ with x | ⟨j, a, b, d⟩
    · exact absurd x h1
    · exact ⟨j, J, by omega, Nat.lt_succ_self J, b, fun x => h2 (by rw [d, x])⟩
section YL
variable {d : Nat} {h' : ri_H} {rs : List Value} {G0 : eh_W} {w W N M q0 : Nat}
theorem yli_heard {cal : eh_K} {n wd : Int32} : ∀ (f c : Nat) (lo : List (Nat × Value)) (h : ri_H) (G : eh_W), c + f = 6 → eh_e cal md_16 42 lo [] h rs h' → eh_V h = G → eh_ty tC G → ri_lk lo 0 = some (.ref 203) → ri_lk lo 1 = some (.ref 23) → ri_lk lo 2 = some (.ref 1) → ri_lk lo 3 = some (.int n) → ri_lk lo 4 = some (.int wd) → ri_lk lo 5 = some (.int (nI c)) → (∀ k, k < c → eh_i G 204 k = -1) → ∃ h1 lo1, eh_e cal md_16 66 lo1 [] h1 rs h' ∧ eh_fr (fun k _ => Nat.beq k 204) G (eh_V h1) ∧ eh_ty tC (eh_V h1) ∧ eh_N h1 = eh_N h ∧ ri_lk lo1 0 = some (.ref 203) ∧ ri_lk lo1 1 = some (.ref 23) ∧ ri_lk lo1 2 = some (.ref 1) ∧ ri_lk lo1 3 = some (.int n) ∧ ri_lk lo1 4 = some (.int wd) ∧ ri_lk lo1 5 = some (.int (nI 0)) ∧ ∀ k, k < 6 → eh_i (eh_V h1) 204 k = -1 := by
  intro f
  induction f with
  | zero =>
    intro c lo h G hf E hV ty l0 l1 l2 l3 l4 l5 hz
    have z := yli_h E hV ty l0 l1 l2 l3 l4 l5
    rw [lx_i (a := c) (by omega)] at z
    rcases z with ⟨-, h1, lo1, E1, v1, n1, t1, m0, m1, m2, m3, m4, m5⟩ | ⟨c, -⟩
    · exact ⟨h1, lo1, E1, by rw [v1]; exact eh_fr.rf, by rw [v1]; exact t1, n1, m0, m1, m2, m3, m4, m5, fun k hk => by rw [v1]; exact hz k (by omega)⟩
    · omega
  | succ f ih =>
    intro c lo h G hf E hV ty l0 l1 l2 l3 l4 l5 hz
    have z := yli_h E hV ty l0 l1 l2 l3 l4 l5
    rw [lx_i (a := c) (by omega), lx_cl (a := c) (by omega), lx_a1] at z
    rcases z with ⟨c, -⟩ | ⟨-, h1, lo1, E1, v1, n1, t1, m0, m1, m2, m3, m4, m5⟩
    · omega
    · obtain ⟨h2, lo2, E2, f2, t2, n2, p⟩ := ih (c + 1) lo1 h1 _ (by omega) E1 v1 t1 m0 m1 m2 m3 m4 m5 (fun k hk => by
        by_cases e : c = k
        · subst e
          exact eh_i_self _ _ _ _
        · rw [eh_i_ne G _ (Or.inr e)]
          exact hz k (by omega))
      exact ⟨h2, lo2, E2, (eh_fr.rf.up rfl).tr f2, t2, n2.trans n1, p⟩
theorem yli_loop (hW : W = w + 1) (w8 : w ≤ 8) (hN : N = W * M) (h940 : N ≤ 940) (hw : eh_i G0 24 0 = nI w) (hq : eh_i G0 25 0 = nI q0) (q6 : q0 ≤ 6) : ∀ (n J : Nat) (lo : List (Nat × Value)) (h : ri_H), J + n = M → eh_e (ri_calE ri_md (d + 1)) md_16 66 lo [] h rs h' → eh_fr pGu G0 (eh_V h) → eh_ty tC (eh_V h) → (eh_N h).take 209 = NCl → ri_lk lo 0 = some (.ref 203) → ri_lk lo 1 = some (.ref 23) → ri_lk lo 2 = some (.ref 1) → ri_lk lo 3 = some (.int (nI N)) → ri_lk lo 4 = some (.int (nI W)) → ri_lk lo 5 = some (.int (nI (W * J))) → lsI (cbT G0 W) (hbT G0 W w) J (eh_V h) → (∀ j, j < J → lsX G0 W q0 w j) → (((∀ j, j < M → lsX G0 W q0 w j) ∧ rs = [.int 1] ∧ lsI (cbT G0 W) (hbT G0 W w) M (eh_V h')) ∨ (¬ (∀ j, j < M → lsX G0 W q0 w j) ∧ rs = [.int 0])) ∧ eh_fr pGu G0 (eh_V h') ∧ eh_ty tC (eh_V h') ∧ eh_N h' = eh_N h := by
  intro n
  induction n with
  | zero =>
    intro J lo h hn E fr ty hl l0 l1 l2 l3 l4 l5 I ok
    have hJ : J = M := by omega
    subst hJ
    have z := yli_l (d := d) E rfl ty l0 l1 l2 l3 l4 l5 hl rfl ((fr.i (pGu_lo (by decide))).trans hw) w8 (by
      rw [lx_i (by omega), lx_i (by omega)]
      omega)
    rw [lx_i (a := W * J) (by omega), lx_i (a := N) (by omega)] at z
    rcases z with ⟨-, r1, r2, r3⟩ | ⟨c, -⟩ | ⟨c, -⟩ | ⟨x, c, -⟩ | ⟨x, c, -⟩ | ⟨x, c, -⟩ | ⟨c, -⟩
    · exact ⟨Or.inl ⟨ok, r1, by rw [r2]; exact I⟩, by rw [r2]; exact fr, by rw [r2]; exact ty, r3⟩
    all_goals omega
  | succ n ih =>
    intro J lo h hn E fr ty hl l0 l1 l2 l3 l4 l5 I ok
    have hJ : J < M := by omega
    have hm : W * (J + 1) ≤ W * M := Nat.mul_le_mul_left W hJ
    rw [Nat.mul_succ] at hm
    have e1 : ∀ k, eh_i (eh_V h) 1 k = eh_i G0 1 k := fun k => fr.i (pGu_lo (by decide))
    have eh : hOK (eh_V h) w (W * J + 1) ↔ hOK G0 w (W * J + 1) := hOK_cg (fun c _ => e1 _)
    have en : hNM (eh_V h) w (W * J + 1) = hbT G0 W w J := hNM_cg (fun c _ => e1 _)
    have hH : ∀ j, hbT G0 W w j < 65536 := fun j => hNM_lt G0 _ w8
    have z := yli_l (d := d) E rfl ty l0 l1 l2 l3 l4 l5 hl rfl ((fr.i (pGu_lo (by decide))).trans hw) w8 (by
      intro _
      omega)
    rw [lx_i (a := W * J) (by omega), lx_i (a := N) (by omega), lx_cl (a := W * J) (by omega), e1 (W * J), show eh_i (eh_V h) 25 0 = nI q0 from (fr.i (pGu_lo (by decide))).trans hq, lx_i (a := q0) (by omega), show nI (W * J) + nI W = nI (W * J + W) from lx_add _ _, en, eh] at z
    have bad : ¬ lsX G0 W q0 w J → rs = [.int 0] → eh_V h' = eh_V h → eh_N h' = eh_N h → (((∀ j, j < M → lsX G0 W q0 w j) ∧ rs = [.int 1] ∧ lsI (cbT G0 W) (hbT G0 W w) M (eh_V h')) ∨ (¬ (∀ j, j < M → lsX G0 W q0 w j) ∧ rs = [.int 0])) ∧ eh_fr pGu G0 (eh_V h') ∧ eh_ty tC (eh_V h') ∧ eh_N h' = eh_N h := fun x r1 r2 r3 => ⟨Or.inr ⟨fun y => x (y J hJ), r1⟩, by rw [r2]; exact fr, by rw [r2]; exact ty, r3⟩
    have good : ∀ (h1 : ri_H) (lo1 : List (Nat × Value)) (x : Int32), lsX G0 W q0 w J → lsI (cbT G0 W) (hbT G0 W w) (J + 1) (eh_V h1) → eh_fr pGu (eh_V h) (eh_V h1) → eh_e (ri_calE ri_md (d + 1)) md_16 66 lo1 [] h1 rs h' → eh_ty tC (eh_V h1) → eh_N h1 = eh_N h → ri_lk lo1 0 = some (.ref 203) → ri_lk lo1 1 = some (.ref 23) → ri_lk lo1 2 = some (.ref 1) → ri_lk lo1 3 = some (.int (nI N)) → ri_lk lo1 4 = some (.int (nI W)) → ri_lk lo1 5 = some (.int (nI (W * J + W))) → (((∀ j, j < M → lsX G0 W q0 w j) ∧ rs = [.int 1] ∧ lsI (cbT G0 W) (hbT G0 W w) M (eh_V h')) ∨ (¬ (∀ j, j < M → lsX G0 W q0 w j) ∧ rs = [.int 0])) ∧ eh_fr pGu G0 (eh_V h') ∧ eh_ty tC (eh_V h') ∧ eh_N h' = eh_N h := fun h1 lo1 x y I1 f1 E1 t1 n1 m0 m1 m2 m3 m4 m5 => by
      rw [← Nat.mul_succ] at m5
      obtain ⟨s1, s2, s3, s4⟩ := ih (J + 1) lo1 h1 (by omega) E1 (fr.tr f1) t1 (by rw [n1]; exact hl) m0 m1 m2 m3 m4 m5 I1 (fun j hj => by
        by_cases e : j = J
        · rw [e]
          exact y
        · exact ok j (by omega))
      exact ⟨s1, s2, s3, s4.trans n1⟩
    have cj : ∀ {v : Int32}, 0 ≤ (eh_i G0 1 (W * J)).toInt → (eh_i G0 1 (W * J)).toInt < (q0 : Int) → cbT G0 W J < 6 := fun {_} a b => by
      have := (nI_cl a (by omega)).2
      show (eh_i G0 1 (W * J)).toNatClampNeg < 6
      omega
    rcases z with ⟨c, -⟩ | ⟨-, c2, r1, r2, r3⟩ | ⟨-, c2, c3, r1, r2, r3⟩ | ⟨x, -, c2, c3, c4, c5, c6, h1, lo1, E1, v1, n1, t1, m0, m1, m2, m3, m4, m5, -⟩ | ⟨x, -, c2, c3, c4, c5, c6, c7, h1, lo1, E1, v1, n1, t1, m0, m1, m2, m3, m4, m5, -⟩ | ⟨x, -, c2, c3, c4, c5, c6, c7, h1, lo1, E1, v1, n1, t1, m0, m1, m2, m3, m4, m5, -⟩ | ⟨-, c2, c3, c4, r1, r2, r3⟩
    · omega
    · exact bad (fun y => by have := y.1; omega) r1 r2 r3
    · exact bad (fun y => c3 y.2.1) r1 r2 r3
    · rw [c5] at v1 t1
      rw [← v1] at t1
      refine good h1 lo1 x ⟨by omega, c3, c4⟩ ?_ ?_ E1 t1 n1 m0 m1 m2 m3 m4 m5
      · rw [v1]
        exact lsI_0 I hH (Or.inl c6)
      · rw [v1]
        exact (eh_fr.rf.up rfl).up rfl
    · rw [c5] at v1 t1 c7
      rw [← v1] at t1
      refine good h1 lo1 x ⟨by omega, c3, c4⟩ ?_ ?_ E1 t1 n1 m0 m1 m2 m3 m4 m5
      · rw [v1]
        exact lsI_0 I hH (Or.inr c7)
      · rw [v1]
        exact (eh_fr.rf.up rfl).up rfl
    · rw [c5] at v1 t1 c7
      rw [← v1] at t1
      refine good h1 lo1 x ⟨by omega, c3, c4⟩ ?_ ?_ E1 t1 n1 m0 m1 m2 m3 m4 m5
      · rw [v1]
        exact lsI_1 I (cj (v := x) (by omega) c3) c6 c7
      · rw [v1]
        exact (eh_fr.rf.up rfl).up rfl
    · exact bad (fun y => c4 y.2.2) r1 r2 r3
/-- listen -/
theorem yli_16 {h : ri_H} {v : Option Value} (E : ri_calE ri_md (d + 2) 16 [.ref 203, .ref 23, .ref 1, .int (nI N)] h = some (v, h')) (hV : eh_V h = G0) (ty : eh_ty tC G0) (hl : (eh_N h).take 209 = NCl) (hW : W = w + 1) (w8 : w ≤ 8) (h940 : N ≤ 940) (hw : eh_i G0 24 0 = nI w) (hq : eh_i G0 25 0 = nI q0) (q6 : q0 ≤ 6) : ((lsK G0 N W q0 w ∧ v = some (.int 1) ∧ lsI (cbT G0 W) (hbT G0 W w) (N / W) (eh_V h')) ∨ (¬ lsK G0 N W q0 w ∧ v = some (.int 0))) ∧ eh_fr pGu G0 (eh_V h') ∧ eh_ty tC (eh_V h') ∧ eh_N h' = eh_N h := by
  obtain ⟨rs, hrs, E⟩ := eh_in E (q := md_16) rfl
  have z := yli_a E hV ty rfl rfl rfl rfl hl
  rw [hw, show (1 : Int32) + nI w = nI W from (lx_add 1 w).trans (by rw [hW, Nat.add_comm]), nI_rem (by omega) (by omega), lx_i (a := N) (by omega), lx_i (a := W) (by omega)] at z
  have bad : ¬ lsK G0 N W q0 w → rs = [.int 0] → eh_V h' = G0 → eh_N h' = eh_N h → ((lsK G0 N W q0 w ∧ v = some (.int 1) ∧ lsI (cbT G0 W) (hbT G0 W w) (N / W) (eh_V h')) ∨ (¬ lsK G0 N W q0 w ∧ v = some (.int 0))) ∧ eh_fr pGu G0 (eh_V h') ∧ eh_ty tC (eh_V h') ∧ eh_N h' = eh_N h := fun x r1 r2 r3 => ⟨Or.inr ⟨x, by rw [← hrs, r1]; rfl⟩, by rw [r2]; exact eh_fr.rf, by rw [r2]; exact ty, r3⟩
  have n0 : nI N = 0 ↔ N = 0 := ⟨fun e => lx_inj (b := 0) (by omega) (by omega) e, fun e => by rw [e]; rfl⟩
  have m0' : nI (N % W) = 0 ↔ N % W = 0 := ⟨fun e => lx_inj (b := 0) (by have := Nat.mod_lt N (show W > 0 by omega); omega) (by omega) e, fun e => by rw [e]; rfl⟩
  rcases z with ⟨c, r1, r2, r3⟩ | ⟨-, c, -⟩ | ⟨-, -, c, -⟩ | ⟨c0, -, -, c, h1, lo1, E1, v1, n1, t1, m0, m1, m2, m3, m4, m5⟩ | ⟨-, -, -, c, r1, r2, r3⟩
  · exact bad (fun x => x.1 (n0.mp c)) r1 r2 r3
  · omega
  · omega
  · obtain ⟨h2, lo2, E2, f2, t2, n2, p0, p1, p2, p3, p4, p5, p6⟩ := yli_heard 6 0 lo1 h1 _ (by omega) E1 v1 t1 m0 m1 m2 m3 m4 m5 (fun k hk => absurd hk (Nat.not_lt_zero k))
    have fr : eh_fr pGu G0 (eh_V h2) := (eh_fr.rf.up rfl : eh_fr pGu G0 (eh_u G0 203 4 (.int 0))).tr (f2.mo p204)
    have hz : eh_i (eh_V h2) 203 4 = 0 := (f2.i rfl).trans (eh_i_self _ _ _ _)
    have hNm : N = W * (N / W) := by
      have := Nat.div_add_mod N W
      rw [m0'.mp c, Nat.add_zero] at this
      exact this.symm
    obtain ⟨s1, s2, s3, s4⟩ := yli_loop (d := d) hW w8 hNm h940 hw hq q6 (N / W) 0 lo2 h2 (by omega) E2 fr t2 (by rw [n2, n1]; exact hl) p0 p1 p2 p3 p4 p5 ⟨fun c c6 => Or.inl (p6 c c6), fun _ j hj => absurd hj (Nat.not_lt_zero j), fun x => absurd hz x, Or.inl hz⟩ (fun j hj => absurd hj (Nat.not_lt_zero j))
    refine ⟨?_, s2, s3, s4.trans (n2.trans n1)⟩
    rcases s1 with ⟨a, r1, b⟩ | ⟨a, r1⟩
    · exact Or.inl ⟨⟨fun e => c0 (n0.mpr e), m0'.mp c, a⟩, by rw [← hrs, r1]; rfl, b⟩
    · exact Or.inr ⟨fun x => a x.2.2, by rw [← hrs, r1]; rfl⟩
  · exact bad (fun x => c (m0'.mpr x.2.1)) r1 r2 r3
end YL
