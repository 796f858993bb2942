/-! lake(), on both sides, with its names -/
theorem el_eq {G G' : eh_W} {k i k' i' : Nat} (h : G k i = G' k' i') : eh_l G k i = eh_l G' k' i' := by
  unfold eh_l
  rw [h]
def pMe1 (k _i : Nat) : Bool := Nat.beq k 2
theorem pMe_1 (k i : Nat) (h : pMe k i = false) : pMe1 k i = false := by
  unfold pMe at h
  rw [Bool.or_eq_false_iff] at h
  exact h.1
section KEND
variable {cal : eh_K} {rs : List Value} {h' : ri_H} {G0 : eh_W}
theorem ke_1 : ∀ (f k : Nat) (lo : List (Nat × Value)) (h : ri_H) (G : eh_W), k + f = 355 → eh_e cal md_172 80 lo [] h rs h' → eh_V h = G → eh_ty tM G → ri_lk lo 0 = some (.ref 0) → ri_lk lo 1 = some (.int (nI k)) → (∀ j, j < k → j < 96 → eh_i G 2 j = eh_i G 3 j) → ∃ h1 lo1, eh_e cal md_172 115 lo1 [] h1 rs h' ∧ eh_fr pMe1 G (eh_V h1) ∧ eh_ty tM (eh_V h1) ∧ eh_N h1 = eh_N h ∧ ri_lk lo1 0 = some (.ref 0) ∧ ∀ j, j < 96 → eh_i (eh_V h1) 2 j = eh_i G 3 j := by
  intro f
  induction f with
  | zero =>
    intro k lo h G hf E hV ty l0 l1 hc
    have z := mk_e1 E hV ty l0 l1
    rw [lx_i (a := k) (by omega)] at z
    rcases z with ⟨-, h1, lo1, E1, v1, n1, t1, m0, m1⟩ | ⟨c, -⟩ | ⟨c, -⟩
    · exact ⟨h1, lo1, E1, by rw [v1]; exact eh_fr.rf, by rw [v1]; exact t1, n1, m0, fun j hj => by rw [v1]; exact hc j (by omega) hj⟩
    · omega
    · omega
  | succ f ih =>
    intro k lo h G hf E hV ty l0 l1 hc
    have z := mk_e1 E hV ty l0 l1
    rw [lx_i (a := k) (by omega), lx_cl (a := k) (by omega)] at z
    rcases z with ⟨c, -⟩ | ⟨-, c, h1, lo1, E1, v1, n1, t1, m0, m1⟩ | ⟨-, c, h1, lo1, E1, v1, n1, t1, m0, m1⟩
    · omega
    · rw [lx_a1] at m1
      obtain ⟨h2, lo2, E2, f2, t2, n2, p0, p1⟩ := ih (k + 1) lo1 h1 _ (by omega) E1 v1 t1 m0 m1 (fun j hj h9 => by
        rw [eh_i_ne G _ (Or.inr (show k ≠ j by omega))]
        exact hc j (by omega) h9)
      exact ⟨h2, lo2, E2, (eh_fr.rf.up rfl).tr f2, t2, n2.trans n1, p0, p1⟩
    · rw [lx_a1] at m1
      obtain ⟨h2, lo2, E2, f2, t2, n2, p0, p1⟩ := ih (k + 1) lo1 h1 _ (by omega) E1 v1 t1 m0 m1 (fun j hj h9 => by
        by_cases e : j = k
        · rw [e]
          exact eh_i_self _ _ _ _
        · rw [eh_i_ne G _ (Or.inr (fun x => e x.symm))]
          exact hc j (by omega) h9)
      exact ⟨h2, lo2, E2, (eh_fr.rf.up rfl).tr f2, t2, n2.trans n1, p0, p1⟩
theorem ke_3 : ∀ (f k : Nat) (lo : List (Nat × Value)) (h : ri_H) (G : eh_W), k + f = 24 → eh_e cal md_172 117 lo [] h rs h' → eh_V h = G → eh_ty tM G → ri_lk lo 0 = some (.ref 0) → ri_lk lo 1 = some (.int (nI k)) → (∀ j, j < k → eh_l G 5 j = eh_l G0 5 (24 + j)) → (∀ j, 24 ≤ j → eh_l G 5 j = eh_l G0 5 j) → ∃ h1 lo1, eh_e cal md_172 144 lo1 [] h1 rs h' ∧ eh_fr pMe5 G (eh_V h1) ∧ eh_ty tM (eh_V h1) ∧ eh_N h1 = eh_N h ∧ ri_lk lo1 0 = some (.ref 0) ∧ ∀ j, j < 24 → eh_l (eh_V h1) 5 j = eh_l G0 5 (24 + j) := by
  intro f
  induction f with
  | zero =>
    intro k lo h G hf E hV ty l0 l1 H1 H2
    have z := mk_e3 E hV ty l0 l1
    rw [lx_i (a := k) (by omega)] at z
    rcases z with ⟨-, h1, lo1, E1, v1, n1, t1, m0, m1⟩ | ⟨c, -⟩
    · exact ⟨h1, lo1, E1, by rw [v1]; exact eh_fr.rf, by rw [v1]; exact t1, n1, m0, fun j hj => by rw [v1]; exact H1 j (by omega)⟩
    · omega
  | succ f ih =>
    intro k lo h G hf E hV ty l0 l1 H1 H2
    have z := mk_e3 E hV ty l0 l1
    rw [lx_i (a := k) (by omega), show (24 : Int32) + nI k = nI (24 + k) from lx_add 24 k, lx_cl (a := 24 + k) (by omega), lx_cl (a := k) (by omega)] at z
    rcases z with ⟨c, -⟩ | ⟨-, h1, lo1, E1, v1, n1, t1, m0, m1⟩
    · omega
    · rw [lx_a1] at m1
      obtain ⟨h2, lo2, E2, f2, t2, n2, p0, p1⟩ := ih (k + 1) lo1 h1 _ (by omega) E1 v1 t1 m0 m1 (fun j hj => by
        by_cases e : j = k
        · rw [e, eh_l_self]
          exact H2 _ (by omega)
        · rw [eh_l_ne G _ (Or.inr (fun x => e x.symm))]
          exact H1 j (by omega)) (fun j hj => by
        rw [eh_l_ne G _ (Or.inr (show k ≠ j by omega))]
        exact H2 j hj)
      exact ⟨h2, lo2, E2, (eh_fr.rf.up rfl).tr f2, t2, n2.trans n1, p0, p1⟩
theorem ke_end {lo : List (Nat × Value)} {h : ri_H} {G : eh_W} (E : eh_e cal md_172 78 lo [] h rs h') (hV : eh_V h = G) (ty : eh_ty tM G) (l0 : ri_lk lo 0 = some (.ref 0)) : rs = [.int (eh_i G 0 19)] ∧ eh_fr pMe G (eh_V h') ∧ eh_ty tM (eh_V h') ∧ eh_N h' = eh_N h ∧ (∀ j, j < 96 → eh_i (eh_V h') 2 j = eh_i G 3 j) ∧ ∀ j, j < 24 → eh_l (eh_V h') 5 j = eh_l G 5 (24 + j) := by
  subst hV
  obtain ⟨h1, lo1, E, v1, n1, t1, m0, m1⟩ := mk_e0 E rfl ty l0
  obtain ⟨h2, lo2, E, f1', t2, n2, m0, ct⟩ := ke_1 355 0 lo1 h1 _ (by omega) E v1 t1 m0 m1 (fun j hj => absurd hj (Nat.not_lt_zero j))
  have f2 : eh_fr pMe (eh_V h) (eh_V h2) := f1'.mo pMe_1
  obtain ⟨h3, lo3, E, v3, n3, t3, m0, m1⟩ := mk_e2 E rfl t2 m0
  obtain ⟨h4, lo4, E, f4, t4, n4, m0, nm⟩ := ke_3 24 0 lo3 h3 _ (by omega) E v3 t3 m0 m1 (fun j hj => absurd hj (Nat.not_lt_zero j)) (fun _ _ => rfl)
  obtain ⟨h5, lo5, E, v5, n5, t5, m0, m1⟩ := mk_e4 E rfl t4 m0
  obtain ⟨h6, lo6, E, f6, t6, n6, m0⟩ := me_5 6 0 lo5 h5 _ (by omega) E v5 t5 m0 m1
  obtain ⟨r1, r2, r3⟩ := mk_e6 E rfl t6 m0
  have f46 : eh_fr pMe (eh_V h2) (eh_V h6) := (f4.mo (fun k i e => by
    cases e5 : pMe5 k i with
    | false => rfl
    | true =>
      unfold pMe5 at e5
      rw [Nat.eq_of_beq_eq_true e5] at e
      cases e)).tr (f6.mo (fun k i e => by
    cases e5 : pMe2 k i with
    | false => rfl
    | true =>
      unfold pMe2 at e5
      rw [Bool.and_eq_true] at e5
      rw [Nat.eq_of_beq_eq_true e5.1] at e
      cases e))
  have f : eh_fr pMe (eh_V h) (eh_V h6) := f2.tr f46
  refine ⟨by rw [r1, f.i rfl], ?_, ?_, r3.trans (n6.trans (n5.trans (n4.trans (n3.trans (n2.trans n1))))), fun j hj => ?_, fun j hj => ?_⟩
  · rw [r2]
    exact f.tr (eh_fr.rf.up rfl)
  · rw [r2]
    exact t6.ui rfl
  · have e2 : pMe2 2 j = false := by
      cases e : pMe2 2 j with
      | false => rfl
      | true =>
        unfold pMe2 at e
        rw [Bool.and_eq_true] at e
        have := Nat.ble_eq.mp e.2
        omega
    rw [r2]
    exact (f6.i e2).trans ((f4.i rfl).trans (ct j hj))
  · rw [r2]
    refine (show _ = eh_l (eh_V h6) 5 j from rfl).trans ((f6.l rfl).trans ((nm j hj).trans ?_))
    exact f1'.l rfl
end KEND
section OPEN
variable {d : Nat} {h h' : ri_H} {v : Option Value} {G : eh_W} {b : Nat → Int32} {n m : Nat} {ln mo : Int32}
theorem sq_73 (E : ri_calE ri_md (d + 3) 73 [.ref 2, .int ln, .int mo] h = some (v, h')) (hV : eh_V h = G) (ty : eh_ty tC G) (hl : (eh_N h).take 209 = NCl) (hn : ln = nI n) (n9 : n ≤ 940) (hm : mo = nI m) (m9 : m ≤ 940) (hb : ∀ i, i < n → eh_i G 1 i = b i) (hk : ∀ k, k < 24 → eh_l G 3 k = lx_K k) (hf : ∀ k i, 17 ≤ k → i < 1000 → eh_i G k i = b (100000 + 1000 * k + i)) :
    v = none ∧ eh_N h' = eh_N h ∧ ∃ h1 h2, iC b n m (eh_V h1) ∧ eh_i (eh_V h1) 2 4 = nI 0 ∧ ri_calE ri_md (d + 2) 74 [.ref 2] h1 = some (none, h2) ∧ iC b n m (eh_V h2) ∧ eh_V h' = eh_V h2 ∧ KC G (eh_V h') ∧ eh_i (eh_V h') 2 9 = 0 := by
  obtain ⟨rs, hrs, E⟩ := eh_in E (q := md_73) rfl
  rcases op_a E hV ty rfl rfl rfl hl with ⟨c, -⟩ | ⟨-, hz, loz, E1, v1, n1, t1, l0, -, -⟩
  · rw [hn, lx_i (a := n) (by omega)] at c
    omega
  · have i1 : iC b n m (eh_V hz) := by
      rw [v1]
      have fr : eh_fr (fun k _ => Nat.beq k 2) G (eh_u (eh_u (eh_u (eh_u (eh_u G 2 2 (.int ln)) 2 3 (.int mo)) 2 4 (.int 0)) 2 9 (.int 0)) 2 10 (.int 0)) := ((((eh_fr.rf.up rfl).up rfl).up rfl).up rfl).up rfl
      exact ⟨t1, ⟨hn, hm, n9, m9, hb, hk, fun k i h1 h2 => (fr.i (eh_bf (by omega))).trans (hf k i h1 h2)⟩, 0, Nat.zero_le _, rfl⟩
    obtain ⟨h2, X, i2, r1, r2, r3, -⟩ := op_b E1 rfl i1 l0
    exact ⟨by rw [← hrs, r1]; rfl, r3.trans n1, hz, h2, i1, by rw [v1]; rfl, X, i2, r2, by
      rw [r2]
      refine KC.tr ?_ (kw_74 X i1)
      rw [v1]
      exact ((((KC.rf.u (by decide)).u (by decide)).u (by decide)).u (by decide)).u (by decide), by
      rw [r2]
      refine Eq.trans (nfc_74 X i1) ?_
      rw [v1]
      rfl⟩
theorem sq_105 (E : ri_calE ri_md (d + 4) 105 [.ref 0, .int mo] h = some (v, h')) (hV : eh_V h = G) (ty : eh_ty tC G) (hl : (eh_N h).take 209 = NCl) (hn : eh_i G 0 1 = nI n) (n9 : n ≤ 940) (hm : mo = nI m) (m9 : m ≤ 940) (hb : ∀ i, i < n → eh_i G 1 i = b i) (hk : ∀ k, k < 24 → eh_l G 3 k = lx_K k) (hf : ∀ k i, 17 ≤ k → i < 1000 → eh_i G k i = b (100000 + 1000 * k + i)) :
    v = none ∧ eh_N h' = eh_N h ∧ ∃ h1 h2, iC b n m (eh_V h1) ∧ eh_i (eh_V h1) 2 4 = nI 0 ∧ ri_calE ri_md (d + 2) 74 [.ref 2] h1 = some (none, h2) ∧ iC b n m (eh_V h2) ∧ eh_V h' = eh_u (eh_V h2) 0 1 (.int 0) ∧ KC G (eh_V h') ∧ eh_i (eh_V h2) 2 9 = 0 := by
  obtain ⟨rs, hrs, E⟩ := eh_in E (q := md_105) rfl
  have E := E.ld (p := 1) (t := ri_isA) (i := 0) (n := 1) (v := .ref 0) rfl (e := (.aload_n 0, 1, [], .null)) rfl rfl (fun _ _ => rfl) rfl rfl
  have E := E.gr (n := 2) (p := 4) rfl (x := 22) (m := 3) (w := .null) (t := 11) (i := 2) (u := 569) rfl rfl hV ty rfl
  have E := E.ld (p := 5) (t := ri_isA) (i := 0) (n := 1) (v := .ref 0) rfl (e := (.aload_n 0, 1, [], .null)) rfl rfl (fun _ _ => rfl) rfl rfl
  have E := E.gi (y := eh_i G 0 1) (p := 8) rfl (x := 13) (m := 3) (w := .null) (t := 11) (i := 1) (u := 568) rfl rfl hV ty rfl rfl
  have E := E.ld (p := 9) (t := ri_isI) (i := 1) (n := 1) (v := .int mo) rfl (e := (.iload_n 1, 1, [], .null)) rfl rfl (fun _ _ => rfl) rfl rfl
  obtain ⟨v1, h3, X, E⟩ := E.cv (p := 12) (as := [.int (eh_i G 0 1), .int mo]) (b := 2) (r := []) rfl (x := 142) (m := 3) (w := .null) (j := 73) (n := 2) (t := 8) (u := [639, 641, 640]) rfl rfl rfl
  obtain ⟨z1, n3, h1, h2, i1, a1, X1, i2, V3, k3, f3⟩ := sq_73 X hV ty hl hn n9 hm m9 hb hk hf
  subst z1
  have E : eh_e _ _ 12 (ri_as 0 [.ref 0, .int mo]) [] h3 rs h' := E
  obtain ⟨r1, r2, r3⟩ := ot_b E V3 i2.1 rfl
  exact ⟨by rw [← hrs, r1]; rfl, r3.trans n3, h1, h2, i1, a1, X1, i2, r2, by
    rw [r2]
    rw [V3] at k3
    exact k3.u (by decide), by
    rw [V3] at f3
    exact f3⟩
end OPEN
section LAKE
variable {d e n : Nat} {hc hc' hm hm' : ri_H} {v1 v2 : Option Value}
/-- it answers alike -/
theorem K_lake (E1 : ri_calE ri_md (d + 8) 104 [.ref 0] hc = some (v1, hc')) (E2 : ri_calE ri_md (e + 7) 172 [.ref 0] hm = some (v2, hm')) (tc : eh_ty tC (eh_V hc)) (tm : eh_ty tM (eh_V hm)) (hl : (eh_N hc).take 209 = NCl) (hn : eh_i (eh_V hc) 0 1 = nI n) (hn' : eh_i (eh_V hm) 0 2 = nI n) (n9 : n ≤ 940) (hb : ∀ i, i < 940 → eh_i (eh_V hc) 1 i = eh_i (eh_V hm) 1 i) (hr : ∀ i, i < 940 → -128 ≤ (eh_i (eh_V hm) 1 i).toInt ∧ (eh_i (eh_V hm) 1 i).toInt ≤ 127) (hk : ∀ k, k < 24 → eh_l (eh_V hc) 3 k = lx_K k) (hk' : ∀ k, k < 24 → eh_l (eh_V hm) 6 k = lx_Wd k) : ∃ x : Int32, v1 = some (.int x) ∧ v2 = some (.int x) ∧ ((∃ q, LI q 23 2 0 (eh_V hc') (eh_V hm') ∧ NL q 23 (eh_V hc') (eh_l (eh_V hm') 5)) ∨ ((∀ k i, 17 ≤ k → eh_V hc' k i = eh_V hc k i) ∧ (∀ i, i < 1000 → eh_i (eh_V hm') 2 i = eh_i (eh_V hm) 2 i) ∧ KN (eh_V hm) (eh_V hm'))) ∧ eh_i (eh_V hc') 0 15 = eh_i (eh_V hm') 0 15 := by
  obtain ⟨rs1, hrs1, E1⟩ := eh_in E1 (q := md_104) rfl
  obtain ⟨rs2, hrs2, E2⟩ := eh_in E2 (q := md_172) rfl
  have bl : ∀ i, i < 940 → bb (eh_V hc) (eh_V hm) i = eh_i (eh_V hm) 1 i := fun i hi => bb_lt hi
  have b9 : bb (eh_V hc) (eh_V hm) 940 = nI 0 := bb_at
  have bm : ∀ k i, 2 ≤ k → k < 100 → i < 1000 → bb (eh_V hc) (eh_V hm) (1000 * k + i) = eh_i (eh_V hm) k i := fun k i h1 h2 h3 => bb_m h1 h2 h3
  have bk : ∀ k i, i < 1000 → bb (eh_V hc) (eh_V hm) (100000 + 1000 * k + i) = eh_i (eh_V hc) k i := fun k i h3 => bb_c h3
  generalize bb (eh_V hc) (eh_V hm) = b at bl b9 bm bk
  -- the class, to its LINES
  have E1 := E1.ld (p := 1) (t := ri_isA) (i := 0) (n := 1) (v := .ref 0) rfl (e := (.aload_n 0, 1, [], .null)) rfl rfl (fun _ _ => rfl) rfl rfl
  have E1 := E1.pu (p := 4) (lo' := ri_as 0 [.ref 0]) (st' := [.int 900, .ref 0]) rfl (e := (.sipush 900, 3, [], .null)) rfl rfl (fun _ _ => rfl)
  obtain ⟨z1, h3, X, E1⟩ := E1.cv (p := 7) (as := [.int 900]) (b := 0) (r := []) rfl (x := 115) (m := 3) (w := .null) (j := 105) (n := 1) (t := 11) (u := [635, 1, 637]) rfl rfl rfl
  obtain ⟨z1e, n3, c1, c2, ic1, a4, X74, ic2, V3, k3, f3⟩ := sq_105 (d := d + 3) (b := b) (m := 900) X rfl tc hl hn n9 rfl (by decide) (fun i hi => (hb i (by omega)).trans (bl i (by omega)).symm) hk (fun k i _ h3 => (bk k i h3).symm)
  subst z1e
  have E1 : eh_e _ _ 7 (ri_as 0 [.ref 0]) [] h3 rs1 hc' := E1
  have t3 : eh_ty tC (eh_u (eh_V c2) 0 1 (.int 0)) := ic2.1.ui rfl
  have E1 := E1.ld (p := 8) (t := ri_isA) (i := 0) (n := 1) (v := .ref 0) rfl (e := (.aload_n 0, 1, [], .null)) rfl rfl (fun _ _ => rfl) rfl rfl
  have E1 := E1.gr (n := 4) (p := 11) rfl (x := 31) (m := 3) (w := .null) (t := 11) (i := 3) (u := 570) rfl rfl V3 t3 rfl
  obtain ⟨z2, h4, X43, E1⟩ := E1.cv (p := 14) (as := []) (b := 4) (r := []) rfl (x := 118) (m := 3) (w := .null) (j := 43) (n := 0) (t := 5) (u := [661, 663, 662]) rfl rfl rfl
  obtain ⟨rs3, hrs3, E3⟩ := eh_in X43 (q := md_43) rfl
  have hl3 : (eh_N h3).take 209 = NCl := by
    rw [n3]
    exact hl
  obtain ⟨h5, lo5, E3, V5, n5, t5, m0, m1⟩ := ll_0 E3 V3 t3 rfl hl3
  have ic5 : iC b n 900 (eh_V h5) := by
    rw [V5]
    obtain ⟨-, ⟨a1, a2, a3, a4, a5, a6, a7⟩, a8⟩ := ic2
    refine ⟨t5, ⟨a1, a2, a3, a4, a5, a6, fun k i h1 h3 => ?_⟩, a8⟩
    have fr : eh_fr (fun k _ => Nat.ble k 16) (eh_V c2) (eh_V h5) := by
      rw [V5]
      exact (((((((((((((((((((((((((((((((eh_fr.rf.up rfl).cx (fun _ => rfl)).up rfl).up rfl).up rfl).up rfl).up rfl).up rfl).up rfl).up rfl).up rfl).up rfl).up rfl).up rfl).up rfl).up rfl).up rfl).up rfl).up rfl).up rfl).up rfl).up rfl).up rfl).up rfl).up rfl).up rfl).up rfl).up rfl).up rfl).up rfl).up rfl)
    have e16 : Nat.ble k 16 = false := by
      cases e : Nat.ble k 16 with
      | false => rfl
      | true =>
        have := Nat.ble_eq.mp e
        omega
    have z := (fr.i (k := k) (j := i) e16).trans (a7 k i h1 h3)
    rw [V5] at z
    exact z
  obtain ⟨x, q1, q2, q3⟩ := ll_ty 901 0 lo5 h5 _ (by omega) E3 rfl ic5 m0 m1
  have kc5 : KC (eh_V hc) (eh_V h5) := k3.tr (by
    rw [V3, V5]
    exact ((((((((((((((((((((((((((((((eh_fr.rf.cx (fun _ => rfl)).up rfl).up rfl).up rfl).up rfl).up rfl).up rfl).up rfl).up rfl).up rfl).up rfl).up rfl).up rfl).up rfl).up rfl).up rfl).up rfl).up rfl).up rfl).up rfl).up rfl).up rfl).up rfl).up rfl).up rfl).up rfl).up rfl).up rfl).up rfl).up rfl))
  have kc4 : KC (eh_V hc) (eh_V h4) := kc5.tr (kw_ll 901 0 lo5 h5 (by omega) E3 ic5 m0 m1)
  -- the reference, to its LINES
  obtain ⟨Gm, cl, tg, g1, lg1, E2, U1, -, -, k0⟩ := mk_a E2 rfl tm rfl
  have fr0 : ∀ k i, k ≠ 0 → k ≠ 3 → eh_i Gm k i = eh_i (eh_V hm) k i := fun k i h0 h3 => (cl.1.i (eh_bf h3)).trans ((show eh_fr (fun k _ => Nat.beq k 0) (eh_V hm) _ from (((((((eh_fr.rf.up rfl).up rfl).up rfl).up rfl).up rfl).up rfl).up rfl).up rfl).i (eh_bf h0))
  have im1 : iM b n 900 (eh_V g1) := by
    rw [U1]
    exact ⟨tg, ⟨(cl.1.i rfl).trans hn', cl.1.i rfl, n9, by decide, fun i hi => (cl.1.i rfl).trans (bl i (by omega)).symm, fun k hk => (cl.1.l rfl).trans (hk' k hk), fun i hi => by
      rw [bl i (by omega)]
      exact hr i (by omega), (cl.1.i rfl).trans b9.symm, fun k i h1 h3 => (fr0 k i (by omega) (by omega)).trans (bm k i (by omega) (by omega) h3).symm⟩, 0, Nat.zero_le _, cl.1.i rfl⟩
  obtain ⟨g2, X158, im2, g3, lg3, E2, U3, -, im3, k0⟩ := mk_b E2 rfl im1 k0
  have kn1 : KN (eh_V hm) (eh_V g2) := KN.tr (by
    rw [U1]
    exact fun j _ => (cl.1 5 j rfl).trans rfl) (kn_158 X158 im1)
  obtain ⟨J, fc, fm⟩ := J_first X74 X158 ic1 im1 a4 (by rw [U1]; exact cl.1.i rfl)
  rw [U1] at fm
  have m3 : ∀ j, eh_i (eh_V g2) 3 j = eh_i Gm 3 j := fun j => fm.i rfl
  have o20 : eh_i (eh_V g2) 0 20 = 0 := (fm.i rfl).trans (cl.1.i rfl)
  have cl1 := cl.1
  obtain ⟨-, s0, s1, s2, s8, sz⟩ := cl
  have sz' : ∀ j, j < 96 → j ≠ 0 → j ≠ 1 → j ≠ 2 → j ≠ 8 → eh_i (eh_V g2) 3 j = 0 := fun j a b c d e => (m3 j).trans (sz j a b c d e)
  have D : DR (fun _ => 0) (fun _ => 0) 0 (eo (fun _ => 0)) (eh_V h5) (eh_V g2) := by
    rw [V5, eo_0]
    refine ⟨⟨?_, ?_, ?_, ?_, ?_, ?_, Or.inl ⟨?_, ?_, rfl, rfl⟩⟩, ⟨fun t ht => ⟨?_, ?_, Nat.zero_le _⟩, rfl⟩, ⟨fun i hi => absurd hi (Nat.not_lt_zero i), fun t r _ hr => absurd hr (Nat.not_lt_zero r), fun i j hi => absurd hi (Nat.not_lt_zero i)⟩, ⟨fun l hl => absurd hl (Nat.not_lt_zero l), fun l _ h8 => ?_, fun c hc => ⟨0, by decide, ?_, fun l _ => ⟨fun h => (by rw [Nat.zero_testBit] at h; cases h), fun h => absurd h.1 (Nat.not_lt_zero l)⟩⟩⟩, fun k hk => absurd hk (Nat.not_lt_zero k), by decide, by decide, rfl, ?_⟩
    · rw [m3, s0]
      rfl
    · show (1 : Int) ≤ (4 : Int32).toInt
      decide
    · show (4 : Int32).toInt ≤ 8
      decide
    · rw [m3, s1]
      rfl
    · rw [m3, s2]
      rfl
    · rw [sz' 7 (by decide) (by decide) (by decide) (by decide) (by decide)]
      rfl
    · rw [m3, s8]
    · exact sz' 9 (by decide) (by decide) (by decide) (by decide) (by decide)
    · match t, ht with
      | 0, _ => rfl
      | 1, _ => rfl
      | 2, _ => rfl
      | 3, _ => rfl
    · exact sz' (3 + t) (by omega) (by omega) (by omega) (by omega) (by omega)
    · match l, h8 with
      | 0, _ => exact ⟨rfl, rfl⟩
      | 1, _ => exact ⟨rfl, rfl⟩
      | 2, _ => exact ⟨rfl, rfl⟩
      | 3, _ => exact ⟨rfl, rfl⟩
      | 4, _ => exact ⟨rfl, rfl⟩
      | 5, _ => exact ⟨rfl, rfl⟩
      | 6, _ => exact ⟨rfl, rfl⟩
      | 7, _ => exact ⟨rfl, rfl⟩
    · match c, hc with
      | 0, _ => rfl
      | 1, _ => rfl
      | 2, _ => rfl
      | 3, _ => rfl
      | 4, _ => rfl
      | 5, _ => rfl
    · exact o20
  have J0 : JT n (2 * 0) (eh_V h5) (eh_V g2) := by
    rw [V5]
    exact J
  have z := K_lines (d := d) (e := e) 901 0 lo5 lg3 h5 g3 _ _ (fun _ => 0) 0 b (by omega) E3 rfl ic5 m0 m1 E2 U3 im3 k0 J0 D b9
  have top : ∀ {y : Int32}, rs3 = [.int y] → eh_e (ri_calE ri_md (d + 7)) md_104 14 (ri_as 0 [.ref 0]) [.int y] h4 rs1 hc' := fun {y} hy => by
    rw [hy] at hrs3
    subst hrs3
    exact E1
  have hl4 : (eh_N h4).take 209 = NCl := by
    rw [q2, n5]
    exact hl3
  rcases z with ⟨r1, r2, ⟨f1, f2, f3⟩, f4, f5⟩ | ⟨L, q', o', hz, loz, L9, r1, E4, ⟨b', im4, ic4, b4⟩, k4, c4, D4, -, n4⟩
  · rcases la_b (top r1) rfl q3.1 rfl hl4 with ⟨w, -⟩ | ⟨-, w, u2, -⟩
    · exact absurd rfl w
    · refine ⟨-1 - eh_i (eh_V hm') 0 16, ?_, ?_, Or.inr ⟨fun k i h1 => ?_, fun i h3 => ?_, kn1.tr f5⟩, by rw [u2, eh_i_self]; exact f1⟩
      · rw [← hrs1, w, f2]
        rfl
      · rw [← hrs2, r2]
        rfl
      · rw [u2, eh_u_ne _ _ (Or.inl (show 0 ≠ k by omega))]
        exact kc4 k i (by
          cases e : pKC k i with
          | false => rfl
          | true =>
            have := Nat.ble_eq.mp e
            omega)
      · exact (f4 2 i (Or.inl rfl) h3).trans (bm 2 i (by decide) (by decide) h3)
  · obtain ⟨w2, wf, -, -, w4, w5⟩ := ke_end E4 rfl im4.1 k4
    rcases la_b (top r1) rfl q3.1 rfl hl4 with ⟨-, w, u2, -⟩ | ⟨w, -⟩
    · have fC : eh_i (eh_V h4) 2 9 = 0 := by
        rcases nfc_ll 901 0 lo5 h5 (by omega) E3 ic5 m0 m1 with z | z
        · rw [z] at r1
          have := congrArg Int32.toInt (Value.int.inj (List.cons.inj r1).1)
          rw [lx_i (a := L) (by omega), show (-1 : Int32).toInt = -1 by decide] at this
          omega
        · refine Eq.trans z ?_
          rw [V5]
          exact f3
      have fM : eh_i (eh_V hm') 0 15 = 0 := by
        refine (wf.i rfl).trans (Eq.trans n4 ((fm.i rfl).trans (cl1.i rfl)))
      refine ⟨nI L, ?_, ?_, Or.inl ⟨q', ?_, ?_⟩, ?_⟩
      · rw [← hrs1, w]
        rfl
      · rw [← hrs2, w2, c4]
        rfl
      · have n1 : eh_i (shC 23 (eh_V hc')) 5 1 = eh_i (eh_V h4) 5 1 := by
          rw [u2]
          rfl
        have n12 : eh_i (shC 23 (eh_V hc')) 5 12 = eh_i (eh_V h4) 5 12 := by
          rw [u2]
          rfl
        have c6 : ∀ i, i < 5 → eh_i (shC 23 (eh_V hc')) 6 i = eh_i (eh_V h4) 6 i := fun i hi => ei_eq (G := eh_V hc') (k := 24) (i := i) (by
          rw [u2]
          exact (show _ = (bif Nat.blt i 5 then eh_V h4 6 i else eh_V h4 24 i) from rfl).trans (cp_b hi))
        have c7 : ∀ i, i < 4 → eh_i (shC 23 (eh_V hc')) 7 i = eh_i (eh_V h4) 7 i := fun i hi => ei_eq (G := eh_V hc') (k := 25) (i := i) (by
          rw [u2]
          exact (show _ = (bif Nat.blt i 4 then eh_V h4 7 i else eh_V h4 25 i) from rfl).trans (cp_b hi))
        have c8 : ∀ i, i < 8 → eh_i (shC 23 (eh_V hc')) 8 i = eh_i (eh_V h4) 8 i := fun i hi => ei_eq (G := eh_V hc') (k := 26) (i := i) (by
          rw [u2]
          exact (show _ = (bif Nat.blt i 8 then eh_V h4 8 i else eh_V h4 26 i) from rfl).trans (cp_b hi))
        have c9 : ∀ i, i < 6 → eh_i (shC 23 (eh_V hc')) 9 i = eh_i (eh_V h4) 9 i := fun i hi => ei_eq (G := eh_V hc') (k := 27) (i := i) (by
          rw [u2]
          exact (show _ = (bif Nat.blt i 6 then eh_V h4 9 i else eh_V h4 27 i) from rfl).trans (cp_b hi))
        have c10 : ∀ i, i < 8 → eh_i (shC 23 (eh_V hc')) 10 i = eh_i (eh_V h4) 10 i := fun i hi => ei_eq (G := eh_V hc') (k := 28) (i := i) (by
          rw [u2]
          exact (show _ = (bif Nat.blt i 8 then eh_V h4 10 i else eh_V h4 28 i) from rfl).trans (cp_b hi))
        have c11 : ∀ i, i < 64 → eh_i (shC 23 (eh_V hc')) 11 i = eh_i (eh_V h4) 11 i := fun i hi => ei_eq (G := eh_V hc') (k := 29) (i := i) (by
          rw [u2]
          exact (show _ = (bif Nat.blt i 64 then eh_V h4 11 i else eh_V h4 29 i) from rfl).trans (cp_b hi))
        have c12 : ∀ i, i < 8 → eh_i (shC 23 (eh_V hc')) 12 i = eh_i (eh_V h4) 12 i := fun i hi => ei_eq (G := eh_V hc') (k := 30) (i := i) (by
          rw [u2]
          exact (show _ = (bif Nat.blt i 8 then eh_V h4 12 i else eh_V h4 30 i) from rfl).trans (cp_b hi))
        have c13 : ∀ i, i < 6 → eh_i (shC 23 (eh_V hc')) 13 i = eh_i (eh_V h4) 13 i := fun i hi => ei_eq (G := eh_V hc') (k := 31) (i := i) (by
          rw [u2]
          exact (show _ = (bif Nat.blt i 6 then eh_V h4 13 i else eh_V h4 31 i) from rfl).trans (cp_b hi))
        exact DI_fb (DI_of D4) ⟨n1, n12, c6, c7, c8, c9, c10, c11, c12, c13⟩ (fun j hj => by
          show eh_i (eh_V hm') 2 (0 + j) = _
          rw [Nat.zero_add]
          exact w4 j hj)
      · refine NL_of (DI_NB (DI_of D4)) D4.2.2.1 (fun i hi => el_eq ?_) (fun i hi => ei_eq ?_) (fun i hi => ei_eq ?_) w5
        · rw [u2]
          exact (show _ = (bif Nat.blt i 24 then eh_V h4 14 i else eh_V h4 32 i) from rfl).trans (cp_b hi)
        · rw [u2]
          exact (show _ = (bif Nat.blt i 24 then eh_V h4 15 i else eh_V h4 33 i) from rfl).trans (cp_b hi)
        · rw [u2]
          exact (show _ = (bif Nat.blt i 24 then eh_V h4 16 i else eh_V h4 34 i) from rfl).trans (cp_b hi)
      · rw [fM, u2]
        exact fC
    · have := congrArg Int32.toInt w
      rw [lx_i (a := L) (by omega)] at this
      have e1 : (-1 : Int32).toInt = -1 := by decide
      omega
end LAKE
