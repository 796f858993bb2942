/-! lake(), on both sides -/
def pMe (k i : Nat) : Bool := Nat.beq k 2 || (Nat.beq k 5 || (Nat.beq k 0 && Nat.beq i 25))
section MEND
variable {cal : eh_K} {rs : List Value} {h' : ri_H}
abbrev me_P (cal : eh_K) (rs : List Value) (h' : ri_H) (pc : Nat) (G : eh_W) (h : ri_H) : Prop := ∃ h1 lo1, eh_e cal md_172 pc lo1 [] h1 rs h' ∧ eh_fr pMe G (eh_V h1) ∧ eh_ty tM (eh_V h1) ∧ eh_N h1 = eh_N h ∧ ri_lk lo1 0 = some (.ref 0)
theorem me_1 : ∀ (f k : Nat) (lo : List (Nat × Value)) (h : ri_H) (G : eh_W), k + f = 355 → eh_e cal md_172 80 lo [] h rs h' → eh_V h = G → eh_ty tM G → ri_lk lo 0 = some (.ref 0) → ri_lk lo 1 = some (.int (nI k)) → me_P cal rs h' 115 G h := by
  intro f
  induction f with
  | zero =>
    intro k lo h G hf E hV ty l0 l1
    have z := mk_e1 E hV ty l0 l1
    rw [lx_i (a := k) (by omega)] at z
    rcases z with ⟨-, h1, lo1, E1, v1, n1, t1, m0, m1⟩ | ⟨c, -⟩ | ⟨c, -⟩
    · exact ⟨h1, lo1, E1, by rw [v1]; exact eh_fr.rf, by rw [v1]; exact t1, n1, m0⟩
    · omega
    · omega
  | succ f ih =>
    intro k lo h G hf E hV ty l0 l1
    have z := mk_e1 E hV ty l0 l1
    rw [lx_i (a := k) (by omega)] at z
    rcases z with ⟨c, -⟩ | ⟨-, -, h1, lo1, E1, v1, n1, t1, m0, m1⟩ | ⟨-, -, h1, lo1, E1, v1, n1, t1, m0, m1⟩
    · omega
    all_goals
      rw [lx_a1] at m1
      obtain ⟨h2, lo2, E2, f2, t2, n2, p0⟩ := ih (k + 1) lo1 h1 _ (by omega) E1 v1 t1 m0 m1
      exact ⟨h2, lo2, E2, (eh_fr.rf.up rfl).tr f2, t2, n2.trans n1, p0⟩
theorem me_3 : ∀ (f k : Nat) (lo : List (Nat × Value)) (h : ri_H) (G : eh_W), k + f = 24 → eh_e cal md_172 117 lo [] h rs h' → eh_V h = G → eh_ty tM G → ri_lk lo 0 = some (.ref 0) → ri_lk lo 1 = some (.int (nI k)) → me_P cal rs h' 144 G h := by
  intro f
  induction f with
  | zero =>
    intro k lo h G hf E hV ty l0 l1
    have z := mk_e3 E hV ty l0 l1
    rw [lx_i (a := k) (by omega)] at z
    rcases z with ⟨-, h1, lo1, E1, v1, n1, t1, m0, m1⟩ | ⟨c, -⟩
    · exact ⟨h1, lo1, E1, by rw [v1]; exact eh_fr.rf, by rw [v1]; exact t1, n1, m0⟩
    · omega
  | succ f ih =>
    intro k lo h G hf E hV ty l0 l1
    have z := mk_e3 E hV ty l0 l1
    rw [lx_i (a := k) (by omega)] at z
    rcases z with ⟨c, -⟩ | ⟨-, h1, lo1, E1, v1, n1, t1, m0, m1⟩
    · omega
    · rw [lx_a1] at m1
      obtain ⟨h2, lo2, E2, f2, t2, n2, p0⟩ := ih (k + 1) lo1 h1 _ (by omega) E1 v1 t1 m0 m1
      exact ⟨h2, lo2, E2, (eh_fr.rf.up rfl).tr f2, t2, n2.trans n1, p0⟩
theorem me_5 : ∀ (f k : Nat) (lo : List (Nat × Value)) (h : ri_H) (G : eh_W), k + f = 6 → eh_e cal md_172 146 lo [] h rs h' → eh_V h = G → eh_ty tM G → ri_lk lo 0 = some (.ref 0) → ri_lk lo 1 = some (.int (nI k)) → me_P cal rs h' 177 G h := by
  intro f
  induction f with
  | zero =>
    intro k lo h G hf E hV ty l0 l1
    have z := mk_e5 E hV ty l0 l1
    rw [lx_i (a := k) (by omega)] at z
    rcases z with ⟨-, h1, lo1, E1, v1, n1, t1, m0, m1⟩ | ⟨c, -⟩
    · exact ⟨h1, lo1, E1, by rw [v1]; exact eh_fr.rf, by rw [v1]; exact t1, n1, m0⟩
    · omega
  | succ f ih =>
    intro k lo h G hf E hV ty l0 l1
    have z := mk_e5 E hV ty l0 l1
    rw [lx_i (a := k) (by omega)] at z
    rcases z with ⟨c, -⟩ | ⟨-, h1, lo1, E1, v1, n1, t1, m0, m1⟩
    · omega
    · rw [lx_a1] at m1
      obtain ⟨h2, lo2, E2, f2, t2, n2, p0⟩ := ih (k + 1) lo1 h1 _ (by omega) E1 v1 t1 m0 m1
      exact ⟨h2, lo2, E2, (eh_fr.rf.up rfl).tr f2, t2, n2.trans n1, p0⟩
theorem me_end {lo : List (Nat × Value)} {h : ri_H} {G : eh_W} (E : eh_e cal md_172 78 lo [] h rs h') (hV : eh_V h = G) (ty : eh_ty tM G) (l0 : ri_lk lo 0 = some (.ref 0)) : rs = [.int (eh_i G 0 19)] ∧ eh_fr pMe G (eh_V h') := by
  subst hV
  obtain ⟨h1, lo1, E, v1, n1, t1, m0, m1⟩ := mk_e0 E rfl ty l0
  obtain ⟨h2, lo2, E, f2, t2, n2, m0⟩ := me_1 355 0 lo1 h1 _ (by omega) E v1 t1 m0 m1
  obtain ⟨h3, lo3, E, v3, n3, t3, m0, m1⟩ := mk_e2 E rfl t2 m0
  obtain ⟨h4, lo4, E, f4, t4, n4, m0⟩ := me_3 24 0 lo3 h3 _ (by omega) E v3 t3 m0 m1
  obtain ⟨h5, lo5, E, v5, n5, t5, m0, m1⟩ := mk_e4 E rfl t4 m0
  obtain ⟨h6, lo6, E, f6, t6, n6, m0⟩ := me_5 6 0 lo5 h5 _ (by omega) E v5 t5 m0 m1
  obtain ⟨r1, r2, r3⟩ := mk_e6 E rfl t6 m0
  have f : eh_fr pMe (eh_V h) (eh_V h6) := f2.tr (f4.tr f6)
  refine ⟨by rw [r1, f.i rfl], ?_⟩
  rw [r2]
  exact f.tr (eh_fr.rf.up rfl)
end MEND
section LLT
variable {d n m : Nat} {b : Nat → Int32} {rs : List Value} {h' : ri_H}
/-- the LINES keep the shape -/
theorem ll_ty : ∀ (f i : Nat) (lo : List (Nat × Value)) (h : ri_H) (G : eh_W), i + f = 901 → eh_e (ri_calE ri_md (d + 6)) md_43 14 lo [] h rs h' → eh_V h = G → iC b n m G → ri_lk lo 0 = some (.ref 4) → ri_lk lo 1 = some (.int (nI i)) → ∃ x : Int32, rs = [.int x] ∧ eh_N h' = eh_N h ∧ iC b n m (eh_V h') := by
  intro f
  induction f with
  | zero =>
    intro i lo h G hf E hV ic a0 a1
    have z1 := ll_i E hV ic a0 a1
    rw [lx_i (a := i) (by omega)] at z1
    rcases z1 with ⟨-, r1, r2, r3, r4⟩ | ⟨_, _, w, -⟩ | ⟨_, _, _, _, w, -⟩ | ⟨_, _, _, _, w, -⟩ | ⟨_, _, w, -⟩ | ⟨_, _, _, _, w, -⟩ | ⟨_, _, _, _, w, -⟩ | ⟨_, _, w, -⟩ | ⟨_, _, _, _, w, -⟩ | ⟨_, _, _, _, w, -⟩ | ⟨w, -⟩
    · exact ⟨_, r1, r3, by rw [r2]; exact r4⟩
    all_goals omega
  | succ f ih =>
    intro i lo h G hf E hV ic a0 a1
    have z1 := ll_i E hV ic a0 a1
    rw [lx_i (a := i) (by omega)] at z1
    have go : ∀ {G1 : eh_W} (hz : ri_H) (loz : List (Nat × Value)), eh_e (ri_calE ri_md (d + 6)) md_43 14 loz [] hz rs h' → eh_V hz = G1 → eh_N hz = eh_N h → iC b n m G1 → ri_lk loz 0 = some (.ref 4) → ri_lk loz 1 = some (.int (nI i + 1)) → ∃ x : Int32, rs = [.int x] ∧ eh_N h' = eh_N h ∧ iC b n m (eh_V h') := fun {G1} hz loz E1 v1 n1 i1 m0 m1 => by
      rw [lx_a1] at m1
      obtain ⟨x, q1, q2, q3⟩ := ih (i + 1) loz hz _ (by omega) E1 v1 i1 m0 m1
      exact ⟨x, q1, q2.trans n1, q3⟩
    rcases z1 with ⟨w, -⟩ | ⟨x, g, -, -, y2, X, i5, y3, r1, r2, r3, r4⟩ | ⟨x, g, y, g2, -, -, y2, X, i5, y3, X2, i10, y4, hz, loz, w1, w2, w3, w4, w5, w6, -, -⟩ | ⟨x, g, y, g2, -, -, y2, X, i5, y3, X2, i10, y4, r1, r2, r3, r4⟩ | ⟨x, g, -, -, y2, y5, X, i5, y3, r1, r2, r3, r4⟩ | ⟨x, g, y, g2, -, -, y2, y5, X, i5, y3, X2, i10, y4, hz, loz, w1, w2, w3, w4, w5, w6, -, -⟩ | ⟨x, g, y, g2, -, -, y2, y5, X, i5, y3, X2, i10, y4, r1, r2, r3, r4⟩ | ⟨x, g, -, -, y2, y5, X, i5, y3, r1, r2, r3, r4⟩ | ⟨x, g, y, g2, -, -, y2, y5, X, i5, y3, X2, i10, y4, hz, loz, w1, w2, w3, w4, w5, w6, -, -⟩ | ⟨x, g, y, g2, -, -, y2, y5, X, i5, y3, X2, i10, y4, r1, r2, r3, r4⟩ | ⟨-, w, r1, r2, r3, r4⟩
    · omega
    all_goals first | exact ⟨_, r1, r3, by rw [r2]; exact r4⟩ | exact go hz loz w1 w2 w3 w4 w5 w6
end LLT
theorem eo_0 : eo (fun _ => 0) = 0 := if_pos rfl
section LAKE
variable {d e n : Nat} {hc hc' hm hm' : ri_H} {v1 v2 : Option Value}
/-- it answers alike -/
theorem J_lake (E1 : ri_calE ri_md (d + 8) 104 [.ref 0] hc = some (v1, hc')) (E2 : ri_calE ri_md (e + 7) 172 [.ref 0] hm = some (v2, hm')) (tc : eh_ty tC (eh_V hc)) (tm : eh_ty tM (eh_V hm)) (hl : (eh_N hc).take 209 = NCl) (hn : eh_i (eh_V hc) 0 1 = nI n) (hn' : eh_i (eh_V hm) 0 2 = nI n) (n9 : n ≤ 940) (hb : ∀ i, i < 940 → eh_i (eh_V hc) 1 i = eh_i (eh_V hm) 1 i) (hr : ∀ i, i < 940 → -128 ≤ (eh_i (eh_V hm) 1 i).toInt ∧ (eh_i (eh_V hm) 1 i).toInt ≤ 127) (hk : ∀ k, k < 24 → eh_l (eh_V hc) 3 k = lx_K k) (hk' : ∀ k, k < 24 → eh_l (eh_V hm) 6 k = lx_Wd k) : ∃ x : Int32, v1 = some (.int x) ∧ v2 = some (.int x) := by
  obtain ⟨rs1, hrs1, E1⟩ := eh_in E1 (q := md_104) rfl
  obtain ⟨rs2, hrs2, E2⟩ := eh_in E2 (q := md_172) rfl
  have bl : ∀ i, i < 940 → bc (fun i => eh_i (eh_V hm) 1 i) (nI 0) i = eh_i (eh_V hm) 1 i := fun i hi => bc_lt hi
  have b9 : bc (fun i => eh_i (eh_V hm) 1 i) (nI 0) 940 = nI 0 := bc_at
  generalize bc (fun i => eh_i (eh_V hm) 1 i) (nI 0) = b at bl b9
  -- the class, to its LINES
  have E1 := E1.ld (p := 1) (t := ri_isA) (i := 0) (n := 1) (v := .ref 0) rfl (e := (.aload_n 0, 1, [], .null)) rfl rfl (fun _ _ => rfl) rfl rfl
  have E1 := E1.pu (p := 4) (lo' := ri_as 0 [.ref 0]) (st' := [.int 900, .ref 0]) rfl (e := (.sipush 900, 3, [], .null)) rfl rfl (fun _ _ => rfl)
  obtain ⟨z1, h3, X, E1⟩ := E1.cv (p := 7) (as := [.int 900]) (b := 0) (r := []) rfl (x := 115) (m := 3) (w := .null) (j := 105) (n := 1) (t := 11) (u := [635, 1, 637]) rfl rfl rfl
  obtain ⟨z1e, n3, c1, c2, ic1, a4, X74, ic2, V3⟩ := sp_105 (d := d + 3) (b := b) (m := 900) X rfl tc hl hn n9 rfl (by decide) (fun i hi => (hb i (by omega)).trans (bl i (by omega)).symm) hk
  subst z1e
  have E1 : eh_e _ _ 7 (ri_as 0 [.ref 0]) [] h3 rs1 hc' := E1
  have t3 : eh_ty tC (eh_u (eh_V c2) 0 1 (.int 0)) := ic2.1.ui rfl
  have E1 := E1.ld (p := 8) (t := ri_isA) (i := 0) (n := 1) (v := .ref 0) rfl (e := (.aload_n 0, 1, [], .null)) rfl rfl (fun _ _ => rfl) rfl rfl
  have E1 := E1.gr (n := 4) (p := 11) rfl (x := 31) (m := 3) (w := .null) (t := 11) (i := 3) (u := 570) rfl rfl V3 t3 rfl
  obtain ⟨z2, h4, X43, E1⟩ := E1.cv (p := 14) (as := []) (b := 4) (r := []) rfl (x := 118) (m := 3) (w := .null) (j := 43) (n := 0) (t := 5) (u := [661, 663, 662]) rfl rfl rfl
  obtain ⟨rs3, hrs3, E3⟩ := eh_in X43 (q := md_43) rfl
  have hl3 : (eh_N h3).take 209 = NCl := by
    rw [n3]
    exact hl
  obtain ⟨h5, lo5, E3, V5, n5, t5, m0, m1⟩ := ll_0 E3 V3 t3 rfl hl3
  have ic5 : iC b n 900 (eh_V h5) := by
    rw [V5]
    exact ⟨t5, ic2.2.1, ic2.2.2⟩
  obtain ⟨x, q1, q2, q3⟩ := ll_ty 901 0 lo5 h5 _ (by omega) E3 rfl ic5 m0 m1
  -- the reference, to its LINES
  obtain ⟨Gm, cl, tg, g1, lg1, E2, U1, -, -, k0⟩ := mk_a E2 rfl tm rfl
  have im1 : iM b n 900 (eh_V g1) := by
    rw [U1]
    exact ⟨tg, ⟨(cl.1.i rfl).trans hn', cl.1.i rfl, n9, by decide, fun i hi => (cl.1.i rfl).trans (bl i (by omega)).symm, fun k hk => (cl.1.l rfl).trans (hk' k hk), fun i hi => by
      rw [bl i (by omega)]
      exact hr i (by omega), (cl.1.i rfl).trans b9.symm⟩, 0, Nat.zero_le _, cl.1.i rfl⟩
  obtain ⟨g2, X158, im2, g3, lg3, E2, U3, -, im3, k0⟩ := mk_b E2 rfl im1 k0
  obtain ⟨J, fc, fm⟩ := J_first X74 X158 ic1 im1 a4 (by rw [U1]; exact cl.1.i rfl)
  rw [U1] at fm
  have m3 : ∀ j, eh_i (eh_V g2) 3 j = eh_i Gm 3 j := fun j => fm.i rfl
  have o20 : eh_i (eh_V g2) 0 20 = 0 := (fm.i rfl).trans (cl.1.i rfl)
  obtain ⟨-, s0, s1, s2, s8, sz⟩ := cl
  have sz' : ∀ j, j < 96 → j ≠ 0 → j ≠ 1 → j ≠ 2 → j ≠ 8 → eh_i (eh_V g2) 3 j = 0 := fun j a b c d e => (m3 j).trans (sz j a b c d e)
  have D : DR (fun _ => 0) (fun _ => 0) 0 (eo (fun _ => 0)) (eh_V h5) (eh_V g2) := by
    rw [V5, eo_0]
    refine ⟨⟨?_, ?_, ?_, ?_, ?_, ?_, Or.inl ⟨?_, ?_, rfl, rfl⟩⟩, ⟨fun t ht => ⟨?_, ?_, Nat.zero_le _⟩, rfl⟩, ⟨fun i hi => absurd hi (Nat.not_lt_zero i), fun t r _ hr => absurd hr (Nat.not_lt_zero r), fun i j hi => absurd hi (Nat.not_lt_zero i)⟩, ⟨fun l hl => absurd hl (Nat.not_lt_zero l), fun l _ h8 => ?_, fun c hc => ⟨0, by decide, ?_, fun l _ => ⟨fun h => (by rw [Nat.zero_testBit] at h; cases h), fun h => absurd h.1 (Nat.not_lt_zero l)⟩⟩⟩, fun k hk => absurd hk (Nat.not_lt_zero k), by decide, by decide, rfl, ?_⟩
    · rw [m3, s0]
      rfl
    · show (1 : Int) ≤ (4 : Int32).toInt
      decide
    · show (4 : Int32).toInt ≤ 8
      decide
    · rw [m3, s1]
      rfl
    · rw [m3, s2]
      rfl
    · rw [sz' 7 (by decide) (by decide) (by decide) (by decide) (by decide)]
      rfl
    · rw [m3, s8]
    · exact sz' 9 (by decide) (by decide) (by decide) (by decide) (by decide)
    · match t, ht with
      | 0, _ => rfl
      | 1, _ => rfl
      | 2, _ => rfl
      | 3, _ => rfl
    · exact sz' (3 + t) (by omega) (by omega) (by omega) (by omega) (by omega)
    · match l, h8 with
      | 0, _ => exact ⟨rfl, rfl⟩
      | 1, _ => exact ⟨rfl, rfl⟩
      | 2, _ => exact ⟨rfl, rfl⟩
      | 3, _ => exact ⟨rfl, rfl⟩
      | 4, _ => exact ⟨rfl, rfl⟩
      | 5, _ => exact ⟨rfl, rfl⟩
      | 6, _ => exact ⟨rfl, rfl⟩
      | 7, _ => exact ⟨rfl, rfl⟩
    · match c, hc with
      | 0, _ => rfl
      | 1, _ => rfl
      | 2, _ => rfl
      | 3, _ => rfl
      | 4, _ => rfl
      | 5, _ => rfl
    · exact o20
  have J0 : JT n (2 * 0) (eh_V h5) (eh_V g2) := by
    rw [V5]
    exact J
  have z := J_lines (d := d) (e := e) 901 0 lo5 lg3 h5 g3 _ _ (fun _ => 0) 0 b (by omega) E3 rfl ic5 m0 m1 E2 U3 im3 k0 J0 D b9
  have tail : ∀ {y : Int32}, rs3 = [.int y] → (¬ y = -1 ∧ rs1 = [.int y]) ∨ (y = -1 ∧ rs1 = [.int (-1 - eh_i (eh_V h4) 2 10)]) := fun {y} hy => by
    rw [hy] at hrs3
    subst hrs3
    have E1 : eh_e _ _ 14 (ri_as 0 [.ref 0]) [.int y] h4 rs1 hc' := E1
    rcases la_b E1 rfl q3.1 rfl (by rw [q2, n5]; exact hl3) with ⟨w, r1, -⟩ | ⟨w, r1, -⟩
    · exact Or.inl ⟨w, r1⟩
    · exact Or.inr ⟨w, r1⟩
  rcases z with ⟨r1, r2, f1, f2, f3⟩ | ⟨L, q', o', hz, loz, L9, r1, E4, ⟨b', im4, ic4⟩, k4, c4, D4⟩
  · rcases tail r1 with ⟨w, -⟩ | ⟨-, w⟩
    · exact absurd rfl w
    · refine ⟨-1 - eh_i (eh_V hm') 0 16, ?_, ?_⟩
      · rw [← hrs1, w, f2]
        rfl
      · rw [← hrs2, r2]
        rfl
  · obtain ⟨w2, -⟩ := me_end E4 rfl im4.1 k4
    rcases tail r1 with ⟨-, w⟩ | ⟨w, -⟩
    · refine ⟨nI L, ?_, ?_⟩
      · rw [← hrs1, w]
        rfl
      · rw [← hrs2, w2, c4]
        rfl
    · have := congrArg Int32.toInt w
      rw [lx_i (a := L) (by omega)] at this
      have e1 : (-1 : Int32).toInt = -1 := by decide
      omega
end LAKE
