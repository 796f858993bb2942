/-! the tape is opened (class); clears (reference) -/
section OPEN
variable {d : Nat} {h h' : ri_H} {v : Option Value} {G : eh_W} {b : Nat → Int32} {n m : Nat} {ln mo : Int32}
theorem sp_73 (E : ri_calE ri_md (d + 3) 73 [.ref 2, .int ln, .int mo] h = some (v, h')) (hV : eh_V h = G) (ty : eh_ty tC G) (hl : (eh_N h).take 209 = NCl) (hn : ln = nI n) (n9 : n ≤ 940) (hm : mo = nI m) (m9 : m ≤ 940) (hb : ∀ i, i < n → eh_i G 1 i = b i) (hk : ∀ k, k < 24 → eh_l G 3 k = lx_K k) (hf : ∀ k i, 17 ≤ k → i < 1000 → eh_i G k i = b (100000 + 1000 * k + i)) :
    v = none ∧ eh_N h' = eh_N h ∧ ∃ h1 h2, iC b n m (eh_V h1) ∧ eh_i (eh_V h1) 2 4 = nI 0 ∧ ri_calE ri_md (d + 2) 74 [.ref 2] h1 = some (none, h2) ∧ iC b n m (eh_V h2) ∧ eh_V h' = eh_V h2 := by
  obtain ⟨rs, hrs, E⟩ := eh_in E (q := md_73) rfl
  rcases op_a E hV ty rfl rfl rfl hl with ⟨c, -⟩ | ⟨-, hz, loz, E1, v1, n1, t1, l0, -, -⟩
  · rw [hn, lx_i (a := n) (by omega)] at c
    omega
  · have i1 : iC b n m (eh_V hz) := by
      rw [v1]
      have fr : eh_fr (fun k _ => Nat.beq k 2) G (eh_u (eh_u (eh_u (eh_u (eh_u G 2 2 (.int ln)) 2 3 (.int mo)) 2 4 (.int 0)) 2 9 (.int 0)) 2 10 (.int 0)) := ((((eh_fr.rf.up rfl).up rfl).up rfl).up rfl).up rfl
      exact ⟨t1, ⟨hn, hm, n9, m9, hb, hk, fun k i h1 h2 => (fr.i (eh_bf (by omega))).trans (hf k i h1 h2)⟩, 0, Nat.zero_le _, rfl⟩
    obtain ⟨h2, X, i2, r1, r2, r3, -⟩ := op_b E1 rfl i1 l0
    exact ⟨by rw [← hrs, r1]; rfl, r3.trans n1, hz, h2, i1, by rw [v1]; rfl, X, i2, r2⟩
theorem sp_105 (E : ri_calE ri_md (d + 4) 105 [.ref 0, .int mo] h = some (v, h')) (hV : eh_V h = G) (ty : eh_ty tC G) (hl : (eh_N h).take 209 = NCl) (hn : eh_i G 0 1 = nI n) (n9 : n ≤ 940) (hm : mo = nI m) (m9 : m ≤ 940) (hb : ∀ i, i < n → eh_i G 1 i = b i) (hk : ∀ k, k < 24 → eh_l G 3 k = lx_K k) (hf : ∀ k i, 17 ≤ k → i < 1000 → eh_i G k i = b (100000 + 1000 * k + i)) :
    v = none ∧ eh_N h' = eh_N h ∧ ∃ h1 h2, iC b n m (eh_V h1) ∧ eh_i (eh_V h1) 2 4 = nI 0 ∧ ri_calE ri_md (d + 2) 74 [.ref 2] h1 = some (none, h2) ∧ iC b n m (eh_V h2) ∧ eh_V h' = eh_u (eh_V h2) 0 1 (.int 0) := by
  obtain ⟨rs, hrs, E⟩ := eh_in E (q := md_105) rfl
  have E := E.ld (p := 1) (t := ri_isA) (i := 0) (n := 1) (v := .ref 0) rfl (e := (.aload_n 0, 1, [], .null)) rfl rfl (fun _ _ => rfl) rfl rfl
  have E := E.gr (n := 2) (p := 4) rfl (x := 22) (m := 3) (w := .null) (t := 11) (i := 2) (u := 569) rfl rfl hV ty rfl
  have E := E.ld (p := 5) (t := ri_isA) (i := 0) (n := 1) (v := .ref 0) rfl (e := (.aload_n 0, 1, [], .null)) rfl rfl (fun _ _ => rfl) rfl rfl
  have E := E.gi (y := eh_i G 0 1) (p := 8) rfl (x := 13) (m := 3) (w := .null) (t := 11) (i := 1) (u := 568) rfl rfl hV ty rfl rfl
  have E := E.ld (p := 9) (t := ri_isI) (i := 1) (n := 1) (v := .int mo) rfl (e := (.iload_n 1, 1, [], .null)) rfl rfl (fun _ _ => rfl) rfl rfl
  obtain ⟨v1, h3, X, E⟩ := E.cv (p := 12) (as := [.int (eh_i G 0 1), .int mo]) (b := 2) (r := []) rfl (x := 142) (m := 3) (w := .null) (j := 73) (n := 2) (t := 8) (u := [639, 641, 640]) rfl rfl rfl
  obtain ⟨z1, n3, h1, h2, i1, a1, X1, i2, V3⟩ := sp_73 X hV ty hl hn n9 hm m9 hb hk hf
  subst z1
  have E : eh_e _ _ 12 (ri_as 0 [.ref 0, .int mo]) [] h3 rs h' := E
  obtain ⟨r1, r2, r3⟩ := ot_b E V3 i2.1 rfl
  exact ⟨by rw [← hrs, r1]; rfl, r3.trans n3, h1, h2, i1, a1, X1, i2, r2⟩
end OPEN
/-- what clears does -/
def pMh (k _i : Nat) : Bool := Nat.beq k 3
def cl_M (G G1 : eh_W) : Prop := eh_fr pMh G G1 ∧ eh_i G1 3 0 = 4 ∧ eh_i G1 3 1 = 3 ∧ eh_i G1 3 2 = 20 ∧ eh_i G1 3 8 = -1 ∧ ∀ j, j < 96 → j ≠ 0 → j ≠ 1 → j ≠ 2 → j ≠ 8 → eh_i G1 3 j = 0
theorem cl_lp {cal : eh_K} {rs : List Value} {h' : ri_H} : ∀ (f k : Nat) (lo : List (Nat × Value)) (h : ri_H) (G : eh_W), k + f = 96 → eh_e cal md_154 2 lo [] h rs h' → eh_V h = G → eh_ty tM G → ri_lk lo 0 = some (.ref 0) → ri_lk lo 1 = some (.int (nI k)) → (∀ j, j < k → eh_i G 3 j = 0) → rs = [] ∧ eh_N h' = eh_N h ∧ eh_ty tM (eh_V h') ∧ cl_M G (eh_V h') := by
  intro f
  induction f with
  | zero =>
    intro k lo h G hf E hV ty l0 l1 hz
    have z := cl_i E hV ty l0 l1
    rw [lx_i (a := k) (by omega)] at z
    rcases z with ⟨-, r1, r2, r3⟩ | ⟨c, -⟩
    · refine ⟨r1, r3, ?_, ?_⟩
      · rw [r2]
        exact (((ty.ui rfl).ui rfl).ui rfl).ui rfl
      · rw [r2]
        refine ⟨(((eh_fr.rf.up rfl).up rfl).up rfl).up rfl, rfl, rfl, rfl, rfl, fun j hj h0 h1 h2 h8 => ?_⟩
        have e8 := eh_i_ne (eh_u (eh_u (eh_u G 3 0 (.int 4)) 3 1 (.int 3)) 3 2 (.int 20)) (.int (-1)) (k := 3) (i := 8) (a := 3) (b := j) (Or.inr (fun x => h8 x.symm))
        have e2 := eh_i_ne (eh_u (eh_u G 3 0 (.int 4)) 3 1 (.int 3)) (.int 20) (k := 3) (i := 2) (a := 3) (b := j) (Or.inr (fun x => h2 x.symm))
        have e1 := eh_i_ne (eh_u G 3 0 (.int 4)) (.int 3) (k := 3) (i := 1) (a := 3) (b := j) (Or.inr (fun x => h1 x.symm))
        have e0 := eh_i_ne G (.int 4) (k := 3) (i := 0) (a := 3) (b := j) (Or.inr (fun x => h0 x.symm))
        exact e8.trans (e2.trans (e1.trans (e0.trans (hz j (by omega)))))
    · omega
  | succ f ih =>
    intro k lo h G hf E hV ty l0 l1 hz
    have z := cl_i E hV ty l0 l1
    rw [lx_i (a := k) (by omega), lx_cl (a := k) (by omega)] at z
    rcases z with ⟨c, -⟩ | ⟨-, h1, lo1, E1, v1, n1, t1, m0, m1⟩
    · omega
    · rw [lx_a1] at m1
      obtain ⟨r1, r2, r3, r4, r5, r6, r7, r8, r9⟩ := ih (k + 1) lo1 h1 _ (by omega) E1 v1 t1 m0 m1 (fun j hj => by
        by_cases e : j = k
        · rw [e]
          exact eh_i_self _ _ _ _
        · rw [eh_i_ne G (.int 0) (k := 3) (i := k) (a := 3) (b := j) (Or.inr (fun x => e x.symm))]
          exact hz j (by omega))
      exact ⟨r1, r2.trans n1, r3, (eh_fr.rf.up rfl).tr r4, r5, r6, r7, r8, r9⟩
theorem sp_154 {d : Nat} {h h' : ri_H} {v : Option Value} {G : eh_W} (E : ri_calE ri_md (d + 1) 154 [.ref 0] h = some (v, h')) (hV : eh_V h = G) (ty : eh_ty tM G) : ∃ G1, cl_M G G1 ∧ eh_ty tM G1 ∧ v = none ∧ eh_V h' = G1 ∧ eh_N h' = eh_N h := by
  obtain ⟨rs, hrs, E⟩ := eh_in E (q := md_154) rfl
  obtain ⟨hz, loz, E, v1, n1, t1, l0, l1⟩ := cl_a E hV ty rfl
  obtain ⟨r1, n2, t2, c⟩ := cl_lp 96 0 loz hz _ (by omega) E v1 t1 l0 l1 (fun j hj => absurd hj (Nat.not_lt_zero j))
  exact ⟨_, c, t2, by rw [← hrs, r1]; rfl, rfl, n2.trans n1⟩
