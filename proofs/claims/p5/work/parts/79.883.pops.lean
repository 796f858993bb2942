/-! nots, joins (reference): what they take from the stack -/
def pNo (k i : Nat) : Bool := Nat.beq k 4 || (Nat.beq k 0 && (Nat.beq i 39 || (Nat.beq i 41 || Nat.beq i 42)))
theorem sub1 {x : Int32} (h : 0 < x.toInt) : (x - 1).toInt = x.toInt - 1 := by
  have e1 : (1 : Int32).toInt = 1 := by decide
  have h1 := Int32.toInt_lt x
  rw [Int32.toInt_sub, e1]
  exact Int.bmod_eq_of_le (by omega) (by omega)
section POPS
variable {d : Nat} {rs : List Value} {h' : ri_H} {b : Nat → Int32} {n m : Nat} {ti : Int32}
theorem fr_242 {h : ri_H} {v : Option Value} {wh si nu : Int32} (E : ri_calE ri_md (d + 1) 242 [.ref 0, .int wh, .int si, .int nu] h = some (v, h')) (iv : iT b n m (eh_V h)) : eh_fr (fun k i => Nat.beq k 4 || (Nat.beq k 0 && Nat.beq i 39)) (eh_V h) (eh_V h') := by
  obtain ⟨-, r2, -⟩ := zr_242 E rfl iv
  rw [r2]
  exact (((eh_fr.rf.up rfl).up rfl).up rfl).up rfl
theorem nots_l : ∀ (f : Nat) (lo : List (Nat × Value)) (h : ri_H) (G : eh_W), (eh_i G 0 41).toInt.toNat = f → eh_e (ri_calE ri_md (d + 1)) md_244 0 lo [] h rs h' → eh_V h = G → iT b n m G → ri_lk lo 0 = some (.ref 0) → rs = [] ∧ eh_N h' = eh_N h ∧ iT b n m (eh_V h') ∧ eh_fr pNo G (eh_V h') ∧ ∀ T j dp, T + j ≤ 1000 → dp + j ≤ 1000 → eh_i G 0 41 = nI (T + j) → eh_i G 0 42 = nI (dp + j) → (∀ i, T ≤ i → i < T + j → eh_i G 13 i = 20) → (0 < T → eh_i G 13 (T - 1) ≠ 20) → eh_i (eh_V h') 0 41 = nI T ∧ eh_i (eh_V h') 0 42 = nI dp := by
  intro f
  induction f with
  | zero =>
    intro lo h G hf E hV iv l0
    rcases zn_l E hV iv l0 with ⟨c, r1, r2, r3, r4⟩ | ⟨c, -⟩ | ⟨_, _, c, -⟩
    · refine ⟨r1, r3, by rw [r2]; exact iv, by rw [r2]; exact eh_fr.rf, fun T j dp h1 h2 e1 e2 _ _ => ?_⟩
      rw [e1, lx_i (by omega)] at hf
      have : j = 0 := by omega
      rw [r2, e1, e2, this]
      exact ⟨rfl, rfl⟩
    · omega
    · omega
  | succ f ih =>
    intro lo h G hf E hV iv l0
    rcases zn_l E hV iv l0 with ⟨c, -⟩ | ⟨c, c1, r1, r2, r3, r4⟩ | ⟨h6, h9, c, c1, v6, X, i9, hz, loz, E1, w1, w2, w3, w4⟩
    · omega
    · refine ⟨r1, r3, by rw [r2]; exact iv, by rw [r2]; exact eh_fr.rf, fun T j dp h1 h2 e1 e2 hs ht => ?_⟩
      have j0 : j = 0 := by
        apply Nat.eq_zero_of_not_pos
        intro hj
        refine c1 ?_
        rw [e1, show nI (T + j) - 1 = nI (T + j - 1) from lx_sub (b := 1) (by omega), lx_cl (by omega)]
        exact hs _ (by omega) (by omega)
      rw [r2, e1, e2, j0]
      exact ⟨rfl, rfl⟩
    · have i6 : iT b n m (eh_V h6) := by
        rw [v6]
        have q : iT b n m (eh_u G 0 41 (.int (eh_i G 0 41 - 1))) := iT_u iv (iv.1.ui rfl) rfl
        exact iT_u q (q.1.ui rfl) rfl
      have f9 := fr_242 X i6
      have t9 : eh_i (eh_V h9) 0 41 = eh_i G 0 41 - 1 := (f9.i rfl).trans (by rw [v6]; rfl)
      have d9 : eh_i (eh_V h9) 0 42 = eh_i G 0 42 - 1 := (f9.i rfl).trans (by rw [v6]; rfl)
      have s9 : ∀ i, eh_i (eh_V h9) 13 i = eh_i G 13 i := fun i => (f9.i rfl).trans (by rw [v6]; rfl)
      have g9 : eh_fr pNo G (eh_V h9) := by
        refine eh_fr.tr ?_ (f9.mo (fun k i e => ?_))
        · rw [v6]
          exact (eh_fr.rf.up rfl).up rfl
        · unfold pNo at e
          simp only [Bool.or_eq_false_iff, Bool.and_eq_false_iff] at e
          simp only [Bool.or_eq_false_iff, Bool.and_eq_false_iff]
          exact ⟨e.1, e.2.elim Or.inl (fun x => Or.inr x.1)⟩
      obtain ⟨q1, q2, q3, q4, q5⟩ := ih loz hz _ (by rw [t9, sub1 c]; omega) E1 w1 w3 w4
      refine ⟨q1, q2.trans w2, q3, g9.tr q4, fun T j dp h1 h2 e1 e2 hs ht => ?_⟩
      have j0 : 0 < j := by
        apply Nat.pos_of_ne_zero
        intro hj
        subst hj
        rw [e1, lx_i (by omega)] at c
        refine ht (by omega) ?_
        rw [e1, show nI (T + 0) - 1 = nI (T + 0 - 1) from lx_sub (b := 1) (by omega), lx_cl (by omega)] at c1
        exact c1
      refine q5 T (j - 1) dp (by omega) (by omega) ?_ ?_ (fun i a a2 => (s9 i).trans (hs i a (by omega))) (fun a => by rw [s9]; exact ht a)
      · rw [t9, e1, show nI (T + j) - 1 = nI (T + j - 1) from lx_sub (b := 1) (by omega), show T + j - 1 = T + (j - 1) by omega]
      · rw [d9, e2, show nI (dp + j) - 1 = nI (dp + j - 1) from lx_sub (b := 1) (by omega), show dp + j - 1 = dp + (j - 1) by omega]
theorem nots_s {h : ri_H} {v : Option Value} (E : ri_calE ri_md (d + 2) 244 [.ref 0] h = some (v, h')) (iv : iT b n m (eh_V h)) : v = none ∧ eh_N h' = eh_N h ∧ iT b n m (eh_V h') ∧ eh_fr pNo (eh_V h) (eh_V h') ∧ ∀ T j dp, T + j ≤ 1000 → dp + j ≤ 1000 → eh_i (eh_V h) 0 41 = nI (T + j) → eh_i (eh_V h) 0 42 = nI (dp + j) → (∀ i, T ≤ i → i < T + j → eh_i (eh_V h) 13 i = 20) → (0 < T → eh_i (eh_V h) 13 (T - 1) ≠ 20) → eh_i (eh_V h') 0 41 = nI T ∧ eh_i (eh_V h') 0 42 = nI dp := by
  obtain ⟨rs, hrs, E⟩ := eh_in E (q := md_244) rfl
  obtain ⟨q1, q⟩ := nots_l _ _ h _ rfl E rfl iv rfl
  exact ⟨by rw [← hrs, q1]; rfl, q⟩
/-- what joins takes -/
def pop (ti x : Int32) : Prop := x = 21 ∨ (x = 22 ∧ ti = 22)
theorem joins_l : ∀ (f : Nat) (lo : List (Nat × Value)) (h : ri_H) (G : eh_W), (eh_i G 0 41).toInt.toNat = f → eh_e (ri_calE ri_md (d + 1)) md_243 0 lo [] h rs h' → eh_V h = G → iT b n m G → ri_lk lo 0 = some (.ref 0) → ri_lk lo 1 = some (.int ti) → rs = [] ∧ eh_N h' = eh_N h ∧ iT b n m (eh_V h') ∧ eh_fr pNo G (eh_V h') ∧ eh_i (eh_V h') 0 42 = eh_i G 0 42 ∧ ∀ T j, T + j ≤ 1000 → eh_i G 0 41 = nI (T + j) → (∀ i, T ≤ i → i < T + j → pop ti (eh_i G 13 i)) → (0 < T → ¬ pop ti (eh_i G 13 (T - 1))) → eh_i (eh_V h') 0 41 = nI T := by
  intro f
  induction f with
  | zero =>
    intro lo h G hf E hV iv l0 l1
    rcases zj_l E hV iv l0 l1 with ⟨c, r1, r2, r3, r4⟩ | ⟨_, _, c, -⟩ | ⟨c, -⟩ | ⟨c, -⟩ | ⟨_, _, c, -⟩
    · refine ⟨r1, r3, by rw [r2]; exact iv, by rw [r2]; exact eh_fr.rf, by rw [r2], fun T j h1 e1 _ _ => ?_⟩
      rw [e1, lx_i (by omega)] at hf
      have : j = 0 := by omega
      rw [r2, e1, this]
      rfl
    all_goals omega
  | succ f ih =>
    intro lo h G hf E hV iv l0 l1
    have stay : 0 < (eh_i G 0 41).toInt → ¬ pop ti (eh_i G 13 (eh_i G 0 41 - 1).toNatClampNeg) → eh_V h' = G → ∀ T j, T + j ≤ 1000 → eh_i G 0 41 = nI (T + j) → (∀ i, T ≤ i → i < T + j → pop ti (eh_i G 13 i)) → (0 < T → ¬ pop ti (eh_i G 13 (T - 1))) → eh_i (eh_V h') 0 41 = nI T := fun c c1 r2 T j h1 e1 hs ht => by
      have j0 : j = 0 := by
        apply Nat.eq_zero_of_not_pos
        intro hj
        refine c1 ?_
        rw [e1, show nI (T + j) - 1 = nI (T + j - 1) from lx_sub (b := 1) (by omega), lx_cl (by omega)]
        exact hs _ (by omega) (by omega)
      rw [r2, e1, j0]
      rfl
    have go : ∀ {hx h9 : ri_H} {w : Int32}, 0 < (eh_i G 0 41).toInt → pop ti (eh_i G 13 (eh_i G 0 41 - 1).toNatClampNeg) → eh_V hx = eh_u G 0 41 (.int (eh_i G 0 41 - 1)) → ri_calE ri_md (d + 1) 242 [.ref 0, .int w, .int 0, .int 0] hx = some (none, h9) → iT b n m (eh_V h9) → (∃ hz loz, eh_e (ri_calE ri_md (d + 1)) md_243 0 loz [] hz rs h' ∧ eh_V hz = eh_V h9 ∧ eh_N hz = eh_N h ∧ iT b n m (eh_V h9) ∧ ri_lk loz 0 = some (.ref 0) ∧ ri_lk loz 1 = some (.int ti)) → rs = [] ∧ eh_N h' = eh_N h ∧ iT b n m (eh_V h') ∧ eh_fr pNo G (eh_V h') ∧ eh_i (eh_V h') 0 42 = eh_i G 0 42 ∧ ∀ T j, T + j ≤ 1000 → eh_i G 0 41 = nI (T + j) → (∀ i, T ≤ i → i < T + j → pop ti (eh_i G 13 i)) → (0 < T → ¬ pop ti (eh_i G 13 (T - 1))) → eh_i (eh_V h') 0 41 = nI T := fun {hx h9 w} c c1 v6 X i9 ⟨hz, loz, E1, w1, w2, w3, w4, w5⟩ => by
      have i6 : iT b n m (eh_V hx) := by
        rw [v6]
        exact iT_u iv (iv.1.ui rfl) rfl
      have f9 := fr_242 X i6
      have t9 : eh_i (eh_V h9) 0 41 = eh_i G 0 41 - 1 := (f9.i rfl).trans (by rw [v6]; rfl)
      have d9 : eh_i (eh_V h9) 0 42 = eh_i G 0 42 := (f9.i rfl).trans (by rw [v6]; rfl)
      have s9 : ∀ i, eh_i (eh_V h9) 13 i = eh_i G 13 i := fun i => (f9.i rfl).trans (by rw [v6]; rfl)
      have g9 : eh_fr pNo G (eh_V h9) := by
        refine eh_fr.tr ?_ (f9.mo (fun k i e => ?_))
        · rw [v6]
          exact eh_fr.rf.up rfl
        · unfold pNo at e
          simp only [Bool.or_eq_false_iff, Bool.and_eq_false_iff] at e
          simp only [Bool.or_eq_false_iff, Bool.and_eq_false_iff]
          exact ⟨e.1, e.2.elim Or.inl (fun x => Or.inr x.1)⟩
      obtain ⟨q1, q2, q3, q4, q6, q5⟩ := ih loz hz _ (by rw [t9, sub1 c]; omega) E1 w1 w3 w4 w5
      refine ⟨q1, q2.trans w2, q3, g9.tr q4, q6.trans d9, fun T j h1 e1 hs ht => ?_⟩
      have j0 : 0 < j := by
        apply Nat.pos_of_ne_zero
        intro hj
        subst hj
        rw [e1, lx_i (by omega)] at c
        refine ht (by omega) ?_
        rw [e1, show nI (T + 0) - 1 = nI (T + 0 - 1) from lx_sub (b := 1) (by omega), lx_cl (by omega)] at c1
        exact c1
      refine q5 T (j - 1) (by omega) ?_ (fun i a a2 => by rw [s9 i]; exact hs i a (by omega)) (fun a => by rw [s9]; exact ht a)
      rw [t9, e1, show nI (T + j) - 1 = nI (T + j - 1) from lx_sub (b := 1) (by omega), show T + j - 1 = T + (j - 1) by omega]
    rcases zj_l E hV iv l0 l1 with ⟨c, -⟩ | ⟨h3, h6, c, c1, v6, X, i9, w⟩ | ⟨c, c1, c2, r1, r2, r3, r4⟩ | ⟨c, c1, c2, c3, r1, r2, r3, r4⟩ | ⟨h3, h6, c, c1, c2, c3, v6, X, i9, w⟩
    · omega
    · exact go c (Or.inl c1) v6 X i9 w
    · exact ⟨r1, r3, by rw [r2]; exact iv, by rw [r2]; exact eh_fr.rf, by rw [r2], stay c (fun x => x.elim c1 (fun y => c2 y.1)) r2⟩
    · exact ⟨r1, r3, by rw [r2]; exact iv, by rw [r2]; exact eh_fr.rf, by rw [r2], stay c (fun x => x.elim c1 (fun y => c3 y.2)) r2⟩
    · exact go c (Or.inr ⟨c2, c3⟩) v6 X i9 w
theorem joins_s {h : ri_H} {v : Option Value} (E : ri_calE ri_md (d + 2) 243 [.ref 0, .int ti] h = some (v, h')) (iv : iT b n m (eh_V h)) : v = none ∧ eh_N h' = eh_N h ∧ iT b n m (eh_V h') ∧ eh_fr pNo (eh_V h) (eh_V h') ∧ eh_i (eh_V h') 0 42 = eh_i (eh_V h) 0 42 ∧ ∀ T j, T + j ≤ 1000 → eh_i (eh_V h) 0 41 = nI (T + j) → (∀ i, T ≤ i → i < T + j → pop ti (eh_i (eh_V h) 13 i)) → (0 < T → ¬ pop ti (eh_i (eh_V h) 13 (T - 1))) → eh_i (eh_V h') 0 41 = nI T := by
  obtain ⟨rs, hrs, E⟩ := eh_in E (q := md_243) rfl
  obtain ⟨q1, q⟩ := joins_l _ _ h _ rfl E rfl iv rfl rfl
  exact ⟨by rw [← hrs, q1]; rfl, q⟩
theorem ts_244 {h : ri_H} {v : Option Value} (E : ri_calE ri_md (d + 2) 244 [.ref 0] h = some (v, h')) (iv : iT b n m (eh_V h)) : v = none ∧ iT b n m (eh_V h') ∧ eh_N h' = eh_N h := by
  obtain ⟨a, b, c, -⟩ := nots_s E iv
  exact ⟨a, c, b⟩
theorem ts_243 {h : ri_H} {v : Option Value} (E : ri_calE ri_md (d + 2) 243 [.ref 0, .int ti] h = some (v, h')) (iv : iT b n m (eh_V h)) : v = none ∧ iT b n m (eh_V h') ∧ eh_N h' = eh_N h := by
  obtain ⟨a, b, c, -⟩ := joins_s E iv
  exact ⟨a, c, b⟩
end POPS
