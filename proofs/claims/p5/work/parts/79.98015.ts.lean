/-! a LINE of a DIARY, the class's run, told shorter -/
section DLC
variable {d n m : Nat} {b : Nat → Int32} {h h' : ri_H} {lo : List (Nat × Value)} {rs : List Value}
theorem fr_74S {v : Option Value} (E : ri_calE ri_md (d + 2) 74 [.ref 2] h = some (v, h')) (iv : iS b n m (eh_V h)) : eh_fr pCt (eh_V h) (eh_V h') := by
  have iv := iv.C (eh_V h)
  obtain ⟨a, an, a4⟩ := iv.2.2
  obtain ⟨-, f, -⟩ := sp_74 E rfl iv a4 an
  exact f
theorem fr_158T {v : Option Value} (E : ri_calE ri_md (d + 2) 158 [.ref 0] h = some (v, h')) (iv : iT b n m (eh_V h)) : eh_fr pMt (eh_V h) (eh_V h') := by
  have iv := iv.M (eh_V h)
  obtain ⟨a, an, a4⟩ := iv.2.2
  obtain ⟨-, f, -⟩ := sp_158 E rfl iv a4 an
  exact f
theorem ts_2 {v : Option Value} (E : ri_calE ri_md (d + 5) 2 [.ref 199, .ref 2, .ref 23] h = some (v, h')) (iv : iS b n m (eh_V h)) : ∃ x : Int32, v = some (.int x) ∧ iS b n m (eh_V h') ∧ eh_N h' = eh_N h := by
  obtain ⟨rs, hrs, E⟩ := eh_in E (q := md_2) rfl
  have wrap : ∀ {y : Int32}, rs = [.int y] → v = some (.int y) := fun e => by
    rw [← hrs, e]
    rfl
  have fin : ∀ {g : ri_H} {lo : List (Nat × Value)} {ke : Int32}, eh_e (ri_calE ri_md (d + 4)) md_2 187 lo [] g rs h' → iS b n m (eh_V g) → ri_lk lo 0 = some (.ref 199) → ri_lk lo 1 = some (.ref 2) → ri_lk lo 2 = some (.ref 23) → ri_lk lo 6 = some (.int ke) → eh_N g = eh_N h → ∃ x : Int32, v = some (.int x) ∧ iS b n m (eh_V h') ∧ eh_N h' = eh_N h := fun {g lo ke} E i l0 l1 l2 l6 hn => by
    rcases za_d E rfl i l0 l1 l2 l6 with ⟨_, _, _, -, -, -, -, r1, r2, r3, r4⟩ | ⟨_, _, _, -, -, -, -, r1, r2, r3, r4⟩
    · exact ⟨0, wrap r1, by rw [r2]; exact r4, r3.trans hn⟩
    · exact ⟨1, wrap r1, by rw [r2]; exact r4, r3.trans hn⟩
  have m0 : ∀ {g : ri_H} {lo : List (Nat × Value)}, eh_e (ri_calE ri_md (d + 4)) md_2 24 lo [] g rs h' → iS b n m (eh_V g) → ri_lk lo 0 = some (.ref 199) → ri_lk lo 1 = some (.ref 2) → ri_lk lo 2 = some (.ref 23) → ri_lk lo 3 = some (.int 0) → eh_N g = eh_N h → ∃ x : Int32, v = some (.int x) ∧ iS b n m (eh_V h') ∧ eh_N h' = eh_N h := fun {g lo} E i l0 l1 l2 l3 hn => by
    rcases za_c (d := d + 1) E rfl i l0 l1 l2 l3 with ⟨_, -, -, -, r1, r2, r3, r4⟩ | ⟨_, _, _, _, _, _, -, -, -, -, -, -, -, -, -, -, -, -, -, hz, loz, E1, a1, a2, a3, b0, b1, b2, -, -, -, b6⟩ | ⟨_, _, _, _, _, _, -, -, -, -, -, -, -, -, -, -, -, -, -, r1, r2, r3, r4⟩ | ⟨_, _, _, _, _, _, -, -, -, -, -, -, -, -, -, -, -, -, -, hz, loz, E1, a1, a2, a3, b0, b1, b2, -, -, -, b6⟩ | ⟨_, _, _, _, _, _, -, -, -, -, -, -, -, -, -, -, -, -, -, r1, r2, r3, r4⟩ | ⟨_, -, -, -, -, -, r1, r2, r3, r4⟩ | ⟨_, -, -, -, -, -, r1, r2, r3, r4⟩ | ⟨_, _, _, _, _, _, -, -, -, -, -, -, -, -, -, -, -, -, -, -, hz, loz, E1, a1, a2, a3, b0, b1, b2, -, -, -, b6⟩ | ⟨_, _, _, _, _, _, -, -, -, -, -, -, -, -, -, -, -, -, -, -, r1, r2, r3, r4⟩ | ⟨_, _, _, _, _, _, -, -, -, -, -, -, -, -, -, -, -, -, -, -, hz, loz, E1, a1, a2, a3, b0, b1, b2, -, -, -, b6⟩ | ⟨_, _, _, _, _, _, -, -, -, -, -, -, -, -, -, -, -, -, -, -, r1, r2, r3, r4⟩ | ⟨_, -, -, -, -, -, -, r1, r2, r3, r4⟩ | ⟨-, r1, r2, r3, r4⟩
    all_goals first
      | exact ⟨0, wrap r1, by rw [r2]; exact r4, r3.trans hn⟩
      | exact fin E1 (by rw [a1]; exact a3) b0 b1 b2 b6 (a2.trans hn)
  have m1 : ∀ {g : ri_H} {lo : List (Nat × Value)}, eh_e (ri_calE ri_md (d + 4)) md_2 24 lo [] g rs h' → iS b n m (eh_V g) → ri_lk lo 0 = some (.ref 199) → ri_lk lo 1 = some (.ref 2) → ri_lk lo 2 = some (.ref 23) → ri_lk lo 3 = some (.int 1) → eh_N g = eh_N h → ∃ x : Int32, v = some (.int x) ∧ iS b n m (eh_V h') ∧ eh_N h' = eh_N h := fun {g lo} E i l0 l1 l2 l3 hn => by
    rcases za_b (d := d + 2) E rfl i l0 l1 l2 l3 with ⟨_, -, -, -, hz, loz, E1, a1, a2, a3, b0, b1, b2, -, -, -, b6⟩ | ⟨-, r1, r2, r3, r4⟩
    · exact fin E1 (by rw [a1]; exact a3) b0 b1 b2 b6 (a2.trans hn)
    · exact ⟨0, wrap r1, by rw [r2]; exact r4, r3.trans hn⟩
  rcases za_a (d := d + 3) E rfl iv.1 rfl rfl rfl with ⟨-, hz, loz, E1, a1, a2, -, b0, b1, b2, b3⟩ | ⟨-, -, -, hz, loz, E1, a1, a2, -, b0, b1, b2, b3⟩ | ⟨-, -, -, hz, loz, E1, a1, a2, -, b0, b1, b2, b3⟩ | ⟨-, -, hz, loz, E1, a1, a2, -, b0, b1, b2, b3⟩
  · exact m0 E1 (by rw [a1]; exact iv) b0 b1 b2 b3 a2
  · exact m0 E1 (by rw [a1]; exact iv) b0 b1 b2 b3 a2
  · exact m1 E1 (by rw [a1]; exact iv) b0 b1 b2 b3 a2
  · exact m1 E1 (by rw [a1]; exact iv) b0 b1 b2 b3 a2
/-- RINGS, DAY -/
theorem zA_2 (E : eh_e (ri_calE ri_md (d + 4)) md_2 0 lo [] h rs h') (iv : iS b n m (eh_V h)) (l0 : ri_lk lo 0 = some (.ref 199)) (l1 : ri_lk lo 1 = some (.ref 2)) (l2 : ri_lk lo 2 = some (.ref 23)) (ha : eh_i (eh_V h) 2 5 = 2) (hb : eh_i (eh_V h) 2 7 = 10 ∨ eh_i (eh_V h) 2 7 = 12) : (¬ (eh_i (eh_V h) 199 3).toInt < 40 ∧ rs = [.int 0] ∧ eh_V h' = eh_u (eh_u (eh_V h) 2 9 (.int 4)) 2 10 (.int (eh_i (eh_V h) 2 6))) ∨ ((eh_i (eh_V h) 199 3).toInt < 40 ∧ ∃ g h5 hz loz, eh_V g = eh_V h ∧ ri_calE ri_md (d + 2 + 2) 74 [.ref 2] g = some (none, h5) ∧ iS b n m (eh_V h5) ∧ eh_e (ri_calE ri_md (d + 4)) md_2 187 loz [] hz rs h' ∧ eh_V hz = eh_V h5 ∧ ri_lk loz 0 = some (.ref 199) ∧ ri_lk loz 1 = some (.ref 2) ∧ ri_lk loz 2 = some (.ref 23) ∧ ri_lk loz 6 = some (.int (eh_i (eh_V h) 2 7))) := by
  have m1 : ∀ {g : ri_H} {lo : List (Nat × Value)}, eh_e (ri_calE ri_md (d + 4)) md_2 24 lo [] g rs h' → eh_V g = eh_V h → ri_lk lo 0 = some (.ref 199) → ri_lk lo 1 = some (.ref 2) → ri_lk lo 2 = some (.ref 23) → ri_lk lo 3 = some (.int 1) → _ := fun {g lo} E vg l0 l1 l2 l3 => za_b (d := d + 2) E vg iv l0 l1 l2 l3
  have fin : ∀ {g : ri_H} {lo : List (Nat × Value)}, eh_e (ri_calE ri_md (d + 4)) md_2 24 lo [] g rs h' → eh_V g = eh_V h → ri_lk lo 0 = some (.ref 199) → ri_lk lo 1 = some (.ref 2) → ri_lk lo 2 = some (.ref 23) → ri_lk lo 3 = some (.int 1) → (¬ (eh_i (eh_V h) 199 3).toInt < 40 ∧ rs = [.int 0] ∧ eh_V h' = eh_u (eh_u (eh_V h) 2 9 (.int 4)) 2 10 (.int (eh_i (eh_V h) 2 6))) ∨ ((eh_i (eh_V h) 199 3).toInt < 40 ∧ ∃ g h5 hz loz, eh_V g = eh_V h ∧ ri_calE ri_md (d + 2 + 2) 74 [.ref 2] g = some (none, h5) ∧ iS b n m (eh_V h5) ∧ eh_e (ri_calE ri_md (d + 4)) md_2 187 loz [] hz rs h' ∧ eh_V hz = eh_V h5 ∧ ri_lk loz 0 = some (.ref 199) ∧ ri_lk loz 1 = some (.ref 2) ∧ ri_lk loz 2 = some (.ref 23) ∧ ri_lk loz 6 = some (.int (eh_i (eh_V h) 2 7))) := fun {g lo} E vg l0 l1 l2 l3 => by
    rcases m1 E vg l0 l1 l2 l3 with ⟨h5, c0, X, i5, hz, loz, E1, a1, -, -, b0, b1, b2, -, -, -, b6⟩ | ⟨c0, r1, r2, -, -⟩
    · exact Or.inr ⟨c0, g, h5, hz, loz, vg, X, i5, E1, a1, b0, b1, b2, b6⟩
    · exact Or.inl ⟨c0, r1, r2⟩
  rcases za_a (d := d + 3) E rfl iv.1 l0 l1 l2 with ⟨c, -⟩ | ⟨-, c1, c2, -⟩ | ⟨-, -, -, hz, loz, E1, a1, a2, -, b0, b1, b2, b3⟩ | ⟨-, -, hz, loz, E1, a1, a2, -, b0, b1, b2, b3⟩
  · exact absurd ha c
  · rcases hb with x | x
    · exact absurd x c1
    · exact absurd x c2
  · exact fin E1 a1 b0 b1 b2 b3
  · exact fin E1 a1 b0 b1 b2 b3
/-- a NAME -/
def zC_F (G G' : eh_W) (rs : List Value) : Prop := ∃ f : Int32, rs = [.int 0] ∧ G' = eh_u (eh_u G 2 9 (.int f)) 2 10 (.int (eh_i G 2 6)) ∧ ((f = 1 ∧ ¬ eh_i G 2 5 = 3) ∨ (eh_i G 2 5 = 3 ∧ ∃ x : Int32, fd_C G 23 32 (eh_l G 2 8) x ∧ ((f = 3 ∧ (x = -1 ∨ (¬ x = -1 ∧ ¬ eh_i G 33 x.toNatClampNeg = 2 ∧ ¬ eh_i G 33 x.toNatClampNeg = 3))) ∨ (f = 4 ∧ ¬ x = -1 ∧ (eh_i G 33 x.toNatClampNeg = 2 ∨ eh_i G 33 x.toNatClampNeg = 3) ∧ ¬ (eh_i G 199 3).toInt < 40))))
def zC_K (d n m : Nat) (b : Nat → Int32) (G : eh_W) (h' : ri_H) (rs : List Value) : Prop := eh_i G 2 5 = 3 ∧ (eh_i G 199 3).toInt < 40 ∧ ∃ (x ke : Int32) (h2 h17 h19 : ri_H) (x9 : Int32) (h24 : ri_H), fd_C G 23 32 (eh_l G 2 8) x ∧ ¬ x = -1 ∧ ((eh_i G 33 x.toNatClampNeg = 2 ∧ ke = 9) ∨ (eh_i G 33 x.toNatClampNeg = 3 ∧ ke = 11)) ∧ eh_V h2 = G ∧ ri_calE ri_md (d + 3) 74 [.ref 2] h2 = some (none, h17) ∧ iS b n m (eh_V h17) ∧ (∃ a y, eh_V h19 = eh_u (eh_V h17) 201 a (.int y)) ∧ ri_calE ri_md (d + 3) 81 [.ref 2, .int ke] h19 = some (some (.int x9), h24) ∧ iS b n m (eh_V h24) ∧ ((x9 = 0 ∧ rs = [.int 0] ∧ eh_V h' = eh_V h24) ∨ (¬ x9 = 0 ∧ ∃ hz loz, eh_e (ri_calE ri_md (d + 3)) md_2 187 loz [] hz rs h' ∧ eh_V hz = eh_V h24 ∧ ri_lk loz 0 = some (.ref 199) ∧ ri_lk loz 1 = some (.ref 2) ∧ ri_lk loz 2 = some (.ref 23) ∧ ri_lk loz 6 = some (.int ke)))
theorem zC_24 (E : eh_e (ri_calE ri_md (d + 3)) md_2 24 lo [] h rs h') (iv : iS b n m (eh_V h)) (l0 : ri_lk lo 0 = some (.ref 199)) (l1 : ri_lk lo 1 = some (.ref 2)) (l2 : ri_lk lo 2 = some (.ref 23)) (l3 : ri_lk lo 3 = some (.int 0)) : zC_F (eh_V h) (eh_V h') rs ∨ zC_K d n m b (eh_V h) h' rs := by
  have k33 : ∀ {g g' : ri_H} {x : Int32}, eh_V g = eh_V h → ri_calE ri_md (d + 3) 74 [.ref 2] g = some (none, g') → eh_i (eh_V g') 33 x.toNatClampNeg = eh_i (eh_V h) 33 x.toNatClampNeg := fun {g g' x} e X => by
    rw [← e]
    exact (fr_74S (d := d + 1) X (by rw [e]; exact iv)).i rfl
  rcases za_c E rfl iv l0 l1 l2 l3 with ⟨x, c0, c1, c2, r1, r2, -, -⟩ | ⟨x, h2, h17, h19, x9, h24, c0, c1, c2, c3, c4, c5, c6, c7, c8, -⟩ | ⟨x, h2, h17, h19, x9, h24, c0, c1, c2, c3, c4, c5, c6, c7, c8, -⟩ | ⟨x, h2, h17, h19, x9, h24, c0, c1, c2, c3, c4, c5, c6, c7, c8, c9, c10, c11, c12, hz, loz, E1, a1, -, -, b0, b1, b2, -, -, -, b6⟩ | ⟨x, h2, h17, h19, x9, h24, c0, c1, c2, c3, c4, c5, c6, c7, c8, c9, c10, c11, c12, r1, r2, -, -⟩ | ⟨x, c0, c1, c2, c3, c4, r1, r2, -, -⟩ | ⟨x, c0, c1, c2, c3, c4, r1, r2, -, -⟩ | ⟨x, h2, h17, h19, x9, h24, c0, c1, c2, -, c3, c4, c5, c6, c7, c8, c9, c10, c11, c12, hz, loz, E1, a1, -, -, b0, b1, b2, -, -, -, b6⟩ | ⟨x, h2, h17, h19, x9, h24, c0, c1, c2, -, c3, c4, c5, c6, c7, c8, c9, c10, c11, c12, r1, r2, -, -⟩ | ⟨x, h2, h17, h19, x9, h24, c0, c1, c2, c33, c3, c4, c5, c6, c7, c8, -⟩ | ⟨x, h2, h17, h19, x9, h24, c0, c1, c2, c33, c3, c4, c5, c6, c7, c8, -⟩ | ⟨x, c0, c1, c2, -, c3, c4, r1, r2, -, -⟩ | ⟨c0, r1, r2, -, -⟩
  · exact Or.inl ⟨3, r1, r2, Or.inr ⟨c0, x, c1, Or.inl ⟨rfl, Or.inl c2⟩⟩⟩
  · exact absurd ((k33 c5 c6).trans c3) c8
  · exact absurd ((k33 c5 c6).trans c3) c8
  · exact Or.inr ⟨c0, c4, x, 9, h2, h17, h19, x9, h24, c1, c2, Or.inl ⟨c3, rfl⟩, c5, c6, c7, ⟨_, _, c9⟩, c10, c11, Or.inr ⟨c12, hz, loz, E1, a1, b0, b1, b2, b6⟩⟩
  · exact Or.inr ⟨c0, c4, x, 9, h2, h17, h19, x9, h24, c1, c2, Or.inl ⟨c3, rfl⟩, c5, c6, c7, ⟨_, _, c9⟩, c10, c11, Or.inl ⟨c12, r1, r2⟩⟩
  · exact Or.inl ⟨4, r1, r2, Or.inr ⟨c0, x, c1, Or.inr ⟨rfl, c2, Or.inl c3, c4⟩⟩⟩
  · exact Or.inl ⟨3, r1, r2, Or.inr ⟨c0, x, c1, Or.inl ⟨rfl, Or.inr ⟨c2, c3, c4⟩⟩⟩⟩
  · exact Or.inr ⟨c0, c4, x, 11, h2, h17, h19, x9, h24, c1, c2, Or.inr ⟨c3, rfl⟩, c5, c6, c7, ⟨_, _, c9⟩, c10, c11, Or.inr ⟨c12, hz, loz, E1, a1, b0, b1, b2, b6⟩⟩
  · exact Or.inr ⟨c0, c4, x, 11, h2, h17, h19, x9, h24, c1, c2, Or.inr ⟨c3, rfl⟩, c5, c6, c7, ⟨_, _, c9⟩, c10, c11, Or.inl ⟨c12, r1, r2⟩⟩
  · exact absurd ((k33 c5 c6).symm.trans c8) c33
  · exact absurd ((k33 c5 c6).symm.trans c8) c33
  · exact Or.inl ⟨4, r1, r2, Or.inr ⟨c0, x, c1, Or.inr ⟨rfl, c2, Or.inr c3, c4⟩⟩⟩
  · exact Or.inl ⟨1, r1, r2, Or.inl ⟨rfl, c0⟩⟩
theorem zC_2 (E : eh_e (ri_calE ri_md (d + 3)) md_2 0 lo [] h rs h') (iv : iS b n m (eh_V h)) (l0 : ri_lk lo 0 = some (.ref 199)) (l1 : ri_lk lo 1 = some (.ref 2)) (l2 : ri_lk lo 2 = some (.ref 23)) (ha : ¬ (eh_i (eh_V h) 2 5 = 2 ∧ eh_i (eh_V h) 2 7 = 10)) (hb : ¬ (eh_i (eh_V h) 2 5 = 2 ∧ eh_i (eh_V h) 2 7 = 12)) : zC_F (eh_V h) (eh_V h') rs ∨ zC_K d n m b (eh_V h) h' rs := by
  rcases za_a (d := d + 2) E rfl iv.1 l0 l1 l2 with ⟨-, hz, loz, E1, a1, a2, -, b0, b1, b2, b3⟩ | ⟨-, -, -, hz, loz, E1, a1, a2, -, b0, b1, b2, b3⟩ | ⟨c1, -, c2, -⟩ | ⟨c1, c2, -⟩
  · rw [← a1] at iv ⊢
    exact zC_24 E1 iv b0 b1 b2 b3
  · rw [← a1] at iv ⊢
    exact zC_24 E1 iv b0 b1 b2 b3
  · exact absurd ⟨c1, c2⟩ hb
  · exact absurd ⟨c1, c2⟩ ha
/-- what it tells -/
theorem zW_2 {ke : Int32} (E : eh_e (ri_calE ri_md (d + 4)) md_2 187 lo [] h rs h') (iv : iS b n m (eh_V h)) (l0 : ri_lk lo 0 = some (.ref 199)) (l1 : ri_lk lo 1 = some (.ref 2)) (l2 : ri_lk lo 2 = some (.ref 23)) (l6 : ri_lk lo 6 = some (.int ke)) : ∃ (h1 : ri_H) (x : Int32) (h4 : ri_H) (a a' : Nat), eh_V h1 = eh_u (eh_V h) 200 a (.int ke) ∧ iS b n m (eh_V h1) ∧ ri_calE ri_md (d + 4) 3 [.ref 2, .ref 23, .int ke] h1 = some (some (.int x), h4) ∧ iS b n m (eh_V h4) ∧ eh_V h' = eh_u (eh_V h4) 202 a' (.int x) ∧ iS b n m (eh_V h') ∧ (eh_i (eh_V h4) 199 3 = eh_i (eh_V h) 199 3 → ((x = -1 ∧ rs = [.int 0]) ∨ (¬ x = -1 ∧ rs = [.int 1]))) := by
  have i1 : ∀ {g : ri_H} {a : Nat}, eh_V g = eh_u (eh_V h) 200 a (.int ke) → iS b n m (eh_V g) := fun e => by
    rw [e]
    exact iS_u iv (iv.1.ui rfl) rfl
  rcases za_d E rfl iv l0 l1 l2 l6 with ⟨h1, x, h4, v1, X, i4, c, r1, r2, -, r4⟩ | ⟨h1, x, h4, v1, X, i4, c, r1, r2, -, r4⟩
  · exact ⟨h1, x, h4, _, _, v1, i1 v1, X, i4, r2, by rw [r2]; exact r4, fun e => by
      rw [e, eh_i_self] at c
      exact Or.inl ⟨c, r1⟩⟩
  · exact ⟨h1, x, h4, _, _, v1, i1 v1, X, i4, r2, by rw [r2]; exact r4, fun e => by
      rw [e, eh_i_self] at c
      exact Or.inr ⟨c, r1⟩⟩
end DLC
