theorem ts_238 {d : Nat} {h h' : ri_H} {v : Option Value} {b : Nat → Int32} {n m : Nat} (E : ri_calE ri_md (d + 4) 238 [.ref 0] h = some (v, h')) (iv : iT b n m (eh_V h)) : ∃ x : Int32, v = some (.int x) ∧ iT b n m (eh_V h') ∧ eh_N h' = eh_N h := by
  obtain ⟨rs, hrs, E⟩ := eh_in E (q := md_238) rfl
  have wrap : ∀ {y : Int32}, rs = [.int y] → v = some (.int y) := fun e => by
    rw [← hrs, e]
    rfl
  have up : ∀ {G : eh_W} {k i : Nat} {x : Int32}, iT b n m G → eh_tg tM k i = some 0 → pTi k i = true → iT b n m (eh_u G k i (.int x)) := fun i e p => iT_u i (i.1.ui e) p
  have out : ∀ {g : ri_H} {y : Int32}, rs = [.int y] → eh_V h' = eh_V g → eh_N h' = eh_N h → iT b n m (eh_V g) → ∃ x : Int32, v = some (.int x) ∧ iT b n m (eh_V h') ∧ eh_N h' = eh_N h := fun r1 r2 r3 r4 => ⟨_, wrap r1, by rw [r2]; exact r4, r3⟩
  have m29a : ∀ {g : ri_H} {lo : List (Nat × Value)} {to : Int32}, eh_e (ri_calE ri_md (d + 3)) md_238 29 lo [] g rs h' → eh_V g = eh_V h → ri_lk lo 0 = some (.ref 0) → ri_lk lo 1 = some (.int to) → ri_lk lo 2 = some (.int 1) → eh_N g = eh_N h → ∃ x : Int32, v = some (.int x) ∧ iT b n m (eh_V h') ∧ eh_N h' = eh_N h := fun {g lo to} E vg l0 l1 l2 hn => by
    rcases zi_b (d := d + 1) E vg iv l0 l1 l2 with ⟨_, _, _, _, _, -, -, -, -, -, -, -, -, -, r1, r2, r3, r4⟩ | ⟨_, _, _, _, -, -, -, -, -, -, -, r1, r2, r3, r4⟩ | ⟨-, r1, r2, r3, r4⟩
    all_goals exact ⟨_, wrap r1, by rw [r2]; exact r4, r3.trans hn⟩
  have m29b : ∀ {g : ri_H} {lo : List (Nat × Value)} {to : Int32}, eh_e (ri_calE ri_md (d + 3)) md_238 29 lo [] g rs h' → eh_V g = eh_V h → ri_lk lo 0 = some (.ref 0) → ri_lk lo 1 = some (.int to) → ri_lk lo 2 = some (.int 0) → eh_N g = eh_N h → ∃ x : Int32, v = some (.int x) ∧ iT b n m (eh_V h') ∧ eh_N h' = eh_N h := fun {g lo to} E vg l0 l1 l2 hn => by
    rcases zi_c E vg iv l0 l1 l2 with ⟨_, _, _, _, -, -, -, -, -, -, -, r1, r2, r3, r4⟩ | ⟨_, _, _, _, -, -, -, -, -, -, -, r1, r2, r3, r4⟩ | ⟨-, r1, r2, r3, r4⟩
    all_goals exact ⟨_, wrap r1, by rw [r2]; exact r4, r3.trans hn⟩
  have m187 : ∀ {g : ri_H} {lo : List (Nat × Value)} {to t bo : Int32}, eh_e (ri_calE ri_md (d + 3)) md_238 187 lo [] g rs h' → eh_V g = eh_V h → ri_lk lo 0 = some (.ref 0) → ri_lk lo 1 = some (.int to) → ri_lk lo 3 = some (.int t) → ri_lk lo 4 = some (.int bo) → eh_N g = eh_N h → ∃ x : Int32, v = some (.int x) ∧ iT b n m (eh_V h') ∧ eh_N h' = eh_N h := fun {g lo to t bo} E vg l0 l1 l3 l4 hn => by
    rcases zi_e E vg iv l0 l1 l3 l4 with ⟨_, _, -, -, -, -, -, r1, r2, r3, r4⟩ | ⟨_, _, -, -, -, -, -, -, r1, r2, r3, r4⟩ | ⟨_, _, _, _, _, _, _, -, -, -, -, -, -, -, -, -, -, -, -, -, -, r1, r2, r3, r4⟩ | ⟨_, _, _, _, _, _, -, -, -, -, -, -, -, -, -, -, -, -, r1, r2, r3, r4⟩ | ⟨_, _, -, -, -, -, -, r1, r2, r3, r4⟩ | ⟨_, _, -, -, -, -, -, -, r1, r2, r3, r4⟩ | ⟨_, _, _, _, _, _, -, -, -, -, -, -, -, -, -, -, -, -, r1, r2, r3, r4⟩ | ⟨_, _, _, _, _, _, -, -, -, -, -, -, -, -, -, -, -, -, r1, r2, r3, r4⟩
    all_goals exact ⟨_, wrap r1, by rw [r2]; exact r4, r3.trans hn⟩
  have m116 : ∀ {g : ri_H} {lo : List (Nat × Value)} {to : Int32}, eh_e (ri_calE ri_md (d + 3)) md_238 116 lo [] g rs h' → eh_V g = eh_V h → ri_lk lo 0 = some (.ref 0) → ri_lk lo 1 = some (.int to) → eh_N g = eh_N h → ∃ x : Int32, v = some (.int x) ∧ iT b n m (eh_V h') ∧ eh_N h' = eh_N h := fun {g lo to} E vg l0 l1 hn => by
    rcases zi_d (d := d + 2) E vg iv.1 l0 l1 with ⟨_, _, -, -, -, -, -, hz, loz, E1, a1, a2, -, b0, b1, b3, b4⟩ | ⟨_, _, -, -, -, -, -, r1, r2, r3⟩ | ⟨_, _, -, -, -, -, -, -, hz, loz, E1, a1, a2, -, b0, b1, b3, b4⟩ | ⟨_, _, -, -, -, -, -, -, r1, r2, r3⟩ | ⟨_, _, -, -, -, -, -, r1, r2, r3⟩ | ⟨-, r1, r2, r3⟩
    all_goals first
      | exact m187 E1 a1 b0 b1 b3 b4 (a2.trans hn)
      | exact ⟨_, wrap r1, by rw [r2]; exact up (up iv rfl rfl) rfl rfl, r3.trans hn⟩
  rcases zi_a (d := d + 2) E rfl iv.1 rfl with ⟨-, hz, loz, E1, a1, a2, -, b0, b1, b2⟩ | ⟨-, -, -, hz, loz, E1, a1, a2, -, b0, b1, b2⟩ | ⟨-, -, -, hz, loz, E1, a1, a2, -, b0, b1, b2⟩ | ⟨-, -, hz, loz, E1, a1, a2, -, b0, b1, b2⟩
  · exact m116 E1 a1 b0 b1 a2
  · exact m116 E1 a1 b0 b1 a2
  · exact m29b E1 a1 b0 b1 b2 a2
  · exact m29a E1 a1 b0 b1 b2 a2
