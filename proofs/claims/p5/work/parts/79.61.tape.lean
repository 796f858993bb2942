/-! HEIGHTS in the tape, on both sides -/
def hOK (G : eh_W) (w f : Nat) : Prop := ∀ c, c < w → 0 ≤ (eh_i G 1 (f + c)).toInt ∧ (eh_i G 1 (f + c)).toInt ≤ 3
def hNM (G : eh_W) (w f : Nat) : Nat := pkd (fun c => (eh_i G 1 (f + c)).toNatClampNeg) w
def bRa (G : eh_W) : Prop := ∀ i, i < 940 → -128 ≤ (eh_i G 1 i).toInt ∧ (eh_i G 1 i).toInt ≤ 127
theorem fr_e {i : Int32} {a : Nat} (h : i = nI a) : i + 1 = nI (a + 1) := by
  rw [h, lx_a1]
theorem bRa_fr {G G1 : eh_W} (h : bRa G) (f : eh_fr pMv G G1) : bRa G1 := fun i hi => by
  rw [f.i rfl]
  exact h i hi
theorem hOK_cg {G G1 : eh_W} {w f : Nat} (e : ∀ c, c < w → eh_i G1 1 (f + c) = eh_i G 1 (f + c)) : hOK G1 w f ↔ hOK G w f :=
  ⟨fun h c hc => by rw [← e c hc]; exact h c hc, fun h c hc => by rw [e c hc]; exact h c hc⟩
theorem pkd_cg {r s : Nat → Nat} : ∀ n, (∀ k, k < n → r k = s k) → pkd r n = pkd s n := by
  intro n
  induction n generalizing r s with
  | zero => exact fun _ => rfl
  | succ n ih =>
    intro h
    show 4 * pkd (fun k => r (k + 1)) n + r 0 % 4 = 4 * pkd (fun k => s (k + 1)) n + s 0 % 4
    rw [ih (r := fun k => r (k + 1)) (s := fun k => s (k + 1)) (fun k hk => h (k + 1) (by omega)), h 0 (by omega)]
theorem hNM_cg {G G1 : eh_W} {w f : Nat} (e : ∀ c, c < w → eh_i G1 1 (f + c) = eh_i G 1 (f + c)) : hNM G1 w f = hNM G w f := pkd_cg w (fun c hc => by rw [e c hc])
theorem hNM_lt (G : eh_W) {w : Nat} (f : Nat) (w8 : w ≤ 8) : hNM G w f < 65536 := Nat.lt_of_lt_of_le (pkd_lt w _) (Nat.pow_le_pow_right (by decide) w8)
/-- an int that isn't below 0 -/
theorem nI_cl {x : Int32} (h : 0 ≤ x.toInt) (h2 : x.toInt ≤ 99999) : x = nI x.toNatClampNeg ∧ (x.toNatClampNeg : Int) = x.toInt := by
  obtain ⟨k, k1, rfl⟩ := nI_to (l := x) (q := 100000) h (by omega) (by omega)
  rw [lx_cl (by omega), lx_i (by omega)]
  exact ⟨rfl, rfl⟩
theorem oc_neg : ∀ m : Fin 128, ((-(nI (m.val + 1)) : Int32) &&& 255) = nI (255 - m.val) := by decide +kernel
theorem oc_pos {n : Nat} (h : n ≤ 127) : nI n &&& 255 = nI n := by
  rw [show (255 : Int32) = nI 255 from rfl, nI_and, show (255 : Nat) = 2 ^ 8 - 1 from rfl, Nat.and_two_pow_sub_one_eq_mod, Nat.mod_eq_of_lt (by omega)]
/-- a byte without its sign -/
theorem oc_ {x : Int32} (h1 : -128 ≤ x.toInt) (h2 : x.toInt ≤ 127) : (0 ≤ x.toInt ∧ x &&& 255 = x) ∨ (x.toInt < 0 ∧ 128 ≤ (x &&& 255).toInt) := by
  by_cases h : 0 ≤ x.toInt
  · obtain ⟨n, n1, rfl⟩ := nI_to (l := x) (q := 128) h (by omega) (by omega)
    exact Or.inl ⟨h, oc_pos (by omega)⟩
  · refine Or.inr ⟨by omega, ?_⟩
    have e : x = -(nI ((-x.toInt).toNat - 1 + 1)) := by
      apply Int32.toInt_inj.mp
      rw [Int32.toInt_neg, lx_i (by omega)]
      have : ((((-x.toInt).toNat - 1 + 1 : Nat) : Int)) = -x.toInt := by omega
      rw [this, Int.neg_neg]
      exact (Int.bmod_eq_of_le (by omega) (by omega)).symm
    rw [e, oc_neg ⟨(-x.toInt).toNat - 1, by omega⟩, lx_i (by omega)]
    omega
section YA
variable {cal : eh_K} {h' : ri_H} {rs : List Value} {G : eh_W} {f w : Nat}
theorem yah_loop (ty : eh_ty tC G) (hw : eh_i G 24 0 = nI w) (hf : f + w ≤ 940) : ∀ (n c : Nat) (lo : List (Nat × Value)) (h : ri_H), c + n = w → (∀ j, j < c → 0 ≤ (eh_i G 1 (f + j)).toInt ∧ (eh_i G 1 (f + j)).toInt ≤ 3) → eh_e cal md_36 2 lo [] h rs h' → eh_V h = G → (eh_N h).take 209 = NCl → ri_lk lo 0 = some (.ref 23) → ri_lk lo 1 = some (.ref 1) → ri_lk lo 2 = some (.int (nI f)) → ri_lk lo 3 = some (.int (nI (f + c))) → ((hOK G w f ∧ rs = [.int 1]) ∨ (¬ hOK G w f ∧ rs = [.int 0])) ∧ eh_V h' = G ∧ eh_N h' = eh_N h := by
  intro n
  induction n with
  | zero =>
    intro c lo h hn hc E hV hl l0 l1 l2 l3
    have z := yah_l E hV ty l0 l1 l2 l3 hl
    rw [hw, show nI f + nI w = nI (f + w) from lx_add f w, lx_i (a := f + c) (by omega), lx_i (a := f + w) (by omega)] at z
    have e : c = w := by omega
    subst e
    rcases z with ⟨-, r1, r2, r3⟩ | ⟨c1, -⟩ | ⟨c1, -⟩ | ⟨c1, -⟩ | ⟨c1, -⟩
    · exact ⟨Or.inl ⟨hc, r1⟩, r2, r3⟩
    all_goals omega
  | succ n ih =>
    intro c lo h hn hc E hV hl l0 l1 l2 l3
    have z := yah_l E hV ty l0 l1 l2 l3 hl
    rw [hw, show nI f + nI w = nI (f + w) from lx_add f w, lx_i (a := f + c) (by omega), lx_i (a := f + w) (by omega), lx_cl (a := f + c) (by omega), lx_a1] at z
    rcases z with ⟨c1, -⟩ | ⟨-, c1, -⟩ | ⟨-, -, c2, r1, r2, r3⟩ | ⟨-, -, c2, c3, h1, lo1, E1, v1, n1, -, m0, m1, m2, m3⟩ | ⟨-, -, -, c3, r1, r2, r3⟩
    · omega
    · omega
    · exact ⟨Or.inr ⟨fun x => by have := x c (by omega); omega, r1⟩, r2, r3⟩
    · obtain ⟨s1, s2, s3⟩ := ih (c + 1) lo1 h1 (by omega) (fun j hj => by
        by_cases x : j = c
        · rw [x]
          omega
        · exact hc j (by omega)) E1 v1 (by rw [n1]; exact hl) m0 m1 m2 m3
      exact ⟨s1, s2, s3.trans n1⟩
    · exact ⟨Or.inr ⟨fun x => by have := x c (by omega); omega, r1⟩, r2, r3⟩
theorem yah_36 {d : Nat} {h : ri_H} {v : Option Value} {fr : Int32} (E : ri_calE ri_md (d + 1) 36 [.ref 23, .ref 1, .int fr] h = some (v, h')) (hV : eh_V h = G) (ty : eh_ty tC G) (hl : (eh_N h).take 209 = NCl) (e : fr = nI f) (hw : eh_i G 24 0 = nI w) (_w8 : w ≤ 8) (hf : f + w ≤ 940) : (hOK G w f ∧ v = some (.int 1) ∧ eh_V h' = G ∧ eh_N h' = eh_N h) ∨ (¬ hOK G w f ∧ v = some (.int 0) ∧ eh_V h' = G ∧ eh_N h' = eh_N h) := by
  subst e
  obtain ⟨rs, hrs, E⟩ := eh_in E (q := md_36) rfl
  obtain ⟨h1, lo1, E1, v1, n1, -, m0, m1, m2, m3⟩ := yah_a E hV ty rfl rfl rfl
  obtain ⟨z, r2, r3⟩ := yah_loop ty hw hf w 0 lo1 h1 (by omega) (fun j hj => absurd hj (Nat.not_lt_zero j)) E1 v1 (by rw [n1]; exact hl) m0 m1 m2 m3
  rcases z with ⟨a, r1⟩ | ⟨a, r1⟩
  · exact Or.inl ⟨a, by rw [← hrs, r1]; rfl, r2, r3.trans n1⟩
  · exact Or.inr ⟨a, by rw [← hrs, r1]; rfl, r2, r3.trans n1⟩
theorem yph_loop (ty : eh_ty tC G) (hw : eh_i G 24 0 = nI w) (w8 : w ≤ 8) (hf : f + w ≤ 940) (ok : hOK G w f) : ∀ (n c x : Nat) (lo : List (Nat × Value)) (h : ri_H), c + n = w → x < 65536 → (∀ k, k < 8 → dg x k = if k < c then (eh_i G 1 (f + k)).toNatClampNeg else 0) → eh_e cal md_37 5 lo [] h rs h' → eh_V h = G → (eh_N h).take 209 = NCl → ri_lk lo 0 = some (.ref 23) → ri_lk lo 1 = some (.ref 1) → ri_lk lo 2 = some (.int (nI f)) → ri_lk lo 3 = some (.int (nI x)) → ri_lk lo 4 = some (.int (nI c)) → rs = [.int (nI (hNM G w f))] ∧ eh_V h' = G ∧ eh_N h' = eh_N h := by
  have dn : ∀ k, k < w → eh_i G 1 (f + k) = nI (eh_i G 1 (f + k)).toNatClampNeg ∧ (eh_i G 1 (f + k)).toNatClampNeg < 4 := fun k hk => by
    obtain ⟨a, b⟩ := ok k hk
    obtain ⟨e1, e2⟩ := nI_cl a (by omega)
    exact ⟨e1, by omega⟩
  intro n
  induction n with
  | zero =>
    intro c x lo h hn hx hd E hV hl l0 l1 l2 l3 l4
    have z := yph_l E hV ty l0 l1 l2 l3 l4 hl
    rw [hw, lx_i (a := c) (by omega), lx_i (a := w) (by omega)] at z
    rcases z with ⟨-, r1, r2, r3⟩ | ⟨c1, -⟩ | ⟨c1, -⟩
    · refine ⟨?_, r2, r3⟩
      have e : x = hNM G w f := dg_ext 8 _ _ hx (hNM_lt G f w8) (fun k hk => by
        rw [hd k hk, show c = w by omega]
        unfold hNM
        rw [pkd_dg]
        by_cases y : k < w
        · rw [if_pos y, if_pos y, Nat.mod_eq_of_lt (dn k y).2]
        · rw [if_neg y, if_neg y])
      rw [r1, e]
    all_goals omega
  | succ n ih =>
    intro c x lo h hn hx hd E hV hl l0 l1 l2 l3 l4
    have hc : c < w := by omega
    obtain ⟨d1, d2⟩ := dn c hc
    have z := yph_l E hV ty l0 l1 l2 l3 l4 hl
    rw [hw, lx_i (a := c) (by omega), lx_i (a := w) (by omega), show nI f + nI c = nI (f + c) from lx_add f c, lx_i (a := f + c) (by omega), lx_cl (a := f + c) (by omega), d1, show (3 : Int32) = nI 3 from rfl, nI_and, show (2 : Int32) * nI c = nI (2 * c) from (Int32.ofNat_mul 2 c).symm, lx_a1] at z
    rcases z with ⟨c1, -⟩ | ⟨-, c1, -⟩ | ⟨-, -, h1, lo1, E1, v1, n1, -, m0, m1, m2, m3, m4⟩
    · omega
    · omega
    · have p4 : 2 ^ (2 * c) = 4 ^ c := Nat.pow_mul 2 2 c
      have p5 : 4 ^ c ≤ 4 ^ 7 := Nat.pow_le_pow_right (by decide) (by omega)
      have p5 : 4 ^ c ≤ 16384 := p5
      have a3 : (eh_i G 1 (f + c)).toNatClampNeg &&& 3 = (eh_i G 1 (f + c)).toNatClampNeg := by
        rw [show (3 : Nat) = 2 ^ 2 - 1 from rfl, Nat.and_two_pow_sub_one_eq_mod, Nat.mod_eq_of_lt d2]
      have hmul : (eh_i G 1 (f + c)).toNatClampNeg * 4 ^ c ≤ 3 * 16384 := Nat.mul_le_mul (by omega) p5
      rw [a3, nI_shl (by rw [p4]; omega) (by omega), nI_or, p4] at m3
      obtain ⟨s1, s2, s3⟩ := ih (c + 1) _ lo1 h1 (by omega) (Nat.or_lt_two_pow (n := 16) hx (by omega)) (fun k hk => by
        rw [dg_or, hd k hk, wv_dg (show c < 8 by omega) d2 hk]
        by_cases y : c = k
        · subst y
          rw [if_neg (Nat.lt_irrefl c), if_pos rfl, if_pos (Nat.lt_succ_self c), Nat.zero_or]
        · rw [if_neg y, Nat.or_zero]
          by_cases u : k < c
          · rw [if_pos u, if_pos (by omega)]
          · rw [if_neg u, if_neg (by omega)]) E1 v1 (by rw [n1]; exact hl) m0 m1 m2 m3 m4
      exact ⟨s1, s2, s3.trans n1⟩
theorem yph_37 {d : Nat} {h : ri_H} {v : Option Value} {fr : Int32} (E : ri_calE ri_md (d + 1) 37 [.ref 23, .ref 1, .int fr] h = some (v, h')) (hV : eh_V h = G) (ty : eh_ty tC G) (hl : (eh_N h).take 209 = NCl) (e : fr = nI f) (hw : eh_i G 24 0 = nI w) (w8 : w ≤ 8) (hf : f + w ≤ 940) (ok : hOK G w f) : ∃ u : Int32, u = nI (hNM G w f) ∧ v = some (.int u) ∧ eh_V h' = G ∧ eh_N h' = eh_N h := by
  subst e
  obtain ⟨rs, hrs, E⟩ := eh_in E (q := md_37) rfl
  obtain ⟨h1, lo1, E1, v1, n1, -, m0, m1, m2, m3, m4⟩ := yph_a E hV ty rfl rfl rfl
  obtain ⟨r1, r2, r3⟩ := yph_loop ty hw w8 hf ok w 0 0 lo1 h1 (by omega) (by decide) (fun k _ => by
    rw [dg_0, if_neg (Nat.not_lt_zero k)]) E1 v1 (by rw [n1]; exact hl) m0 m1 m2 m3 m4
  exact ⟨_, rfl, by rw [← hrs, r1]; rfl, r2, r3.trans n1⟩
end YA
section YM
variable {d : Nat} {h' : ri_H} {rs : List Value} {G : eh_W} {f w : Nat}
theorem yhm_loop (ty : eh_ty tM G) (hf : f + w ≤ 940) (hb : bRa G) : ∀ (k n : Nat) (lo : List (Nat × Value)) (h : ri_H), k + n = w → (∀ j, k ≤ j → j < w → 0 ≤ (eh_i G 1 (f + j)).toInt ∧ (eh_i G 1 (f + j)).toInt ≤ 3) → eh_e (ri_calE ri_md (d + 1)) md_217 11 lo [] h rs h' → eh_V h = G → ri_lk lo 0 = some (.ref 0) → ri_lk lo 1 = some (.int (nI f)) → ri_lk lo 2 = some (.int (nI (pkd (fun j => (eh_i G 1 (f + (j + k))).toNatClampNeg) n))) → ri_lk lo 3 = some (.int (nI k - 1)) → ((hOK G w f ∧ rs = [.int (nI (hNM G w f))]) ∨ (¬ hOK G w f ∧ rs = [.int (-1)])) ∧ eh_V h' = G ∧ eh_N h' = eh_N h := by
  intro k
  induction k with
  | zero =>
    intro n lo h hn hc E hV l0 l1 l2 l3
    rcases yhm_l E hV ty l0 l1 l2 l3 with ⟨-, r1, r2, r3⟩ | ⟨c, -⟩ | ⟨c, -⟩
    · refine ⟨Or.inl ⟨fun c hc' => hc c (Nat.zero_le _) hc', ?_⟩, r2, r3⟩
      rw [r1, show n = w by omega]
      rfl
    · exact absurd (show (nI 0 - 1 : Int32).toInt < 0 by decide) c
    · exact absurd (show (nI 0 - 1 : Int32).toInt < 0 by decide) c
  | succ k ih =>
    intro n lo h hn hc E hV l0 l1 l2 l3
    rw [show nI (k + 1) - 1 = nI (k + 1 - 1) from lx_sub (b := 1) (by omega), Nat.add_sub_cancel] at l3
    have z := yhm_l E hV ty l0 l1 l2 l3
    rw [lx_i (a := k) (by omega), show nI f + nI k = nI (f + k) from lx_add f k, lx_cl (a := f + k) (by omega)] at z
    obtain ⟨b1, b2⟩ := hb (f + k) (by omega)
    rcases z with ⟨c, -⟩ | ⟨-, c, h1, lo1, E1, v1, n1, -, m0, m1, m2, m3⟩ | ⟨-, c, r1, r2, r3⟩
    · omega
    · rcases oc_ b1 b2 with ⟨o1, o2⟩ | ⟨o1, o2⟩
      · rw [o2] at c m2
        obtain ⟨e1, e2⟩ := nI_cl o1 (by omega)
        have e4 : (eh_i G 1 (f + k)).toNatClampNeg % 4 = (eh_i G 1 (f + k)).toNatClampNeg := Nat.mod_eq_of_lt (by omega)
        have up := pkd_up k n (fun j => (eh_i G 1 (f + j)).toNatClampNeg)
        rw [e4] at up
        rw [e1, nI_4, up] at m2
        rw [← Int32.sub_eq_add_neg] at m3
        obtain ⟨s1, s2, s3⟩ := ih (n + 1) lo1 h1 (by omega) (fun j j1 j2 => by
          by_cases x : j = k
          · rw [x]
            omega
          · exact hc j (by omega) j2) E1 v1 m0 m1 m2 m3
        exact ⟨s1, s2, s3.trans n1⟩
      · omega
    · refine ⟨Or.inr ⟨fun x => ?_, r1⟩, r2, r3⟩
      have := x k (by omega)
      rcases oc_ b1 b2 with ⟨o1, o2⟩ | ⟨o1, o2⟩
      · rw [o2] at c
        omega
      · omega
theorem yhm_217 {h : ri_H} {v : Option Value} {fr : Int32} (E : ri_calE ri_md (d + 2) 217 [.ref 0, .int fr] h = some (v, h')) (hV : eh_V h = G) (ty : eh_ty tM G) (e : fr = nI f) (hw : eh_i G 2 0 = nI w) (_w8 : w ≤ 8) (hf : f + w ≤ 940) (hb : bRa G) : ∃ u : Int32, ((hOK G w f ∧ u = nI (hNM G w f)) ∨ (¬ hOK G w f ∧ u = -1)) ∧ v = some (.int u) ∧ eh_V h' = G ∧ eh_N h' = eh_N h := by
  subst e
  obtain ⟨rs, hrs, E⟩ := eh_in E (q := md_217) rfl
  obtain ⟨h1, lo1, E1, v1, n1, -, m0, m1, m2, m3⟩ := yhm_a E hV ty rfl rfl
  rw [hw] at m3
  obtain ⟨z, r2, r3⟩ := yhm_loop ty hf hb w 0 lo1 h1 (by omega) (fun j a b => by omega) E1 v1 m0 m1 m2 m3
  rcases z with ⟨a, r1⟩ | ⟨a, r1⟩
  · exact ⟨_, Or.inl ⟨a, rfl⟩, by rw [← hrs, r1]; rfl, r2, r3.trans n1⟩
  · exact ⟨_, Or.inr ⟨a, rfl⟩, by rw [← hrs, r1]; rfl, r2, r3.trans n1⟩
end YM
