/-! still: pairs of one CUE that each leave something, and nothing together -/
theorem sm_one {g : Nat → Nat} {l : Nat} : ∀ P, l < P → (∀ j, j < P → j ≠ l → g j = 0) → sm g P = g l
  | 0, h, _ => absurd h (Nat.not_lt_zero l)
  | n + 1, h, e => by
    show sm g n + g n = g l
    by_cases hn : l = n
    · subst hn
      rw [sm_z l (fun i hi => e i (by omega) (by omega)), Nat.zero_add]
    · rw [sm_one n (by omega) (fun j a b => e j (by omega) b), e n (by omega) (fun x => hn x.symm), Nat.add_zero]
theorem sm_two {g : Nat → Nat} {l m : Nat} (hlm : l < m) : ∀ P, m < P → (∀ j, j < P → j ≠ l → j ≠ m → g j = 0) → sm g P = g l + g m
  | 0, h, _ => absurd h (Nat.not_lt_zero m)
  | n + 1, h, e => by
    show sm g n + g n = g l + g m
    by_cases hn : m = n
    · subst hn
      rw [sm_one (l := l) m hlm (fun j a b => e j (by omega) b (by omega))]
    · rw [sm_two hlm n (by omega) (fun j a b c => e j (by omega) b c), e n (by omega) (by omega) (fun x => hn x.symm), Nat.add_zero]
theorem pow_256 {l : Nat} (h : l < 8) : 2 ^ l < 256 := Nat.pow_lt_pow_right (a := 2) (n := 8) (by decide) h
theorem nI_1l {l : Nat} (h : l < 8) : (1 : Int32) <<< (nI l &&& 31) = nI (2 ^ l) := by
  have := pow_256 h
  rw [show (1 : Int32) = nI 1 from rfl, nI_shl (y := 1) (s := l) (by omega) (by omega), Nat.one_mul]
section STL
variable {P : Nat} {ku sz : Nat → Nat} {ce hi : Nat → Nat → Nat} {G : eh_W} {l m : Nat}
theorem lvs_nI (B : LDb P ku sz ce hi) (C : LDc P ku sz ce hi G) (hl : l < P) : ∃ x, x < 65536 ∧ eh_i G 30 l = nI x ∧ ∀ k, k < 8 → dg x k = sm (fun i => if ce l i = k then hi l i else 0) (sz l) % 4 := by
  obtain ⟨y, y1, y2, y3⟩ := lv_dg (ce := ce l) (hi := hi l) (sz l) (B.2 l hl).2.2
  obtain ⟨-, -, e3, e4⟩ := C.2.1 l hl
  exact ⟨y, y1, by rw [e4, lv_cg (sz l) (fun i hi => e3 i hi)]; exact y2, y3⟩
theorem rR_ls {f : Nat → Bool} {k : Nat} : rR f sz ce hi P k 8 = sm (fun l => sm (fun i => rC f sz ce hi i l k) 8) P := (sm_swap (fun i l => rC f sz ce hi i l k) P 8).symm
theorem hs_1 (B : LDb P ku sz ce hi) (C : LDc P ku sz ce hi G) (hl : l < P) : hs_C (ku l) (2 ^ l) P ku sz ce hi (eh_i G 30 l) := by
  obtain ⟨x, x1, x2, x3⟩ := lvs_nI B C hl
  have t : chs (ku l) (2 ^ l) ku l = true := chs_t (by rw [Nat.testBit_two_pow, decide_eq_true rfl]) rfl
  refine ⟨x, x1, x2, fun k hk => ?_⟩
  rw [x3 k hk, rR_ls, sm_one (l := l) P hl (fun j _ b => sm_z 8 (fun i _ => rC_no (chs_f1 (by rw [Nat.testBit_two_pow, decide_eq_false (fun x => b x.symm)]; exact Bool.false_ne_true)))), rC_sum t (B.2 l hl).2.1]
theorem hs_2 (B : LDb P ku sz ce hi) (C : LDc P ku sz ce hi G) (hlm : l < m) (hm : m < P) (e : ku l = ku m) : hs_C (ku l) (2 ^ l ||| 2 ^ m) P ku sz ce hi (add2 (eh_i G 30 l) (eh_i G 30 m)) := by
  obtain ⟨x, x1, x2, x3⟩ := lvs_nI B C (show l < P by omega)
  obtain ⟨y, y1, y2, y3⟩ := lvs_nI B C hm
  have tl : chs (ku l) (2 ^ l ||| 2 ^ m) ku l = true := chs_t (by rw [Nat.testBit_or, Nat.testBit_two_pow, decide_eq_true rfl]; rfl) rfl
  have tm : chs (ku l) (2 ^ l ||| 2 ^ m) ku m = true := chs_t (by rw [Nat.testBit_or, Nat.testBit_two_pow, Nat.testBit_two_pow, decide_eq_true (rfl : m = m)]; exact Bool.or_true _) e.symm
  refine ⟨ad x y, ad_lt _ _, by rw [x2, y2, add2_nI], fun k hk => ?_⟩
  rw [dg_ad hk, x3 k hk, y3 k hk, rR_ls, sm_two hlm P hm (fun j _ b c => sm_z 8 (fun i _ => rC_no (chs_f1 (by
    rw [Nat.testBit_or, Nat.testBit_two_pow, Nat.testBit_two_pow, decide_eq_false (fun x => b x.symm), decide_eq_false (fun x => c x.symm)]
    exact Bool.false_ne_true)))), rC_sum tl (B.2 l (by omega)).2.1, rC_sum tm (B.2 m hm).2.1]
  omega
end STL
def sT (G : eh_W) (l m : Nat) : Prop := eh_i G 26 l = eh_i G 26 m ∧ ¬ eh_i G 30 l = 0 ∧ ¬ eh_i G 30 m = 0 ∧ add2 (eh_i G 30 l) (eh_i G 30 m) = 0
section BPC
variable {d : Nat} {h' : ri_H} {rs : List Value} {G : eh_W} {k : Int32} {P : Nat}
def bc_O (d : Nat) (rs : List Value) (h' : ri_H) (G : eh_W) (k : Int32) (P l n : Nat) : Prop := l ≤ P ∧ ∃ lo h, eh_e (ri_calE ri_md (d + 2)) md_130 16 lo [] h rs h' ∧ eh_V h = G ∧ ri_lk lo 0 = some (.ref 0) ∧ ri_lk lo 1 = some (.int k) ∧ ri_lk lo 2 = some (.int 1) ∧ ri_lk lo 3 = some (.int (nI n)) ∧ ri_lk lo 4 = some (.int (nI P)) ∧ ri_lk lo 5 = some (.int (nI l))
def bc_I (d : Nat) (rs : List Value) (h' : ri_H) (G : eh_W) (k : Int32) (P l m n : Nat) : Prop := l < m ∧ m ≤ P ∧ ∃ lo h, eh_e (ri_calE ri_md (d + 2)) md_130 29 lo [] h rs h' ∧ eh_V h = G ∧ ri_lk lo 0 = some (.ref 0) ∧ ri_lk lo 1 = some (.int k) ∧ ri_lk lo 2 = some (.int 1) ∧ ri_lk lo 3 = some (.int (nI n)) ∧ ri_lk lo 4 = some (.int (nI P)) ∧ ri_lk lo 5 = some (.int (nI l)) ∧ ri_lk lo 6 = some (.int (nI m))
def bc_Z (d : Nat) (rs : List Value) (h' : ri_H) (G : eh_W) (k : Int32) (P n : Nat) : Prop := ∃ l lo h, eh_e (ri_calE ri_md (d + 2)) md_130 106 lo [] h rs h' ∧ eh_V h = G ∧ ri_lk lo 0 = some (.ref 0) ∧ ri_lk lo 1 = some (.int k) ∧ ri_lk lo 2 = some (.int 1) ∧ ri_lk lo 3 = some (.int (nI n)) ∧ ri_lk lo 4 = some (.int (nI P)) ∧ ri_lk lo 5 = some (.int (nI l))
theorem bc_S (ty : eh_ty tC G) (hP : P ≤ 8) : pr_S P k (sT G) (bc_O d rs h' G k P) (bc_I d rs h' G k P) (bc_Z d rs h' G k P) (fun x => rs = [.int x]) := by
  refine ⟨fun l n ⟨hl, lo, h, E, hV, l0, l1, l2, l3, l4, l5⟩ => ?_, fun l m n ⟨hlm, hm, lo, h, E, hV, l0, l1, l2, l3, l4, l5, l6⟩ hl => ?_, fun n ⟨l, lo, h, E, hV, l0, l1, l2, l3, l4, l5⟩ => ?_⟩
  · have z := pb_o E hV ty l0 l1 l2 l3 l4 l5
    rw [lx_i (a := l) (by omega), lx_i (a := P) (by omega)] at z
    rcases z with ⟨c, h1, lo1, E1, v1, -, -, m0, m1, m2, m3, m4, m5⟩ | ⟨c, h1, lo1, E1, v1, -, -, m0, m1, m2, m3, m4, m5, m6⟩
    · exact Or.inl ⟨by omega, l, lo1, h1, E1, v1, m0, m1, m2, m3, m4, m5⟩
    · rw [lx_a1] at m6
      exact Or.inr ⟨by omega, Nat.lt_succ_self l, by omega, lo1, h1, E1, v1, m0, m1, m2, m3, m4, m5, m6⟩
  · have z := pb_i (d := d) E hV ty l0 l1 l2 l3 l4 l5 l6
    rw [lx_i (a := m) (by omega), lx_i (a := P) (by omega), lx_cl (a := l) (by omega), lx_cl (a := m) (by omega)] at z
    have no : ∀ (h1 : ri_H) (lo1 : List (Nat × Value)), ¬ sT G l m → m < P → eh_e (ri_calE ri_md (d + 2)) md_130 29 lo1 [] h1 rs h' → eh_V h1 = G → ri_lk lo1 0 = some (.ref 0) → ri_lk lo1 1 = some (.int k) → ri_lk lo1 2 = some (.int 1) → ri_lk lo1 3 = some (.int (nI n)) → ri_lk lo1 4 = some (.int (nI P)) → ri_lk lo1 5 = some (.int (nI l)) → ri_lk lo1 6 = some (.int (nI m + 1)) → m < P ∧ ¬ sT G l m ∧ bc_I d rs h' G k P l (m + 1) n := fun h1 lo1 t hm' E1 v1 m0 m1 m2 m3 m4 m5 m6 => by
      rw [lx_a1] at m6
      exact ⟨hm', t, by omega, by omega, lo1, h1, E1, v1, m0, m1, m2, m3, m4, m5, m6⟩
    rcases z with ⟨c, h1, lo1, E1, v1, -, t1, m0, m1, m2, m3, m4, m5, m6⟩ | ⟨c, e, h1, lo1, E1, v1, -, -, m0, m1, m2, m3, m4, m5, m6⟩ | ⟨c, -, e, h1, lo1, E1, v1, -, -, m0, m1, m2, m3, m4, m5, m6⟩ | ⟨c, -, -, e, h1, lo1, E1, v1, -, -, m0, m1, m2, m3, m4, m5, m6⟩ | ⟨c, -, -, -, e, h1, lo1, E1, v1, -, -, m0, m1, m2, m3, m4, m5, m6⟩ | ⟨c, t1, t2, t3, t4, e2, h1, lo1, E1, v1, -, -, m0, m1, m2, m3, m4, m5, m6⟩ | ⟨c, t1, t2, t3, t4, e2, r, -⟩
    · obtain ⟨h2, lo2, E2, v2, -, -, p0, p1, p2, p3, p4, p5, -⟩ := pb_x E1 v1 ty m0 m1 m2 m3 m4 m5 m6
      rw [lx_a1] at p5
      exact Or.inl ⟨by omega, by omega, lo2, h2, E2, v2, p0, p1, p2, p3, p4, p5⟩
    · exact Or.inr (Or.inl (no h1 lo1 (fun t => e t.1) (by omega) E1 v1 m0 m1 m2 m3 m4 m5 m6))
    · exact Or.inr (Or.inl (no h1 lo1 (fun t => t.2.1 e) (by omega) E1 v1 m0 m1 m2 m3 m4 m5 m6))
    · exact Or.inr (Or.inl (no h1 lo1 (fun t => t.2.2.1 e) (by omega) E1 v1 m0 m1 m2 m3 m4 m5 m6))
    · exact Or.inr (Or.inl (no h1 lo1 (fun t => e t.2.2.2) (by omega) E1 v1 m0 m1 m2 m3 m4 m5 m6))
    · rw [lx_a1] at m6 m3
      exact Or.inr (Or.inr (Or.inl ⟨by omega, ⟨t1, t2, t3, t4⟩, e2, by omega, by omega, lo1, h1, E1, v1, m0, m1, m2, m3, m4, m5, m6⟩))
    · rw [nI_10] at r
      exact Or.inr (Or.inr (Or.inr ⟨by omega, ⟨t1, t2, t3, t4⟩, e2, r⟩))
  · rcases pb_z E hV ty l0 l1 l2 l3 l4 l5 with ⟨c, r, -⟩ | ⟨c, r, -⟩
    · exact Or.inl ⟨c, r⟩
    · exact Or.inr ⟨c, r⟩
end BPC
section BPM
variable {d : Nat} {h' : ri_H} {rs : List Value} {Gc G : eh_W} {k : Int32} {P w : Nat} {ku sz : Nat → Nat} {ce hi : Nat → Nat → Nat}
def bm_O (d : Nat) (rs : List Value) (h' : ri_H) (G : eh_W) (k : Int32) (P l n : Nat) : Prop := l ≤ P ∧ ∃ lo h, eh_e (ri_calE ri_md (d + 5)) md_227 12 lo [] h rs h' ∧ eh_fr pMv G (eh_V h) ∧ eh_ty tM (eh_V h) ∧ ri_lk lo 0 = some (.ref 0) ∧ ri_lk lo 1 = some (.int k) ∧ ri_lk lo 2 = some (.int 1) ∧ ri_lk lo 3 = some (.int (nI n)) ∧ ri_lk lo 4 = some (.int (nI l))
def bm_I (d : Nat) (rs : List Value) (h' : ri_H) (G : eh_W) (k : Int32) (P l m n : Nat) : Prop := l < m ∧ m ≤ P ∧ ∃ lo h, eh_e (ri_calE ri_md (d + 5)) md_227 29 lo [] h rs h' ∧ eh_fr pMv G (eh_V h) ∧ eh_ty tM (eh_V h) ∧ ri_lk lo 0 = some (.ref 0) ∧ ri_lk lo 1 = some (.int k) ∧ ri_lk lo 2 = some (.int 1) ∧ ri_lk lo 3 = some (.int (nI n)) ∧ ri_lk lo 4 = some (.int (nI l)) ∧ ri_lk lo 5 = some (.int (nI m))
def bm_Z (d : Nat) (rs : List Value) (h' : ri_H) (G : eh_W) (k : Int32) (n : Nat) : Prop := ∃ l lo h, eh_e (ri_calE ri_md (d + 5)) md_227 84 lo [] h rs h' ∧ eh_fr pMv G (eh_V h) ∧ eh_ty tM (eh_V h) ∧ ri_lk lo 0 = some (.ref 0) ∧ ri_lk lo 1 = some (.int k) ∧ ri_lk lo 2 = some (.int 1) ∧ ri_lk lo 3 = some (.int (nI n)) ∧ ri_lk lo 4 = some (.int (nI l))
theorem bm_S (B : LDb P ku sz ce hi) (C : LDc P ku sz ce hi Gc) (D : LDm P ku sz ce hi G) (hw : eh_i G 2 0 = nI w) (hw8 : w ≤ 8) (W : LDw w P sz ce) : pr_S P k (sT Gc) (bm_O d rs h' G k P) (bm_I d rs h' G k P) (bm_Z d rs h' G k) (fun x => rs = [.int x]) := by
  obtain ⟨hP, hb⟩ := B
  have hc : ∀ {G1}, eh_fr pMv G G1 → eh_i G1 2 4 = nI P := fun f => (f.i rfl).trans D.1
  refine ⟨fun l n ⟨hl, lo, h, E, fr, ty, l0, l1, l2, l3, l4⟩ => ?_, fun l m n ⟨hlm, hm, lo, h, E, fr, ty, l0, l1, l2, l3, l4, l5⟩ hl => ?_, fun n ⟨l, lo, h, E, fr, ty, l0, l1, l2, l3, l4⟩ => ?_⟩
  · have z := pn_o E rfl ty l0 l1 l2 l3 l4
    rw [hc fr, lx_i (a := l) (by omega), lx_i (a := P) (by omega)] at z
    rcases z with ⟨c, h1, lo1, E1, v1, -, t1, m0, m1, m2, m3, m4⟩ | ⟨c, h1, lo1, E1, v1, -, t1, m0, m1, m2, m3, m4, m5⟩
    · rw [← v1] at t1
      exact Or.inl ⟨by omega, l, lo1, h1, E1, by rw [v1]; exact fr, t1, m0, m1, m2, m3, m4⟩
    · rw [lx_a1] at m5
      rw [← v1] at t1
      exact Or.inr ⟨by omega, Nat.lt_succ_self l, by omega, lo1, h1, E1, by rw [v1]; exact fr, t1, m0, m1, m2, m3, m4, m5⟩
  · have cu : eh_i (eh_V h) 2 (10 + nI l).toNatClampNeg = nI (ku l) := by
      rw [nI_p10, lx_cl (by omega)]
      exact (fr.i rfl).trans (D.2 l hl).1
    have xd : ∀ (s : Nat) (se : Int32), s < 256 → se = nI s → ∀ G1, eh_fr pMv (eh_V h) G1 → xD (ku l) s P ku sz ce hi (eh_i (eh_V h) 2 (10 + nI l).toNatClampNeg) se G1 := fun s se s1 s2 G1 f => ⟨cu, s2, s1, (hb l hl).1, ⟨hP, hb⟩, LDm_fr D (fun j => (fr.tr f).i rfl)⟩
    by_cases hmP : m < P
    · have p1 := pow_256 (show l < 8 by omega)
      have p2 := pow_256 (show m < 8 by omega)
      have p3 : 2 ^ l ||| 2 ^ m < 256 := Nat.or_lt_two_pow (n := 8) p1 p2
      have z := pn_i (d := d) E rfl ty l0 l1 l2 l3 l4 l5 (xd (2 ^ l) _ p1 (nI_1l (by omega))) (xd (2 ^ m) _ p2 (nI_1l (by omega))) (xd (2 ^ l ||| 2 ^ m) _ p3 (by rw [nI_1l (by omega), nI_1l (by omega), nI_or])) ((fr.i rfl).trans hw) hw8
      have cm : eh_i (eh_V h) 2 (10 + nI m).toNatClampNeg = nI (ku m) := by
        rw [nI_p10, lx_cl (by omega)]
        exact (fr.i rfl).trans (D.2 m hmP).1
      have ec : nI (ku m) = nI (ku l) ↔ ku l = ku m := ⟨fun e => (lx_inj (by have := (hb m hmP).1; omega) (by have := (hb l hl).1; omega) e).symm, fun e => by rw [e]⟩
      have e26 : eh_i Gc 26 l = eh_i Gc 26 m ↔ ku l = ku m := by
        rw [(C.2.1 l hl).1, (C.2.1 m hmP).1]
        exact ⟨fun e => ec.mp e.symm, fun e => (ec.mpr e).symm⟩
      have h1 := ht_eq (hs_1 ⟨hP, hb⟩ C hl) W hw8
      rw [cu, cm, hc fr, lx_i (a := m) (by omega), lx_i (a := P) (by omega)] at z
      have two : ku l = ku m → eh_i Gc 30 m = nI (ht_M (ku l) (2 ^ m) P w ku sz ce hi) := fun e => by
        have := ht_eq (hs_1 ⟨hP, hb⟩ C hmP) W hw8
        rw [← e] at this
        exact this
      have three : ku l = ku m → add2 (eh_i Gc 30 l) (eh_i Gc 30 m) = nI (ht_M (ku l) (2 ^ l ||| 2 ^ m) P w ku sz ce hi) := fun e => ht_eq (hs_2 ⟨hP, hb⟩ C hlm hmP e) W hw8
      have no : ∀ (g1 : ri_H) (lo1 : List (Nat × Value)), ¬ sT Gc l m → eh_e (ri_calE ri_md (d + 5)) md_227 29 lo1 [] g1 rs h' → eh_fr pMv (eh_V h) (eh_V g1) → eh_ty tM (eh_V g1) → ri_lk lo1 0 = some (.ref 0) → ri_lk lo1 1 = some (.int k) → ri_lk lo1 2 = some (.int 1) → ri_lk lo1 3 = some (.int (nI n)) → ri_lk lo1 4 = some (.int (nI l)) → ri_lk lo1 5 = some (.int (nI m + 1)) → m < P ∧ ¬ sT Gc l m ∧ bm_I d rs h' G k P l (m + 1) n := fun g1 lo1 t E1 f1 t1 m0 m1 m2 m3 m4 m5 => by
        rw [lx_a1] at m5
        exact ⟨hmP, t, by omega, by omega, lo1, g1, E1, fr.tr f1, t1, m0, m1, m2, m3, m4, m5⟩
      rcases z with ⟨c, -⟩ | ⟨x3, x4, -, e, y1, f1, -, y2, g1, lo1, E1, v1, -, t1, m0, m1, m2, m3, m4, m5⟩ | ⟨x3, x4, x5, x6, -, e, -, f1, -, -, y1, f2, -, y2, g1, lo1, E1, v1, -, t1, m0, m1, m2, m3, m4, m5⟩ | ⟨x3, x4, x5, x6, x7, x8, -, e, -, f1, -, -, -, f2, -, -, y1, f3, -, y2, g1, lo1, E1, v1, -, t1, m0, m1, m2, m3, m4, m5⟩ | ⟨x3, x4, x5, x6, x7, x8, -, e, y1, f1, -, y2, y3, f2, -, y4, y5, f3, -, y6, nk, g1, lo1, E1, v1, -, t1, m0, m1, m2, m3, m4, m5⟩ | ⟨x3, x4, x5, x6, x7, x8, -, e, y1, f1, -, y2, y3, f2, -, y4, y5, f3, -, y6, nk, r, -⟩ | ⟨-, e, g1, lo1, E1, v1, -, t1, m0, m1, m2, m3, m4, m5⟩
      · omega
      · rw [← v1] at t1 f1
        refine Or.inr (Or.inl (no g1 lo1 (fun t => t.2.1 ?_) E1 f1 t1 m0 m1 m2 m3 m4 m5))
        rw [h1, ← y1, y2]
      · rw [← v1] at t1 f2
        refine Or.inr (Or.inl (no g1 lo1 (fun t => t.2.2.1 ?_) E1 (f1.tr f2) t1 m0 m1 m2 m3 m4 m5))
        rw [two (ec.mp e), ← y1, y2]
      · rw [← v1] at t1 f3
        refine Or.inr (Or.inl (no g1 lo1 (fun t => y2 ?_) E1 ((f1.tr f2).tr f3) t1 m0 m1 m2 m3 m4 m5))
        rw [y1, ← three (ec.mp e)]
        exact t.2.2.2
      · rw [← v1] at t1 f3
        rw [lx_a1] at m3 m5
        refine Or.inr (Or.inr (Or.inl ⟨hmP, ⟨e26.mpr (ec.mp e), ?_, ?_, ?_⟩, nk, by omega, by omega, lo1, g1, E1, fr.tr ((f1.tr f2).tr f3), t1, m0, m1, m2, m3, m4, m5⟩))
        · rw [h1, ← y1]
          exact y2
        · rw [two (ec.mp e), ← y3]
          exact y4
        · rw [three (ec.mp e), ← y5]
          exact y6
      · rw [nI_10] at r
        refine Or.inr (Or.inr (Or.inr ⟨hmP, ⟨e26.mpr (ec.mp e), ?_, ?_, ?_⟩, nk, r⟩))
        · rw [h1, ← y1]
          exact y2
        · rw [two (ec.mp e), ← y3]
          exact y4
        · rw [three (ec.mp e), ← y5]
          exact y6
      · rw [← v1] at t1
        exact Or.inr (Or.inl (no g1 lo1 (fun t => e (ec.mpr (e26.mp t.1))) E1 (by rw [v1]; exact eh_fr.rf) t1 m0 m1 m2 m3 m4 m5))
    · obtain ⟨g1, lo1, E1, v1, -, t1, m0, m1, m2, m3, m4, m5⟩ := pn_e E rfl ty l0 l1 l2 l3 l4 l5 (by
        rw [hc fr, lx_i (a := m) (by omega), lx_i (a := P) (by omega)]
        omega)
      obtain ⟨g2, lo2, E2, v2, -, t2, q0, q1, q2, q3, q4, -⟩ := pn_x E1 v1 t1 m0 m1 m2 m3 m4 m5
      rw [lx_a1] at q4
      rw [← v2] at t2
      exact Or.inl ⟨hmP, by omega, lo2, g2, E2, by rw [v2]; exact fr, t2, q0, q1, q2, q3, q4⟩
  · rcases pn_z E rfl ty l0 l1 l2 l3 l4 with ⟨c, r, -⟩ | ⟨c, r, -⟩
    · exact Or.inl ⟨c, r⟩
    · exact Or.inr ⟨c, r⟩
end BPM
section JST2
variable {d e : Nat} {hc hc' hm hm' : ri_H} {v1 v2 : Option Value} {k : Int32}
theorem J_still (E1 : ri_calE ri_md (d + 4) 129 [.ref 0, .int k] hc = some (v1, hc')) (E2 : ri_calE ri_md (e + 7) 229 [.ref 0, .int k] hm = some (v2, hm')) (tc : eh_ty tC (eh_V hc)) (tm : eh_ty tM (eh_V hm)) (Q : LQ (eh_V hc) (eh_V hm)) : v1 = v2 := by
  obtain ⟨⟨q, Q⟩, -⟩ := Q
  obtain ⟨-, -, -, e25, e4, q8⟩ := dw_ck Q
  obtain ⟨ku, sz, ce, hi, D1, D2, D3, w, -, w8, -, hw, D4⟩ := LD_of Q
  obtain ⟨h1, w1, -, t1, X1⟩ := si_c (d := d + 3) E1 rfl tc
  obtain ⟨rs1, r1, X1⟩ := eh_in X1 (q := md_130) rfl
  obtain ⟨h2, w2, -, t2, X2⟩ := si_m (d := e + 6) E2 rfl tm
  obtain ⟨rs2, r2, X2⟩ := eh_in X2 (q := md_227) rfl
  obtain ⟨h3, lo3, X1, w3, -, -, m0, m1, m2, m3, m4, m5⟩ := pb_a X1 w1 t1 rfl rfl rfl
  rw [e25] at m4
  have A := bc_S (d := d) (rs := rs1) (h' := hc') (k := k) t1 q8
  have A0 : bc_O d rs1 hc' (eh_V hc) k (q 1) 0 0 := ⟨Nat.zero_le _, lo3, h3, X1, w3, m0, m1, m2, m3, m4, m5⟩
  rcases pn_a X2 w2 t2 rfl rfl rfl with ⟨c, h4, lo4, X2, w4, -, t4, p0, p1, p2, p3, p4⟩ | ⟨c, z, -⟩
  · rw [← w4] at t4
    have B := bm_S (d := e) (rs := rs2) (h' := hm') (k := k) (G := eh_u (eh_V hm) 0 0 (.int 0)) D1 D3 (LDm_fr D2 (fun _ => rfl)) hw w8 D4
    obtain ⟨x, z1, z2⟩ := pr_out A B (q 1) 0 0 (by omega) A0 ⟨Nat.zero_le _, lo4, h4, X2, by rw [w4]; exact eh_fr.rf, t4, p0, p1, p2, p3, p4⟩
    rw [← r1, ← r2, z1, z2]
  · have z1 := pr_low A c q8 (q 1) 0 0 (by omega) (Nat.zero_le _) A0
    rw [← r1, ← r2, z, z1]
end JST2
