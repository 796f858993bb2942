/-! apart: pairs of one CUE -/
theorem nI_10 (l m : Nat) : (10 : Int32) * nI l + nI m = nI (10 * l + m) := by
  rw [show (10 : Int32) * nI l = nI (10 * l) from (Int32.ofNat_mul 10 l).symm]
  exact lx_add (10 * l) m
theorem nI_p10 (l : Nat) : (10 : Int32) + nI l = nI (10 + l) := lx_add 10 l
section APC
variable {cal : eh_K} {h' : ri_H} {rs : List Value} {G : eh_W} {k : Int32} {P : Nat}
def ac_O (cal : eh_K) (rs : List Value) (h' : ri_H) (G : eh_W) (k : Int32) (P l n : Nat) : Prop := l ≤ P ∧ ∃ lo h, eh_e cal md_130 16 lo [] h rs h' ∧ eh_V h = G ∧ ri_lk lo 0 = some (.ref 0) ∧ ri_lk lo 1 = some (.int k) ∧ ri_lk lo 2 = some (.int 0) ∧ ri_lk lo 3 = some (.int (nI n)) ∧ ri_lk lo 4 = some (.int (nI P)) ∧ ri_lk lo 5 = some (.int (nI l))
def ac_I (cal : eh_K) (rs : List Value) (h' : ri_H) (G : eh_W) (k : Int32) (P l m n : Nat) : Prop := m ≤ P ∧ ∃ lo h, eh_e cal md_130 29 lo [] h rs h' ∧ eh_V h = G ∧ ri_lk lo 0 = some (.ref 0) ∧ ri_lk lo 1 = some (.int k) ∧ ri_lk lo 2 = some (.int 0) ∧ ri_lk lo 3 = some (.int (nI n)) ∧ ri_lk lo 4 = some (.int (nI P)) ∧ ri_lk lo 5 = some (.int (nI l)) ∧ ri_lk lo 6 = some (.int (nI m))
def ac_Z (cal : eh_K) (rs : List Value) (h' : ri_H) (G : eh_W) (k : Int32) (P n : Nat) : Prop := ∃ l lo h, eh_e cal md_130 106 lo [] h rs h' ∧ eh_V h = G ∧ ri_lk lo 0 = some (.ref 0) ∧ ri_lk lo 1 = some (.int k) ∧ ri_lk lo 2 = some (.int 0) ∧ ri_lk lo 3 = some (.int (nI n)) ∧ ri_lk lo 4 = some (.int (nI P)) ∧ ri_lk lo 5 = some (.int (nI l))
theorem ac_S (ty : eh_ty tC G) (hP : P ≤ 8) : pr_S P k (fun l m => eh_i G 26 l = eh_i G 26 m) (ac_O cal rs h' G k P) (ac_I cal rs h' G k P) (ac_Z cal rs h' G k P) (fun x => rs = [.int x]) := by
  refine ⟨fun l n ⟨hl, lo, h, E, hV, l0, l1, l2, l3, l4, l5⟩ => ?_, fun l m n ⟨hm, lo, h, E, hV, l0, l1, l2, l3, l4, l5, l6⟩ hl => ?_, fun n ⟨l, lo, h, E, hV, l0, l1, l2, l3, l4, l5⟩ => ?_⟩
  · have z := pa_o E hV ty l0 l1 l2 l3 l4 l5
    rw [lx_i (a := l) (by omega), lx_i (a := P) (by omega)] at z
    rcases z with ⟨c, h1, lo1, E1, v1, -, -, m0, m1, m2, m3, m4, m5⟩ | ⟨c, h1, lo1, E1, v1, -, -, m0, m1, m2, m3, m4, m5, m6⟩
    · exact Or.inl ⟨by omega, l, lo1, h1, E1, v1, m0, m1, m2, m3, m4, m5⟩
    · rw [lx_a1] at m6
      exact Or.inr ⟨by omega, by omega, lo1, h1, E1, v1, m0, m1, m2, m3, m4, m5, m6⟩
  · have z := pa_i E hV ty l0 l1 l2 l3 l4 l5 l6
    rw [lx_i (a := m) (by omega), lx_i (a := P) (by omega), lx_cl (a := l) (by omega), lx_cl (a := m) (by omega)] at z
    rcases z with ⟨c, h1, lo1, E1, v1, -, t1, m0, m1, m2, m3, m4, m5, m6⟩ | ⟨c, e, h1, lo1, E1, v1, -, -, m0, m1, m2, m3, m4, m5, m6⟩ | ⟨c, e, e2, h1, lo1, E1, v1, -, -, m0, m1, m2, m3, m4, m5, m6⟩ | ⟨c, e, e2, r, -⟩
    · obtain ⟨h2, lo2, E2, v2, -, -, p0, p1, p2, p3, p4, p5, -⟩ := pa_x E1 v1 ty m0 m1 m2 m3 m4 m5 m6
      rw [lx_a1] at p5
      exact Or.inl ⟨by omega, by omega, lo2, h2, E2, v2, p0, p1, p2, p3, p4, p5⟩
    · rw [lx_a1] at m6
      exact Or.inr (Or.inl ⟨by omega, e, by omega, lo1, h1, E1, v1, m0, m1, m2, m3, m4, m5, m6⟩)
    · rw [lx_a1] at m6 m3
      exact Or.inr (Or.inr (Or.inl ⟨by omega, e, e2, by omega, lo1, h1, E1, v1, m0, m1, m2, m3, m4, m5, m6⟩))
    · rw [nI_10] at r
      exact Or.inr (Or.inr (Or.inr ⟨by omega, e, e2, r⟩))
  · rcases pa_z E hV ty l0 l1 l2 l3 l4 l5 with ⟨c, r, -⟩ | ⟨c, r, -⟩
    · exact Or.inl ⟨c, r⟩
    · exact Or.inr ⟨c, r⟩
end APC
section APM
variable {d : Nat} {h' : ri_H} {rs : List Value} {G : eh_W} {k : Int32} {P : Nat}
def am_O (d : Nat) (rs : List Value) (h' : ri_H) (G : eh_W) (k : Int32) (P l n : Nat) : Prop := l ≤ P ∧ ∃ lo h, eh_e (ri_calE ri_md (d + 1)) md_227 12 lo [] h rs h' ∧ eh_V h = G ∧ ri_lk lo 0 = some (.ref 0) ∧ ri_lk lo 1 = some (.int k) ∧ ri_lk lo 2 = some (.int 0) ∧ ri_lk lo 3 = some (.int (nI n)) ∧ ri_lk lo 4 = some (.int (nI l))
def am_I (d : Nat) (rs : List Value) (h' : ri_H) (G : eh_W) (k : Int32) (P l m n : Nat) : Prop := m ≤ P ∧ ∃ lo h, eh_e (ri_calE ri_md (d + 1)) md_227 29 lo [] h rs h' ∧ eh_V h = G ∧ ri_lk lo 0 = some (.ref 0) ∧ ri_lk lo 1 = some (.int k) ∧ ri_lk lo 2 = some (.int 0) ∧ ri_lk lo 3 = some (.int (nI n)) ∧ ri_lk lo 4 = some (.int (nI l)) ∧ ri_lk lo 5 = some (.int (nI m))
def am_Z (d : Nat) (rs : List Value) (h' : ri_H) (G : eh_W) (k : Int32) (n : Nat) : Prop := ∃ l lo h, eh_e (ri_calE ri_md (d + 1)) md_227 84 lo [] h rs h' ∧ eh_V h = G ∧ ri_lk lo 0 = some (.ref 0) ∧ ri_lk lo 1 = some (.int k) ∧ ri_lk lo 2 = some (.int 0) ∧ ri_lk lo 3 = some (.int (nI n)) ∧ ri_lk lo 4 = some (.int (nI l))
theorem am_S {T : Nat → Nat → Prop} (ty : eh_ty tM G) (hP : P ≤ 8) (hc : eh_i G 2 4 = nI P) (hT : ∀ l m, l < P → m < P → (T l m ↔ eh_i G 2 (10 + m) = eh_i G 2 (10 + l))) : pr_S P k T (am_O d rs h' G k P) (am_I d rs h' G k P) (am_Z d rs h' G k) (fun x => rs = [.int x]) := by
  refine ⟨fun l n ⟨hl, lo, h, E, hV, l0, l1, l2, l3, l4⟩ => ?_, fun l m n ⟨hm, lo, h, E, hV, l0, l1, l2, l3, l4, l5⟩ hl => ?_, fun n ⟨l, lo, h, E, hV, l0, l1, l2, l3, l4⟩ => ?_⟩
  · have z := pm_o E hV ty l0 l1 l2 l3 l4
    rw [hc, lx_i (a := l) (by omega), lx_i (a := P) (by omega)] at z
    rcases z with ⟨c, h1, lo1, E1, v1, -, -, m0, m1, m2, m3, m4⟩ | ⟨c, h1, lo1, E1, v1, -, -, m0, m1, m2, m3, m4, m5⟩
    · exact Or.inl ⟨by omega, l, lo1, h1, E1, v1, m0, m1, m2, m3, m4⟩
    · rw [lx_a1] at m5
      exact Or.inr ⟨by omega, by omega, lo1, h1, E1, v1, m0, m1, m2, m3, m4, m5⟩
  · have z := pm_i E hV ty l0 l1 l2 l3 l4 l5
    rw [hc, nI_p10, nI_p10, lx_i (a := m) (by omega), lx_i (a := P) (by omega), lx_cl (a := 10 + l) (by omega), lx_cl (a := 10 + m) (by omega)] at z
    rcases z with ⟨c, h1, lo1, E1, v1, -, t1, m0, m1, m2, m3, m4, m5⟩ | ⟨c, e, e2, h1, lo1, E1, v1, -, -, m0, m1, m2, m3, m4, m5⟩ | ⟨c, e, e2, r, -⟩ | ⟨c, e, h1, lo1, E1, v1, -, -, m0, m1, m2, m3, m4, m5⟩
    · obtain ⟨h2, lo2, E2, v2, -, -, p0, p1, p2, p3, p4, -⟩ := pm_x E1 v1 ty m0 m1 m2 m3 m4 m5
      rw [lx_a1] at p4
      exact Or.inl ⟨by omega, by omega, lo2, h2, E2, v2, p0, p1, p2, p3, p4⟩
    · rw [lx_a1] at m3 m5
      exact Or.inr (Or.inr (Or.inl ⟨by omega, (hT l m hl (by omega)).mpr e, e2, by omega, lo1, h1, E1, v1, m0, m1, m2, m3, m4, m5⟩))
    · rw [nI_10] at r
      exact Or.inr (Or.inr (Or.inr ⟨by omega, (hT l m hl (by omega)).mpr e, e2, r⟩))
    · rw [lx_a1] at m5
      exact Or.inr (Or.inl ⟨by omega, fun x => e ((hT l m hl (by omega)).mp x), by omega, lo1, h1, E1, v1, m0, m1, m2, m3, m4, m5⟩)
  · rcases pm_z E hV ty l0 l1 l2 l3 l4 with ⟨c, r, -⟩ | ⟨c, r, -⟩
    · exact Or.inl ⟨c, r⟩
    · exact Or.inr ⟨c, r⟩
end APM
section JAP
variable {d e : Nat} {hc hc' hm hm' : ri_H} {v1 v2 : Option Value} {k : Int32}
theorem J_apart (E1 : ri_calE ri_md (d + 2) 128 [.ref 0, .int k] hc = some (v1, hc')) (E2 : ri_calE ri_md (e + 3) 228 [.ref 0, .int k] hm = some (v2, hm')) (tc : eh_ty tC (eh_V hc)) (tm : eh_ty tM (eh_V hm)) (Q : LQ (eh_V hc) (eh_V hm)) : v1 = v2 := by
  obtain ⟨⟨q, -, ⟨s4, -⟩, ⟨b1, -⟩, -⟩, -⟩ := Q
  have e25 : eh_i (eh_V hc) 25 1 = nI (q 1) := (s4 1 (by decide)).1
  have e4 : eh_i (eh_V hm) 2 4 = nI (q 1) := (s4 1 (by decide)).2.1
  have q8 : q 1 ≤ 8 := (s4 1 (by decide)).2.2
  have hb : ∀ l, l < q 1 → eh_i (eh_V hc) 26 l = eh_i (eh_V hm) 2 (10 + l) := fun l hl => by
    have := (b1 l hl).1
    have this : eh_i (eh_V hc) 26 l = eh_i (eh_V hm) 2 (0 + (10 + l)) := this
    rw [Nat.zero_add] at this
    exact this
  obtain ⟨h1, w1, -, t1, X1⟩ := ap_c (d := d + 1) E1 rfl tc
  obtain ⟨rs1, r1, X1⟩ := eh_in X1 (q := md_130) rfl
  obtain ⟨h2, w2, -, t2, X2⟩ := ap_m (d := e + 2) E2 rfl tm
  obtain ⟨rs2, r2, X2⟩ := eh_in X2 (q := md_227) rfl
  obtain ⟨h3, lo3, X1, w3, -, -, m0, m1, m2, m3, m4, m5⟩ := pa_a X1 w1 t1 rfl rfl rfl
  rw [e25] at m4
  have A := ac_S (cal := ri_calE ri_md d) (rs := rs1) (h' := hc') (k := k) t1 q8
  have A0 : ac_O (ri_calE ri_md d) rs1 hc' (eh_V hc) k (q 1) 0 0 := ⟨Nat.zero_le _, lo3, h3, X1, w3, m0, m1, m2, m3, m4, m5⟩
  rcases pm_a X2 w2 t2 rfl rfl rfl with ⟨c, h4, lo4, X2, w4, -, -, p0, p1, p2, p3, p4⟩ | ⟨c, z, -⟩
  · have B := am_S (d := e) (rs := rs2) (h' := hm') (k := k) (P := q 1) (T := fun l m => eh_i (eh_V hc) 26 l = eh_i (eh_V hc) 26 m) t2 q8 e4 (fun l m hl hm => by
      rw [hb l hl, hb m hm]
      exact eq_comm)
    obtain ⟨x, z1, z2⟩ := pr_out A B (q 1) 0 0 (by omega) A0 ⟨Nat.zero_le _, lo4, h4, X2, w4, p0, p1, p2, p3, p4⟩
    rw [← r1, ← r2, z1, z2]
  · have z1 := pr_low A c q8 (q 1) 0 0 (by omega) (Nat.zero_le _) A0
    rw [← r1, ← r2, z, z1]
end JAP
