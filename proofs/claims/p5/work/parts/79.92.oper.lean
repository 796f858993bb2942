/-! a ONE of a SENTENCE, on both sides: its beginning -/
theorem pS_lc (k i : Nat) (h : pSc k i = false) : pLc k i = false := by
  unfold pLc
  rw [pS_ct k i h, pS_ad k i h]
  rfl
theorem pS_lm (k i : Nat) (h : pSm k i = false) : pLm k i = false := by
  rcases pS_25 h with rfl | rfl | ⟨rfl, rfl⟩ <;> rfl
theorem NS_S {q : Nat → Nat} {Gc0 Gm0 Gc Gm : eh_W} (N : NS q Gc0 Gm0) (fc : eh_fr pSc Gc0 Gc) (fm : eh_fr pSm Gm0 Gm) : NS q Gc Gm := NS_mv N (fun k i hk => fc k i (by unfold pSc; rw [show Nat.ble k 22 = false from lx_no (fun x => by have := Nat.ble_eq.mp x; omega)]; rfl)) (fun k i hk => fm k i (by rcases hk with rfl | rfl <;> rfl))
/-- behind its first TOKEN -/
def OO (b : Nat → Int32) (d n m : Nat) (Gc0 Gm0 : eh_W) (w T dp : Nat) (v1 : Option Value) (x2 : Int32) (Gm : eh_W) (hc' hm' : ri_H) : Prop :=
  (v1 = some (.int 0) ∧ x2 = 0 ∧ FL (eh_V hc') (eh_V hm') ∧ iS b n m (eh_V hc')) ∨ (v1 = some (.int 1) ∧ x2 = 1 ∧ SJ b n m Gc0 Gm0 (w + 1) T dp 1 (eh_V hc') (eh_V hm') ∧ ∀ i, eh_i (eh_V hm') 13 i = eh_i Gm 13 i) ∨
  (∃ (j pc : Nat) (s : Int32), ((j = 97 ∧ pc = 174 ∧ s = 20) ∨ (j = 96 ∧ pc = 138 ∧ s = 23)) ∧ dp ≤ 8 ∧ x2 = 1 ∧ (∃ h1 loz v hz rs, rs.head? = v1 ∧ ri_calE ri_md (d + 4) j [.ref 17, .ref 23, .int (nI (dp + 1))] h1 = some (v, hz) ∧ eh_e (ri_calE ri_md (d + 4)) md_97 pc loz (v.toList ++ []) hz rs hc' ∧ ri_lk loz 0 = some (.ref 17) ∧ ri_lk loz 1 = some (.ref 23) ∧ ri_lk loz 2 = some (.int (nI dp)) ∧ SJ b n m Gc0 Gm0 (w + 1) (T + 1) (dp + 1) 0 (eh_V h1) (eh_V hm')) ∧ (∀ i, i ≠ T → eh_i (eh_V hm') 13 i = eh_i Gm 13 i) ∧ eh_i (eh_V hm') 13 T = s)
section OPER
variable {d e n m w T dp : Nat} {b : Nat → Int32} {hc hc' hm hm' : ri_H} {q : Nat → Nat} {v1 : Option Value} {x2 : Int32} {Gc0 Gm0 : eh_W}
theorem J_adv {h35 h39 h6 h9 : ri_H} {u1 u2 : Option Value} {wh : Int32} (S : SJ b n m Gc0 Gm0 w T dp wh (eh_V hc) (eh_V hm)) (kd : 2 ≤ (eh_i (eh_V hc) 2 5).toInt) (w19 : w < 20) (V35 : eh_V h35 = eh_u (eh_V hc) 18 0 (.int (eh_i (eh_V hc) 18 0 + 1))) (X39 : ri_calE ri_md (d + 2) 74 [.ref 2] h35 = some (u1, h39)) (i39 : iS b n m (eh_V h39)) (V6 : eh_V h6 = eh_u (eh_V hm) 0 40 (.int (eh_i (eh_V hm) 0 40 + 1))) (X9 : ri_calE ri_md (e + 2) 158 [.ref 0] h6 = some (u2, h9)) (i9 : iT b n m (eh_V h9)) : SJ b n m Gc0 Gm0 (w + 1) T dp wh (eh_V h39) (eh_V h9) ∧ ∀ i, eh_i (eh_V h9) 13 i = eh_i (eh_V hm) 13 i := by
  obtain ⟨is, it, J, fc, fm, ⟨w1, w2, w20⟩, hwh, tp, dpp⟩ := S
  have i35 : iS b n m (eh_V h35) := by
    rw [V35]
    exact iS_u is (is.1.ui rfl) rfl
  have i6 : iT b n m (eh_V h6) := by
    rw [V6]
    exact iT_u it (it.1.ui rfl) rfl
  obtain ⟨J2, g1, g2⟩ := JS_next J kd X39 X9 i35 i6 (by rw [V35]; rfl) (by rw [V6]; rfl)
  refine ⟨⟨i39, i9, J2, ?_, ?_, ⟨?_, ?_, by omega⟩, ?_, ?_, ?_⟩, fun i => ?_⟩
  · refine fc.tr (eh_fr.tr ?_ (g1.mo pS_ct))
    rw [V35]
    exact eh_fr.rf.up rfl
  · refine fm.tr (eh_fr.tr ?_ (g2.mo pS_mt))
    rw [V6]
    exact eh_fr.rf.up rfl
  · refine (g1.i rfl).trans ?_
    rw [V35, eh_i_self, w1, lx_a1]
  · refine (g2.i rfl).trans ?_
    rw [V6, eh_i_self, w2, lx_a1]
  · refine (g2.i rfl).trans ?_
    rw [V6]
    exact hwh
  · refine (g2.i rfl).trans ?_
    rw [V6]
    exact tp
  · refine (g2.i rfl).trans ?_
    rw [V6]
    exact dpp
  · refine (g2.i rfl).trans ?_
    rw [V6]
    rfl
theorem J_push {h1 h39 h9 : ri_H} {s : Int32} (S : SJ b n m Gc0 Gm0 w T dp 0 (eh_V h39) (eh_V h9)) (T9 : T ≤ 100) (U1 : eh_V h1 = eh_V h39) (s2 : eh_V hm' = eh_u (eh_u (eh_u (eh_V h9) 13 (eh_i (eh_V h9) 0 41).toNatClampNeg (.int s)) 0 41 (.int (eh_i (eh_V h9) 0 41 + 1))) 0 42 (.int (eh_i (eh_V h9) 0 42 + 1))) (s4 : iT b n m (eh_V hm')) : SJ b n m Gc0 Gm0 w (T + 1) (dp + 1) 0 (eh_V h1) (eh_V hm') ∧ (∀ i, i ≠ T → eh_i (eh_V hm') 13 i = eh_i (eh_V h9) 13 i) ∧ eh_i (eh_V hm') 13 T = s := by
  obtain ⟨is, it, J, fc, fm, ⟨w1, w2, w20⟩, hwh, tp, dpp⟩ := S
  rw [tp, lx_cl (by omega)] at s2
  refine ⟨⟨by rw [U1]; exact is, s4, ?_, by rw [U1]; exact fc, ?_, ⟨by rw [U1]; exact w1, ?_, w20⟩, ?_, ?_, ?_⟩, fun i hi => ?_, ?_⟩
  · rw [U1]
    refine JT_fm J (fun i hi => ?_)
    rw [s2, eh_u_ne _ _ (Or.inr (by omega)), eh_u_ne _ _ (Or.inr (by omega)), eh_u_ne _ _ (Or.inl (by decide))]
  · rw [s2]
    exact ((fm.up rfl).up rfl).up rfl
  · rw [s2]
    exact w2
  · rw [s2]
    exact hwh
  · rw [s2]
    exact (show _ = nI T + 1 from rfl).trans (lx_a1 T)
  · rw [s2]
    exact (eh_i_self _ _ _ _).trans (by rw [dpp, lx_a1])
  · rw [s2, eh_i_ne _ _ (Or.inl (by decide)), eh_i_ne _ _ (Or.inl (by decide)), eh_i_ne _ _ (Or.inr (fun x => hi x.symm))]
  · rw [s2, eh_i_ne _ _ (Or.inl (by decide)), eh_i_ne _ _ (Or.inl (by decide)), eh_i_self]
/-- a ONE that is done -/
theorem J_done {h39 h9 h43 : ri_H} (S : SJ b n m Gc0 Gm0 w T dp 0 (eh_V h39) (eh_V h9)) (L : LFo b n m v1 x2 (eh_V h39) (eh_V h9) (eh_V h43) (eh_V hm')) (U : eh_V hc' = eh_V h43) : (v1 = some (.int 0) ∧ x2 = 0 ∧ FL (eh_V hc') (eh_V hm') ∧ iS b n m (eh_V hc')) ∨ (v1 = some (.int 1) ∧ x2 = 1 ∧ SJ b n m Gc0 Gm0 w T dp 1 (eh_V hc') (eh_V hm') ∧ ∀ i, eh_i (eh_V hm') 13 i = eh_i (eh_V h9) 13 i) := by
  rw [U]
  rcases L with L | ⟨a1, a2, a3, a4, a5, a6, a7⟩
  · exact Or.inl L
  · obtain ⟨is, it, J, fc, fm, ⟨w1, w2, w20⟩, hwh, tp, dpp⟩ := S
    refine Or.inr ⟨a1, a2, ⟨a3, a4, a5, fc.tr (a6.mo pS_lc), (fm.up rfl).tr (a7.mo pS_lm), ⟨(a6.i rfl).trans w1, (a7.i rfl).trans w2, w20⟩, ?_, (a7.i rfl).trans tp, (a7.i rfl).trans dpp⟩, fun i => (a7.i rfl).trans rfl⟩
    exact (a7.i rfl).trans (eh_i_self _ _ _ _)
theorem J_oper (S : SJ b n m Gc0 Gm0 w T dp 0 (eh_V hc) (eh_V hm)) (N : NS q Gc0 Gm0) (dp9 : dp ≤ 9) (T9 : T ≤ 100) (E1 : ri_calE ri_md (d + 5) 97 [.ref 17, .ref 23, .int (nI dp)] hc = some (v1, hc')) (E2 : ri_calE ri_md (e + 4) 246 [.ref 0] hm = some (some (.int x2), hm')) : OO b d n m Gc0 Gm0 w T dp v1 x2 (eh_V hm) hc' hm' := by
  obtain ⟨is, it, J, fc, fm, ⟨w1, w2, w20⟩, hwh, tp, dpp⟩ := id S
  have N1 := NS_S N fc fm
  obtain ⟨rs2, hz2, loz2, no, op, le, hrs2, E20, V20, -, l0, l1, l2, l3, K⟩ := opr_a E2 rfl it
  obtain ⟨rs1, hrs1, E97⟩ := eh_in E1 (q := md_97) rfl
  have hx2 : ∀ {y : Int32}, rs2 = [.int y] → x2 = y := fun {y} h => by
    rw [h] at hrs2
    cases hrs2
    rfl
  have hv1 : ∀ {y : Int32}, rs1 = [.int y] → v1 = some (.int y) := fun {y} h => by
    rw [← hrs1, h]
    rfl
  have fl : ∀ {f : Int32}, rs1 = [.int 0] → eh_V hc' = eh_u (eh_u (eh_V hc) 2 9 (.int f)) 2 10 (.int (eh_i (eh_V hc) 2 6)) → rs2 = [.int 0] → eh_V hm' = eh_u (eh_u (eh_V hm) 0 15 (.int f)) 0 16 (.int (eh_i (eh_V hm) 0 12)) → ¬ f = 0 → iS b n m (eh_u (eh_u (eh_V hc) 2 9 (.int f)) 2 10 (.int (eh_i (eh_V hc) 2 6))) → OO b d n m Gc0 Gm0 w T dp v1 x2 (eh_V hm) hc' hm' := fun {f} r1 r2 s1 s2 hf r4 => by
    obtain ⟨f1, -, -⟩ := J.fl r2 s2 hf
    exact Or.inl ⟨hv1 r1, hx2 s1, f1, by rw [r2]; exact r4⟩
  have wc : (eh_i (eh_V hc) 18 0).toInt = (w : Int) := by rw [w1, lx_i (by omega)]
  have wm : eh_i (eh_V hm) 0 40 = 20 ↔ w = 20 := by
    rw [w2]
    exact ⟨fun x => lx_inj (b := 20) (by omega) (by omega) x, fun x => by rw [x]; rfl⟩
  have dm : (eh_i (eh_V hm) 0 42).toInt = (dp : Int) := by rw [dpp, lx_i (by omega)]
  have dc : (nI dp).toInt = (dp : Int) := lx_i (by omega)
  have z1 := zo_a (d := d) E97 rfl is rfl rfl rfl
  rw [wc, dc] at z1
  have kk : ∀ {a c : Nat}, a ≤ 1000 → c ≤ 1000 → nI a = nI c → a = c := fun ha hc h => lx_inj (by omega) (by omega) h
  rcases tk_of J K with ⟨rfl, rfl, kd, ky⟩ | ⟨rfl, rfl, kd, ky⟩ | ⟨rfl, rfl, k, k8, rfl, kd, ky⟩ | ⟨rfl, rfl, rfl, nb, nk⟩
  · have z2 := zp_n (d := e + 1) E20 V20 it l0 l1 l2 l3
    rw [wm, dm] at z2
    rw [kd, ky] at z1
    have k15 : (nI 15).toInt = 15 := by decide
    rw [k15] at z1
    rcases z1 with ⟨-, c, -⟩ | ⟨-, -, c, -⟩ | ⟨-, -, -, c, -⟩ | ⟨-, -, -, -, c4, r1, r2, -, r4⟩ | ⟨_, _, _, _, -, -, -, -, -, -, -, -, -, c, -⟩ | ⟨_, _, _, _, -, -, -, -, -, -, -, -, -, c, -⟩ | ⟨h35, h39, -, -, -, -, c4, c5, V35, X39, i39, -, h1, loz, v, hz, U1, -, -, Xc, Ec, m0, m1, m2, -, -, -⟩ | ⟨-, -, -, -, c4, c5, r1, r2, -, r4⟩ | ⟨c, -⟩ | ⟨c, -⟩ | ⟨_, _, c, -⟩ | ⟨c, -⟩
    · exact absurd rfl c
    · omega
    · omega
    · rcases z2 with ⟨c, s1, s2, -, -⟩ | ⟨_, _, c, -⟩ | ⟨c, -⟩
      · exact fl r1 r2 s1 s2 (by decide) r4
      · omega
      · omega
    · exact absurd rfl c
    · exact absurd rfl c
    · rcases z2 with ⟨c, -⟩ | ⟨h6, h9, c, c', V6, X9, i9, s1, s2, -, s4⟩ | ⟨c, c', -⟩
      · omega
      · obtain ⟨S1, q1⟩ := J_adv (d := d + 2) (e := e + 1) S (by rw [kd]; decide) (by omega) V35 X39 i39 V6 X9 i9
        obtain ⟨S2, q2, q3⟩ := J_push S1 T9 U1 s2 (by rw [s2]; exact s4)
        rw [lx_a1] at Xc
        exact Or.inr (Or.inr ⟨97, 174, 20, Or.inl ⟨rfl, rfl, rfl⟩, by omega, hx2 s1, ⟨h1, loz, v, hz, rs1, hrs1, Xc, Ec, m0, m1, m2, S2⟩, fun i hi => (q2 i hi).trans (q1 i), q3⟩)
      · omega
    · rcases z2 with ⟨c, -⟩ | ⟨_, _, c, c', -⟩ | ⟨c, c', s1, s2, -, -⟩
      · omega
      · omega
      · exact fl r1 r2 s1 s2 (by decide) r4
    · exact absurd c (by decide)
    · exact absurd c (by decide)
    · exact absurd c (by decide)
    · exact absurd c (by decide)
  · have z2 := zp_o (d := e + 1) E20 V20 it l0 l1 l2 l3
    rw [wm, dm] at z2
    rw [kd, ky] at z1
    rcases z1 with ⟨c, -⟩ | ⟨c, -⟩ | ⟨c, -⟩ | ⟨c, -⟩ | ⟨_, _, _, _, c, -⟩ | ⟨_, _, _, _, c, -⟩ | ⟨_, _, c, -⟩ | ⟨c, -⟩ | ⟨-, c, -⟩ | ⟨-, -, c2, r1, r2, -, r4⟩ | ⟨h35, h39, -, -, c4, c5, V35, X39, i39, h1, loz, v, hz, U1, -, -, Xc, Ec, m0, m1, m2, -, -, -⟩ | ⟨-, -, c4, c5, r1, r2, -, r4⟩
    · exact absurd rfl c
    · exact absurd rfl c
    · exact absurd rfl c
    · exact absurd rfl c
    · exact absurd rfl c
    · exact absurd rfl c
    · exact absurd rfl c
    · exact absurd rfl c
    · exact absurd rfl c
    · rcases z2 with ⟨c, s1, s2, -, -⟩ | ⟨_, _, c, -⟩ | ⟨c, -⟩
      · exact fl r1 r2 s1 s2 (by decide) r4
      · omega
      · omega
    · rcases z2 with ⟨c, -⟩ | ⟨h6, h9, c, c', V6, X9, i9, s1, s2, -, s4⟩ | ⟨c, c', -⟩
      · omega
      · obtain ⟨S1, q1⟩ := J_adv (d := d + 2) (e := e + 1) S (by rw [kd]; decide) (by omega) V35 X39 i39 V6 X9 i9
        obtain ⟨S2, q2, q3⟩ := J_push S1 T9 U1 s2 (by rw [s2]; exact s4)
        rw [lx_a1] at Xc
        exact Or.inr (Or.inr ⟨96, 138, 23, Or.inr ⟨rfl, rfl, rfl⟩, by omega, hx2 s1, ⟨h1, loz, v, hz, rs1, hrs1, Xc, Ec, m0, m1, m2, S2⟩, fun i hi => (q2 i hi).trans (q1 i), q3⟩)
      · omega
    · rcases z2 with ⟨c, -⟩ | ⟨_, _, c, c', -⟩ | ⟨c, c', s1, s2, -, -⟩
      · omega
      · omega
      · exact fl r1 r2 s1 s2 (by decide) r4
  · have z2 := zp_l (d := e + 1) E20 V20 it l0 l1 l2 l3
    have ki : (nI k).toInt = (k : Int) := lx_i (by omega)
    rw [wm, dm, ki] at z2
    have cls : ((w = 20 ∨ 8 < dp) ∧ rs1 = [.int 0] ∧ eh_V hc' = eh_u (eh_u (eh_V hc) 2 9 (.int 4)) 2 10 (.int (eh_i (eh_V hc) 2 6)) ∧ iS b n m (eh_u (eh_u (eh_V hc) 2 9 (.int 4)) 2 10 (.int (eh_i (eh_V hc) 2 6)))) ∨ (w < 20 ∧ dp ≤ 8 ∧ ∃ (h35 h39 : ri_H) (x : Int32) (h43 : ri_H), eh_V h35 = eh_u (eh_V hc) 18 0 (.int (eh_i (eh_V hc) 18 0 + 1)) ∧ ri_calE ri_md (d + 4) 74 [.ref 2] h35 = some (none, h39) ∧ iS b n m (eh_V h39) ∧ ((k < 4 ∧ ri_calE ri_md (d + 4) 98 [.ref 17, .ref 23, .int (nI (16 + k))] h39 = some (some (.int x), h43)) ∨ (4 ≤ k ∧ ri_calE ri_md (d + 4) 99 [.ref 17, .int (nI (16 + k))] h39 = some (some (.int x), h43))) ∧ rs1 = [.int x] ∧ eh_V hc' = eh_V h43) := by
      rw [kd, ky] at z1
      have k16 : (nI (16 + k)).toInt = ((16 + k : Nat) : Int) := lx_i (by omega)
      rw [k16] at z1
      rcases z1 with ⟨-, c, -⟩ | ⟨-, -, c, -⟩ | ⟨-, -, -, c, -⟩ | ⟨-, -, -, -, c4, r1, r2, -, r4⟩ | ⟨h35, h39, x, h43, -, -, -, -, c4, c5, V35, X39, i39, -, c10, X43, i43, r1, r2, -, r4⟩ | ⟨h35, h39, x, h43, -, -, -, -, c4, c5, V35, X39, i39, -, c10, X43, i43, r1, r2, -, r4⟩ | ⟨_, _, -, -, -, -, -, -, -, -, -, c, -⟩ | ⟨-, -, -, -, c4, c5, r1, r2, -, r4⟩ | ⟨c, -⟩ | ⟨c, -⟩ | ⟨_, _, c, -⟩ | ⟨c, -⟩
      · exact absurd rfl c
      · omega
      · omega
      · exact Or.inl ⟨Or.inl (by omega), r1, r2, r4⟩
      · exact Or.inr ⟨by omega, by omega, h35, h39, x, h43, V35, X39, i39, Or.inl ⟨by omega, X43⟩, r1, r2⟩
      · exact Or.inr ⟨by omega, by omega, h35, h39, x, h43, V35, X39, i39, Or.inr ⟨by omega, X43⟩, r1, r2⟩
      · have := kk (by omega) (by omega) (show nI (16 + k) = nI 15 from c)
        omega
      · exact Or.inl ⟨Or.inr (by omega), r1, r2, r4⟩
      · exact absurd c (by decide)
      · exact absurd c (by decide)
      · exact absurd c (by decide)
      · exact absurd c (by decide)
    have go : ∀ {h7 h10 : ri_H} {u2 : Option Value} {y2 : Int32}, ¬ w = 20 → ¬ (8 : Int) < dp → eh_V h7 = eh_u (eh_V hm) 0 40 (.int (eh_i (eh_V hm) 0 40 + 1)) → ri_calE ri_md (e + 1 + 2) 158 [.ref 0] h7 = some (u2, h10) → iT b n m (eh_V h10) → rs2 = [.int y2] → (∀ {h39 h43 : ri_H} {x : Int32}, JT n 0 (eh_V h39) (eh_V h10) → iS b n m (eh_V h39) → NS q (eh_V h39) (eh_V h10) → ((k < 4 ∧ ri_calE ri_md (d + 4) 98 [.ref 17, .ref 23, .int (nI (16 + k))] h39 = some (some (.int x), h43)) ∨ (4 ≤ k ∧ ri_calE ri_md (d + 4) 99 [.ref 17, .int (nI (16 + k))] h39 = some (some (.int x), h43))) → LFo b n m (some (.int x)) y2 (eh_V h39) (eh_V h10) (eh_V h43) (eh_V hm')) → OO b d n m Gc0 Gm0 w T dp v1 x2 (eh_V hm) hc' hm' := fun {h7 h10 u2 y2} c c' V7 X10 i10 s1 f => by
      rcases cls with ⟨a, -⟩ | ⟨a1, a2, h35, h39, x, h43, V35, X39, i39, a3, r1, r2⟩
      · omega
      · obtain ⟨S1, q1⟩ := J_adv (d := d + 2) S (by rw [kd]; decide) a1 V35 X39 i39 V7 X10 i10
        have L := f S1.2.2.1 i39 (NS_S N S1.2.2.2.1 S1.2.2.2.2.1) a3
        rw [← hv1 r1, ← hx2 s1] at L
        rcases J_done S1 L r2 with L | ⟨p1, p2, p3, p4⟩
        · exact Or.inl L
        · exact Or.inr (Or.inl ⟨p1, p2, p3, fun i => (p4 i).trans (q1 i)⟩)
    have many : (w = 20 ∨ (8 : Int) < dp) → rs2 = [.int 0] → eh_V hm' = eh_u (eh_u (eh_V hm) 0 15 (.int 4)) 0 16 (.int (eh_i (eh_V hm) 0 12)) → OO b d n m Gc0 Gm0 w T dp v1 x2 (eh_V hm) hc' hm' := fun c s1 s2 => by
      rcases cls with ⟨-, r1, r2, r4⟩ | ⟨a1, a2, -⟩
      · exact fl r1 r2 s1 s2 (by decide) r4
      · omega
    have k2 : ∀ {x : Nat}, x ≤ 10 → (nI k = nI x ↔ k = x) := fun {x} hx => ⟨fun h => kk (by omega) (by omega) h, fun h => by rw [h]⟩
    rcases z2 with ⟨c0, c1, s1, s2, -, -⟩ | ⟨h7, h10, c0, c1, c2, V7, X10, i10, c6, c7, c8, s1, s2, -, -⟩ | ⟨h7, h10, c0, c1, c2, V7, X10, i10, c6, c7, c8, c9, s1, s2, -, -⟩ | ⟨h7, h10, h12, h27, h30, h32, c0, c1, c2, V7, X10, i10, c6, c7, c8, c9, c10, V12, X27, i27, c14, X30, i30, X32, i32, s1, s2, -, -⟩ | ⟨h7, h10, h12, h27, c0, c1, c2, V7, X10, i10, c6, c7, c8, c9, c10, V12, X27, i27, c14, s1, s2, -, -⟩ | ⟨h7, h10, c0, c1, c2, V7, X10, i10, c6, c7, c8, c9, c10, s1, s2, -, -⟩ | ⟨h7, h10, h12, x43, h41, h45, h47, c0, c1, c2, V7, X10, i10, c6, c7, c8, V12, X41, i41, c12, X45, i45, X47, i47, s1, s2, -, -⟩ | ⟨h7, h10, h12, x43, h41, c0, c1, c2, V7, X10, i10, c6, c7, c8, V12, X41, i41, c12, s1, s2, -, -⟩ | ⟨h7, h10, h12, x43, h41, h45, h47, c0, c1, c2, V7, X10, i10, c6, c7, c8, V12, X41, i41, c12, X45, i45, X47, i47, s1, s2, -, -⟩ | ⟨h7, h10, h12, x43, h41, c0, c1, c2, V7, X10, i10, c6, c7, c8, V12, X41, i41, c12, s1, s2, -, -⟩ | ⟨h7, h10, h12, h57, c0, c1, c2, V7, X10, i10, c6, V12, X57, i57, s1, s2, -, -⟩ | ⟨c0, c1, c2, s1, s2, -, -⟩ | ⟨c0, -⟩
    · exact many (Or.inl c1) s1 s2
    · exact go c1 c2 V7 X10 i10 s1 (fun J1 i1 N2 a => by
        rcases a with ⟨a, -⟩ | ⟨-, X⟩
        · omega
        · exact J_lf3 (e := e) J1 i1 i10 X (Or.inl ⟨Or.inl c8, rfl, s2⟩))
    · exact go c1 c2 V7 X10 i10 s1 (fun J1 i1 N2 a => by
        rcases a with ⟨a, -⟩ | ⟨-, X⟩
        · omega
        · exact J_lf3 (e := e) J1 i1 i10 X (Or.inl ⟨Or.inr (Or.inl ⟨c8, c9⟩), rfl, s2⟩))
    · exact go c1 c2 V7 X10 i10 s1 (fun J1 i1 N2 a => by
        rcases a with ⟨a, -⟩ | ⟨-, X⟩
        · omega
        · exact J_lf3 (e := e + 1) J1 i1 i10 X (Or.inr ⟨c8, c9, c10, h12, h27, V12, X27, i27, Or.inr ⟨c14, _, _, _, h30, h32, X30, i30, X32, i32, rfl, s2⟩⟩))
    · exact go c1 c2 V7 X10 i10 s1 (fun J1 i1 N2 a => by
        rcases a with ⟨a, -⟩ | ⟨-, X⟩
        · omega
        · exact J_lf3 (e := e + 1) J1 i1 i10 X (Or.inr ⟨c8, c9, c10, h12, h27, V12, X27, i27, Or.inl ⟨c14, rfl, s2⟩⟩))
    · exact go c1 c2 V7 X10 i10 s1 (fun J1 i1 N2 a => by
        rcases a with ⟨a, -⟩ | ⟨-, X⟩
        · omega
        · exact J_lf3 (e := e) J1 i1 i10 X (Or.inl ⟨Or.inr (Or.inr ⟨c8, c10⟩), rfl, s2⟩))
    · exact go c1 c2 V7 X10 i10 s1 (fun J1 i1 N2 a => by
        have : k ≠ 2 := fun x => c8 (by rw [x]; rfl)
        rcases a with ⟨a, X⟩ | ⟨a, -⟩
        · exact J_lf2 (e := e + 1) (t0 := 2) (Or.inr ⟨by omega, rfl⟩) J1 i1 i10 N2 X V12 rfl rfl X41 i41 (Or.inr ⟨c12, _, h45, h47, X45, i45, X47, i47, rfl, s2⟩)
        · omega)
    · exact go c1 c2 V7 X10 i10 s1 (fun J1 i1 N2 a => by
        have : k ≠ 2 := fun x => c8 (by rw [x]; rfl)
        rcases a with ⟨a, X⟩ | ⟨a, -⟩
        · exact J_lf2 (e := e + 1) (t0 := 2) (le := 0) (Or.inr ⟨by omega, rfl⟩) J1 i1 i10 N2 X V12 rfl rfl X41 i41 (Or.inl ⟨c12, rfl, s2⟩)
        · omega)
    · exact go c1 c2 V7 X10 i10 s1 (fun J1 i1 N2 a => by
        have : k = 2 := (k2 (by decide)).mp c8
        rcases a with ⟨a, X⟩ | ⟨a, -⟩
        · exact J_lf2 (e := e + 1) (t0 := 0) (Or.inl ⟨this, rfl⟩) J1 i1 i10 N2 X V12 rfl rfl X41 i41 (Or.inr ⟨c12, _, h45, h47, X45, i45, X47, i47, rfl, s2⟩)
        · omega)
    · exact go c1 c2 V7 X10 i10 s1 (fun J1 i1 N2 a => by
        have : k = 2 := (k2 (by decide)).mp c8
        rcases a with ⟨a, X⟩ | ⟨a, -⟩
        · exact J_lf2 (e := e + 1) (t0 := 0) (le := 0) (Or.inl ⟨this, rfl⟩) J1 i1 i10 N2 X V12 rfl rfl X41 i41 (Or.inl ⟨c12, rfl, s2⟩)
        · omega)
    · exact go c1 c2 V7 X10 i10 s1 (fun J1 i1 N2 a => by
        rcases a with ⟨a, X⟩ | ⟨a, -⟩
        · exact J_lf1 (e := e + 2) (by omega) J1 i1 i10 X V12 X57 i57 rfl s2
        · omega)
    · exact many (Or.inr c2) s1 s2
    · omega
  · have z2 := zp_l (d := e + 1) E20 V20 it l0 l1 l2 l3
    have m1 : (-1 : Int32).toInt = -1 := by decide
    rw [m1] at z2
    have mm : rs2 = [.int 0] ∧ eh_V hm' = eh_u (eh_u (eh_V hm) 0 15 (.int 1)) 0 16 (.int (eh_i (eh_V hm) 0 12)) := by
      rcases z2 with ⟨c, -⟩ | ⟨_, _, c, -⟩ | ⟨_, _, c, -⟩ | ⟨_, _, _, _, _, _, c, -⟩ | ⟨_, _, _, _, c, -⟩ | ⟨_, _, c, -⟩ | ⟨_, _, _, _, _, _, _, c, -⟩ | ⟨_, _, _, _, _, c, -⟩ | ⟨_, _, _, _, _, _, _, c, -⟩ | ⟨_, _, _, _, _, c, -⟩ | ⟨_, _, _, _, c, -⟩ | ⟨c, -⟩ | ⟨-, s1, s2, -, -⟩
      all_goals first | exact ⟨s1, s2⟩ | omega
    rcases z1 with ⟨-, -, r1, r2, -, r4⟩ | ⟨-, -, -, r1, r2, -, r4⟩ | ⟨-, -, -, -, r1, r2, -, r4⟩ | ⟨-, a, b1, b2, -⟩ | ⟨_, _, _, _, -, a, b1, b2, -⟩ | ⟨_, _, _, _, -, a, b1, b2, -⟩ | ⟨_, _, -, a, b1, b2, -⟩ | ⟨-, a, b1, b2, -⟩ | ⟨-, -, r1, r2, -, r4⟩ | ⟨a, b1, -⟩ | ⟨_, _, a, b1, -⟩ | ⟨a, b1, -⟩
    · exact fl r1 r2 mm.1 mm.2 (by decide) r4
    · exact fl r1 r2 mm.1 mm.2 (by decide) r4
    · exact fl r1 r2 mm.1 mm.2 (by decide) r4
    · exact absurd ⟨a, by omega, by omega⟩ nk
    · exact absurd ⟨a, by omega, by omega⟩ nk
    · exact absurd ⟨a, by omega, by omega⟩ nk
    · exact absurd ⟨a, by omega, by omega⟩ nk
    · exact absurd ⟨a, by omega, by omega⟩ nk
    · exact fl r1 r2 mm.1 mm.2 (by decide) r4
    · exact absurd ⟨a, b1⟩ nb
    · exact absurd ⟨a, b1⟩ nb
    · exact absurd ⟨a, b1⟩ nb
end OPER
