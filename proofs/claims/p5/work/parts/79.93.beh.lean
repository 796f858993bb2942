/-! behind a ONE (reference): nots, joins, and what then stands there -/
def jn (b : Nat → Int32) (n m T' dp : Nat) (ti : Int32) (G G2 : eh_W) : Prop := iT b n m G2 ∧ eh_fr pNo G G2 ∧ eh_i G2 0 42 = nI dp ∧ ∀ T, T ≤ T' → (∀ i, T ≤ i → i < T' → pop ti (eh_i G 13 i)) → (0 < T → ¬ pop ti (eh_i G 13 (T - 1))) → eh_i G2 0 41 = nI T
/-- what is then done -/
def BHo (b : Nat → Int32) (e n m T' dp : Nat) (x2 : Int32) (hm hm' : ri_H) : Prop :=
  ∃ (ti : Int32) (h2 : ri_H), jn b n m T' dp ti (eh_V hm) (eh_V h2) ∧ (∀ i, i < 39 → eh_V h2 0 i = eh_V hm 0 i) ∧
      ((eh_i (eh_V hm) 0 11 = 1 ∧ ((ti = 21 ∧ eh_l (eh_V hm) 0 17 = lx_Wd 14) ∨ (ti = 22 ∧ eh_l (eh_V hm) 0 17 = lx_Wd 13)) ∧ x2 = 1 ∧ ∃ h3 h4 : ri_H, eh_V h3 = eh_u (eh_u (eh_u (eh_V h2) 13 (eh_i (eh_V h2) 0 41).toNatClampNeg (.int ti)) 0 41 (.int (eh_i (eh_V h2) 0 41 + 1))) 0 43 (.int 0) ∧ ri_calE ri_md (e + 3) 158 [.ref 0] h3 = some (none, h4) ∧ iT b n m (eh_V h4) ∧ eh_V hm' = eh_V h4) ∨
       (¬ (eh_i (eh_V hm) 0 11 = 1 ∧ eh_l (eh_V hm) 0 17 = lx_Wd 14) ∧ ¬ (eh_i (eh_V hm) 0 11 = 1 ∧ eh_l (eh_V hm) 0 17 = lx_Wd 13) ∧ ti = 22 ∧ ((eh_i (eh_V hm) 0 11 = 3 ∧ eh_i (eh_V hm) 0 14 = 41 ∧ ¬ eh_i (eh_V h2) 0 41 = 0 ∧ x2 = 1 ∧ ∃ h3 h4 : ri_H, eh_V h3 = eh_u (eh_u (eh_V h2) 0 41 (.int (eh_i (eh_V h2) 0 41 - 1))) 0 42 (.int (eh_i (eh_V h2) 0 42 - 1)) ∧ ri_calE ri_md (e + 3) 158 [.ref 0] h3 = some (none, h4) ∧ iT b n m (eh_V h4) ∧ eh_V hm' = eh_V h4) ∨ (¬ (eh_i (eh_V hm) 0 11 = 3 ∧ eh_i (eh_V hm) 0 14 = 41 ∧ ¬ eh_i (eh_V h2) 0 41 = 0) ∧ x2 = 0 ∧ eh_V hm' = eh_u (eh_u (eh_V h2) 0 15 (.int 1)) 0 16 (.int (eh_i (eh_V h2) 0 12))))))
section BEH
variable {e n m : Nat} {b : Nat → Int32} {hm hm' : ri_H} {x2 : Int32} {T' j dp : Nat}
theorem jn_of {ti : Int32} {h1 h2 hx : ri_H} {v1 v2 : Option Value} (it : iT b n m (eh_V hm)) (X1 : ri_calE ri_md (e + 2) 244 [.ref 0] hm = some (v1, h1)) (Vx : eh_V hx = eh_V h1) (X2 : ri_calE ri_md (e + 2) 243 [.ref 0, .int ti] hx = some (v2, h2)) (t9 : T' + j ≤ 1000) (d9 : dp + j ≤ 1000) (tp : eh_i (eh_V hm) 0 41 = nI (T' + j)) (dpp : eh_i (eh_V hm) 0 42 = nI (dp + j)) (hs : ∀ i, T' ≤ i → i < T' + j → eh_i (eh_V hm) 13 i = 20) (ht : 0 < T' → eh_i (eh_V hm) 13 (T' - 1) ≠ 20) : jn b n m T' dp ti (eh_V hm) (eh_V h2) ∧ (∀ i, i < 39 → eh_V h1 0 i = eh_V hm 0 i) ∧ ∀ i, i < 39 → eh_V h2 0 i = eh_V hm 0 i := by
  obtain ⟨-, -, i1, f1, q1⟩ := nots_s X1 it
  obtain ⟨a1, a2⟩ := q1 T' j dp t9 d9 tp dpp hs ht
  obtain ⟨-, -, i2, f2, a3, q2⟩ := joins_s X2 (by rw [Vx]; exact i1)
  rw [Vx] at f2 a3 q2
  have p0 : ∀ i, i < 39 → pNo 0 i = false := fun i hi => by
    unfold pNo
    rw [eh_bf (show i ≠ 39 by omega), eh_bf (show i ≠ 41 by omega), eh_bf (show i ≠ 42 by omega)]
    rfl
  refine ⟨⟨i2, f1.tr f2, a3.trans a2, fun T hT hp hb => ?_⟩, fun i hi => f1 0 i (p0 i hi), fun i hi => (f2 0 i (p0 i hi)).trans (f1 0 i (p0 i hi))⟩
  have s1 : ∀ i, eh_i (eh_V h1) 13 i = eh_i (eh_V hm) 13 i := fun i => f1.i rfl
  refine q2 T (T' - T) (by omega) (by rw [a1, show T + (T' - T) = T' by omega]) (fun i h3 h4 => ?_) (fun h0 => ?_)
  · rw [s1]
    exact hp i h3 (by omega)
  · rw [s1]
    exact hb h0
theorem J_beh (E : ri_calE ri_md (e + 4) 247 [.ref 0] hm = some (some (.int x2), hm')) (it : iT b n m (eh_V hm)) (t9 : T' + j ≤ 1000) (d9 : dp + j ≤ 1000) (tp : eh_i (eh_V hm) 0 41 = nI (T' + j)) (dpp : eh_i (eh_V hm) 0 42 = nI (dp + j)) (hs : ∀ i, T' ≤ i → i < T' + j → eh_i (eh_V hm) 13 i = 20) (ht : 0 < T' → eh_i (eh_V hm) 13 (T' - 1) ≠ 20) :
    BHo b e n m T' dp x2 hm hm' := by
  obtain ⟨rs, hrs, E⟩ := eh_in E (q := md_247) rfl
  have hx2 : ∀ {y : Int32}, rs = [.int y] → x2 = y := fun {y} h => by
    rw [h] at hrs
    cases hrs
    rfl
  have oth : ∀ {h1 hx h2 : ri_H}, ri_calE ri_md (e + 3) 244 [.ref 0] hm = some (none, h1) → (¬ eh_i (eh_V h1) 0 11 = 1 ∨ (¬ eh_l (eh_V h1) 0 17 = 6385252 ∧ ¬ eh_l (eh_V h1) 0 17 = 28530)) → eh_V hx = eh_V h1 → ri_calE ri_md (e + 3) 243 [.ref 0, .int 22] hx = some (none, h2) → ((eh_i (eh_V h2) 0 11 = 3 ∧ eh_i (eh_V h2) 0 14 = 41 ∧ ¬ eh_i (eh_V h2) 0 41 = 0 ∧ rs = [.int 1] ∧ ∃ h3 h4 : ri_H, eh_V h3 = eh_u (eh_u (eh_V h2) 0 41 (.int (eh_i (eh_V h2) 0 41 - 1))) 0 42 (.int (eh_i (eh_V h2) 0 42 - 1)) ∧ ri_calE ri_md (e + 3) 158 [.ref 0] h3 = some (none, h4) ∧ iT b n m (eh_V h4) ∧ eh_V hm' = eh_V h4) ∨ (¬ (eh_i (eh_V h2) 0 11 = 3 ∧ eh_i (eh_V h2) 0 14 = 41 ∧ ¬ eh_i (eh_V h2) 0 41 = 0) ∧ rs = [.int 0] ∧ eh_V hm' = eh_u (eh_u (eh_V h2) 0 15 (.int 1)) 0 16 (.int (eh_i (eh_V h2) 0 12)))) → BHo b e n m T' dp x2 hm hm' := fun {h1 hx h2} X1 c Vx X2 f => by
    obtain ⟨q, g1, g2⟩ := jn_of (e := e + 1) it X1 Vx X2 t9 d9 tp dpp hs ht
    rw [show eh_i (eh_V h1) 0 11 = eh_i (eh_V hm) 0 11 from ei_eq (g1 11 (by decide)), show eh_l (eh_V h1) 0 17 = eh_l (eh_V hm) 0 17 from el_eq (g1 17 (by decide))] at c
    rw [show eh_i (eh_V h2) 0 11 = eh_i (eh_V hm) 0 11 from ei_eq (g2 11 (by decide)), show eh_i (eh_V h2) 0 14 = eh_i (eh_V hm) 0 14 from ei_eq (g2 14 (by decide))] at f
    refine ⟨22, h2, q, g2, Or.inr ⟨fun x => ?_, fun x => ?_, rfl, ?_⟩⟩
    · exact c.elim (fun y => y x.1) (fun y => y.1 x.2)
    · exact c.elim (fun y => y x.1) (fun y => y.2 x.2)
    · rcases f with ⟨f1, f2, f3, f4, f5⟩ | ⟨f1, f2, f3⟩
      · exact Or.inl ⟨f1, f2, f3, hx2 f4, f5⟩
      · exact Or.inr ⟨f1, hx2 f2, f3⟩
  have bin : ∀ {h1 hx h2 h3 h4 : ri_H} {ti : Int32}, ri_calE ri_md (e + 3) 244 [.ref 0] hm = some (none, h1) → eh_i (eh_V h1) 0 11 = 1 → ((ti = 21 ∧ eh_l (eh_V h1) 0 17 = 6385252) ∨ (ti = 22 ∧ eh_l (eh_V h1) 0 17 = 28530)) → eh_V hx = eh_V h1 → ri_calE ri_md (e + 3) 243 [.ref 0, .int ti] hx = some (none, h2) → rs = [.int 1] → eh_V h3 = eh_u (eh_u (eh_u (eh_V h2) 13 (eh_i (eh_V h2) 0 41).toNatClampNeg (.int ti)) 0 41 (.int (eh_i (eh_V h2) 0 41 + 1))) 0 43 (.int 0) → ri_calE ri_md (e + 3) 158 [.ref 0] h3 = some (none, h4) → iT b n m (eh_V h4) → eh_V hm' = eh_V h4 → BHo b e n m T' dp x2 hm hm' := fun {h1 hx h2 h3 h4 ti} X1 c c' Vx X2 r1 V3 X4 i4 r2 => by
    obtain ⟨q, g1, g2⟩ := jn_of (e := e + 1) it X1 Vx X2 t9 d9 tp dpp hs ht
    rw [show eh_i (eh_V h1) 0 11 = eh_i (eh_V hm) 0 11 from ei_eq (g1 11 (by decide))] at c
    rw [show eh_l (eh_V h1) 0 17 = eh_l (eh_V hm) 0 17 from el_eq (g1 17 (by decide))] at c'
    exact ⟨ti, h2, q, g2, Or.inl ⟨c, c', hx2 r1, h3, h4, V3, X4, i4, r2⟩⟩
  have same : ∀ {h1 hx h2 : ri_H} {ti : Int32}, ri_calE ri_md (e + 3) 244 [.ref 0] hm = some (none, h1) → eh_V hx = eh_V h1 → ri_calE ri_md (e + 3) 243 [.ref 0, .int ti] hx = some (none, h2) → eh_i (eh_V h2) 0 11 = eh_i (eh_V h1) 0 11 ∧ eh_l (eh_V h2) 0 17 = eh_l (eh_V h1) 0 17 := fun {h1 hx h2 ti} X1 Vx X2 => by
    obtain ⟨-, g1, g2⟩ := jn_of (e := e + 1) it X1 Vx X2 t9 d9 tp dpp hs ht
    exact ⟨ei_eq ((g2 11 (by decide)).trans (g1 11 (by decide)).symm), el_eq ((g2 17 (by decide)).trans (g1 17 (by decide)).symm)⟩
  rcases zb_a (d := e + 1) E rfl it rfl with ⟨h1, hx, h2, X1, -, c, Vx, X2, -, a1, r1, r2, -, -⟩ | ⟨h1, hx, h2, X1, -, c, Vx, X2, -, a1, a2, r1, r2, -, -⟩ | ⟨h1, hx, h2, h3, h4, X1, -, c, Vx, X2, -, a1, a2, a3, V3, X4, i4, r1, r2, -, -⟩ | ⟨h1, hx, h2, X1, -, c, Vx, X2, -, a1, a2, a3, r1, r2, -, -⟩ | ⟨h1, hx, h2, X1, -, -, c, c', Vx, X2, -, a1, r1, r2, -, -⟩ | ⟨h1, hx, h2, X1, -, -, c, c', Vx, X2, -, a1, a2, r1, r2, -, -⟩ | ⟨h1, hx, h2, h3, h4, X1, -, -, c, c', Vx, X2, -, a1, a2, a3, V3, X4, i4, r1, r2, -, -⟩ | ⟨h1, hx, h2, X1, -, -, c, c', Vx, X2, -, a1, a2, a3, r1, r2, -, -⟩ | ⟨h1, hx, h2, _, _, X1, -, k, c, c', Vx, X2, -, a1, -⟩ | ⟨h1, hx, h2, h3, h4, X1, -, k, c, c', Vx, X2, -, a1, a2, V3, X4, i4, r1, r2, -, -⟩ | ⟨h1, hx, h2, _, _, X1, -, k, c, c', Vx, X2, -, a1, a2, -⟩ | ⟨h1, hx, h2, _, _, X1, -, k, c, Vx, X2, -, a1, -⟩ | ⟨h1, hx, h2, _, _, X1, -, k, c, Vx, X2, -, a1, a2, -⟩ | ⟨h1, hx, h2, h3, h4, X1, -, k, c, Vx, X2, -, a1, a2, V3, X4, i4, r1, r2, -, -⟩
  · exact oth X1 (Or.inl c) Vx X2 (Or.inr ⟨fun x => a1 x.1, r1, r2⟩)
  · exact oth X1 (Or.inl c) Vx X2 (Or.inr ⟨fun x => a2 x.2.1, r1, r2⟩)
  · exact oth X1 (Or.inl c) Vx X2 (Or.inl ⟨a1, a2, a3, r1, h3, h4, V3, X4, i4, r2⟩)
  · exact oth X1 (Or.inl c) Vx X2 (Or.inr ⟨fun x => x.2.2 a3, r1, r2⟩)
  · exact oth X1 (Or.inr ⟨c, c'⟩) Vx X2 (Or.inr ⟨fun x => a1 x.1, r1, r2⟩)
  · exact oth X1 (Or.inr ⟨c, c'⟩) Vx X2 (Or.inr ⟨fun x => a2 x.2.1, r1, r2⟩)
  · exact oth X1 (Or.inr ⟨c, c'⟩) Vx X2 (Or.inl ⟨a1, a2, a3, r1, h3, h4, V3, X4, i4, r2⟩)
  · exact oth X1 (Or.inr ⟨c, c'⟩) Vx X2 (Or.inr ⟨fun x => x.2.2 a3, r1, r2⟩)
  · exact absurd ((same X1 Vx X2).1.trans k) a1
  · exact bin X1 k (Or.inr ⟨rfl, c'⟩) Vx X2 r1 V3 X4 i4 r2
  · exact absurd ((same X1 Vx X2).2.symm.trans a2) c
  · exact absurd ((same X1 Vx X2).1.trans k) a1
  · exact absurd ((same X1 Vx X2).2.trans c) a2
  · exact bin X1 k (Or.inl ⟨rfl, c⟩) Vx X2 r1 V3 X4 i4 r2
end BEH
