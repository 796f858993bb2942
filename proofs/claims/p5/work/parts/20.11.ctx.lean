/-! contexts: a contract with its cuts, which contracts its calls take, its depth -/
abbrev sx_X : Type := sx_C × List sx_K × List (Nat × List Nat) × Nat × List (Nat × List sx_Y)
def sx_ms (l : List Int) : Nat := match l with
  | [a, b, c, d] => (((8589934592 - a).toNat * 17179869185 + (8589934592 - b).toNat) * 17179869185 + (8589934592 - c).toNat) * 17179869185 + (8589934592 - d).toNat
  | _ => 0
def sx_bnd (l : List Int) : Prop := ∃ a b c d : Int, l = [a, b, c, d] ∧ (-8589934592 ≤ a ∧ a ≤ 8589934592) ∧ (-8589934592 ≤ b ∧ b ≤ 8589934592) ∧ (-8589934592 ≤ c ∧ c ≤ 8589934592) ∧ (-8589934592 ≤ d ∧ d ≤ 8589934592)
theorem sx_ms_lt {l m : List Int} (h1 : sx_bnd l) (h2 : sx_bnd m) (h3 : sx_ll l m) : sx_ms m < sx_ms l := by
  obtain ⟨a, b, c, d, rfl, ⟨a1, a2⟩, ⟨b1, b2⟩, ⟨c1, c2⟩, ⟨d1, d2⟩⟩ := h1
  obtain ⟨a', b', c', d', rfl, ⟨a3, a4⟩, ⟨b3, b4⟩, ⟨c3, c4⟩, ⟨d3, d4⟩⟩ := h2
  have h3 : a < a' ∨ (a = a' ∧ (b < b' ∨ (b = b' ∧ (c < c' ∨ (c = c' ∧ (d < d' ∨ (d = d' ∧ False))))))) := h3
  show (((8589934592 - a').toNat * 17179869185 + (8589934592 - b').toNat) * 17179869185 + (8589934592 - c').toNat) * 17179869185 + (8589934592 - d').toNat < (((8589934592 - a).toNat * 17179869185 + (8589934592 - b).toNat) * 17179869185 + (8589934592 - c).toNat) * 17179869185 + (8589934592 - d).toNat
  rcases h3 with h | ⟨rfl, h | ⟨rfl, h | ⟨rfl, h | ⟨-, h⟩⟩⟩⟩
  · omega
  · omega
  · omega
  · omega
  · exact h.elim
def sx_rkb (iv : sx_I) (r : List sx_v) : Bool := Nat.beq r.length 4 && r.all (fun t => match sx_r iv t with
  | some w => sx_ble (-8589934592) w.1 && sx_ble w.2 8589934592
  | none => false)
theorem sx_rkb_ok {iv : sx_I} {p : List Int} {r : List sx_v} (HP : sx_P iv p) (h : sx_rkb iv r = true) : sx_def p r ∧ sx_bnd (sx_ns p r) := by
  unfold sx_rkb at h
  simp only [Bool.and_eq_true] at h
  have h1 : r.length = 4 := Nat.eq_of_beq_eq_true h.1
  have h2 : ∀ t ∈ r, ∃ y, sx_n p t = some y ∧ -8589934592 ≤ y ∧ y ≤ 8589934592 := fun t ht => by
    have := List.all_eq_true.mp h.2 t ht
    split at this
    · next w hw =>
      simp only [Bool.and_eq_true, sx_ble_iff] at this
      obtain ⟨y, y1, y2, y3⟩ := sx_r_ok HP hw
      exact ⟨y, y1, by omega, by omega⟩
    · cases this
  refine ⟨fun t ht => by obtain ⟨y, y1, -⟩ := h2 t ht; exact ⟨y, y1⟩, ?_⟩
  match r, h1 with
  | [t1, t2, t3, t4], _ =>
    obtain ⟨y1, a1, b1⟩ := h2 t1 (by simp)
    obtain ⟨y2, a2, b2⟩ := h2 t2 (by simp)
    obtain ⟨y3, a3, b3⟩ := h2 t3 (by simp)
    obtain ⟨y4, a4, b4⟩ := h2 t4 (by simp)
    refine ⟨y1, y2, y3, y4, ?_, b1, b2, b3, b4⟩
    show [(sx_n p t1).getD 0, (sx_n p t2).getD 0, (sx_n p t3).getD 0, (sx_n p t4).getD 0] = _
    rw [a1, a2, a3, a4]
    rfl
def sx_hl : List (Nat × List Nat) → Nat → List Nat
  | [], _ => []
  | q :: t, pc => bif Nat.beq q.1 pc then q.2 else sx_hl t pc
theorem sx_hl_in : ∀ {l : List (Nat × List Nat)} {pc k : Nat}, k ∈ sx_hl l pc → ∃ q ∈ l, k ∈ q.2
  | [], _, _, h => by simp [sx_hl] at h
  | q :: t, pc, k, h => by
    unfold sx_hl at h
    cases hb : Nat.beq q.1 pc with
    | true => rw [hb] at h; exact ⟨q, List.mem_cons_self, h⟩
    | false =>
      rw [hb] at h
      obtain ⟨w, w1, w2⟩ := sx_hl_in h
      exact ⟨w, List.mem_cons_of_mem _ w1, w2⟩
/-- the contracts that a list of numbers names -/
def sx_cts1 (CT : List sx_X) : List Nat → List sx_C
  | [] => []
  | k :: ks => match CT[k]? with
    | some Y => Y.1 :: sx_cts1 CT ks
    | none => sx_cts1 CT ks
theorem sx_cts1_in {CT : List sx_X} : ∀ {l : List Nat} {C : sx_C}, C ∈ sx_cts1 CT l → ∃ k Y, k ∈ l ∧ CT[k]? = some Y ∧ Y.1 = C
  | [], _, h => by simp [sx_cts1] at h
  | k :: ks, C, h => by
    unfold sx_cts1 at h
    split at h
    · next Y hY =>
      rcases List.mem_cons.mp h with e | h
      · exact ⟨k, Y, List.mem_cons_self, hY, e.symm⟩
      · obtain ⟨k', Y', h1, h2, h3⟩ := sx_cts1_in h
        exact ⟨k', Y', List.mem_cons_of_mem _ h1, h2, h3⟩
    · obtain ⟨k', Y', h1, h2, h3⟩ := sx_cts1_in h
      exact ⟨k', Y', List.mem_cons_of_mem _ h1, h2, h3⟩
def sx_yh : List (Nat × List sx_Y) → Nat → List sx_Y
  | [], _ => []
  | q :: t, pc => bif Nat.beq q.1 pc then q.2 else sx_yh t pc
theorem sx_yh_no : ∀ {l : List (Nat × List sx_Y)} {pc : Nat}, l.all (fun y => !Nat.beq y.1 pc) = true → sx_yh l pc = []
  | [], _, _ => rfl
  | q :: t, pc, h => by
    unfold sx_yh
    rw [List.all_cons] at h
    simp only [Bool.and_eq_true] at h
    rw [show Nat.beq q.1 pc = false by
      cases e : Nat.beq q.1 pc with
      | false => rfl
      | true => exact absurd (Nat.eq_of_beq_eq_true e) (sx_nbeq h.1)]
    exact sx_yh_no h.2
def sx_r00 : List sx_v := [(0, 0, -8589934592), (0, 0, -8589934592), (0, 0, -8589934592), (0, 0, -8589934592)]
/-- a walk of a context -/
def sx_wx (G : sx_G) (dp : sx_D) (md : List (ri_M × ri_T)) (CT : List sx_X) (X : sx_X) (q : ri_M × ri_T) (r0 : List sx_v) (fuel pc : Nat) (A : sx_A) : Bool :=
  sx_wk G dp X.1.2.1.2.2.2.1.length (sx_yh X.2.2.2.2) (ri_look2 q.2) q.1.2.2.2.1 X.1.2.2.1 X.2.1 (X.2.1.map (fun c => c.1)) r0 (fun en pc A => sx_step G dp X.1.2.1.2.2.2.1.length X.1.2.2.2 (sx_cts1 CT (sx_hl X.2.2.1 pc)) (ri_bud md) q.1 en pc A) fuel true pc A
def sx_ck (G : sx_G) (dp : sx_D) (md : List (ri_M × ri_T)) (CT : List sx_X) (fuel : Nat) (X : sx_X) : Bool := match md[X.1.1.1]? with
  | some q => Nat.ble X.1.1.2 q.1.2.2.1 && (Nat.blt 0 X.2.2.2.1 && (X.2.2.2.2.all (fun y => !Nat.beq y.1 70000) && (X.2.2.1.all (fun hh => hh.2.all (fun k => match CT[k]? with
      | some Y => Nat.blt Y.2.2.2.1 X.2.2.2.1
      | none => false)) && (q.2.all (fun b => b.2.all (fun x => Nat.blt x.1 70000)) && (X.2.1.all (fun c => !Nat.beq c.1 70000 && sx_rkb c.2.1.2.2.2.1 c.2.2) && (sx_wx G dp md CT X q sx_r00 fuel 0 X.1.2.1 && X.2.1.all (fun c => sx_wx G dp md CT X q c.2.2 fuel c.1 c.2.1)))))))
  | none => false
theorem sx_look_ok : ∀ (t : List (Nat × ri_En)) (pc : Nat) (en : ri_En), ri_look t pc = some en → (pc, en) ∈ t
  | [], _, _, hs => by cases hs
  | q :: t, pc, en, hs => by
    unfold ri_look at hs
    cases hb : Nat.beq q.1 pc with
    | true =>
      rw [hb] at hs
      have h1 : q.1 = pc := Nat.eq_of_beq_eq_true hb
      have h2 : q.2 = en := Option.some.inj hs
      rw [← h1, ← h2]
      exact List.mem_cons_self
    | false =>
      rw [hb] at hs
      exact List.mem_cons_of_mem _ (sx_look_ok t pc en hs)
theorem sx_look2_ok : ∀ (t : ri_T) (pc : Nat) (en : ri_En), ri_look2 t pc = some en → ∃ b ∈ t, (pc, en) ∈ b.2
  | [], _, _, hs => by cases hs
  | q :: t, pc, en, hs => by
    unfold ri_look2 at hs
    cases hb : Nat.blt pc q.1 with
    | true =>
      rw [hb] at hs
      exact ⟨q, List.mem_cons_self, sx_look_ok _ _ _ hs⟩
    | false =>
      rw [hb] at hs
      obtain ⟨b, h1, h2⟩ := sx_look2_ok t pc en hs
      exact ⟨b, List.mem_cons_of_mem _ h1, h2⟩
section SXK
variable {G : sx_G} {J : Nat → ri_H → Prop} {dp : sx_D} {md : List (ri_M × ri_T)} {CT : List sx_X} {X : sx_X} {fuel : Nat}
def sx_Vd (G : sx_G) (J : Nat → ri_H → Prop) (md : List (ri_M × ri_T)) (X : sx_X) : Prop := ∀ d, X.2.2.2.1 ≤ d → sx_CV G J X.1 (ri_calE md d)
theorem sx_ck_ok (HJ : sx_HJ G J dp) (hC : ∀ (k : Nat) (Y : sx_X), CT[k]? = some Y → Y.2.2.2.1 < X.2.2.2.1 → sx_Vd G J md Y) (hs : sx_ck G dp md CT fuel X = true) : sx_Vd G J md X := by
  intro d hd p0 as h hw HS
  unfold sx_ck at hs
  split at hs
  · next q hq =>
    simp only [Bool.and_eq_true] at hs
    obtain ⟨c1, c2, c0, c3, c4, c5, c6, c7⟩ := hs
    have c2 := Nat.blt_eq.mp c2
    match d, hd with
    | 0, hd => omega
    | d + 1, hd =>
      have hn : p0.length = X.1.2.1.2.2.2.1.length := HS.2.2.2.1.len.symm
      have hC' : ∀ pc, ∀ C ∈ sx_cts1 CT (sx_hl X.2.2.1 pc), sx_CV G J C (ri_calE md d) := fun pc C hCm => by
        obtain ⟨k, Y, k1, k2, rfl⟩ := sx_cts1_in hCm
        obtain ⟨w, w1, w2⟩ := sx_hl_in k1
        have := List.all_eq_true.mp (List.all_eq_true.mp c3 w w1) k w2
        rw [k2] at this
        have hlt := Nat.blt_eq.mp this
        exact hC k Y k2 hlt d (by omega)
      have hpc : ∀ pc en, ri_look2 q.2 pc = some en → pc ≠ 70000 := fun pc en hl => by
        obtain ⟨b, b1, b2⟩ := sx_look2_ok _ _ _ hl
        have := Nat.blt_eq.mp (List.all_eq_true.mp (List.all_eq_true.mp c4 b b1) (pc, en) b2)
        dsimp only at this
        omega
      have hkp : (X.2.1.map (fun c => c.1)).any (Nat.beq 70000) = false := by
        cases hb : (X.2.1.map (fun c => c.1)).any (Nat.beq 70000) with
        | false => rfl
        | true =>
          obtain ⟨x, x1, x2⟩ := List.any_eq_true.mp hb
          obtain ⟨c, g1, rfl⟩ := List.mem_map.mp x1
          have := List.all_eq_true.mp c5 c g1
          simp only [Bool.and_eq_true] at this
          exact absurd (Nat.eq_of_beq_eq_true x2).symm (sx_nbeq this.1)
      have hrk : ∀ c ∈ X.2.1, ∀ p h lo st, sx_S G J p c.2.1 lo st h → sx_def p c.2.2 ∧ sx_bnd (sx_ns p c.2.2) := fun c hc p h lo st hS => by
        have := List.all_eq_true.mp c5 c hc
        simp only [Bool.and_eq_true] at this
        exact sx_rkb_ok hS.2.2.2.1 this.2
      have hcl : ∀ (m : Nat) (c : sx_K) (e : List Int) (lo : List (Nat × Value)) (st : List Value) (h1 : ri_H), c ∈ X.2.1 → sx_S G J (p0 ++ e) c.2.1 lo st h1 → sx_Fr p0 X.1.2.2.2 h h1 → sx_ms (sx_ns (p0 ++ e) c.2.2) < m → sx_Gd (ri_st [] (ri_calE md d) (ri_bud md) q) G J p0 X.1.2.2.2 h X.1.2.2.1 (c.1, lo, st, h1, 0, 0) := by
        intro m
        induction m with
        | zero => intro c e lo st h1 _ _ _ hm; omega
        | succ m ih =>
          intro c e lo st h1 hc hS hF hm
          have hwx := List.all_eq_true.mp c7 c hc
          unfold sx_wx at hwx
          rw [← hn] at hwx
          have r1 := hrk c hc _ _ _ _ hS
          refine sx_wk_ok (cs := fun pc => sx_cts1 CT (sx_hl X.2.2.1 pc)) HJ hC' hpc hkp (sx_yh_no c0) (p1 := p0 ++ e) r1.1 (fun c' e' lo' st' h' hc' hS' hF' hl' => ?_) (fun c' hc' p h lo st hS' => (hrk c' hc' p h lo st hS').1) fuel true c.1 c.2.1 [] lo st h1 ⟨e, by rw [List.append_nil]⟩ hwx (by rw [List.append_nil]; exact hS) hF
          have r2 := hrk c' hc' _ _ _ _ hS'
          exact ih c' e' lo' st' h' hc' hS' hF' (by have := sx_ms_lt r1.2 r2.2 hl'; omega)
      have hG : sx_Gd (ri_st [] (ri_calE md d) (ri_bud md) q) G J p0 X.1.2.2.2 h X.1.2.2.1 (0, ri_as 0 as, [], h, 0, 0) := by
        unfold sx_wx at c6
        rw [← hn] at c6
        exact sx_wk_ok (cs := fun pc => sx_cts1 CT (sx_hl X.2.2.1 pc)) HJ hC' hpc hkp (sx_yh_no c0) (p1 := p0) (r0 := sx_r00) (fun t ht => by
          unfold sx_r00 at ht
          simp only [List.mem_cons, List.mem_nil_iff, or_false] at ht
          rcases ht with rfl | rfl | rfl | rfl <;> exact ⟨_, rfl⟩) (fun c' e' lo' st' h' hc' hS' hF' _ => hcl _ c' e' lo' st' h' hc' hS' hF' (Nat.lt_succ_self _)) (fun c' hc' p h lo st hS' => (hrk c' hc' p h lo st hS').1) fuel true 0 X.1.2.1 [] _ [] h ⟨[], rfl⟩ c6 (by rw [List.append_nil]; exact HS) (sx_Fr.rf _ _ _)
      obtain ⟨n, f', g1, g2, g3, g4, g5, x, x1, e, x2, x3⟩ := hG
      have := ri_calE_of hq (Nat.le_trans hw (Nat.ble_eq.mp c1)) ⟨⟨n, g1⟩, g2, by omega, by omega⟩
      refine ⟨_, _, this, x, x1, e, ?_, x3⟩
      have hl : f'.2.2.1.head?.toList = f'.2.2.1 := by
        match hf : f'.2.2.1, g5 with
        | [], _ => rfl
        | [v], _ => rfl
        | _ :: _ :: _, g5 => simp at g5
      rw [hl]
      exact x2
  · cases hs
end SXK
