/-! a field that no code reached may write stays: T its object's kind, I its place; S the methods reached; p0: a run from there on -/
def fk_R (T I : Nat) (h h' : ri_H) : Prop := ∀ (r : Nat) (c : ri_C), h[r]? = some c → c.1 = T → ∃ c' : ri_C, h'[r]? = some c' ∧ c'.1 = T ∧ c'.2[I]? = c.2[I]?
theorem fk_rf {T I : Nat} (h : ri_H) : fk_R T I h h := fun _ c hc e => ⟨c, hc, e, rfl⟩
theorem fk_tr {T I : Nat} {a b c : ri_H} (x : fk_R T I a b) (y : fk_R T I b c) : fk_R T I a c := fun r u hu e => by
  obtain ⟨v, v1, v2, v3⟩ := x r u hu e
  obtain ⟨w, w1, w2, w3⟩ := y r v v1 v2
  exact ⟨w, w1, w2, w3.trans v3⟩
theorem fk_set {T I : Nat} {h : ri_H} {r : Nat} {q : ri_C} {x : List Value} (hq : h[r]? = some q) (hx : q.1 = T → x[I]? = q.2[I]?) : fk_R T I h (h.set r (q.1, x)) := fun k c hc e => by
  by_cases e1 : r = k
  · subst e1
    have hl : r < h.length := (List.getElem?_eq_some_iff.mp hq).1
    rw [hq] at hc
    cases hc
    exact ⟨(q.1, x), List.getElem?_set_self hl, e, hx e⟩
  · exact ⟨c, by rw [List.getElem?_set_ne e1]; exact hc, e, rfl⟩
def fk_c (S : Nat → Bool) (aux : List Nat) : Bool := match aux with
  | 0 :: _ => true
  | 4 :: _ => true
  | 5 :: _ => true
  | 8 :: _ => true
  | 9 :: _ => true
  | _ :: j :: _ => S j
  | _ => true
def fk_x (T I : Nat) (S : Nat → Bool) (e : ri_En) : Bool := match e.1 with
  | .putfield _ => (match e.2.2.1 with
    | [t, i, _, _] => !(Nat.beq t T && Nat.beq i I)
    | _ => true)
  | .invokevirtual _ => fk_c S e.2.2.1
  | .invokespecial _ => fk_c S e.2.2.1
  | .invokestatic _ => fk_c S e.2.2.1
  | _ => true
def fk_j (p0 : Nat) (e : ri_En) : Bool := match e.1 with
  | .goto _ => e.2.2.1.all (Nat.ble p0)
  | .ifCond _ _ => e.2.2.1.all (Nat.ble p0)
  | .if_icmp _ _ => e.2.2.1.all (Nat.ble p0)
  | .tableswitch _ _ _ _ => e.2.2.1.all (Nat.ble p0)
  | _ => true
def fk_m (T I : Nat) (S : Nat → Bool) (p0 : Nat) (q : ri_M × ri_T) : Bool := q.2.all (fun p => p.2.all (fun en => Nat.blt en.1 p0 || (fk_x T I S en.2 && fk_j p0 en.2)))
theorem fk_look {T : List (Nat × ri_En)} {pc : Nat} {e : ri_En} : ri_look T pc = some e → (pc, e) ∈ T := by
  induction T with
  | nil => intro h; cases h
  | cons q t ih =>
    intro h
    unfold ri_look at h
    cases hb : Nat.beq q.1 pc with
    | true =>
      rw [hb] at h
      have h := Option.some.inj h
      rw [← h, ← Nat.eq_of_beq_eq_true hb]
      exact List.mem_cons_self
    | false =>
      rw [hb] at h
      exact List.mem_cons_of_mem _ (ih h)
theorem fk_look2 {T : ri_T} {pc : Nat} {e : ri_En} : ri_look2 T pc = some e → ∃ p ∈ T, (pc, e) ∈ p.2 := by
  induction T with
  | nil => intro h; cases h
  | cons q t ih =>
    intro h
    unfold ri_look2 at h
    cases hb : Nat.blt pc q.1 with
    | true =>
      rw [hb] at h
      exact ⟨q, List.mem_cons_self, fk_look h⟩
    | false =>
      rw [hb] at h
      obtain ⟨p, p1, p2⟩ := ih h
      exact ⟨p, List.mem_cons_of_mem _ p1, p2⟩
theorem fk_m_at {T I : Nat} {S : Nat → Bool} {p0 : Nat} {q : ri_M × ri_T} (hm : fk_m T I S p0 q = true) {pc : Nat} {e : ri_En} (hl : ri_look2 q.2 pc = some e) (hp : p0 ≤ pc) : fk_x T I S e = true ∧ fk_j p0 e = true := by
  obtain ⟨p, p1, p2⟩ := fk_look2 hl
  have a := List.all_eq_true.mp (List.all_eq_true.mp hm p p1) (pc, e) p2
  rcases (Bool.or_eq_true _ _).mp a with a | a
  · have := Nat.blt_eq.mp a
    have : pc < p0 := this
    omega
  · exact (Bool.and_eq_true _ _).mp a
def ri_FK (T I p0 : Nat) (h : ri_H) (o : Option ri_F) : Prop := ∀ f', o = some f' → p0 ≤ f'.1 ∧ fk_R T I h f'.2.2.2.1
section FKS
variable {T I p0 : Nat} {S : Nat → Bool} {k z pc p : Nat} {h h' : ri_H} {lo : List (Nat × Value)} {st : List Value} {dc : ri_O} {cal : Nat → List Value → ri_H → Option (Option Value × ri_H)} {bud : Nat → Option (Nat × Nat)} {M : ri_M} {md : List (ri_M × ri_T)}
theorem fk_no : ri_FK T I p0 h none := fun _ e => by cases e
theorem fk_h (hp : p0 ≤ p) (e : fk_R T I h h') : ri_FK T I p0 h (some (p, lo, st, h', k, z)) := fun f' e1 => by
  cases e1
  exact ⟨hp, e⟩
theorem fk_s (hp : p0 ≤ p) : ri_FK T I p0 h (some (p, lo, st, h, k, z)) := fk_h hp (fk_rf h)
theorem fk_cd {b : Bool} {x y : Option ri_F} (hx : ri_FK T I p0 h x) (hy : ri_FK T I p0 h y) : ri_FK T I p0 h (bif b then x else y) := by
  cases b
  · exact hy
  · exact hx
theorem fk_c1 {b : Bool} {x : Option ri_F} (hx : ri_FK T I p0 h x) : ri_FK T I p0 h (bif b then x else none) := fk_cd hx fk_no
theorem fk_put {r t i q : Nat} {c : ri_C} {v : Value} (hp : p0 ≤ p) (hc : h[r]? = some c) (hn : (!(Nat.beq t T && Nat.beq i I)) = true) : ri_FK T I p0 h (bif (Nat.beq c.1 t && Nat.blt t 13) && (Nat.blt i c.2.length && ri_fit q v) then some (p, lo, st, h.set r (c.1, c.2.set i v), k, z) else none) := by
  cases hb : ((Nat.beq c.1 t && Nat.blt t 13) && (Nat.blt i c.2.length && ri_fit q v)) with
  | false => exact fk_no
  | true =>
    have ht := Nat.eq_of_beq_eq_true ((Bool.and_eq_true _ _).mp ((Bool.and_eq_true _ _).mp hb).1).1
    refine fk_h hp (fk_set hc (fun e => List.getElem?_set_ne (fun e2 => ?_)))
    rw [← ht, e, e2, Nat.beq_refl, Nat.beq_refl] at hn
    cases hn
theorem fk_new {t : Nat} {fs : List Value} (hp : p0 ≤ p) : ri_FK T I p0 h (ri_new M t p fs lo st h k z) := fun f' e1 => by
  unfold ri_new at e1
  cases hb : (Nat.ble (k + 1) M.2.2.2.2.2.1 && Nat.ble (z + fs.length) M.2.2.2.2.2.2) with
  | false => rw [hb] at e1; cases e1
  | true =>
    rw [hb] at e1
    cases e1
    exact ⟨hp, fun r c hc e => ⟨c, by
      show (h ++ _)[r]? = _
      rw [List.getElem?_append_left (List.getElem?_eq_some_iff.mp hc).1]
      exact hc, e, rfl⟩⟩
theorem fk_i2 {op : Int32 → Int32 → Int32} (hp : p0 ≤ pc + 1) : ri_FK T I p0 h (ri_i2 op pc lo st h k z) := by
  unfold ri_i2
  split
  · exact fk_s hp
  · exact fk_no
theorem fk_d2 {op : Int32 → Int32 → Int32} (hp : p0 ≤ pc + 1) : ri_FK T I p0 h (ri_d2 op pc lo st h k z) := by
  unfold ri_d2
  split
  · exact fk_cd fk_no (fk_s hp)
  · exact fk_no
theorem fk_s2 {op : Int32 → Int32 → Int32} {q : Nat} (hp : p0 ≤ pc + 1) : ri_FK T I p0 h (ri_s2 op q pc lo st h k z) := by
  unfold ri_s2
  split
  · exact fk_s hp
  · exact fk_c1 (fk_s hp)
  · exact fk_no
theorem fk_l2 {op : Int64 → Int64 → Int64} (hp : p0 ≤ pc + 1) : ri_FK T I p0 h (ri_l2 op pc lo st h k z) := by
  unfold ri_l2
  split
  · exact fk_s hp
  · exact fk_no
theorem fk_ld {t : Value → Bool} {i n : Nat} (hp : p0 ≤ pc + n) : ri_FK T I p0 h (ri_ld t i n pc lo st h k z) := by
  unfold ri_ld
  split
  · exact fk_c1 (fk_s hp)
  · exact fk_no
theorem fk_sto {t : Value → Bool} {i n : Nat} (hp : p0 ≤ pc + n) : ri_FK T I p0 h (ri_sto t M i n pc lo st h k z) := by
  unfold ri_sto
  split
  · exact fk_c1 (fk_s hp)
  · exact fk_no
theorem fk_br {c : Nat} {x y : Value} {tgt nx : Nat} (h1 : p0 ≤ tgt) (h2 : p0 ≤ nx) : ri_FK T I p0 h (ri_br dc c x y tgt nx lo st h k z) := by
  unfold ri_br
  split
  · exact fk_s h1
  · exact fk_s h2
  · exact fk_no
theorem ri_ast_fk {g : Nat → Bool} {a v : Value} {i : Int32} (hg : ∀ n, g n = true → 13 ≤ n) (hT : T < 13) (e : ri_ast g a i v h = some h') : fk_R T I h h' := by
  unfold ri_ast at e
  split at e
  · split at e
    · next q hq =>
      cases hb : (g q.1 && (!decide (i < 0) && Nat.blt i.toNatClampNeg q.2.length)) with
      | false => rw [hb] at e; cases e
      | true =>
        rw [hb] at e
        cases e
        have := hg _ ((Bool.and_eq_true _ _).mp hb).1
        exact fk_set hq (fun e => absurd e (by omega))
    · cases e
  · cases e
theorem ri_copy_fk {a b : Value} {sp dp n : Int32} (hT : T < 13) (e : ri_copy a b sp dp n h = some h') : fk_R T I h h' := by
  unfold ri_copy at e
  split at e
  · split at e
    · next qb hqb =>
      cases hb : ((Nat.beq qb.1 13 || Nat.beq qb.1 15) && (!decide (sp < 0) && (!decide (dp < 0) && (!decide (n < 0) && Nat.ble (dp.toNatClampNeg + n.toNatClampNeg) qb.2.length)))) with
      | false => rw [hb] at e; cases e
      | true =>
        rw [hb] at e
        dsimp only [cond_true] at e
        split at e
        · split at e
          · next qa hqa =>
            cases hb2 : (Nat.beq qa.1 qb.1 && (Nat.ble (sp.toNatClampNeg + n.toNatClampNeg) qa.2.length && ((qa.2.drop sp.toNatClampNeg).take n.toNatClampNeg).all (fun v => bif Nat.beq qb.1 13 then ri_isI v else ri_isL v))) with
            | false => rw [hb2] at e; cases e
            | true =>
              rw [hb2] at e
              cases e
              have hk : qb.1 = 13 ∨ qb.1 = 15 := ((Bool.or_eq_true _ _).mp ((Bool.and_eq_true _ _).mp hb).1).imp Nat.eq_of_beq_eq_true Nat.eq_of_beq_eq_true
              exact fk_set hqb (fun e => absurd e (by omega))
          · cases e
        · next x =>
          cases hb2 : (Nat.beq qb.1 13 && (Nat.ble 1 x && Nat.ble x 4 && Nat.ble (sp.toNatClampNeg + n.toNatClampNeg) (ri_xl x).length)) with
          | false => rw [hb2] at e; cases e
          | true =>
            rw [hb2] at e
            cases e
            have hk : qb.1 = 13 ∨ qb.1 = 15 := ((Bool.or_eq_true _ _).mp ((Bool.and_eq_true _ _).mp hb).1).imp Nat.eq_of_beq_eq_true Nat.eq_of_beq_eq_true
            exact fk_set hqb (fun e => absurd e (by omega))
        · cases e
    · cases e
  · cases e
def ri_HF (T I : Nat) (S : Nat → Bool) (cal : Nat → List Value → ri_H → Option (Option Value × ri_H)) : Prop := ∀ (j : Nat), S j = true → ∀ (as : List Value) (h : ri_H) (v : Option Value) (h' : ri_H), cal j as h = some (v, h') → fk_R T I h h'
theorem fk_call {j : Nat} {as r : List Value} (hc : ri_HF T I S cal) (hj : S j = true) (hp : p0 ≤ p) : ri_FK T I p0 h (match bud j, cal j as h with
        | some (mc, ms), some (v, h') => bif Nat.ble (k + mc) M.2.2.2.2.2.1 && Nat.ble (z + ms) M.2.2.2.2.2.2 then some (p, lo, v.toList ++ r, h', k + mc, z + ms) else none
        | _, _ => none) := by
  split
  · next mc ms v h' e1 e2 =>
    apply fk_c1
    exact fk_h hp (hc j hj as h v h' e2)
  · exact fk_no
theorem fk_inv {aux : List Nat} (hc : ri_HF T I S cal) (hT : T < 13) (ha : fk_c S aux = true) (hp : p0 ≤ pc) : ri_FK T I p0 h (ri_inv dc cal bud M pc aux lo st h k z) := by
  have h3 : p0 ≤ pc + 3 := by omega
  unfold ri_inv
  split
  · split
    · exact fk_c1 (fk_s h3)
    · exact fk_no
  · split
    · apply fk_c1
      split
      · next h' e => exact fk_h h3 (ri_copy_fk hT e)
      · exact fk_no
    · exact fk_no
  · split
    · exact fk_c1 (fk_new h3)
    · exact fk_no
  · split
    · apply fk_c1
      split
      · exact fk_s h3
      · exact fk_no
    · exact fk_no
  · split
    · apply fk_c1
      split
      · exact fk_s h3
      · exact fk_no
    · exact fk_no
  · next kd j n t _ n0 n4 n5 n8 n9 =>
    have hj : S j = true := by
      unfold fk_c at ha
      split at ha
      · next e => exact (n0 (List.cons.inj e).1).elim
      · next e => exact (n4 (List.cons.inj e).1).elim
      · next e => exact (n5 (List.cons.inj e).1).elim
      · next e => exact (n8 (List.cons.inj e).1).elim
      · next e => exact (n9 (List.cons.inj e).1).elim
      · next e => cases e; exact ha
      · next hh => exact absurd rfl (hh _ _ _)
    split
    · split
      · exact fk_c1 (fk_call hc hj h3)
      · exact fk_no
    · exact fk_no
  · exact fk_no
theorem gg_1 (n : Nat) (h : ri_g1 n = true) : 13 ≤ n := by have := Nat.eq_of_beq_eq_true h; omega
theorem gg_2 (n : Nat) (h : ri_g2 n = true) : 13 ≤ n := by have := Nat.eq_of_beq_eq_true h; omega
theorem gg_3 (n : Nat) (h : ri_g3 n = true) : 13 ≤ n := by have := Nat.eq_of_beq_eq_true h; omega
theorem gg_4 (n : Nat) (h : ri_g4 n = true) : 13 ≤ n := by have := Nat.eq_of_beq_eq_true h; omega
theorem gg_5 (n : Nat) (h : ri_g5 n = true) : 13 ≤ n := by
  rcases (Bool.or_eq_true _ _).mp h with h | h <;> (have := Nat.eq_of_beq_eq_true h; omega)
theorem fk_xp {e : ri_En} {x t i a q : Nat} (he : fk_x T I S e = true) (h1 : e.1 = .putfield x) (h2 : e.2.2.1 = [t, i, a, q]) : (!(Nat.beq t T && Nat.beq i I)) = true := by
  unfold fk_x at he
  rw [h1] at he
  dsimp only at he
  rw [h2] at he
  exact he
theorem fk_xv {e : ri_En} {x : Nat} (he : fk_x T I S e = true) (h1 : e.1 = .invokevirtual x ∨ e.1 = .invokespecial x ∨ e.1 = .invokestatic x) : fk_c S e.2.2.1 = true := by
  unfold fk_x at he
  rcases h1 with h1 | h1 | h1 <;> (rw [h1] at he; exact he)
theorem fk_jg {e : ri_En} {o : Int} {l : List Nat} {t : Nat} (hj : fk_j p0 e = true) (h1 : e.1 = .goto o) (h2 : e.2.2.1 = l) (ht : t ∈ l) : p0 ≤ t := by
  unfold fk_j at hj
  rw [h1] at hj
  dsimp only at hj
  rw [h2] at hj
  exact Nat.ble_eq.mp (List.all_eq_true.mp hj t ht)
theorem fk_jc {e : ri_En} {c : ClassFile.Cond} {o : Int} {l : List Nat} {t : Nat} (hj : fk_j p0 e = true) (h1 : e.1 = .ifCond c o ∨ e.1 = .if_icmp c o) (h2 : e.2.2.1 = l) (ht : t ∈ l) : p0 ≤ t := by
  unfold fk_j at hj
  rcases h1 with h1 | h1 <;> (rw [h1] at hj; dsimp only at hj; rw [h2] at hj; exact Nat.ble_eq.mp (List.all_eq_true.mp hj t ht))
theorem fk_jt {e : ri_En} {a b : Int} {d : Int} {ts : Array Int} {l : List Nat} {t : Nat} (hj : fk_j p0 e = true) (h1 : e.1 = .tableswitch d a b ts) (h2 : e.2.2.1 = l) (ht : t ∈ l) : p0 ≤ t := by
  unfold fk_j at hj
  rw [h1] at hj
  dsimp only at hj
  rw [h2] at hj
  exact Nat.ble_eq.mp (List.all_eq_true.mp hj t ht)
theorem fk_step {en : ri_En} (hc : ri_HF T I S cal) (hT : T < 13) (he : fk_x T I S en = true) (hj : fk_j p0 en = true) (hp : p0 ≤ pc) : ri_FK T I p0 h (ri_step dc cal bud M en pc lo st h k z) := by
  unfold ri_step
  split
  all_goals first
    | exact fk_ld (by omega)
    | exact fk_sto (by omega)
    | exact fk_i2 (by omega)
    | exact fk_d2 (by omega)
    | exact fk_s2 (by omega)
    | exact fk_l2 (by omega)
    | exact fk_s (by omega)
    | exact fk_no
    | exact fk_inv hc hT (fk_xv he (Or.inl (by assumption))) hp
    | exact fk_inv hc hT (fk_xv he (Or.inr (Or.inl (by assumption)))) hp
    | exact fk_inv hc hT (fk_xv he (Or.inr (Or.inr (by assumption)))) hp
    | skip
  all_goals repeat' first
    | exact fk_s (by omega)
    | exact fk_no
    | exact fk_s (fk_jg hj (by assumption) (by assumption) (List.mem_cons_self))
    | exact fk_br (fk_jc hj (Or.inl (by assumption)) (by assumption) List.mem_cons_self) (by omega)
    | exact fk_br (fk_jc hj (Or.inr (by assumption)) (by assumption) List.mem_cons_self) (by omega)
    | exact fk_s (fk_jt hj (by assumption) (by assumption) List.mem_cons_self)
    | exact fk_s (fk_jt hj (by assumption) (by assumption) (List.mem_cons_of_mem _ (List.mem_of_getElem? (by assumption))))
    | exact fk_new (by omega)
    | exact fk_put (by omega) (by assumption) (fk_xp he (by assumption) (by assumption))
    | exact fk_h (by omega) (ri_ast_fk gg_1 hT (by assumption))
    | exact fk_h (by omega) (ri_ast_fk gg_2 hT (by assumption))
    | exact fk_h (by omega) (ri_ast_fk gg_3 hT (by assumption))
    | exact fk_h (by omega) (ri_ast_fk gg_4 hT (by assumption))
    | exact fk_h (by omega) (ri_ast_fk gg_5 hT (by assumption))
    | (exfalso; simp_all; done)
    | apply fk_cd
    | split
theorem fk_st {q : ri_M × ri_T} {f : ri_F} (hc : ri_HF T I S cal) (hT : T < 13) (hm : fk_m T I S p0 q = true) (hp : p0 ≤ f.1) (h7 : p0 ≤ 70000) : ri_FK T I p0 f.2.2.2.1 (ri_st dc cal bud q f) := by
  unfold ri_st
  apply fk_cd
  · exact fk_s hp
  · split
    · next e hl =>
      obtain ⟨x1, x2⟩ := fk_m_at hm hl hp
      apply fk_cd
      · split
        · exact fk_s h7
        · exact fk_no
      · split
        · next f1 e1 =>
          apply fk_cd
          · exact fk_no
          · intro f2 e2
            cases e2
            exact fk_step hc hT x1 x2 hp _ e1
        · exact fk_no
    · exact fk_no
theorem fk_go {stp : ri_F → Option ri_F} (hs : ∀ f, p0 ≤ f.1 → ri_FK T I p0 f.2.2.2.1 (stp f)) : ∀ (n : Nat) (f : ri_F), p0 ≤ f.1 → ri_FK T I p0 f.2.2.2.1 (ri_go stp n f)
  | 0, f, hp => fk_s hp
  | n + 1, f, hp => by
    unfold ri_go
    apply fk_cd
    · exact fk_s hp
    · split
      · next f1 e1 =>
        intro f2 e2
        obtain ⟨a1, a2⟩ := hs f hp f1 e1
        obtain ⟨b1, b2⟩ := fk_go hs n f1 a1 f2 e2
        exact ⟨b1, fk_tr a2 b2⟩
      · exact fk_no
theorem fk_calE (hT : T < 13) (hS : ∀ j, S j = true → ∀ q, md[j]? = some q → fk_m T I S 0 q = true) : ∀ d, ri_HF T I S (ri_calE md d)
  | 0 => fun j _ as h v h' e => by cases e
  | d + 1 => fun j hj as h v h' e => by
    cases hq : md[j]? with
    | none =>
      unfold ri_calE at e
      rw [hq] at e
      cases e
    | some q =>
      obtain ⟨-, f', ⟨⟨n, g1⟩, -⟩, -, g5⟩ := ri_calE_inv hq e
      have b2 := fk_go (p0 := 0) (fun f hp => fk_st (fk_calE hT hS d) hT (hS j hj q hq) hp (Nat.zero_le _)) n _ (Nat.zero_le _) f' g1
      rw [← g5]
      exact b2.2
end FKS
theorem fk_run {T I p0 : Nat} {S : Nat → Bool} {d : Nat} {q : ri_M × ri_T} {pc : Nat} {lo : List (Nat × Value)} {st rs : List Value} {h h' : ri_H} (hT : T < 13) (hS : ∀ j, S j = true → ∀ q, ri_md[j]? = some q → fk_m T I S 0 q = true) (hm : fk_m T I S p0 q = true) (hp : p0 ≤ pc) (h7 : p0 ≤ 70000) (E : eh_e (ri_calE ri_md d) q pc lo st h rs h') : fk_R T I h h' := by
  obtain ⟨k, z, n, lo', k', z', g⟩ := E
  exact (fk_go (p0 := p0) (fun f hf => fk_st (fk_calE hT hS d) hT hm hf h7) n _ hp _ g).2
