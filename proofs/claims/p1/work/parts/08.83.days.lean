theorem pd_met (l : Launch) (E : ri_V) (D : va_G) (cA : Nat → ClassId) {n : Nat} (hn : n ≤ 60) (hE : (ri_ic E (.float 1)).toInt = (n : Int)) : ri_Met l E D cA 8 md_63.1 [.ref 35, .ref 23, .float 1] (h_d 0) (fun a b => a = none ∧ b = h_d n) := by
  have hdI : ∀ i : Nat, i < n → ∀ q ∈ dk i, ri_hd q.1 (ri_ic E q.2.1) (ri_ic E q.2.2.1) = q.2.2.2 := fun i hi => List.forall_mem_cons.mpr ⟨la_q 3 (dy_i E (by omega)) hE (decide_eq_false (by omega)), fun _ h => absurd h List.not_mem_nil⟩
  have hdX : ∀ q ∈ dx n, ri_hd q.1 (ri_ic E q.2.1) (ri_ic E q.2.2.1) = q.2.2.2 := List.forall_mem_cons.mpr ⟨la_q 3 (dy_i E (by omega)) hE (decide_eq_true (by omega)), fun _ h => absurd h List.not_mem_nil⟩
  have hdN : ∀ q ∈ ([] : ri_O), ri_hd q.1 (ri_ic E q.2.1) (ri_ic E q.2.2.1) = q.2.2.2 := fun _ h => absurd h List.not_mem_nil
  obtain ⟨w, hMk⟩ := mk_63
  refine ri_met_of hMk (by decide) (fun p e s m args below meth c X hrt hlk => ?_)
  have C : ∀ dc : ri_O, (∀ q ∈ dc, ri_hd q.1 (ri_ic E q.2.1) (ri_ic E q.2.2.1) = q.2.2.2) → ri_Ca l E D cA ri_md (ri_call dc ri_md 7) 7 md_63.1 (ri_rm 8 md_63.1) := fun dc hdc => ⟨ri_mk_all, fun j q as h v h' hq hs => ri_run l E D cA hdc hq hs, Nat.le_refl _, Nat.le_refl _, by decide, by decide⟩
  have gfin : ri_Gd p l e (ri_rm 8 md_63.1) s m args below meth c (MQ below (ri_Qc E D cA (fun a b => a = none ∧ b = h_d n)) args s md_63.1.2.2.2.2.2.1 md_63.1.2.2.2.2.2.2 (ri_A E)) E D cA md_63.1.2.2.1 (fun a b => a = none ∧ b = h_d n) md_63.1.2.2.2.2.2.1 md_63.1.2.2.2.2.2.2 (px n) := Or.inl ⟨rfl, ⟨rfl, rfl⟩, Nat.zero_le _, Nat.zero_le _⟩
  have g : ri_Gd p l e (ri_rm 8 md_63.1) s m args below meth c (MQ below (ri_Qc E D cA (fun a b => a = none ∧ b = h_d n)) args s md_63.1.2.2.2.2.2.1 md_63.1.2.2.2.2.2.2 (ri_A E)) E D cA md_63.1.2.2.1 (fun a b => a = none ∧ b = h_d n) md_63.1.2.2.2.2.2.1 md_63.1.2.2.2.2.2.2 (pd n) := ri_gd_sn X (C _ hdX) hdX ot_63 hrt hlk (ri_is_ok (pd_x (by omega))) (fun h => by cases h) gfin
  have gi : ∀ k : Nat, k ≤ n → ri_Gd p l e (ri_rm 8 md_63.1) s m args below meth c (MQ below (ri_Qc E D cA (fun a b => a = none ∧ b = h_d n)) args s md_63.1.2.2.2.2.2.1 md_63.1.2.2.2.2.2.2 (ri_A E)) E D cA md_63.1.2.2.1 (fun a b => a = none ∧ b = h_d n) md_63.1.2.2.2.2.2.1 md_63.1.2.2.2.2.2.2 (pd (n - k)) := by
    intro k
    induction k with
    | zero => intro _; exact g
    | succ k ih =>
      intro hk
      have g1 := ih (by omega)
      rw [show n - k = n - (k + 1) + 1 by omega] at g1
      exact ri_gd_sn X (C _ (hdI (n - (k + 1)) (by omega))) (hdI (n - (k + 1)) (by omega)) ot_63 hrt hlk (ri_is_ok (pd_i (by omega))) (fun h => by cases h) g1
  have g0 := gi n (Nat.le_refl _)
  rw [Nat.sub_self] at g0
  have g00 := ri_gd_sn X (C [] hdN) hdN ot_63 hrt hlk (ri_is_ok pd_s) (fun h => by cases h) g0
  rcases g00 with ⟨h0, -⟩ | ⟨-, h0⟩
  · cases h0
  · exact h0
theorem gd_met (l : Launch) (E : ri_V) (D : va_G) (cA : Nat → ClassId) {n : Nat} (hn : n ≤ 60) (hE : (ri_ic E (.float 1)).toInt = (n : Int)) : ri_Met l E D cA 8 md_205.1 [.ref 0, .float 1] (hm_d 0) (fun a b => a = some (.int (nI n)) ∧ b = hm_d n) := by
  have hdI : ∀ i : Nat, i < n → ∀ q ∈ dk i, ri_hd q.1 (ri_ic E q.2.1) (ri_ic E q.2.2.1) = q.2.2.2 := fun i hi => List.forall_mem_cons.mpr ⟨la_q 3 (dy_i E (by omega)) hE (decide_eq_false (by omega)), fun _ h => absurd h List.not_mem_nil⟩
  have hdX : ∀ q ∈ dx n, ri_hd q.1 (ri_ic E q.2.1) (ri_ic E q.2.2.1) = q.2.2.2 := List.forall_mem_cons.mpr ⟨la_q 3 (dy_i E (by omega)) hE (decide_eq_true (by omega)), fun _ h => absurd h List.not_mem_nil⟩
  have hdN : ∀ q ∈ ([] : ri_O), ri_hd q.1 (ri_ic E q.2.1) (ri_ic E q.2.2.1) = q.2.2.2 := fun _ h => absurd h List.not_mem_nil
  obtain ⟨w, hMk⟩ := mk_205
  refine ri_met_of hMk (by decide) (fun p e s m args below meth c X hrt hlk => ?_)
  have C : ∀ dc : ri_O, (∀ q ∈ dc, ri_hd q.1 (ri_ic E q.2.1) (ri_ic E q.2.2.1) = q.2.2.2) → ri_Ca l E D cA ri_md (ri_call dc ri_md 7) 7 md_205.1 (ri_rm 8 md_205.1) := fun dc hdc => ⟨ri_mk_all, fun j q as h v h' hq hs => ri_run l E D cA hdc hq hs, Nat.le_refl _, Nat.le_refl _, by decide, by decide⟩
  have gfin : ri_Gd p l e (ri_rm 8 md_205.1) s m args below meth c (MQ below (ri_Qc E D cA (fun a b => a = some (.int (nI n)) ∧ b = hm_d n)) args s md_205.1.2.2.2.2.2.1 md_205.1.2.2.2.2.2.2 (ri_A E)) E D cA md_205.1.2.2.1 (fun a b => a = some (.int (nI n)) ∧ b = hm_d n) md_205.1.2.2.2.2.2.1 md_205.1.2.2.2.2.2.2 (gx n) := Or.inl ⟨rfl, ⟨rfl, rfl⟩, Nat.zero_le _, Nat.zero_le _⟩
  have g : ri_Gd p l e (ri_rm 8 md_205.1) s m args below meth c (MQ below (ri_Qc E D cA (fun a b => a = some (.int (nI n)) ∧ b = hm_d n)) args s md_205.1.2.2.2.2.2.1 md_205.1.2.2.2.2.2.2 (ri_A E)) E D cA md_205.1.2.2.1 (fun a b => a = some (.int (nI n)) ∧ b = hm_d n) md_205.1.2.2.2.2.2.1 md_205.1.2.2.2.2.2.2 (gd n) := ri_gd_sn X (C _ hdX) hdX ot_205 hrt hlk (ri_is_ok (gd_x (by omega))) (fun h => by cases h) gfin
  have gi : ∀ k : Nat, k ≤ n → ri_Gd p l e (ri_rm 8 md_205.1) s m args below meth c (MQ below (ri_Qc E D cA (fun a b => a = some (.int (nI n)) ∧ b = hm_d n)) args s md_205.1.2.2.2.2.2.1 md_205.1.2.2.2.2.2.2 (ri_A E)) E D cA md_205.1.2.2.1 (fun a b => a = some (.int (nI n)) ∧ b = hm_d n) md_205.1.2.2.2.2.2.1 md_205.1.2.2.2.2.2.2 (gd (n - k)) := by
    intro k
    induction k with
    | zero => intro _; exact g
    | succ k ih =>
      intro hk
      have g1 := ih (by omega)
      rw [show n - k = n - (k + 1) + 1 by omega] at g1
      exact ri_gd_sn X (C _ (hdI (n - (k + 1)) (by omega))) (hdI (n - (k + 1)) (by omega)) ot_205 hrt hlk (ri_is_ok (gd_i (by omega))) (fun h => by cases h) g1
  have g0 := gi n (Nat.le_refl _)
  rw [Nat.sub_self] at g0
  have g00 := ri_gd_sn X (C [] hdN) hdN ot_205 hrt hlk (ri_is_ok gd_s) (fun h => by cases h) g0
  rcases g00 with ⟨h0, -⟩ | ⟨-, h0⟩
  · cases h0
  · exact h0
