section RIG
variable {p : Program} {l : Launch} {e : Env} {R : Room} {s : State} {m : MethodId} {args : Array Value} {below : List Frame} {meth : Method} {c : Code} {Q : State → Prop} {E : ri_V} {D : va_G} {cA : Nat → ClassId} {M : ri_M} {pc k z nL : Nat} {lo : List (Nat × Value)} {st r : List Value} {h : ri_H} {f' : ri_F} {dc : ri_O}
theorem ri_fd_inv {cn : Nat} {x y : Value} {b : Bool} (hdc : ∀ q ∈ dc, ri_hd q.1 (ri_ic E q.2.1) (ri_ic E q.2.2.1) = q.2.2.2) (hs : ri_fd dc cn x y = some b) : ri_hd cn (ri_ic E x) (ri_ic E y) = b := by
  induction dc with
  | nil => cases hs
  | cons q t ih =>
    unfold ri_fd at hs
    cases hg : (Nat.beq q.1 cn && (decide (q.2.1 = x) && decide (q.2.2.1 = y))) with
    | true =>
      rw [hg] at hs
      simp only [Bool.and_eq_true, Nat.beq_eq, decide_eq_true_eq] at hg
      have h1 := hdc q List.mem_cons_self
      rw [hg.1, hg.2.1, hg.2.2] at h1
      rw [h1]
      exact Option.some.inj hs
    | false =>
      rw [hg] at hs
      exact ih (fun q hq => hdc q (List.mem_cons_of_mem _ hq)) hs
theorem ri_cmp_inv {cn : Nat} {x y : Value} {b : Bool} (hdc : ∀ q ∈ dc, ri_hd q.1 (ri_ic E q.2.1) (ri_ic E q.2.2.1) = q.2.2.2) (hs : ri_cmp dc cn x y = some b) : ri_isI x = true ∧ ri_isI y = true ∧ ri_hd cn (ri_ic E x) (ri_ic E y) = b := by
  cases x <;> cases y <;> first | exact ⟨rfl, rfl, Option.some.inj hs⟩ | (simp [ri_cmp, ri_isI] at hs; done) | exact ⟨rfl, rfl, ri_fd_inv hdc hs⟩
theorem ri_br_inv {cn tgt nx : Nat} {x y : Value} (hdc : ∀ q ∈ dc, ri_hd q.1 (ri_ic E q.2.1) (ri_ic E q.2.2.1) = q.2.2.2) (hs : ri_br dc cn x y tgt nx lo st h k z = some f') : ∃ b, ri_isI x = true ∧ ri_isI y = true ∧ ri_hd cn (ri_ic E x) (ri_ic E y) = b ∧ f' = (bif b then tgt else nx, lo, st, h, k, z) := by
  unfold ri_br at hs
  split at hs
  · next hc => exact ⟨true, (ri_cmp_inv hdc hc).1, (ri_cmp_inv hdc hc).2.1, (ri_cmp_inv hdc hc).2.2, (Option.some.inj hs).symm⟩
  · next hc => exact ⟨false, (ri_cmp_inv hdc hc).1, (ri_cmp_inv hdc hc).2.1, (ri_cmp_inv hdc hc).2.2, (Option.some.inj hs).symm⟩
  · cases hs
theorem ri_r_if (X : ri_Cx p s m args meth c E D cA M) {cnd : ClassFile.Cond} {off : Int} {tgt : Nat} {x : Value} {b : Bool} (hI : ri_isI x = true) (hbb : ri_hd (ri_cn cnd) (ri_ic E x) 0 = b) (hd : decode M.2.1 pc = .ok (.ifCond cnd off, 3)) (ht : (pc : Int) + off = (tgt : Int))
    (kk : ri_Ab p l e R s m args below meth c Q E D cA M.2.2.1 (bif b then tgt else pc + 3, lo, r, h, k, z)) : ri_Ab p l e R s m args below meth c Q E D cA M.2.2.1 (pc, lo, x :: r, h, k, z) := by
  obtain ⟨hx, hb, -⟩ := X
  intro H ls locs hl hR hS
  have kk : W p l e R s m args below meth c H locs k z Q (F0 m (bif b then tgt else pc + 3) ls (r.map (ri_cv E))) := kk H ls locs hl hR hS
  show W p l e R s m args below meth c H locs k z Q (F0 m pc ls (ri_cv E x :: r.map (ri_cv E)))
  rw [ri_isI_cv hI]
  cases cnd with
  | eq =>
    refine lv_if_eq hx hb hd ht (fun h0 => ?_) (fun h0 => ?_)
    · rw [show b = true by rw [← hbb]; simp [ri_hd, ri_cn, h0]] at kk; exact kk
    · rw [show b = false by rw [← hbb]; simp [ri_hd, ri_cn, h0]] at kk; exact kk
  | ne =>
    refine lv_if_ne hx hb hd ht (fun h0 => ?_) (fun h0 => ?_)
    · rw [show b = true by rw [← hbb]; simp [ri_hd, ri_cn, h0]] at kk; exact kk
    · rw [show b = false by rw [← hbb]; simp [ri_hd, ri_cn, h0]] at kk; exact kk
  | lt =>
    refine lv_if_lt hx hb hd ht (fun h0 => ?_) (fun h0 => ?_)
    · rw [show b = true by rw [← hbb]; exact decide_eq_true h0] at kk; exact kk
    · rw [show b = false by rw [← hbb]; exact decide_eq_false h0] at kk; exact kk
  | ge =>
    refine lv_if_ge hx hb hd ht (fun h0 => ?_) (fun h0 => ?_)
    · rw [show b = true by rw [← hbb]; exact decide_eq_true h0] at kk; exact kk
    · rw [show b = false by rw [← hbb]; exact decide_eq_false h0] at kk; exact kk
  | gt =>
    refine lv_if_gt hx hb hd ht (fun h0 => ?_) (fun h0 => ?_)
    · rw [show b = true by rw [← hbb]; exact decide_eq_true h0] at kk; exact kk
    · rw [show b = false by rw [← hbb]; exact decide_eq_false h0] at kk; exact kk
  | le =>
    refine lv_if_le hx hb hd ht (fun h0 => ?_) (fun h0 => ?_)
    · rw [show b = true by rw [← hbb]; exact decide_eq_true h0] at kk; exact kk
    · rw [show b = false by rw [← hbb]; exact decide_eq_false h0] at kk; exact kk
theorem ri_r_icmp (X : ri_Cx p s m args meth c E D cA M) {cnd : ClassFile.Cond} {off : Int} {tgt : Nat} {x y : Value} {b : Bool} (hI : ri_isI x = true) (hJ : ri_isI y = true) (hbb : ri_hd (ri_cn cnd) (ri_ic E x) (ri_ic E y) = b) (hd : decode M.2.1 pc = .ok (.if_icmp cnd off, 3)) (ht : (pc : Int) + off = (tgt : Int))
    (kk : ri_Ab p l e R s m args below meth c Q E D cA M.2.2.1 (bif b then tgt else pc + 3, lo, r, h, k, z)) : ri_Ab p l e R s m args below meth c Q E D cA M.2.2.1 (pc, lo, y :: x :: r, h, k, z) := by
  obtain ⟨hx, hb, -⟩ := X
  intro H ls locs hl hR hS
  have kk : W p l e R s m args below meth c H locs k z Q (F0 m (bif b then tgt else pc + 3) ls (r.map (ri_cv E))) := kk H ls locs hl hR hS
  show W p l e R s m args below meth c H locs k z Q (F0 m pc ls (ri_cv E y :: ri_cv E x :: r.map (ri_cv E)))
  rw [ri_isI_cv hI, ri_isI_cv hJ]
  cases cnd with
  | eq =>
    refine lv_icmp_eq hx hb hd ht (fun h0 => ?_) (fun h0 => ?_)
    · rw [show b = true by rw [← hbb]; exact decide_eq_true h0] at kk; exact kk
    · rw [show b = false by rw [← hbb]; exact decide_eq_false h0] at kk; exact kk
  | ne =>
    refine lv_icmp_ne hx hb hd ht (fun h0 => ?_) (fun h0 => ?_)
    · rw [show b = true by rw [← hbb]; simp [ri_hd, ri_cn, h0]] at kk; exact kk
    · rw [show b = false by rw [← hbb]; simp [ri_hd, ri_cn, h0]] at kk; exact kk
  | lt =>
    refine lv_icmp_lt hx hb hd ht (fun h0 => ?_) (fun h0 => ?_)
    · rw [show b = true by rw [← hbb]; exact decide_eq_true h0] at kk; exact kk
    · rw [show b = false by rw [← hbb]; exact decide_eq_false h0] at kk; exact kk
  | ge =>
    refine lv_icmp_ge hx hb hd ht (fun h0 => ?_) (fun h0 => ?_)
    · rw [show b = true by rw [← hbb]; exact decide_eq_true h0] at kk; exact kk
    · rw [show b = false by rw [← hbb]; exact decide_eq_false h0] at kk; exact kk
  | gt =>
    refine lv_icmp_gt hx hb hd ht (fun h0 => ?_) (fun h0 => ?_)
    · rw [show b = true by rw [← hbb]; exact decide_eq_true h0] at kk; exact kk
    · rw [show b = false by rw [← hbb]; exact decide_eq_false h0] at kk; exact kk
  | le =>
    refine lv_icmp_le hx hb hd ht (fun h0 => ?_) (fun h0 => ?_)
    · rw [show b = true by rw [← hbb]; exact decide_eq_true h0] at kk; exact kk
    · rw [show b = false by rw [← hbb]; exact decide_eq_false h0] at kk; exact kk
/-- named ints and shifts -/
theorem ri_u32 {n : Nat} (hn : n < 4294967296) : (UInt32.ofNat n).toNat = n := UInt32.toNat_ofNat_of_lt' hn
theorem ri_sem_s {sg : Nat → Int32} {q t j : Nat} (hq : q = 1 ∨ q = 2) (ht : t < 16) (hj : j < 32) : ri_sem sg (512 * q + 16 * j + t) = (if q = 1 then ri_ush (sg t) j else ri_shr (sg t) j) := by
  have e1 : (512 * q + 16 * j + t) / 512 = q := by omega
  have e2 : (512 * q + 16 * j + t) % 16 = t := by omega
  have e3 : (512 * q + 16 * j + t) / 16 % 32 = j := by omega
  unfold ri_sem
  rw [e1, e2, e3]
  rcases hq with rfl | rfl <;> rfl
theorem ri_sem_0 {sg : Nat → Int32} {t : Nat} (ht : t < 16) : ri_sem sg t = sg t := by
  have e1 : t / 512 = 0 := by omega
  have e2 : t % 16 = t := by omega
  unfold ri_sem
  rw [e1, e2]
  rfl
theorem ri_sem_b {sg : Nat → Int32} {t : Nat} (h1 : 512 ≤ t) (h2 : t < 1536) : ri_sem sg (t + 1024) = (ri_sem sg t).toInt8.toInt32 := by
  have e2 : (t + 1024) % 16 = t % 16 := by omega
  have e3 : (t + 1024) / 16 % 32 = t / 16 % 32 := by omega
  unfold ri_sem
  rw [e2, e3]
  rcases (show t / 512 = 1 ∨ t / 512 = 2 by omega) with h | h
  · rw [show (t + 1024) / 512 = 3 by omega, h]
    rfl
  · rw [show (t + 1024) / 512 = 4 by omega, h]
    rfl
theorem ri_sem_n {sg : Nat → Int32} {t : Nat} (h1 : 1536 ≤ t) : ∃ x : Int32, ri_sem sg t = x.toInt8.toInt32 := by
  unfold ri_sem
  split
  · next h => exact absurd h (by omega)
  · next h => exact absurd h (by omega)
  · next h => exact absurd h (by omega)
  · exact ⟨_, rfl⟩
  · exact ⟨_, rfl⟩
theorem ri_nb_ok {v w : Value} (hn : ri_nb v = some w) : ri_isI v = true ∧ ri_cv E w = narrow .byte (ri_cv E v) := by
  unfold ri_nb at hn
  split at hn
  · cases hn; exact ⟨rfl, rfl⟩
  · next t =>
    cases hg : Nat.ble 1536 t.toNat with
    | false => rw [hg] at hn; cases hn
    | true =>
      rw [hg] at hn
      have hn := Option.some.inj hn
      subst hn
      refine ⟨rfl, ?_⟩
      obtain ⟨x, hx⟩ := ri_sem_n (sg := E.2.2) (Nat.ble_eq.mp hg)
      show Value.int (ri_sem E.2.2 t.toNat) = narrow .byte (.int (ri_sem E.2.2 t.toNat))
      rw [hx]
      exact (pk_nb x).symm
  · cases hn
end RIG
