section RIA
variable {p : Program} {l : Launch} {e : Env} {R : Room} {s : State} {m : MethodId} {args : Array Value} {below : List Frame} {meth : Method} {c : Code} {Q : State → Prop} {E : ri_V} {D : va_G} {cA : Nat → ClassId} {M : ri_M} {pc k z nL : Nat} {lo : List (Nat × Value)} {st r : List Value} {h : ri_H} {f' : ri_F}
theorem ri_i2_inv {op : Int32 → Int32 → Int32} (hs : ri_i2 op pc lo st h k z = some f') : ∃ x y r, st = .int y :: .int x :: r ∧ f' = (pc + 1, lo, .int (op x y) :: r, h, k, z) := by
  unfold ri_i2 at hs
  split at hs
  · exact ⟨_, _, _, rfl, (Option.some.inj hs).symm⟩
  · cases hs
theorem ri_d2_inv {op : Int32 → Int32 → Int32} (hs : ri_d2 op pc lo st h k z = some f') : ∃ x y r, st = .int y :: .int x :: r ∧ ¬ y = 0 ∧ f' = (pc + 1, lo, .int (op x y) :: r, h, k, z) := by
  unfold ri_d2 at hs
  split at hs
  · next y x r =>
    cases hd : decide (y = 0) with
    | true => rw [hd] at hs; cases hs
    | false => rw [hd] at hs; exact ⟨_, _, _, rfl, of_decide_eq_false hd, (Option.some.inj hs).symm⟩
  · cases hs
theorem ri_l2_inv {op : Int64 → Int64 → Int64} (hs : ri_l2 op pc lo st h k z = some f') : ∃ x y r, st = .long y :: .long x :: r ∧ f' = (pc + 1, lo, .long (op x y) :: r, h, k, z) := by
  unfold ri_l2 at hs
  split at hs
  · exact ⟨_, _, _, rfl, (Option.some.inj hs).symm⟩
  · cases hs
theorem ri_ld_inv {t : Value → Bool} {i n : Nat} (hs : ri_ld t i n pc lo st h k z = some f') : ∃ v, ri_lk lo i = some v ∧ t v = true ∧ f' = (pc + n, lo, v :: st, h, k, z) := by
  unfold ri_ld at hs
  split at hs
  · next v hv =>
    cases ht : t v with
    | true => rw [ht] at hs; exact ⟨v, hv, ht, (Option.some.inj hs).symm⟩
    | false => rw [ht] at hs; cases hs
  · cases hs
theorem ri_sto_inv {t : Value → Bool} {i n : Nat} (hs : ri_sto t M i n pc lo st h k z = some f') : ∃ v r, st = v :: r ∧ t v = true ∧ i < M.2.2.1 ∧ f' = (pc + n, ri_st1 lo i v, r, h, k, z) := by
  unfold ri_sto at hs
  split at hs
  · next v r =>
    cases ht : (t v && Nat.blt i M.2.2.1) with
    | true =>
      rw [ht] at hs
      obtain ⟨h1, h2⟩ := (Bool.and_eq_true _ _).mp ht
      exact ⟨v, r, rfl, h1, by simpa [Nat.blt_eq] using h2, (Option.some.inj hs).symm⟩
    | false => rw [ht] at hs; cases hs
  · cases hs
theorem ri_r_ild (X : ri_Cx p s m args meth c E D cA M) {i : Nat} {v : Value} (hv : ri_lk lo i = some v) (hi : ri_isI v = true) {n : Nat} (hd : (∃ q : Fin 4, (q : Nat) = i ∧ n = 1 ∧ decode M.2.1 pc = .ok (.iload_n q, 1)) ∨ (n = 2 ∧ decode M.2.1 pc = .ok (.iload i, 2)))
    (kk : ri_Ab p l e R s m args below meth c Q E D cA M.2.2.1 (pc + n, lo, v :: st, h, k, z)) : ri_Ab p l e R s m args below meth c Q E D cA M.2.2.1 (pc, lo, st, h, k, z) := by
  obtain ⟨hx, hb, -⟩ := X
  intro H ls locs hl hR hS
  have ha := ri_lk_at hl hv
  have kk : W p l e R s m args below meth c H locs k z Q (F0 m (pc + n) ls (ri_cv E v :: st.map (ri_cv E))) := kk H ls locs hl hR hS
  rw [ri_isI_cv hi] at ha kk
  rcases hd with ⟨q, h1, rfl, h2⟩ | ⟨rfl, h2⟩
  · exact lv_iload_n hx hb h2 h1 ha kk
  · exact lv_iload hx hb h2 ha kk
theorem ri_r_lld (X : ri_Cx p s m args meth c E D cA M) {i : Nat} {v : Value} (hv : ri_lk lo i = some v) (hi : ri_isL v = true) {q : Fin 4} (hq : (q : Nat) = i) (hd : decode M.2.1 pc = .ok (.lload_n q, 1))
    (kk : ri_Ab p l e R s m args below meth c Q E D cA M.2.2.1 (pc + 1, lo, v :: st, h, k, z)) : ri_Ab p l e R s m args below meth c Q E D cA M.2.2.1 (pc, lo, st, h, k, z) := by
  obtain ⟨hx, hb, -⟩ := X
  intro H ls locs hl hR hS
  have ha := ri_lk_at hl hv
  have kk : W p l e R s m args below meth c H locs k z Q (F0 m (pc + 1) ls (ri_cv E v :: st.map (ri_cv E))) := kk H ls locs hl hR hS
  obtain ⟨x, -, hx2⟩ := ri_isL_cv (E := E) hi
  rw [hx2] at ha kk
  exact lv_lload_n hx hb hd hq ha kk
theorem ri_r_ald (X : ri_Cx p s m args meth c E D cA M) {i : Nat} {v : Value} (hv : ri_lk lo i = some v) (hi : ri_isA v = true) {n : Nat} (hd : (∃ q : Fin 4, (q : Nat) = i ∧ n = 1 ∧ decode M.2.1 pc = .ok (.aload_n q, 1)) ∨ (n = 2 ∧ decode M.2.1 pc = .ok (.aload i, 2)))
    (kk : ri_Ab p l e R s m args below meth c Q E D cA M.2.2.1 (pc + n, lo, v :: st, h, k, z)) : ri_Ab p l e R s m args below meth c Q E D cA M.2.2.1 (pc, lo, st, h, k, z) := by
  obtain ⟨hx, hb, -⟩ := X
  intro H ls locs hl hR hS
  have ha := ri_lk_at hl hv
  have kk : W p l e R s m args below meth c H locs k z Q (F0 m (pc + n) ls (ri_cv E v :: st.map (ri_cv E))) := kk H ls locs hl hR hS
  rcases ri_isA_cv (E := E) hi with e0 | ⟨a, e0⟩
  · rw [e0] at ha kk
    rcases hd with ⟨q, h1, rfl, h2⟩ | ⟨rfl, h2⟩
    · exact lv_aload_nN hx hb h2 h1 ha kk
    · exact lv_aloadN hx hb h2 ha kk
  · rw [e0] at ha kk
    rcases hd with ⟨q, h1, rfl, h2⟩ | ⟨rfl, h2⟩
    · exact lv_aload_n hx hb h2 h1 ha kk
    · exact lv_aload hx hb h2 ha kk
theorem ri_r_ist (X : ri_Cx p s m args meth c E D cA M) {i : Nat} {v : Value} (hi : ri_isI v = true) (hn : i < M.2.2.1) {n : Nat} (hd : (∃ q : Fin 4, (q : Nat) = i ∧ n = 1 ∧ decode M.2.1 pc = .ok (.istore_n q, 1)) ∨ (n = 2 ∧ decode M.2.1 pc = .ok (.istore i, 2)))
    (kk : ri_Ab p l e R s m args below meth c Q E D cA M.2.2.1 (pc + n, ri_st1 lo i v, r, h, k, z)) : ri_Ab p l e R s m args below meth c Q E D cA M.2.2.1 (pc, lo, v :: r, h, k, z) := by
  obtain ⟨hx, hb, -⟩ := X
  intro H ls locs hl hR hS
  have e1 := ri_mp_st1 E lo i v
  show W p l e R s m args below meth c H locs k z Q (F0 m pc ls (ri_cv E v :: r.map (ri_cv E)))
  rw [ri_isI_cv hi] at e1 ⊢
  rcases hd with ⟨q, h1, rfl, h2⟩ | ⟨rfl, h2⟩
  · exact lv_istore_n hx hb h2 h1 hl hn e1 (fun ls' hl' => kk H ls' locs hl' hR hS)
  · exact lv_istore hx hb h2 hl hn e1 (fun ls' hl' => kk H ls' locs hl' hR hS)
theorem ri_r_ast (X : ri_Cx p s m args meth c E D cA M) {i : Nat} {v : Value} (hi : ri_isA v = true) (hn : i < M.2.2.1) {n : Nat} (hd : (∃ q : Fin 4, (q : Nat) = i ∧ n = 1 ∧ decode M.2.1 pc = .ok (.astore_n q, 1)) ∨ (n = 2 ∧ decode M.2.1 pc = .ok (.astore i, 2)))
    (kk : ri_Ab p l e R s m args below meth c Q E D cA M.2.2.1 (pc + n, ri_st1 lo i v, r, h, k, z)) : ri_Ab p l e R s m args below meth c Q E D cA M.2.2.1 (pc, lo, v :: r, h, k, z) := by
  obtain ⟨hx, hb, -⟩ := X
  intro H ls locs hl hR hS
  have e1 := ri_mp_st1 E lo i v
  show W p l e R s m args below meth c H locs k z Q (F0 m pc ls (ri_cv E v :: r.map (ri_cv E)))
  rcases ri_isA_cv (E := E) hi with e0 | ⟨a, e0⟩
  · rw [e0] at e1 ⊢
    rcases hd with ⟨q, h1, rfl, h2⟩ | ⟨rfl, h2⟩
    · exact lv_astore_nN hx hb h2 h1 hl hn e1 (fun ls' hl' => kk H ls' locs hl' hR hS)
    · exact lv_astoreN hx hb h2 hl hn e1 (fun ls' hl' => kk H ls' locs hl' hR hS)
  · rw [e0] at e1 ⊢
    rcases hd with ⟨q, h1, rfl, h2⟩ | ⟨rfl, h2⟩
    · exact lv_astore_n hx hb h2 h1 hl hn e1 (fun ls' hl' => kk H ls' locs hl' hR hS)
    · exact lv_astore hx hb h2 hl hn e1 (fun ls' hl' => kk H ls' locs hl' hR hS)
theorem ri_r_iinc (X : ri_Cx p s m args meth c E D cA M) {i : Nat} {n : Int} {x : Int32} (hv : ri_lk lo i = some (.int x)) (hn : i < M.2.2.1) (hd : decode M.2.1 pc = .ok (.iinc i n, 3))
    (kk : ri_Ab p l e R s m args below meth c Q E D cA M.2.2.1 (pc + 3, ri_st1 lo i (.int (x + Int32.ofInt n)), st, h, k, z)) : ri_Ab p l e R s m args below meth c Q E D cA M.2.2.1 (pc, lo, st, h, k, z) := by
  obtain ⟨hx, hb, -⟩ := X
  intro H ls locs hl hR hS
  obtain ⟨j, hj⟩ := ri_lk_pl (E := E) hv
  exact lv_iinc hx hb hd hl hj rfl hn (ri_mp_st1 E lo i (.int (x + Int32.ofInt n))) (fun ls' hl' => kk H ls' locs hl' hR hS)
/-- rows that push a constant -/
theorem ri_r_push (X : ri_Cx p s m args meth c E D cA M) {v : Value} {n : Nat} (hrow : ∀ (H : Heap) (ls : Array Slot) (locs : List Loc) (rest : List Value), W p l e R s m args below meth c H locs k z Q (F0 m (pc + n) ls (v :: rest)) → W p l e R s m args below meth c H locs k z Q (F0 m pc ls rest)) (hv : ri_cv E v = v)
    (kk : ri_Ab p l e R s m args below meth c Q E D cA M.2.2.1 (pc + n, lo, v :: st, h, k, z)) : ri_Ab p l e R s m args below meth c Q E D cA M.2.2.1 (pc, lo, st, h, k, z) := by
  intro H ls locs hl hR hS
  have kk : W p l e R s m args below meth c H locs k z Q (F0 m (pc + n) ls (ri_cv E v :: st.map (ri_cv E))) := kk H ls locs hl hR hS
  rw [hv] at kk
  exact hrow H ls locs _ kk
end RIA
