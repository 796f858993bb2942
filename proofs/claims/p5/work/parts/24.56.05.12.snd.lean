section RIJ
variable {p : Program} {l : Launch} {e : Env} {R : Room} {s : State} {m : MethodId} {args : Array Value} {below : List Frame} {meth : Method} {c : Code} {Q : State → Prop} {E : ri_V} {D : va_G} {cA : Nat → ClassId} {M : ri_M} {pc k z nL d : Nat} {lo : List (Nat × Value)} {st r : List Value} {h : ri_H} {f' : ri_F} {dc : ri_O} {md : List (ri_M × ri_T)} {cal : Nat → List Value → ri_H → Option (Option Value × ri_H)}
set_option maxHeartbeats 4000000 in
/-- A STEP of the abstract machine holds of the machine -/
theorem ri_snd (X : ri_Cx p s m args meth c E D cA M) (C : ri_Ca l E D cA md cal d M R) (hdc : ∀ q ∈ dc, ri_hd q.1 (ri_ic E q.2.1) (ri_ic E q.2.2.1) = q.2.2.2) {en : ri_En} (hok : ri_ok md M pc en = true) (hs : ri_step dc cal (ri_bud md) M en pc lo st h k z = some f')
    (kk : ri_Ab p l e R s m args below meth c Q E D cA M.2.2.1 f') : ri_Ab p l e R s m args below meth c Q E D cA M.2.2.1 (pc, lo, st, h, k, z) := by
  obtain ⟨hd0, hp⟩ := (Bool.and_eq_true _ _).mp hok
  have hd := of_decide_eq_true hd0
  clear hd0 hok
  obtain ⟨i, ln, aux, cv⟩ := en
  dsimp only at hd
  have ⟨hx, hb, hml, hown, hts, hK, hX, hnm, hE⟩ := X
  have hc1 := C.2.2.1
  have hc2 := C.2.2.2.1
  cases i with
  | aload_n n =>
    have e1 : ln = 1 := Nat.eq_of_beq_eq_true hp
    subst e1
    obtain ⟨v, hv, ht, rfl⟩ := ri_ld_inv (t := ri_isA) (i := n.val) (n := 1) hs
    exact ri_r_ald X hv ht (Or.inl ⟨n, rfl, rfl, hd⟩) kk
  | iload_n n =>
    have e1 : ln = 1 := Nat.eq_of_beq_eq_true hp
    subst e1
    obtain ⟨v, hv, ht, rfl⟩ := ri_ld_inv (t := ri_isI) (i := n.val) (n := 1) hs
    exact ri_r_ild X hv ht (Or.inl ⟨n, rfl, rfl, hd⟩) kk
  | aload n =>
    have e1 : ln = 2 := Nat.eq_of_beq_eq_true hp
    subst e1
    obtain ⟨v, hv, ht, rfl⟩ := ri_ld_inv (t := ri_isA) (i := n) (n := 2) hs
    exact ri_r_ald X hv ht (Or.inr ⟨rfl, hd⟩) kk
  | iload n =>
    have e1 : ln = 2 := Nat.eq_of_beq_eq_true hp
    subst e1
    obtain ⟨v, hv, ht, rfl⟩ := ri_ld_inv (t := ri_isI) (i := n) (n := 2) hs
    exact ri_r_ild X hv ht (Or.inr ⟨rfl, hd⟩) kk
  | lload_n n =>
    have e1 : ln = 1 := Nat.eq_of_beq_eq_true hp
    subst e1
    obtain ⟨v, hv, ht, rfl⟩ := ri_ld_inv (t := ri_isL) (i := n.val) (n := 1) hs
    exact ri_r_lld X hv ht rfl hd kk
  | astore_n n =>
    have e1 : ln = 1 := Nat.eq_of_beq_eq_true hp
    subst e1
    obtain ⟨v, r, rfl, ht, hn, rfl⟩ := ri_sto_inv (t := ri_isA) (i := n.val) (n := 1) hs
    exact ri_r_ast X ht hn (Or.inl ⟨n, rfl, rfl, hd⟩) kk
  | istore_n n =>
    have e1 : ln = 1 := Nat.eq_of_beq_eq_true hp
    subst e1
    obtain ⟨v, r, rfl, ht, hn, rfl⟩ := ri_sto_inv (t := ri_isI) (i := n.val) (n := 1) hs
    exact ri_r_ist X ht hn (Or.inl ⟨n, rfl, rfl, hd⟩) kk
  | astore n =>
    have e1 : ln = 2 := Nat.eq_of_beq_eq_true hp
    subst e1
    obtain ⟨v, r, rfl, ht, hn, rfl⟩ := ri_sto_inv (t := ri_isA) (i := n) (n := 2) hs
    exact ri_r_ast X ht hn (Or.inr ⟨rfl, hd⟩) kk
  | istore n =>
    have e1 : ln = 2 := Nat.eq_of_beq_eq_true hp
    subst e1
    obtain ⟨v, r, rfl, ht, hn, rfl⟩ := ri_sto_inv (t := ri_isI) (i := n) (n := 2) hs
    exact ri_r_ist X ht hn (Or.inr ⟨rfl, hd⟩) kk
  | iinc i n =>
    have e1 : ln = 3 := Nat.eq_of_beq_eq_true hp
    subst e1
    simp only [ri_step] at hs
    split at hs
    · next x hv =>
      cases hg : Nat.blt i M.2.2.1 with
      | false => rw [hg] at hs; cases hs
      | true =>
        rw [hg] at hs
        have hs := Option.some.inj hs
        subst hs
        exact ri_r_iinc X hv (by simpa [Nat.blt_eq] using hg) hd kk
    · cases hs
  | iconst n =>
    have e1 : ln = 1 := Nat.eq_of_beq_eq_true hp
    subst e1
    have hs := Option.some.inj hs
    subst hs
    exact ri_r_push X (fun H ls locs rest w => lv_iconst hx hb hd rfl w) rfl kk
  | bipush n =>
    have e1 : ln = 2 := Nat.eq_of_beq_eq_true hp
    subst e1
    have hs := Option.some.inj hs
    subst hs
    exact ri_r_push X (fun H ls locs rest w => lv_bipush hx hb hd rfl w) rfl kk
  | sipush n =>
    have e1 : ln = 3 := Nat.eq_of_beq_eq_true hp
    subst e1
    have hs := Option.some.inj hs
    subst hs
    exact ri_r_push X (fun H ls locs rest w => lv_sipush hx hb hd rfl w) rfl kk
  | lconst n =>
    have e1 : ln = 1 := Nat.eq_of_beq_eq_true hp
    subst e1
    have hs := Option.some.inj hs
    subst hs
    exact ri_r_push X (fun H ls locs rest w => lv_lconst hx hb hd rfl w) rfl kk
  | ldc idx =>
    obtain ⟨hp1, hq0⟩ := (Bool.and_eq_true _ _).mp hp
    clear hp
    have hp := hq0
    clear hq0
    have e1 : ln = 2 := Nat.eq_of_beq_eq_true hp1
    subst e1
    simp only [ri_step] at hs
    split at hs
    · next x =>
      have hs := Option.some.inj hs
      subst hs
      dsimp only at hp
      split at hp
      · next i =>
        exact ri_r_push X (fun H ls locs rest w => lv_ldc hx hb hown (ri_wd hts (ri_wi_ok hp) rfl) hd w) rfl kk
      · cases hp
    · have hs := Option.some.inj hs
      subst hs
      simp only [Bool.and_eq_true, decide_eq_true_eq, Nat.beq_eq] at hp
      obtain ⟨hp2, rfl⟩ := hp
      exact ri_r_ldcS X hp2 hd kk
    · cases hs
  | ldc_w idx =>
    obtain ⟨hp1, hq0⟩ := (Bool.and_eq_true _ _).mp hp
    clear hp
    have hp := hq0
    clear hq0
    have e1 : ln = 3 := Nat.eq_of_beq_eq_true hp1
    subst e1
    simp only [ri_step] at hs
    split at hs
    · next x =>
      have hs := Option.some.inj hs
      subst hs
      dsimp only at hp
      split at hp
      · next i =>
        exact ri_r_push X (fun H ls locs rest w => lv_ldcw hx hb hown (ri_wd hts (ri_wi_ok hp) rfl) hd w) rfl kk
      · cases hp
    · cases hs
  | ldc2_w idx =>
    obtain ⟨hp1, hq0⟩ := (Bool.and_eq_true _ _).mp hp
    clear hp
    have hp := hq0
    clear hq0
    have e1 : ln = 3 := Nat.eq_of_beq_eq_true hp1
    subst e1
    simp only [ri_step] at hs
    split at hs
    · next x =>
      have hs := Option.some.inj hs
      subst hs
      dsimp only at hp
      split at hp
      · next i =>
        exact ri_r_push X (fun H ls locs rest w => lv_ldc2 hx hb hown (ri_wd hts (ri_wi_ok hp) rfl) hd w) rfl kk
      · cases hp
    · cases hs
  | iadd =>
    have e1 : ln = 1 := Nat.eq_of_beq_eq_true hp
    subst e1
    obtain ⟨x, y, r, rfl, rfl⟩ := ri_i2_inv hs
    exact ri_r_stk (fun H ls locs w => lv_iadd hx hb hd w) kk
  | isub =>
    have e1 : ln = 1 := Nat.eq_of_beq_eq_true hp
    subst e1
    obtain ⟨x, y, r, rfl, rfl⟩ := ri_i2_inv hs
    exact ri_r_stk (fun H ls locs w => lv_isub hx hb hd w) kk
  | imul =>
    have e1 : ln = 1 := Nat.eq_of_beq_eq_true hp
    subst e1
    obtain ⟨x, y, r, rfl, rfl⟩ := ri_i2_inv hs
    exact ri_r_stk (fun H ls locs w => lv_imul hx hb hd w) kk
  | iand =>
    have e1 : ln = 1 := Nat.eq_of_beq_eq_true hp
    subst e1
    obtain ⟨x, y, r, rfl, rfl⟩ := ri_i2_inv hs
    exact ri_r_stk (fun H ls locs w => lv_iand hx hb hd w) kk
  | ior =>
    have e1 : ln = 1 := Nat.eq_of_beq_eq_true hp
    subst e1
    obtain ⟨x, y, r, rfl, rfl⟩ := ri_i2_inv hs
    exact ri_r_stk (fun H ls locs w => lv_ior hx hb hd w) kk
  | ixor =>
    have e1 : ln = 1 := Nat.eq_of_beq_eq_true hp
    subst e1
    obtain ⟨x, y, r, rfl, rfl⟩ := ri_i2_inv hs
    exact ri_r_stk (fun H ls locs w => lv_ixor hx hb hd w) kk
  | ishl =>
    have e1 : ln = 1 := Nat.eq_of_beq_eq_true hp
    subst e1
    obtain ⟨x, y, r, rfl, rfl⟩ := ri_i2_inv hs
    exact ri_r_stk (fun H ls locs w => lv_ishl hx hb hd w) kk
  | idiv =>
    have e1 : ln = 1 := Nat.eq_of_beq_eq_true hp
    subst e1
    obtain ⟨x, y, r, rfl, hy, rfl⟩ := ri_d2_inv hs
    exact ri_r_stk (fun H ls locs w => lv_idiv hx hb hd hy w) kk
  | irem =>
    have e1 : ln = 1 := Nat.eq_of_beq_eq_true hp
    subst e1
    obtain ⟨x, y, r, rfl, hy, rfl⟩ := ri_d2_inv hs
    exact ri_r_stk (fun H ls locs w => lv_irem hx hb hd hy w) kk
  | ladd =>
    have e1 : ln = 1 := Nat.eq_of_beq_eq_true hp
    subst e1
    obtain ⟨x, y, r, rfl, rfl⟩ := ri_l2_inv hs
    exact ri_r_stk (fun H ls locs w => lv_ladd hx hb hd w) kk
  | lmul =>
    have e1 : ln = 1 := Nat.eq_of_beq_eq_true hp
    subst e1
    obtain ⟨x, y, r, rfl, rfl⟩ := ri_l2_inv hs
    exact ri_r_stk (fun H ls locs w => lv_lmul hx hb hd w) kk
  | lor =>
    have e1 : ln = 1 := Nat.eq_of_beq_eq_true hp
    subst e1
    obtain ⟨x, y, r, rfl, rfl⟩ := ri_l2_inv hs
    exact ri_r_stk (fun H ls locs w => lv_lor hx hb hd w) kk
  | iushr =>
    have e1 : ln = 1 := Nat.eq_of_beq_eq_true hp
    subst e1
    rcases ri_s2_inv hs with ⟨x, y, r, rfl, rfl⟩ | ⟨t, y, r, rfl, h1, h2, h3, rfl⟩
    · exact ri_r_stk (fun H ls locs w => lv_iushr hx hb hd rfl w) kk
    · refine ri_r_stk (fun H ls locs w => ?_) kk
      rw [List.map_cons, ri_cv_s (Or.inl rfl) h1 h2, if_pos rfl] at w
      exact lv_iushr hx hb hd (by unfold ri_ush; rw [h3]) w
  | ishr =>
    have e1 : ln = 1 := Nat.eq_of_beq_eq_true hp
    subst e1
    rcases ri_s2_inv hs with ⟨x, y, r, rfl, rfl⟩ | ⟨t, y, r, rfl, h1, h2, h3, rfl⟩
    · exact ri_r_stk (fun H ls locs w => lv_ishr hx hb hd w) kk
    · refine ri_r_stk (fun H ls locs w => ?_) kk
      rw [List.map_cons, ri_cv_s (Or.inr rfl) h1 h2, if_neg (by decide)] at w
      unfold ri_shr at w
      rw [h3] at w
      exact lv_ishr hx hb hd w
  | i2b =>
    have e1 : ln = 1 := Nat.eq_of_beq_eq_true hp
    subst e1
    simp only [ri_step] at hs
    split at hs
    · have hs := Option.some.inj hs
      subst hs
      exact ri_r_stk (fun H ls locs w => lv_i2b hx hb hd rfl w) kk
    · next t r =>
      cases hg : (Nat.ble 512 t.toNat && Nat.blt t.toNat 1536) with
      | false => rw [hg] at hs; cases hs
      | true =>
        rw [hg] at hs
        have hs := Option.some.inj hs
        subst hs
        simp only [Bool.and_eq_true, Nat.ble_eq, Nat.blt_eq] at hg
        refine ri_r_stk (fun H ls locs w => lv_i2b hx hb hd (v := ri_sem E.2.2 (t.toNat + 1024)) ?_ ?_) kk
        · exact (ri_sem_b hg.1 hg.2).symm
        · have e2 : ri_cv E (.float (UInt32.ofNat (t.toNat + 1024))) = .int (ri_sem E.2.2 (t.toNat + 1024)) := by
            show Value.int (ri_sem E.2.2 (UInt32.ofNat (t.toNat + 1024)).toNat) = _
            rw [ri_u32 (by omega)]
          rw [List.map_cons, e2] at w
          exact w
    · cases hs
  | i2c =>
    have e1 : ln = 1 := Nat.eq_of_beq_eq_true hp
    subst e1
    simp only [ri_step] at hs
    split at hs
    · have hs := Option.some.inj hs
      subst hs
      exact ri_r_stk (fun H ls locs w => lv_i2c hx hb hd rfl w) kk
    · cases hs
  | i2l =>
    have e1 : ln = 1 := Nat.eq_of_beq_eq_true hp
    subst e1
    simp only [ri_step] at hs
    split at hs
    · have hs := Option.some.inj hs
      subst hs
      exact ri_r_stk (fun H ls locs w => lv_i2l hx hb hd rfl w) kk
    · cases hs
  | lshl =>
    have e1 : ln = 1 := Nat.eq_of_beq_eq_true hp
    subst e1
    simp only [ri_step] at hs
    split at hs
    · have hs := Option.some.inj hs
      subst hs
      exact ri_r_stk (fun H ls locs w => lv_lshl hx hb hd rfl w) kk
    · cases hs
  | lcmp =>
    have e1 : ln = 1 := Nat.eq_of_beq_eq_true hp
    subst e1
    simp only [ri_step] at hs
    split at hs
    · have hs := Option.some.inj hs
      subst hs
      exact ri_r_stk (fun H ls locs w => W.lcmp hx hb hd w) kk
    · cases hs
  | dup =>
    have e1 : ln = 1 := Nat.eq_of_beq_eq_true hp
    subst e1
    simp only [ri_step] at hs
    split at hs
    · next v r =>
      cases hg : Nat.beq v.category 1 with
      | false => rw [hg] at hs; cases hs
      | true =>
        rw [hg] at hs
        have hs := Option.some.inj hs
        subst hs
        exact ri_r_stk (fun H ls locs w => lv_dup hx hb hd (by rw [ri_cat]; exact Nat.eq_of_beq_eq_true hg) w) kk
    · cases hs
  | pop =>
    have e1 : ln = 1 := Nat.eq_of_beq_eq_true hp
    subst e1
    simp only [ri_step] at hs
    split at hs
    · next v r =>
      cases hg : Nat.beq v.category 1 with
      | false => rw [hg] at hs; cases hs
      | true =>
        rw [hg] at hs
        have hs := Option.some.inj hs
        subst hs
        exact ri_r_stk (fun H ls locs w => lv_pop hx hb hd (by rw [ri_cat]; exact Nat.eq_of_beq_eq_true hg) w) kk
    · cases hs
  | dup2 =>
    have e1 : ln = 1 := Nat.eq_of_beq_eq_true hp
    subst e1
    simp only [ri_step] at hs
    split at hs
    · next v w r =>
      cases hg : (Nat.beq v.category 1 && Nat.beq w.category 1) with
      | false => rw [hg] at hs; cases hs
      | true =>
        rw [hg] at hs
        have hs := Option.some.inj hs
        subst hs
        simp only [Bool.and_eq_true, Nat.beq_eq] at hg
        exact ri_r_stk (fun H ls locs w => lv_dup2_11 hx hb hd (by rw [ri_cat]; exact hg.1) (by rw [ri_cat]; exact hg.2) w) kk
    · cases hs
  | goto off =>
    obtain ⟨hp1, hq0⟩ := (Bool.and_eq_true _ _).mp hp
    clear hp
    have hp := hq0
    clear hq0
    have e1 : ln = 3 := Nat.eq_of_beq_eq_true hp1
    subst e1
    simp only [ri_step] at hs
    split at hs
    · next tgt =>
      have hs := Option.some.inj hs
      subst hs
      exact ri_r_stk (fun H ls locs w => lv_goto hx hb hd (of_decide_eq_true hp) w) kk
    · cases hs
  | ifCond cnd off =>
    obtain ⟨hp1, hq0⟩ := (Bool.and_eq_true _ _).mp hp
    clear hp
    have hp := hq0
    clear hq0
    have e1 : ln = 3 := Nat.eq_of_beq_eq_true hp1
    subst e1
    simp only [ri_step] at hs
    split at hs
    · next tgt x r =>
      obtain ⟨b, b1, b2, b3, rfl⟩ := ri_br_inv hdc hs
      exact ri_r_if X b1 b3 hd (of_decide_eq_true hp) kk
    · cases hs
  | if_icmp cnd off =>
    obtain ⟨hp1, hq0⟩ := (Bool.and_eq_true _ _).mp hp
    clear hp
    have hp := hq0
    clear hq0
    have e1 : ln = 3 := Nat.eq_of_beq_eq_true hp1
    subst e1
    simp only [ri_step] at hs
    split at hs
    · next tgt y x r =>
      obtain ⟨b, b1, b2, b3, rfl⟩ := ri_br_inv hdc hs
      exact ri_r_icmp X b1 b2 b3 hd (of_decide_eq_true hp) kk
    · cases hs
  | tableswitch df lw hw offs =>
    simp only [ri_step] at hs
    split at hs
    · next dt ts x r =>
      obtain ⟨hp1, hp2⟩ := (Bool.and_eq_true _ _).mp hp
      have hp1 := of_decide_eq_true hp1
      have hp2 := of_decide_eq_true hp2
      cases hg : (decide (x.toInt < lw) || decide (hw < x.toInt)) with
      | true =>
        rw [hg] at hs
        have hs := Option.some.inj hs
        subst hs
        simp only [Bool.or_eq_true, decide_eq_true_eq] at hg
        exact ri_r_stk (fun H ls locs w => lv_tableOut hx hb hd hg hp1 w) kk
      | false =>
        rw [hg] at hs
        simp only [Bool.or_eq_false_iff, decide_eq_false_iff_not] at hg
        dsimp only [cond_false] at hs
        split at hs
        · next tgt ht =>
          have hs := Option.some.inj hs
          subst hs
          have h2 : (offs.toList.map (fun o => (pc : Int) + o))[(x.toInt - lw).toNat]? = some (tgt : Int) := by
            rw [hp2, List.getElem?_map, ht]; rfl
          rw [List.getElem?_map] at h2
          obtain ⟨off, ho, hof⟩ := Option.map_eq_some_iff.mp h2
          exact ri_r_stk (fun H ls locs w => lv_tableIn hx hb hd hg.1 hg.2 (by rw [← Array.getElem?_toList]; exact ho) hof w) kk
        · cases hs
    · next dt ts t r =>
      obtain ⟨hp1, hp2⟩ := (Bool.and_eq_true _ _).mp hp
      have hp1 := of_decide_eq_true hp1
      cases hg : decide (0 ≤ lw) with
      | false => rw [hg] at hs; cases hs
      | true =>
        rw [hg] at hs
        dsimp only [cond_true] at hs
        split at hs
        · next hf =>
          cases hg2 : decide ((Int32.ofInt hw).toInt = hw) with
          | false => rw [hg2] at hs; cases hs
          | true =>
            rw [hg2] at hs
            have hs := Option.some.inj hs
            subst hs
            have hf := ri_fd_inv hdc hf
            have h1 : (ri_sem E.2.2 t.toNat).toInt < 0 ∨ (Int32.ofInt hw).toInt < (ri_sem E.2.2 t.toNat).toInt := ((Bool.or_eq_true _ _).mp (show (decide ((ri_sem E.2.2 t.toNat).toInt < 0) || decide ((Int32.ofInt hw).toInt < (ri_sem E.2.2 t.toNat).toInt)) = true from hf)).imp of_decide_eq_true of_decide_eq_true
            have h0 := of_decide_eq_true hg
            have hw' := of_decide_eq_true hg2
            exact ri_r_stk (fun H ls locs w => lv_tableOut hx hb hd (h1.imp (fun q => by omega) (fun q => by omega)) hp1 w) kk
        · cases hs
    · cases hs
  | getfield idx =>
    obtain ⟨hp1, hq0⟩ := (Bool.and_eq_true _ _).mp hp
    clear hp
    have hp := hq0
    clear hq0
    have e1 : ln = 3 := Nat.eq_of_beq_eq_true hp1
    subst e1
    simp only [ri_step] at hs
    split at hs
    · next t i j r0 s0 =>
      split at hs
      · next q hq =>
        cases hg : (Nat.beq q.1 t && Nat.blt t 13) with
        | false => rw [hg] at hs; cases hs
        | true =>
          rw [hg] at hs
          simp only [Bool.and_eq_true, Nat.beq_eq, Nat.blt_eq] at hg
          obtain ⟨rfl, h13⟩ := hg
          dsimp only [cond_true] at hs
          split at hs
          · next v hv =>
            have hs := Option.some.inj hs
            subst hs
            have hp : (bif Nat.blt q.1 13 then ri_fk M idx q.1 i j else _) = true := hp
            rw [show Nat.blt q.1 13 = true by simpa [Nat.blt_eq] using h13] at hp
            obtain ⟨rr, hr, -, hi, hl⟩ := ri_fk_ok hp
            exact ri_r_getf X hq h13 hv hr hi hl hd kk
          · cases hs
      · cases hs
    · next j s0 =>
      have hs := Option.some.inj hs
      subst hs
      exact ri_r_getS X (w := 0) (Or.inl ⟨rfl, rfl, ri_wi_ok hp⟩) hd kk
    · next j s0 =>
      have hs := Option.some.inj hs
      subst hs
      exact ri_r_getS X (w := 1) (Or.inr ⟨rfl, rfl, ri_wi_ok hp⟩) hd kk
    · cases hs
  | putfield idx =>
    obtain ⟨hp1, hq0⟩ := (Bool.and_eq_true _ _).mp hp
    clear hp
    have hp := hq0
    clear hq0
    have e1 : ln = 3 := Nat.eq_of_beq_eq_true hp1
    subst e1
    simp only [ri_step] at hs
    split at hs
    · next t i j q v r0 s0 =>
      split at hs
      · next cc hq =>
        cases hg : ((Nat.beq cc.1 t && Nat.blt t 13) && (Nat.blt i cc.2.length && ri_fit q v)) with
        | false => rw [hg] at hs; cases hs
        | true =>
          rw [hg] at hs
          have hs := Option.some.inj hs
          subst hs
          simp only [Bool.and_eq_true, Nat.beq_eq, Nat.blt_eq] at hg
          obtain ⟨⟨rfl, h13⟩, hil, hfit⟩ := hg
          have hp : ri_pk M idx cc.1 i j q = true := hp
          unfold ri_pk at hp
          split at hp
          · next rr hr =>
            simp only [Bool.and_eq_true, Bool.or_eq_true, Bool.not_eq_true', decide_eq_true_eq] at hp
            obtain ⟨hfk, htk, hfin⟩ := hp
            obtain ⟨rr', hr', -, hi, hl⟩ := ri_fk_ok hfk
            cases hr.symm.trans hr'
            obtain ⟨ty, hpd, hqt⟩ := ri_tk_ok htk
            refine ri_r_putf X hq h13 hil hr hi hl hpd hqt hfit ?_ hd kk
            cases hfb : (rr.2.1 i).2.2.2 with
            | false => exact Or.inl rfl
            | true =>
              rw [hfb] at hfin
              rcases hfin with hh | hh
              · cases hh
              · exact Or.inr ⟨rfl, hh⟩
          · cases hp
      · cases hs
    · cases hs
  | getstatic idx =>
    obtain ⟨hp1, hq0⟩ := (Bool.and_eq_true _ _).mp hp
    clear hp
    have hp := hq0
    clear hq0
    have e1 : ln = 3 := Nat.eq_of_beq_eq_true hp1
    subst e1
    simp only [ri_step] at hs
    split at hs
    · have hs := Option.some.inj hs
      subst hs
      exact ri_r_gets X (w := 1) (Or.inl ⟨by omega, by omega, rfl, ri_wi_ok hp⟩) hd kk
    · have hs := Option.some.inj hs
      subst hs
      exact ri_r_gets X (w := 2) (Or.inl ⟨by omega, by omega, rfl, ri_wi_ok hp⟩) hd kk
    · have hs := Option.some.inj hs
      subst hs
      exact ri_r_gets X (w := 3) (Or.inl ⟨by omega, by omega, rfl, ri_wi_ok hp⟩) hd kk
    · have hs := Option.some.inj hs
      subst hs
      exact ri_r_gets X (w := 4) (Or.inl ⟨by omega, by omega, rfl, ri_wi_ok hp⟩) hd kk
    · have hs := Option.some.inj hs
      subst hs
      exact ri_r_gets X (w := 0) (Or.inr (Or.inl ⟨rfl, ri_wi_ok hp⟩)) hd kk
    · have hs := Option.some.inj hs
      subst hs
      exact ri_r_gets X (w := 0) (Or.inr (Or.inr ⟨rfl, ri_wi_ok hp⟩)) hd kk
    · cases hs
  | new idx =>
    obtain ⟨hp1, hq0⟩ := (Bool.and_eq_true _ _).mp hp
    clear hp
    have hp := hq0
    clear hq0
    have e1 : ln = 3 := Nat.eq_of_beq_eq_true hp1
    subst e1
    dsimp only at hp
    split at hp
    · next t i1 i2 i3 =>
      split at hp
      · next rr hr =>
        simp only [Bool.and_eq_true, Nat.blt_eq] at hp
        simp only [ri_step] at hs
        split at hs
        · next fs hf =>
          obtain ⟨n1, n2, rfl⟩ := ri_new_inv hs
          exact ri_r_new X hp.1 hr hf (ri_wi_ok hp.2.1) (ri_wi_ok hp.2.2.1) (ri_wi_ok hp.2.2.2) (by omega) (by omega) hd kk
        · cases hs
      · cases hp
    · cases hp
  | newarray a =>
    obtain ⟨hp1, hq0⟩ := (Bool.and_eq_true _ _).mp hp
    clear hp
    have hp := hq0
    clear hq0
    have e1 : ln = 2 := Nat.eq_of_beq_eq_true hp1
    subst e1
    dsimp only at hp
    split at hp
    · next i1 =>
      simp only [ri_step] at hs
      split at hs
      · next n r =>
        cases hg : (!decide (n < 0) && Nat.ble n.toNatClampNeg 100000) with
        | false => rw [hg] at hs; cases hs
        | true =>
          rw [hg] at hs
          simp only [Bool.and_eq_true, Bool.not_eq_true', decide_eq_false_iff_not, Nat.ble_eq] at hg
          dsimp only [cond_true] at hs
          split at hs
          · obtain ⟨n1, n2, rfl⟩ := ri_new_inv hs
            rw [List.length_replicate] at n2 kk
            exact ri_r_newa X (Or.inl ⟨rfl, rfl, rfl⟩) hg.1 hg.2 (ri_wi_ok hp) (by omega) (by omega) hd kk
          · obtain ⟨n1, n2, rfl⟩ := ri_new_inv hs
            rw [List.length_replicate] at n2 kk
            exact ri_r_newa X (Or.inr (Or.inl ⟨rfl, rfl, rfl⟩)) hg.1 hg.2 (ri_wi_ok hp) (by omega) (by omega) hd kk
          · obtain ⟨n1, n2, rfl⟩ := ri_new_inv hs
            rw [List.length_replicate] at n2 kk
            exact ri_r_newa X (Or.inr (Or.inr (Or.inl ⟨rfl, rfl, rfl⟩))) hg.1 hg.2 (ri_wi_ok hp) (by omega) (by omega) hd kk
          · obtain ⟨n1, n2, rfl⟩ := ri_new_inv hs
            rw [List.length_replicate] at n2 kk
            exact ri_r_newa X (Or.inr (Or.inr (Or.inr ⟨rfl, rfl, rfl⟩))) hg.1 hg.2 (ri_wi_ok hp) (by omega) (by omega) hd kk
          · cases hs
      · cases hs
    · cases hp
  | anewarray idx =>
    obtain ⟨hp1, hq0⟩ := (Bool.and_eq_true _ _).mp hp
    clear hp
    have hp := hq0
    clear hq0
    have e1 : ln = 3 := Nat.eq_of_beq_eq_true hp1
    subst e1
    dsimp only at hp
    split at hp
    · next t i1 i2 =>
      simp only [ri_step] at hs
      split at hs
      · next t' tl n r he =>
        cases he
        cases hg : ((Nat.beq t 17 || Nat.beq t 18) && (!decide (n < 0) && Nat.ble n.toNatClampNeg 100000)) with
        | false => rw [hg] at hs; cases hs
        | true =>
          rw [hg] at hs
          simp only [Bool.and_eq_true, Bool.or_eq_true, Nat.beq_eq, Bool.not_eq_true', decide_eq_false_iff_not, Nat.ble_eq] at hg
          obtain ⟨ht, h1, h2⟩ := hg
          obtain ⟨n1, n2, rfl⟩ := ri_new_inv hs
          rw [List.length_replicate] at n2 kk
          rcases ht with rfl | rfl
          · obtain ⟨hp2, hp3⟩ := (Bool.and_eq_true _ _).mp hp
            exact ri_r_anew X (Or.inl ⟨rfl, rfl⟩) h1 h2 (ri_wi_ok hp2) (ri_wi_ok hp3) (by omega) (by omega) hd kk
          · obtain ⟨hp2, hp3⟩ := (Bool.and_eq_true _ _).mp hp
            exact ri_r_anew X (Or.inr ⟨rfl, rfl⟩) h1 h2 (ri_wi_ok hp2) (ri_wi_ok hp3) (by omega) (by omega) hd kk
      · cases hs
    · cases hp
  | arraylength =>
    have e1 : ln = 1 := Nat.eq_of_beq_eq_true hp
    subst e1
    simp only [ri_step] at hs
    split at hs
    · split at hs
      · next n ha =>
        have hs := Option.some.inj hs
        subst hs
        exact ri_r_alen X ha hd kk
      · cases hs
    · cases hs
  | iaload =>
    have e1 : ln = 1 := Nat.eq_of_beq_eq_true hp
    subst e1
    simp only [ri_step] at hs
    split at hs
    · split at hs
      · next v ha =>
        have hs := Option.some.inj hs
        subst hs
        rcases ri_ald_inv ha with ⟨r0, q, rfl, hq, hg, hi, hv⟩ | ⟨n, y, rfl, hn, hi, hv, rfl⟩
        · exact ri_r_ald1 X hq hi hv (Or.inl ⟨Nat.eq_of_beq_eq_true hg, hd⟩) kk
        · exact ri_r_ald2 X hi hv (Or.inl ⟨by omega, by omega, hd⟩) kk
      · cases hs
    · cases hs
  | baload =>
    have e1 : ln = 1 := Nat.eq_of_beq_eq_true hp
    subst e1
    simp only [ri_step] at hs
    split at hs
    · split at hs
      · next v ha =>
        have hs := Option.some.inj hs
        subst hs
        rcases ri_ald_inv ha with ⟨r0, q, rfl, hq, hg, hi, hv⟩ | ⟨n, y, rfl, hn, hi, hv, rfl⟩
        · simp only [ri_g24, Bool.or_eq_true, Nat.beq_eq] at hg
          rcases hg with hg | hg
          · exact ri_r_ald1 X hq hi hv (Or.inr (Or.inl ⟨hg, hd⟩)) kk
          · exact ri_r_ald1 X hq hi hv (Or.inr (Or.inr (Or.inl ⟨hg, hd⟩))) kk
        · exact ri_r_ald2 X hi hv (Or.inr ⟨by omega, hd⟩) kk
      · cases hs
    · cases hs
  | laload =>
    have e1 : ln = 1 := Nat.eq_of_beq_eq_true hp
    subst e1
    simp only [ri_step] at hs
    split at hs
    · split at hs
      · next v ha =>
        have hs := Option.some.inj hs
        subst hs
        rcases ri_ald_inv ha with ⟨r0, q, rfl, hq, hg, hi, hv⟩ | ⟨n, y, rfl, hn, hi, hv, rfl⟩
        · exact ri_r_ald1 X hq hi hv (Or.inr (Or.inr (Or.inr (Or.inl ⟨Nat.eq_of_beq_eq_true hg, hd⟩)))) kk
        · omega
      · cases hs
    · cases hs
  | aaload =>
    have e1 : ln = 1 := Nat.eq_of_beq_eq_true hp
    subst e1
    simp only [ri_step] at hs
    split at hs
    · split at hs
      · next v ha =>
        have hs := Option.some.inj hs
        subst hs
        rcases ri_ald_inv ha with ⟨r0, q, rfl, hq, hg, hi, hv⟩ | ⟨n, y, rfl, hn, hi, hv, rfl⟩
        · simp only [ri_g5, Bool.or_eq_true, Nat.beq_eq] at hg
          exact ri_r_ald1 X hq hi hv (Or.inr (Or.inr (Or.inr (Or.inr ⟨hg, hd⟩)))) kk
        · omega
      · cases hs
    · cases hs
  | iastore =>
    have e1 : ln = 1 := Nat.eq_of_beq_eq_true hp
    subst e1
    simp only [ri_step] at hs
    split at hs
    · next v i a r =>
      cases hv : ri_isI v with
      | false => rw [hv] at hs; cases hs
      | true =>
        rw [hv] at hs
        dsimp only [cond_true] at hs
        split at hs
        · next h' ha =>
          have hs := Option.some.inj hs
          subst hs
          obtain ⟨r0, q, rfl, hq, hg, hi, hlt, rfl⟩ := ri_ast_inv ha
          exact ri_r_ast1 X hq hi hlt (Or.inl ⟨Nat.eq_of_beq_eq_true hg, rfl, hv, hd⟩) kk
        · cases hs
    · cases hs
  | lastore =>
    have e1 : ln = 1 := Nat.eq_of_beq_eq_true hp
    subst e1
    simp only [ri_step] at hs
    split at hs
    · next v i a r =>
      cases hv : ri_isL v with
      | false => rw [hv] at hs; cases hs
      | true =>
        rw [hv] at hs
        dsimp only [cond_true] at hs
        split at hs
        · next h' ha =>
          have hs := Option.some.inj hs
          subst hs
          obtain ⟨r0, q, rfl, hq, hg, hi, hlt, rfl⟩ := ri_ast_inv ha
          exact ri_r_ast1 X hq hi hlt (Or.inr (Or.inr (Or.inr ⟨Nat.eq_of_beq_eq_true hg, rfl, hv, hd⟩))) kk
        · cases hs
    · cases hs
  | bastore =>
    have e1 : ln = 1 := Nat.eq_of_beq_eq_true hp
    subst e1
    simp only [ri_step] at hs
    split at hs
    · next v i a r =>
      split at hs
      · next w hw =>
        obtain ⟨hv, hn⟩ := ri_nb_ok (E := E) hw
        split at hs
        · next h' ha =>
          have hs := Option.some.inj hs
          subst hs
          obtain ⟨r0, q, rfl, hq, hg, hi, hlt, rfl⟩ := ri_ast_inv ha
          exact ri_r_ast1 X hq hi hlt (Or.inr (Or.inl ⟨Nat.eq_of_beq_eq_true hg, hv, hn, hd⟩)) kk
        · split at hs
          · next x =>
            cases hg0 : (decide (x = 0) || decide (x = 1)) with
            | false => rw [hg0] at hs; cases hs
            | true =>
              rw [hg0] at hs
              simp only [Bool.or_eq_true, decide_eq_true_eq] at hg0
              dsimp only [cond_true] at hs
              split at hs
              · next h' ha =>
                have hs := Option.some.inj hs
                subst hs
                obtain ⟨r0, q, rfl, hq, hg, hi, hlt, rfl⟩ := ri_ast_inv ha
                refine ri_r_ast1 X hq hi hlt (Or.inr (Or.inr (Or.inl ⟨Nat.eq_of_beq_eq_true hg, hv, ?_, hd⟩))) kk
                rcases hg0 with rfl | rfl <;> rfl
              · cases hs
          · cases hs
      · cases hs
    · cases hs
  | aastore =>
    have e1 : ln = 1 := Nat.eq_of_beq_eq_true hp
    subst e1
    simp only [ri_step] at hs
    split at hs
    · next w i a r =>
      split at hs
      · next qw qa hw ha0 =>
        cases hg : (Nat.beq qw.1 6 && Nat.beq qa.1 17 || (Nat.beq qw.1 3 && Nat.beq qa.1 18)) with
        | false => rw [hg] at hs; cases hs
        | true =>
          rw [hg] at hs
          simp only [Bool.or_eq_true, Bool.and_eq_true, Nat.beq_eq] at hg
          dsimp only [cond_true] at hs
          split at hs
          · next h' ha =>
            have hs := Option.some.inj hs
            subst hs
            obtain ⟨r0, q, e0, hq, hg2, hi, hlt, rfl⟩ := ri_ast_inv ha
            cases e0
            cases hq.symm.trans ha0
            exact ri_r_aast X hq hw hi hlt hg hd kk
          · cases hs
      · cases hs
    · cases hs
  | invokevirtual idx =>
    obtain ⟨hp1, hq0⟩ := (Bool.and_eq_true _ _).mp hp
    clear hp
    have hp := hq0
    clear hq0
    have e1 : ln = 3 := Nat.eq_of_beq_eq_true hp1
    subst e1
    exact ri_snd_inv X C hd (Or.inl ⟨rfl, hp⟩) hdc hs kk
  | invokespecial idx =>
    obtain ⟨hp1, hq0⟩ := (Bool.and_eq_true _ _).mp hp
    clear hp
    have hp := hq0
    clear hq0
    have e1 : ln = 3 := Nat.eq_of_beq_eq_true hp1
    subst e1
    exact ri_snd_inv X C hd (Or.inr (Or.inl ⟨rfl, hp⟩)) hdc hs kk
  | invokestatic idx =>
    obtain ⟨hp1, hq0⟩ := (Bool.and_eq_true _ _).mp hp
    clear hp
    have hp := hq0
    clear hq0
    have e1 : ln = 3 := Nat.eq_of_beq_eq_true hp1
    subst e1
    exact ri_snd_inv X C hd (Or.inr (Or.inr ⟨rfl, hp⟩)) hdc hs kk
  | checkcast idx =>
    obtain ⟨hp1, hq0⟩ := (Bool.and_eq_true _ _).mp hp
    clear hp
    have hp := hq0
    clear hq0
    have e1 : ln = 3 := Nat.eq_of_beq_eq_true hp1
    subst e1
    dsimp only at hp
    split at hp
    · next i1 =>
      simp only [ri_step] at hs
      split at hs
      · next a r =>
        split at hs
        · next q hq =>
          cases hg : Nat.beq q.1 13 with
          | false => rw [hg] at hs; cases hs
          | true =>
            rw [hg] at hs
            have hs := Option.some.inj hs
            subst hs
            exact ri_r_cast X hq (Nat.eq_of_beq_eq_true hg) (ri_wi_ok hp) hd kk
        · cases hs
      · cases hs
    · cases hp
  | _ => cases hs
end RIJ
