section RII
variable {p : Program} {l : Launch} {e : Env} {R : Room} {s : State} {m : MethodId} {args : Array Value} {below : List Frame} {meth : Method} {c : Code} {Q : State → Prop} {E : ri_V} {D : va_G} {cA : Nat → ClassId} {M : ri_M} {pc k z nL d : Nat} {lo : List (Nat × Value)} {st r : List Value} {h : ri_H} {f' : ri_F} {dc : ri_O} {md : List (ri_M × ri_T)} {cal : Nat → List Value → ri_H → Option (Option Value × ri_H)}
theorem ri_fk_ok {idx t i j : Nat} (hf : ri_fk M idx t i j = true) : ∃ rr : vw_C, vwCl[t]? = some rr ∧ t < 13 ∧ i < rr.2.2 ∧ lw_tbl[j]? = some (.fieldLink M.2.2.2.2.1 idx (rr.2.1 i).1 (rr.2.1 i).2.1 (rr.2.1 i).2.2.1) := by
  unfold ri_fk at hf
  split at hf
  · next rr hr =>
    simp only [Bool.and_eq_true, Nat.blt_eq] at hf
    exact ⟨rr, hr, hf.1, hf.2.1, ri_wi_ok hf.2.2⟩
  · cases hf
theorem ri_tk_ok {q : Nat} {d : String} (hf : ri_tk q d = true) : ∃ ty, parseFieldDescriptor d = some ty ∧ ((q = 0 ∧ ty = .int) ∨ (q = 1 ∧ ty = .boolean) ∨ (q = 2 ∧ ty = .long) ∨ (q = 3 ∧ ((∃ n, ty = .object n) ∨ ∃ t, ty = .array t))) := by
  unfold ri_tk at hf
  split at hf
  · next hp => exact ⟨_, hp, Or.inl ⟨Nat.eq_of_beq_eq_true hf, rfl⟩⟩
  · next hp => exact ⟨_, hp, Or.inr (Or.inl ⟨Nat.eq_of_beq_eq_true hf, rfl⟩)⟩
  · next hp => exact ⟨_, hp, Or.inr (Or.inr (Or.inl ⟨Nat.eq_of_beq_eq_true hf, rfl⟩))⟩
  · next n hp => exact ⟨_, hp, Or.inr (Or.inr (Or.inr ⟨Nat.eq_of_beq_eq_true hf, Or.inl ⟨n, rfl⟩⟩))⟩
  · next t hp => exact ⟨_, hp, Or.inr (Or.inr (Or.inr ⟨Nat.eq_of_beq_eq_true hf, Or.inr ⟨t, rfl⟩⟩))⟩
  · cases hf
theorem ri_s2_inv {op : Int32 → Int32 → Int32} {q : Nat} (hs : ri_s2 op q pc lo st h k z = some f') : (∃ x y r, st = .int y :: .int x :: r ∧ f' = (pc + 1, lo, .int (op x y) :: r, h, k, z)) ∨ (∃ t y r, st = .int y :: .float t :: r ∧ t.toNat < 16 ∧ y.toNatClampNeg < 32 ∧ nI y.toNatClampNeg = y ∧ f' = (pc + 1, lo, .float (UInt32.ofNat (512 * q + 16 * y.toNatClampNeg + t.toNat)) :: r, h, k, z)) := by
  unfold ri_s2 at hs
  split at hs
  · exact Or.inl ⟨_, _, _, rfl, (Option.some.inj hs).symm⟩
  · next y t r =>
    cases hg : (Nat.blt t.toNat 16 && (Nat.blt y.toNatClampNeg 32 && decide (nI y.toNatClampNeg = y))) with
    | false => rw [hg] at hs; cases hs
    | true =>
      rw [hg] at hs
      simp only [Bool.and_eq_true, Nat.blt_eq, decide_eq_true_eq] at hg
      exact Or.inr ⟨t, y, r, rfl, hg.1, hg.2.1, hg.2.2, (Option.some.inj hs).symm⟩
  · cases hs
theorem ri_cv_s {q j : Nat} {t : UInt32} (hq : q = 1 ∨ q = 2) (ht : t.toNat < 16) (hj : j < 32) : ri_cv E (.float (UInt32.ofNat (512 * q + 16 * j + t.toNat))) = .int (if q = 1 then ri_ush (ri_sem E.2.2 t.toNat) j else ri_shr (ri_sem E.2.2 t.toNat) j) := by
  show Value.int (ri_sem E.2.2 (UInt32.ofNat (512 * q + 16 * j + t.toNat)).toNat) = _
  rw [ri_u32 (by omega), ri_sem_s hq ht hj, ri_sem_0 ht]
theorem ri_r_min (X : ri_Cx p s m args meth c E D cA M) {x y : Value} {b : Bool} {idx i : Nat} (hI : ri_isI x = true) (hJ : ri_isI y = true) (hbb : ri_hd 2 (ri_ic E y) (ri_ic E x) = b) (hw : ri_wt r ≤ 8) (hfr : 1 ≤ R.frames) (hlo : 60 ≤ R.locals) (hk : k ≤ R.cells) (hz : z ≤ R.slots) (w1 : lw_tbl[i]? = some (.methodLink M.2.2.2.2.1 idx Lib.Math.min.name)) (hd : decode M.2.1 pc = .ok (.invokestatic idx, 3))
    (kk : ri_Ab p l e R s m args below meth c Q E D cA M.2.2.1 (pc + 3, lo, (bif b then y else x) :: r, h, k, z)) : ri_Ab p l e R s m args below meth c Q E D cA M.2.2.1 (pc, lo, y :: x :: r, h, k, z) := by
  obtain ⟨hx, hb, hml, hown, hts, -⟩ := X
  intro H ls locs hl hR hS
  have kk : W p l e R s m args below meth c H locs k z Q (F0 m (pc + 3) ls (ri_cv E (bif b then y else x) :: r.map (ri_cv E))) := kk H ls locs hl hR hS
  have hwt : ((r.map (ri_cv E)).map fun v => v.category).sum ≤ 8 := by rw [ri_wt_cv]; exact hw
  show W p l e R s m args below meth c H locs k z Q (F0 m pc ls (ri_cv E y :: ri_cv E x :: r.map (ri_cv E)))
  rw [ri_isI_cv hI, ri_isI_cv hJ]
  refine va_mmin hx hb (by rw [hml]; exact hl.1.symm) hown (ri_wd hts w1 rfl) (ri_wd hts ri_w_mns rfl) (ri_wd hts ri_w_mi rfl) (ri_wd hts ri_w_mnc rfl) hfr (by omega) hk hz hd ?_
  have hbb : decide (ri_ic E y < ri_ic E x) = b := hbb
  cases b with
  | true => rw [if_pos (of_decide_eq_true hbb), ← ri_isI_cv hJ]; exact kk
  | false => rw [if_neg (of_decide_eq_false hbb), ← ri_isI_cv hI]; exact kk
theorem ri_r_max (X : ri_Cx p s m args meth c E D cA M) {x y : Value} {b : Bool} {idx i : Nat} (hI : ri_isI x = true) (hJ : ri_isI y = true) (hbb : ri_hd 2 (ri_ic E x) (ri_ic E y) = b) (hw : ri_wt r ≤ 8) (hfr : 1 ≤ R.frames) (hlo : 60 ≤ R.locals) (hk : k ≤ R.cells) (hz : z ≤ R.slots) (w1 : lw_tbl[i]? = some (.methodLink M.2.2.2.2.1 idx Lib.Math.max.name)) (hd : decode M.2.1 pc = .ok (.invokestatic idx, 3))
    (kk : ri_Ab p l e R s m args below meth c Q E D cA M.2.2.1 (pc + 3, lo, (bif b then y else x) :: r, h, k, z)) : ri_Ab p l e R s m args below meth c Q E D cA M.2.2.1 (pc, lo, y :: x :: r, h, k, z) := by
  obtain ⟨hx, hb, hml, hown, hts, -⟩ := X
  intro H ls locs hl hR hS
  have kk : W p l e R s m args below meth c H locs k z Q (F0 m (pc + 3) ls (ri_cv E (bif b then y else x) :: r.map (ri_cv E))) := kk H ls locs hl hR hS
  have hwt : ((r.map (ri_cv E)).map fun v => v.category).sum ≤ 8 := by rw [ri_wt_cv]; exact hw
  show W p l e R s m args below meth c H locs k z Q (F0 m pc ls (ri_cv E y :: ri_cv E x :: r.map (ri_cv E)))
  rw [ri_isI_cv hI, ri_isI_cv hJ]
  refine va_mmax hx hb (by rw [hml]; exact hl.1.symm) hown (ri_wd hts w1 rfl) (ri_wd hts ri_w_mxs rfl) (ri_wd hts ri_w_mi rfl) (ri_wd hts ri_w_mxc rfl) hfr (by omega) hk hz hd ?_
  have hbb : decide (ri_ic E x < ri_ic E y) = b := hbb
  cases b with
  | true => rw [if_pos (of_decide_eq_true hbb), ← ri_isI_cv hJ]; exact kk
  | false => rw [if_neg (of_decide_eq_false hbb), ← ri_isI_cv hI]; exact kk
/-- a call that the abstract machine makes holds of the machine -/
theorem ri_snd_inv (X : ri_Cx p s m args meth c E D cA M) (C : ri_Ca l E D cA md cal d M R) {ins : Instr} {idx : Nat} {aux : List Nat} (hd : decode M.2.1 pc = .ok (ins, 3)) (hi : (ins = .invokevirtual idx ∧ ri_ivV md M idx aux = true) ∨ (ins = .invokespecial idx ∧ ri_ivI md M idx aux = true) ∨ (ins = .invokestatic idx ∧ ri_ivS md M idx aux = true))
    (hdc : ∀ q ∈ dc, ri_hd q.1 (ri_ic E q.2.1) (ri_ic E q.2.2.1) = q.2.2.2) (hs : ri_inv dc cal (ri_bud md) M pc aux lo st h k z = some f') (kk : ri_Ab p l e R s m args below meth c Q E D cA M.2.2.1 f') : ri_Ab p l e R s m args below meth c Q E D cA M.2.2.1 (pc, lo, st, h, k, z) := by
  obtain ⟨hmk, hcal, hc1, hc2, hfr, hlo⟩ := C
  rcases hi with ⟨rfl, hi⟩ | ⟨rfl, hi⟩ | ⟨rfl, hi⟩
  · unfold ri_ivV at hi
    split at hi
    · next i =>
      unfold ri_inv at hs
      split at hs
      · next he => cases he
      · next he => cases he
      · split at hs
        · next n r =>
          cases hg : (Nat.ble 1 n && (Nat.ble n 4 && Nat.ble (ri_wt r) 8)) with
          | false => rw [hg] at hs; cases hs
          | true =>
            rw [hg] at hs
            simp only [Bool.and_eq_true, Nat.ble_eq] at hg
            obtain ⟨n1, n2, rfl⟩ := ri_new_inv hs
            rw [List.length_map] at n2 kk
            exact ri_r_clone X hg.1 hg.2.1 hg.2.2 (ri_wi_ok hi) (by omega) (by omega) (by omega) (by omega) hd kk
        · cases hs
      · next he => cases he
      · next he => cases he
      · next he => cases he
      · cases hs
    · next j n t i i3 i2 =>
      split at hi
      · next q rr hq hr =>
        simp only [Bool.and_eq_true, Nat.blt_eq, decide_eq_true_eq] at hi
        obtain ⟨ys, as', r, q', v, h', y1, y2, y3, y4, y5, y6, rfl, y7⟩ := ri_inv_c (Or.inl rfl) hs
        cases hq.symm.trans y2
        rcases y7 with ⟨y8, -⟩ | ⟨-, -, b, q0, rfl, rfl, g1, g2⟩ | ⟨y8, -⟩
        · cases y8
        · obtain ⟨n', hn'⟩ := hmk j q hq
          refine ri_r_virt X (hcal j q _ h v h' hq y3) (ri_mkn hn' hi.2.2.2.2) y1 hfr hlo y4 g1 (by rw [g2]; exact hi.1) (by rw [g2]; exact hr) (ri_wi_ok hi.2.1) (ri_wi_ok hi.2.2.2.1) (ri_wi_ok hi.2.2.1) (by omega) (by omega) hd ?_
          rintro w hw ⟨rfl, rfl⟩
          exact kk
        · cases y8
      · cases hi
    · next j n t i i3 i2 =>
      split at hi
      · next q hq =>
        simp only [Bool.and_eq_true, decide_eq_true_eq] at hi
        obtain ⟨ys, as', r, q', v, h', y1, y2, y3, y4, y5, y6, rfl, y7⟩ := ri_inv_c (Or.inr (Or.inr (Or.inr (Or.inl rfl)))) hs
        cases hq.symm.trans y2
        rcases y7 with ⟨y8, -⟩ | ⟨-, y8, -⟩ | ⟨-, rfl, rfl⟩
        · cases y8
        · exact absurd rfl y8
        · obtain ⟨n', hn'⟩ := hmk j q hq
          refine ri_r_virS X (hcal j q _ h v h' hq y3) (ri_mkn hn' hi.2.2.2) y1 hfr hlo y4 (ri_wi_ok hi.1) (ri_wi_ok hi.2.2.1) (ri_wi_ok hi.2.1) (by omega) (by omega) hd ?_
          rintro w hw ⟨rfl, rfl⟩
          exact kk
      · cases hi
    · cases hi
  · unfold ri_ivI at hi
    split at hi
    · next i =>
      unfold ri_inv at hs
      split at hs
      · split at hs
        · next b r =>
          cases hg : Nat.ble (ri_wt r) 8 with
          | false => rw [hg] at hs; cases hs
          | true =>
            rw [hg] at hs
            have hs := Option.some.inj hs
            subst hs
            exact ri_r_obj X (Nat.ble_eq.mp hg) (by omega) (by omega) (ri_wi_ok hi) hd kk
        · cases hs
      · next he => cases he
      · next he => cases he
      · next he => cases he
      · next he => cases he
      · next he => cases he
      · cases hs
    · next kd j n t i i2 =>
      split at hi
      · next q hq =>
        simp only [Bool.and_eq_true, Bool.or_eq_true, Nat.beq_eq, decide_eq_true_eq] at hi
        obtain ⟨hkd, hl, hi2, hnm, hrt, hpn⟩ := hi
        obtain ⟨ys, as', r, q', v, h', y1, y2, y3, y4, y5, y6, rfl, y7⟩ := ri_inv_c (by omega) hs
        cases hq.symm.trans y2
        rcases y7 with ⟨y8, -⟩ | ⟨-, -, b, q0, rfl, rfl, g1, g2⟩ | ⟨y8, -⟩
        · omega
        · obtain ⟨n', hn'⟩ := hmk j q hq
          refine ri_r_ctor X (hcal j q _ h v h' hq y3) (ri_mkn hn' hpn) y1 hfr hlo y4 hnm hrt (hl.imp ri_wi_ok ri_wi_ok) (ri_wi_ok hi2) (by omega) (by omega) hd ?_
          rintro w hw ⟨rfl, rfl⟩
          exact kk
        · omega
      · cases hi
    · cases hi
  · unfold ri_ivS at hi
    split at hi
    · next i =>
      unfold ri_inv at hs
      split at hs
      · next he => cases he
      · split at hs
        · next n dp b sp a r =>
          cases hg : Nat.ble (ri_wt r) 8 with
          | false => rw [hg] at hs; cases hs
          | true =>
            rw [hg] at hs
            dsimp only [cond_true] at hs
            split at hs
            · next h' hcp =>
              have hs := Option.some.inj hs
              subst hs
              unfold ri_copy at hcp
              split at hcp
              · next rb =>
                split at hcp
                · next qb hqb =>
                  obtain ⟨tb, ysb⟩ := qb
                  dsimp only at hcp
                  cases hg2 : ((Nat.beq tb 13 || Nat.beq tb 15) && (!decide (sp < 0) && (!decide (dp < 0) && (!decide (n < 0) && Nat.ble (dp.toNatClampNeg + n.toNatClampNeg) ysb.length)))) with
                  | false => rw [hg2] at hcp; cases hcp
                  | true =>
                    rw [hg2] at hcp
                    simp only [Bool.and_eq_true, Bool.or_eq_true, Nat.beq_eq, Bool.not_eq_true', decide_eq_false_iff_not, Nat.ble_eq] at hg2
                    obtain ⟨htb, h1, h2, h3, h5⟩ := hg2
                    dsimp only [cond_true] at hcp
                    split at hcp
                    · next ra =>
                      split at hcp
                      · next qa hqa =>
                        obtain ⟨ta, xsa⟩ := qa
                        dsimp only at hcp
                        cases hg3 : (Nat.beq ta tb && (Nat.ble (sp.toNatClampNeg + n.toNatClampNeg) xsa.length && ((xsa.drop sp.toNatClampNeg).take n.toNatClampNeg).all (fun v => bif Nat.beq tb 13 then ri_isI v else ri_isL v))) with
                        | false => rw [hg3] at hcp; cases hcp
                        | true =>
                          rw [hg3] at hcp
                          have hcp := Option.some.inj hcp
                          subst hcp
                          simp only [Bool.and_eq_true, Nat.beq_eq, Nat.ble_eq, List.all_eq_true] at hg3
                          obtain ⟨rfl, h4, hall⟩ := hg3
                          refine ri_r_copy X (ra := E.1 + ra) (xs := xsa) rfl (fun H locs hR hS => ⟨_, (hR.2 ra _ hqa).2 (by show 13 ≤ ta; omega) (by show ta ≤ 18; omega), (ri_arr X.2.2.2.2.2.1 (t := ta) (by omega) (by omega)).1 _ _, (fun h => by cases h), arrV_size _ _ _, fun j hj => arrV_read _ _ hj⟩) hqb htb h1 h2 h3 h4 h5 (fun i hi => ?_) (ri_wi_ok hi) (Nat.ble_eq.mp hg) (by omega) (by omega) hd kk
                          have hlt : sp.toNatClampNeg + i < xsa.length := by omega
                          have hm : xsa.getD (sp.toNatClampNeg + i) .null ∈ (xsa.drop sp.toNatClampNeg).take n.toNatClampNeg := by
                            rw [List.getD_eq_getElem?_getD, List.getElem?_eq_getElem hlt]
                            refine List.mem_of_getElem? (i := i) ?_
                            rw [List.getElem?_take_of_lt hi, List.getElem?_drop, List.getElem?_eq_getElem hlt]
                            rfl
                          have hv := hall _ hm
                          rcases htb with rfl | rfl
                          · rw [ri_isI_cv hv]; rfl
                          · obtain ⟨x, -, hx2⟩ := ri_isL_cv (E := E) hv
                            rw [hx2]; rfl
                      · cases hcp
                    · next x =>
                      cases hg3 : (Nat.beq tb 13 && (Nat.ble 1 x && Nat.ble x 4 && Nat.ble (sp.toNatClampNeg + n.toNatClampNeg) (ri_xl x).length)) with
                      | false => rw [hg3] at hcp; cases hcp
                      | true =>
                        rw [hg3] at hcp
                        have hcp := Option.some.inj hcp
                        subst hcp
                        simp only [Bool.and_eq_true, Nat.beq_eq, Nat.ble_eq] at hg3
                        obtain ⟨rfl, ⟨hx1, hx4⟩, h4⟩ := hg3
                        obtain ⟨t, e1, -, cell, c1, c2, c3, c4, c5, c6, c7⟩ := X.2.2.2.2.2.2.1.1 x hx1 hx4
                        refine ri_r_copy X (ra := t) (t := 13) (xs := (ri_xl x).map Value.int) (by show va_rf (E.2.1 x) = _; rw [e1]; rfl) (fun H locs hR hS => ⟨cell, by rw [hS.2.1 t (Array.getElem?_eq_some_iff.mp c1).1 c7]; exact c1, c2, c3, by rw [List.length_map]; exact c4, fun j hj => ?_⟩) hqb htb h1 h2 h3 (by rw [List.length_map]; exact h4) h5 (fun i hi => ?_) (ri_wi_ok hi) (Nat.ble_eq.mp hg) (by omega) (by omega) hd kk
                        · rw [List.length_map] at hj
                          rw [c5 j hj, List.getD_eq_getElem?_getD, List.getD_eq_getElem?_getD, List.getElem?_map, List.getElem?_eq_getElem hj]
                          rfl
                        · have hlt : sp.toNatClampNeg + i < (ri_xl x).length := by omega
                          rw [List.getD_eq_getElem?_getD, List.getElem?_map, List.getElem?_eq_getElem hlt]
                          rfl
                    · cases hcp
                · cases hcp
              · cases hcp
            · cases hs
        · cases hs
      · next he => cases he
      · next he => cases he
      · next he => cases he
      · next he => cases he
      · cases hs
    · next i =>
      unfold ri_inv at hs
      split at hs
      · next he => cases he
      · next he => cases he
      · next he => cases he
      · split at hs
        · next y x r =>
          cases hg : (Nat.ble (ri_wt r) 8 && (Nat.ble k M.2.2.2.2.2.1 && Nat.ble z M.2.2.2.2.2.2)) with
          | false => rw [hg] at hs; cases hs
          | true =>
            rw [hg] at hs
            simp only [Bool.and_eq_true, Nat.ble_eq] at hg
            dsimp only [cond_true] at hs
            split at hs
            · next b hb =>
              have hs := Option.some.inj hs
              subst hs
              obtain ⟨b1, b2, b3⟩ := ri_cmp_inv hdc hb
              exact ri_r_min X b2 b1 b3 hg.1 (by omega) (by omega) (by omega) (by omega) (ri_wi_ok hi) hd kk
            · cases hs
        · cases hs
      · next he => cases he
      · next he => cases he
      · cases hs
    · next i =>
      unfold ri_inv at hs
      split at hs
      · next he => cases he
      · next he => cases he
      · next he => cases he
      · next he => cases he
      · split at hs
        · next y x r =>
          cases hg : (Nat.ble (ri_wt r) 8 && (Nat.ble k M.2.2.2.2.2.1 && Nat.ble z M.2.2.2.2.2.2)) with
          | false => rw [hg] at hs; cases hs
          | true =>
            rw [hg] at hs
            simp only [Bool.and_eq_true, Nat.ble_eq] at hg
            dsimp only [cond_true] at hs
            split at hs
            · next b hb =>
              have hs := Option.some.inj hs
              subst hs
              obtain ⟨b1, b2, b3⟩ := ri_cmp_inv hdc hb
              exact ri_r_max X b1 b2 b3 hg.1 (by omega) (by omega) (by omega) (by omega) (ri_wi_ok hi) hd kk
            · cases hs
        · cases hs
      · next he => cases he
      · cases hs
    · next j n t i i2 =>
      split at hi
      · next q hq =>
        simp only [Bool.and_eq_true, decide_eq_true_eq] at hi
        obtain ⟨ys, as', r, q', v, h', y1, y2, y3, y4, y5, y6, rfl, y7⟩ := ri_inv_c (Or.inr (Or.inr (Or.inl rfl))) hs
        cases hq.symm.trans y2
        rcases y7 with ⟨-, rfl, rfl⟩ | ⟨y8, -⟩ | ⟨y8, -⟩
        · obtain ⟨n', hn'⟩ := hmk j q hq
          refine ri_r_stat X (hcal j q _ h v h' hq y3) (ri_mkn hn' hi.2.2) y1 hfr hlo y4 (ri_wi_ok hi.1) (ri_wi_ok hi.2.1) (by omega) (by omega) hd ?_
          rintro w hw ⟨rfl, rfl⟩
          exact kk
        · exact absurd rfl y8
        · cases y8
      · cases hi
    · cases hi
end RII
