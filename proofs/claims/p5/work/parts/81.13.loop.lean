def la_tg : List Nat := [212, 285, 310, 323, 336, 376, 413, 450, 475, 500, 537, 562, 599, 624, 637, 674, 711, 736, 761, 774, 787, 800, 813, 838, 851, 876, 901, 926, 951, 964, 989, 1026, 1075, 1100, 1125, 1138, 1163, 1188, 1213]
section LAH
variable {p : Program} {l : Launch} {e : Env} {s : State} {m : MethodId} {below : List Frame} {meth : Method} {c : Code} {E : ri_V} {D : va_G} {cA : Nat → ClassId} {b L : Nat} {xs : Nat → Int32} {pc k z n i : Nat} {lo : List (Nat × Value)} {st r : List Value} {h : ri_H} {dc : ri_O} {d : Nat} {cal : Nat → List Value → ri_H → Option (Option Value × ri_H)} {W0 : cs_W}
theorem la_step (X : la_C p s m meth c E D cA b L xs) (C : ri_Ca l E D cA ri_md cal d ri_lw.1 room_1) (hdc : ∀ q ∈ dc, ri_hd q.1 (ri_ic E q.2.1) (ri_ic E q.2.2.1) = q.2.2.2) {en : ri_En} {f' : ri_F} (hl : ri_look2 ri_lw.2 pc = some en) (hs : ri_step dc cal (ri_bud ri_md) ri_lw.1 en pc lo st h k z = some f') (kk : la_Ab p l e s m below meth c E D cA b f') : la_Ab p l e s m below meth c E D cA b (pc, lo, st, h, k, z) :=
  ri_snd X.1 C hdc (ri_okT_at ot_law hl) hs kk
theorem la_sn (X : la_C p s m meth c E D cA b L xs) (C : ri_Ca l E D cA ri_md cal d ri_lw.1 room_1) (hdc : ∀ q ∈ dc, ri_hd q.1 (ri_ic E q.2.1) (ri_ic E q.2.2.1) = q.2.2.2) : ∀ (n : Nat) (f f' : ri_F), ri_sn (ri_st dc cal (ri_bud ri_md) ri_lw) n f = some f' → f'.1 ≠ 70000 → la_Ab p l e s m below meth c E D cA b f' → la_Ab p l e s m below meth c E D cA b f
  | 0, f, f', hs, _, kk => by
    have hs := Option.some.inj (show some f = some f' from hs)
    rw [hs]
    exact kk
  | n + 1, f, f', hs, hn, kk => by
    have hs : (match ri_st dc cal (ri_bud ri_md) ri_lw f with
      | some f' => ri_sn (ri_st dc cal (ri_bud ri_md) ri_lw) n f'
      | none => none) = some f' := hs
    split at hs
    · next f1 h1 =>
      by_cases hf : f.1 = 70000
      · rw [ri_st_done f hf] at h1
        have h1 := Option.some.inj h1
        subst h1
        rw [ri_sn_done (fun f hf => ri_st_done f hf) n f hf] at hs
        have hs := Option.some.inj hs
        subst hs
        exact absurd hf hn
      · by_cases hf1 : f1.1 = 70000
        · rw [ri_sn_done (fun f hf => ri_st_done f hf) n f1 hf1] at hs
          have hs := Option.some.inj hs
          subst hs
          exact absurd hf1 hn
        · have kk1 := la_sn X C hdc n f1 f' hs hn kk
          unfold ri_st at h1
          rw [show Nat.beq f.1 70000 = false by
            cases hh : Nat.beq f.1 70000 with
            | false => rfl
            | true => exact absurd (Nat.eq_of_beq_eq_true hh) hf] at h1
          dsimp only [cond_false] at h1
          split at h1
          · next en hl =>
            cases hi : ri_isR en.1 with
            | true =>
              rw [hi] at h1
              dsimp only [cond_true] at h1
              split at h1
              · have h1 := Option.some.inj h1
                subst h1
                exact absurd rfl hf1
              · cases h1
            | false =>
              rw [hi] at h1
              dsimp only [cond_false] at h1
              split at h1
              · next f2 hst =>
                cases h7 : Nat.beq f2.1 70000 with
                | true => rw [h7] at h1; cases h1
                | false =>
                  rw [h7] at h1
                  have h1 := Option.some.inj h1
                  subst h1
                  exact la_step X C hdc hl hst kk1
              · cases h1
          · cases h1
    · cases hs
theorem la_ret (X : la_C p s m meth c E D cA b L xs) (hk : k ≤ 601024) (hz : z ≤ 7293034) : la_Ab p l e s m below meth c E D cA b (1244, lo, [], h, k, z) := by
  have ⟨hx, hb, _⟩ := X.1
  have d1 : decode code 1244 = .ok (.iconst 1, 1) := by decide +kernel
  have d2 : decode code 1245 = .ok (.ireturn, 1) := by decide +kernel
  refine ri_r_push X.1 (v := .int 1) (n := 1) (fun H ls locs rest w => lv_iconst hx hb d1 rfl w) rfl ?_
  intro H ls locs hl hR hS
  refine W.widen hk hz (va_forget (fun q hq => ?_) (lw_ret hx hb X.2.2.2.2.2.2.1 X.2.2.2.2.2.2.2 d2))
  have h1 : E.1 ≤ q.base := hS.2.2 q hq
  rw [X.2.2.2.2.1] at h1
  exact h1
theorem la_hd1 (X : la_C p s m meth c E D cA b L xs) {v : Int32} {bb : Bool} (hv : ri_lk lo 4 = some (.int v)) (h0 : ri_lk lo 0 = some (.retAddr 8)) (hbb : decide (Int32.ofNat L - (Int8.ofInt 6).toInt32 < v) = bb) (kk : la_Ab p l e s m below meth c E D cA b (bif bb then 1244 else 33, lo, [], h, k, z)) : la_Ab p l e s m below meth c E D cA b (23, lo, [], h, k, z) := by
  have ⟨hx, hb, _⟩ := X.1
  have d23 : decode code 23 = .ok (.iload 4, 2) := by decide +kernel
  have d25 : decode code 25 = .ok (.aload_n 0, 1) := by decide +kernel
  have d26 : decode code 26 = .ok (.arraylength, 1) := by decide +kernel
  have d27 : decode code 27 = .ok (.bipush 6, 2) := by decide +kernel
  have d29 : decode code 29 = .ok (.isub, 1) := by decide +kernel
  have d30 : decode code 30 = .ok (.if_icmp .gt 1214, 3) := by decide +kernel
  refine ri_r_ild X.1 (i := 4) (v := .int v) hv rfl (n := 2) (Or.inr ⟨rfl, d23⟩) ?_
  refine ri_r_ald X.1 (i := 0) (v := .retAddr 8) h0 rfl (n := 1) (Or.inl ⟨0, rfl, rfl, d25⟩) ?_
  refine la_slen X d26 ?_
  refine ri_r_push X.1 (v := .int (Int8.ofInt 6).toInt32) (n := 2) (fun H ls locs rest w => lv_bipush hx hb d27 rfl w) rfl ?_
  refine ri_r_stk (pc' := 30) (st' := .int (Int32.ofNat L - (Int8.ofInt 6).toInt32) :: .int v :: []) (fun H ls locs w => lv_isub hx hb d29 w) ?_
  exact ri_r_icmp X.1 (x := .int v) (y := .int (Int32.ofNat L - (Int8.ofInt 6).toInt32)) (b := bb) rfl rfl (show ri_hd (ri_cn .gt) (ri_ic E (.int v)) (ri_ic E (.int (Int32.ofNat L - (Int8.ofInt 6).toInt32))) = bb from hbb) d30 (tgt := 1244) (by decide) kk
theorem la_end (X : la_C p s m meth c E D cA b L xs) (kk : la_Ab p l e s m below meth c E D cA b (23, lo_i (i + 6), [], h, k, z)) : la_Ab p l e s m below meth c E D cA b (1238, lo_i i, [], h, k, z) := by
  have ⟨hx, hb, _⟩ := X.1
  have d1 : decode code 1238 = .ok (.iinc 4 6, 3) := by decide +kernel
  have d2 : decode code 1241 = .ok (.goto (-1218), 3) := by decide +kernel
  refine ri_r_iinc X.1 (i := 4) (n := 6) (x := nI i) rfl (by decide) d1 ?_
  refine ri_r_stk (pc' := 23) (st' := []) (fun H ls locs w => lv_goto hx hb d2 (by decide) w) ?_
  have e1 : ri_st1 (lo_i i) 4 (.int (nI i + Int32.ofInt 6)) = lo_i (i + 6) := by
    have := la_add i 6
    rw [show Int32.ofInt 6 = Int32.ofInt ((6 : Nat) : Int) from rfl, this]
    rfl
  rw [e1]
  exact kk
set_option maxRecDepth 100000 in
theorem la_sw (X : la_C p s m meth c E D cA b L xs) : ∀ j : Nat, j < 64 → la_Ab p l e s m below meth c E D cA b (la_tg.getD j 1238, lo_i i, [], h, k, z) → la_Ab p l e s m below meth c E D cA b (40, lo_i i, [.int (nI j)], h, k, z) := by
  have hl : ri_look2 ri_lw.2 40 = some (.tableswitch 1198 0 38 #[172, 245, 270, 283, 296, 336, 373, 410, 435, 460, 497, 522, 559, 584, 597, 634, 671, 696, 721, 734, 747, 760, 773, 798, 811, 836, 861, 886, 911, 924, 949, 986, 1035, 1060, 1085, 1098, 1123, 1148, 1173], 172, [1238, 212, 285, 310, 323, 336, 376, 413, 450, 475, 500, 537, 562, 599, 624, 637, 674, 711, 736, 761, 774, 787, 800, 813, 838, 851, 876, 901, 926, 951, 964, 989, 1026, 1075, 1100, 1125, 1138, 1163, 1188, 1213], .null) := by decide +kernel
  intro j hj kk
  match j, hj with
  | 0, _ => exact la_step X (la_Ca l E D cA) (la_hdc E) hl rfl kk
  | 1, _ => exact la_step X (la_Ca l E D cA) (la_hdc E) hl rfl kk
  | 2, _ => exact la_step X (la_Ca l E D cA) (la_hdc E) hl rfl kk
  | 3, _ => exact la_step X (la_Ca l E D cA) (la_hdc E) hl rfl kk
  | 4, _ => exact la_step X (la_Ca l E D cA) (la_hdc E) hl rfl kk
  | 5, _ => exact la_step X (la_Ca l E D cA) (la_hdc E) hl rfl kk
  | 6, _ => exact la_step X (la_Ca l E D cA) (la_hdc E) hl rfl kk
  | 7, _ => exact la_step X (la_Ca l E D cA) (la_hdc E) hl rfl kk
  | 8, _ => exact la_step X (la_Ca l E D cA) (la_hdc E) hl rfl kk
  | 9, _ => exact la_step X (la_Ca l E D cA) (la_hdc E) hl rfl kk
  | 10, _ => exact la_step X (la_Ca l E D cA) (la_hdc E) hl rfl kk
  | 11, _ => exact la_step X (la_Ca l E D cA) (la_hdc E) hl rfl kk
  | 12, _ => exact la_step X (la_Ca l E D cA) (la_hdc E) hl rfl kk
  | 13, _ => exact la_step X (la_Ca l E D cA) (la_hdc E) hl rfl kk
  | 14, _ => exact la_step X (la_Ca l E D cA) (la_hdc E) hl rfl kk
  | 15, _ => exact la_step X (la_Ca l E D cA) (la_hdc E) hl rfl kk
  | 16, _ => exact la_step X (la_Ca l E D cA) (la_hdc E) hl rfl kk
  | 17, _ => exact la_step X (la_Ca l E D cA) (la_hdc E) hl rfl kk
  | 18, _ => exact la_step X (la_Ca l E D cA) (la_hdc E) hl rfl kk
  | 19, _ => exact la_step X (la_Ca l E D cA) (la_hdc E) hl rfl kk
  | 20, _ => exact la_step X (la_Ca l E D cA) (la_hdc E) hl rfl kk
  | 21, _ => exact la_step X (la_Ca l E D cA) (la_hdc E) hl rfl kk
  | 22, _ => exact la_step X (la_Ca l E D cA) (la_hdc E) hl rfl kk
  | 23, _ => exact la_step X (la_Ca l E D cA) (la_hdc E) hl rfl kk
  | 24, _ => exact la_step X (la_Ca l E D cA) (la_hdc E) hl rfl kk
  | 25, _ => exact la_step X (la_Ca l E D cA) (la_hdc E) hl rfl kk
  | 26, _ => exact la_step X (la_Ca l E D cA) (la_hdc E) hl rfl kk
  | 27, _ => exact la_step X (la_Ca l E D cA) (la_hdc E) hl rfl kk
  | 28, _ => exact la_step X (la_Ca l E D cA) (la_hdc E) hl rfl kk
  | 29, _ => exact la_step X (la_Ca l E D cA) (la_hdc E) hl rfl kk
  | 30, _ => exact la_step X (la_Ca l E D cA) (la_hdc E) hl rfl kk
  | 31, _ => exact la_step X (la_Ca l E D cA) (la_hdc E) hl rfl kk
  | 32, _ => exact la_step X (la_Ca l E D cA) (la_hdc E) hl rfl kk
  | 33, _ => exact la_step X (la_Ca l E D cA) (la_hdc E) hl rfl kk
  | 34, _ => exact la_step X (la_Ca l E D cA) (la_hdc E) hl rfl kk
  | 35, _ => exact la_step X (la_Ca l E D cA) (la_hdc E) hl rfl kk
  | 36, _ => exact la_step X (la_Ca l E D cA) (la_hdc E) hl rfl kk
  | 37, _ => exact la_step X (la_Ca l E D cA) (la_hdc E) hl rfl kk
  | 38, _ => exact la_step X (la_Ca l E D cA) (la_hdc E) hl rfl kk
  | 39, _ => exact la_step X (la_Ca l E D cA) (la_hdc E) hl rfl kk
  | 40, _ => exact la_step X (la_Ca l E D cA) (la_hdc E) hl rfl kk
  | 41, _ => exact la_step X (la_Ca l E D cA) (la_hdc E) hl rfl kk
  | 42, _ => exact la_step X (la_Ca l E D cA) (la_hdc E) hl rfl kk
  | 43, _ => exact la_step X (la_Ca l E D cA) (la_hdc E) hl rfl kk
  | 44, _ => exact la_step X (la_Ca l E D cA) (la_hdc E) hl rfl kk
  | 45, _ => exact la_step X (la_Ca l E D cA) (la_hdc E) hl rfl kk
  | 46, _ => exact la_step X (la_Ca l E D cA) (la_hdc E) hl rfl kk
  | 47, _ => exact la_step X (la_Ca l E D cA) (la_hdc E) hl rfl kk
  | 48, _ => exact la_step X (la_Ca l E D cA) (la_hdc E) hl rfl kk
  | 49, _ => exact la_step X (la_Ca l E D cA) (la_hdc E) hl rfl kk
  | 50, _ => exact la_step X (la_Ca l E D cA) (la_hdc E) hl rfl kk
  | 51, _ => exact la_step X (la_Ca l E D cA) (la_hdc E) hl rfl kk
  | 52, _ => exact la_step X (la_Ca l E D cA) (la_hdc E) hl rfl kk
  | 53, _ => exact la_step X (la_Ca l E D cA) (la_hdc E) hl rfl kk
  | 54, _ => exact la_step X (la_Ca l E D cA) (la_hdc E) hl rfl kk
  | 55, _ => exact la_step X (la_Ca l E D cA) (la_hdc E) hl rfl kk
  | 56, _ => exact la_step X (la_Ca l E D cA) (la_hdc E) hl rfl kk
  | 57, _ => exact la_step X (la_Ca l E D cA) (la_hdc E) hl rfl kk
  | 58, _ => exact la_step X (la_Ca l E D cA) (la_hdc E) hl rfl kk
  | 59, _ => exact la_step X (la_Ca l E D cA) (la_hdc E) hl rfl kk
  | 60, _ => exact la_step X (la_Ca l E D cA) (la_hdc E) hl rfl kk
  | 61, _ => exact la_step X (la_Ca l E D cA) (la_hdc E) hl rfl kk
  | 62, _ => exact la_step X (la_Ca l E D cA) (la_hdc E) hl rfl kk
  | 63, _ => exact la_step X (la_Ca l E D cA) (la_hdc E) hl rfl kk
  | j + 64, hj => omega
theorem la_and (X : la_C p s m meth c E D cA b L xs) (hi : i < L) (kk : ∀ j : Nat, j < 64 → la_Ab p l e s m below meth c E D cA b (la_tg.getD j 1238, lo_i i, [], h, k, z)) : la_Ab p l e s m below meth c E D cA b (33, lo_i i, [], h, k, z) := by
  have ⟨hx, hb, _⟩ := X.1
  have d33 : decode code 33 = .ok (.aload_n 0, 1) := by decide +kernel
  have d34 : decode code 34 = .ok (.iload 4, 2) := by decide +kernel
  have d36 : decode code 36 = .ok (.iaload, 1) := by decide +kernel
  have d37 : decode code 37 = .ok (.bipush 63, 2) := by decide +kernel
  have d39 : decode code 39 = .ok (.iand, 1) := by decide +kernel
  obtain ⟨j, hj, ej⟩ := pk_andE (xs i) (m := (Int8.ofInt 63).toInt32) 6 (by decide)
  refine ri_r_ald X.1 (i := 0) (v := .retAddr 8) rfl rfl (n := 1) (Or.inl ⟨0, rfl, rfl, d33⟩) ?_
  refine ri_r_ild X.1 (i := 4) (v := .int (nI i)) rfl rfl (n := 2) (Or.inr ⟨rfl, d34⟩) ?_
  refine la_sld X (j := i) hi d36 ?_
  refine ri_r_push X.1 (v := .int (Int8.ofInt 63).toInt32) (n := 2) (fun H ls locs rest w => lv_bipush hx hb d37 rfl w) rfl ?_
  refine ri_r_stk (pc' := 40) (st' := .int (xs i &&& (Int8.ofInt 63).toInt32) :: []) (fun H ls locs w => lv_iand hx hb d39 w) ?_
  rw [ej]
  exact la_sw X j hj (kk j hj)
/-- the loop: what holds between two calls holds at its head -/
theorem la_loop (X : la_C p s m meth c E D cA b L xs) (hcase : ∀ (i : Nat) (hc hm : ri_H) (k z : Nat), i + 6 ≤ L → 6 * k ≤ 1368 + i → z ≤ 7820 + i → cs_L W0 hc hm → (∀ (hc' hm' : ri_H) (k' z' : Nat), 6 * k' ≤ 1368 + (i + 6) → z' ≤ 7820 + (i + 6) → cs_L W0 hc' hm' → la_Ab p l e s m below meth c E D cA b (1238, lo_i i, [], hc' ++ hm'.map (ri_shC 209), k', z')) → ∀ j : Nat, j < 64 → la_Ab p l e s m below meth c E D cA b (la_tg.getD j 1238, lo_i i, [], hc ++ hm.map (ri_shC 209), k, z)) :
    ∀ (r i : Nat) (hc hm : ri_H) (k z : Nat), L ≤ i + 6 * r → i ≤ 3078 → 6 * k ≤ 1368 + i → z ≤ 7820 + i → cs_L W0 hc hm → la_Ab p l e s m below meth c E D cA b (23, lo_i i, [], hc ++ hm.map (ri_shC 209), k, z) := by
  have hL := X.2.2.2.2.2.1
  intro r
  induction r with
  | zero =>
    intro i hc hm k z h1 h2 h3 h4 HL
    refine la_hd1 X (v := nI i) (bb := true) rfl rfl ?_ (la_ret X (by omega) (by omega))
    rw [la_cmp hL h2]
    exact decide_eq_true (by omega)
  | succ r ih =>
    intro i hc hm k z h1 h2 h3 h4 HL
    by_cases h5 : L < i + 6
    · refine la_hd1 X (v := nI i) (bb := true) rfl rfl ?_ (la_ret X (by omega) (by omega))
      rw [la_cmp hL h2]
      exact decide_eq_true h5
    · refine la_hd1 X (v := nI i) (bb := false) rfl rfl ?_ ?_
      · rw [la_cmp hL h2]
        exact decide_eq_false h5
      · refine la_and X (by omega) (hcase i hc hm k z (by omega) h3 h4 HL (fun hc' hm' k' z' h6 h7 HL' => ?_))
        exact la_end X (ih (i + 6) hc' hm' k' z' (by omega) (by omega) h6 h7 HL')
end LAH
