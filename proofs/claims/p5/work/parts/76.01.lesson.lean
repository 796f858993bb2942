/-! a lesson's rows, step by step -/
def DRx (q p : Nat → Nat) (o e P P' : Nat) (Gc Gm : eh_W) : Prop := DRs Gc Gm ∧ DRq q p Gc Gm ∧ NR q Gc Gm ∧ DRl P P' Gc Gm ∧ DRb (p 3) Gc Gm ∧ DRo o e Gc Gm
section LES
variable {q p : Nat → Nat} {o e P P' l : Nat} {Gc Gm Hc Hm : eh_W}
theorem DRx_fr (h : DRx q p o e P P' Gc Gm) (f : eh_fr pCd Gc Hc) (g : eh_fr pMd Gm Hm) : DRx q p o e P P' Hc Hm := by
  have h1 : DRx q p o e P P' (cC Gc) (cM Gm) := h
  rw [cC_eq f, cM_eq g] at h1
  exact h1
theorem or_bit : ∀ (w : Fin 256) (l : Fin 8), nI w.val ||| (1 <<< (nI l.val &&& 31)) = nI (w.val ||| 1 <<< l.val) ∧ (w.val ||| 1 <<< l.val) < 256 := by decide +kernel
theorem wv_ok : ∀ (c : Fin 8) (h : Fin 4), wv (10 * nI c.val + nI h.val) = nI h.val <<< ((2 * nI c.val) &&& 31) ∧ 10 * nI c.val + nI h.val = nI (10 * c.val + h.val) := by decide +kernel
theorem nI_ne {a b : Nat} (ha : a ≤ 100000) (hb : b ≤ 100000) (h : a ≠ b) : nI a ≠ nI b := fun e => h (lx_inj ha hb e)
/-- its cue -/
theorem D_les0 {c : Nat} (h : DR q p o e Gc Gm) (hp : p 1 = l) (hl : l < 8) (hc : c < 6) (p3 : p 3 ≤ 6) : DRx q p o e (l + 1) l (eh_u (eh_u Gc 8 l (.int (nI c))) 9 c (.int (eh_i Gc 9 c ||| (1 <<< (nI l &&& 31))))) (eh_u Gm 3 (10 + l) (.int (nI c))) := by
  obtain ⟨a1, a2, a3, a4, a5, a6⟩ := h
  rw [hp] at a4
  have ne : ∀ j, j ≠ 10 + l → eh_i (eh_u Gm 3 (10 + l) (.int (nI c))) 3 j = eh_i Gm 3 j := fun j hj => eh_i_ne _ _ (Or.inr (fun x => hj x.symm))
  have n8 : ∀ j, j ≠ l → eh_i (eh_u (eh_u Gc 8 l (.int (nI c))) 9 c (.int (eh_i Gc 9 c ||| (1 <<< (nI l &&& 31))))) 8 j = eh_i Gc 8 j := fun j hj => eh_i_ne Gc (.int (nI c)) (Or.inr (fun x => hj x.symm))
  have s8 : eh_i (eh_u (eh_u Gc 8 l (.int (nI c))) 9 c (.int (eh_i Gc 9 c ||| (1 <<< (nI l &&& 31))))) 8 l = nI c := eh_i_self Gc 8 l (nI c)
  have n9 : ∀ j, j ≠ c → eh_i (eh_u (eh_u Gc 8 l (.int (nI c))) 9 c (.int (eh_i Gc 9 c ||| (1 <<< (nI l &&& 31))))) 9 j = eh_i Gc 9 j := fun j hj => eh_i_ne (eh_u Gc 8 l (.int (nI c))) _ (Or.inr (fun x => hj x.symm))
  refine ⟨DRs_fr a1 (fun _ _ => rfl) rfl (fun j hj => ne j (by omega)), DRq_fr a2 (fun _ _ => rfl) rfl (fun t ht => ne _ (by omega)), NR_fr a3 (fun _ => rfl) (fun _ => rfl) (fun _ => rfl) (fun _ => rfl), ?_, DRb_fr a5 (fun _ => rfl) p3 (fun j h1 h2 => ne j (by omega)), a6⟩
  obtain ⟨b1, b2, b3⟩ := a4
  refine ⟨fun l' hl' => ?_, fun l' h1 h2 => b2 l' (by omega) h2, fun c1 hc1 => ?_⟩
  · by_cases el : l' = l
    · subst el
      have z := b2 l' (Nat.le_refl _) hl
      refine ⟨?_, ⟨c, hc, s8⟩, 0, by omega, z.1, fun x => absurd x (Nat.lt_irrefl _), fun i hi => absurd hi (Nat.not_lt_zero i), z.2⟩
      rw [s8, eh_i_self]
    · obtain ⟨c1, c2, s, c3, c4, c5, c6, c7⟩ := b1 l' (by omega)
      exact ⟨(n8 l' el).trans (c1.trans (ne _ (by omega)).symm), by rw [n8 l' el]; exact c2, s, c3, c4, fun x => (ne _ (by omega)).trans (c5 x), fun i hi => ⟨(c6 i hi).1.trans (ne _ (by omega)).symm, by rw [ne 0 (by omega)]; exact (c6 i hi).2⟩, c7⟩
  · obtain ⟨w, w1, w2, w3⟩ := b3 c1 hc1
    by_cases ec : c1 = c
    · subst ec
      have z := or_bit ⟨w, w1⟩ ⟨l, hl⟩
      dsimp only at z
      refine ⟨w ||| 1 <<< l, z.2, ?_, fun l' hl' => ?_⟩
      · rw [eh_i_self, w2]
        exact z.1
      · rw [Nat.testBit_or, Nat.one_shiftLeft, Nat.testBit_two_pow, Bool.or_eq_true, w3 l' hl', decide_eq_true_iff]
        by_cases el : l' = l
        · subst el
          rw [s8]
          exact ⟨fun _ => ⟨Nat.lt_succ_self _, rfl⟩, fun _ => Or.inr rfl⟩
        · rw [n8 l' el]
          constructor
          · rintro (x | x)
            · exact ⟨by omega, x.2⟩
            · exact absurd x.symm el
          · exact fun x => Or.inl ⟨by omega, x.2⟩
    · refine ⟨w, w1, (n9 c1 ec).trans w2, fun l' hl' => ?_⟩
      rw [w3 l' hl']
      by_cases el : l' = l
      · subst el
        rw [s8]
        exact ⟨fun x => absurd x.1 (Nat.lt_irrefl _), fun x => absurd (lx_inj (by omega) (by omega) x.2) (fun y => ec y.symm)⟩
      · rw [n8 l' el]
        exact ⟨fun x => ⟨by omega, x.2⟩, fun x => ⟨by omega, x.2⟩⟩
/-- a step -/
theorem D_step {s ce hi : Nat} (h : DRx q p o e (l + 1) l Gc Gm) (hl : l < 8) (hs : eh_i Gc 10 l = nI s) (s8 : s < 8) (h1 : ce < 8) (h2 : 1 ≤ hi) (h3 : hi ≤ 3) (p3 : p 3 ≤ 6) (hw : (ce : Int) < (eh_i Gm 3 0).toInt) : DRx q p o e (l + 1) l (eh_u (eh_u (eh_u Gc 11 (8 * l + s) (.int (10 * nI ce + nI hi))) 10 l (.int (nI s + 1))) 12 l (.int (add2 (eh_i Gc 12 l) (nI hi <<< ((2 * nI ce) &&& 31))))) (eh_u Gm 3 (26 + 8 * l + s) (.int (10 * nI ce + nI hi))) := by
  obtain ⟨a1, a2, a3, a4, a5, a6⟩ := h
  have wz := wv_ok ⟨ce, h1⟩ ⟨hi, by omega⟩
  dsimp only at wz
  have ne : ∀ j, j ≠ 26 + 8 * l + s → eh_i (eh_u Gm 3 (26 + 8 * l + s) (.int (10 * nI ce + nI hi))) 3 j = eh_i Gm 3 j := fun j hj => eh_i_ne _ _ (Or.inr (fun x => hj x.symm))
  have n11 : ∀ j, j ≠ 8 * l + s → eh_i (eh_u (eh_u (eh_u Gc 11 (8 * l + s) (.int (10 * nI ce + nI hi))) 10 l (.int (nI s + 1))) 12 l (.int (add2 (eh_i Gc 12 l) (nI hi <<< ((2 * nI ce) &&& 31))))) 11 j = eh_i Gc 11 j := fun j hj => eh_i_ne Gc (.int (10 * nI ce + nI hi)) (Or.inr (fun x => hj x.symm))
  have s11 : eh_i (eh_u (eh_u (eh_u Gc 11 (8 * l + s) (.int (10 * nI ce + nI hi))) 10 l (.int (nI s + 1))) 12 l (.int (add2 (eh_i Gc 12 l) (nI hi <<< ((2 * nI ce) &&& 31))))) 11 (8 * l + s) = 10 * nI ce + nI hi := eh_i_self Gc 11 (8 * l + s) _
  have n10 : ∀ j, j ≠ l → eh_i (eh_u (eh_u (eh_u Gc 11 (8 * l + s) (.int (10 * nI ce + nI hi))) 10 l (.int (nI s + 1))) 12 l (.int (add2 (eh_i Gc 12 l) (nI hi <<< ((2 * nI ce) &&& 31))))) 10 j = eh_i Gc 10 j := fun j hj => eh_i_ne (eh_u Gc 11 (8 * l + s) (.int (10 * nI ce + nI hi))) (.int (nI s + 1)) (Or.inr (fun x => hj x.symm))
  have s10 : eh_i (eh_u (eh_u (eh_u Gc 11 (8 * l + s) (.int (10 * nI ce + nI hi))) 10 l (.int (nI s + 1))) 12 l (.int (add2 (eh_i Gc 12 l) (nI hi <<< ((2 * nI ce) &&& 31))))) 10 l = nI s + 1 := eh_i_self (eh_u Gc 11 (8 * l + s) (.int (10 * nI ce + nI hi))) 10 l _
  have n12 : ∀ j, j ≠ l → eh_i (eh_u (eh_u (eh_u Gc 11 (8 * l + s) (.int (10 * nI ce + nI hi))) 10 l (.int (nI s + 1))) 12 l (.int (add2 (eh_i Gc 12 l) (nI hi <<< ((2 * nI ce) &&& 31))))) 12 j = eh_i Gc 12 j := fun j hj => eh_i_ne (eh_u (eh_u Gc 11 (8 * l + s) (.int (10 * nI ce + nI hi))) 10 l (.int (nI s + 1))) _ (Or.inr (fun x => hj x.symm))
  refine ⟨DRs_fr a1 (fun _ _ => rfl) rfl (fun j hj => ne j (by omega)), DRq_fr a2 (fun _ _ => rfl) rfl (fun t ht => ne _ (by omega)), NR_fr a3 (fun _ => rfl) (fun _ => rfl) (fun _ => rfl) (fun _ => rfl), ?_, DRb_fr a5 (fun _ => rfl) p3 (fun j h1 h2 => ne j (by omega)), a6⟩
  obtain ⟨b1, b2, b3⟩ := a4
  refine ⟨fun l' hl' => ?_, fun l' h1 h2 => ?_, b3⟩
  · obtain ⟨c1, c2, s', c3, c4, c5, c6, c7⟩ := b1 l' hl'
    by_cases el : l' = l
    · subst el
      have es : s' = s := lx_inj (by omega) (by omega) (c4.symm.trans hs)
      subst es
      refine ⟨c1.trans (ne _ (by omega)).symm, c2, s' + 1, by omega, by rw [s10, lx_a1], fun x => absurd x (Nat.lt_irrefl _), fun i hi9 => ?_, ?_⟩
      · by_cases ei : i = s'
        · subst ei
          refine ⟨by rw [s11, eh_i_self], ce, hi, h1, h2, h3, by rw [s11]; exact wz.2, by rw [ne 0 (by omega)]; exact hw⟩
        · rw [n11 _ (by omega), ne (26 + 8 * l' + i) (by omega), ne 0 (by omega)]
          exact c6 i (by omega)
      · have q : lv (fun i => eh_i (eh_u (eh_u (eh_u Gc 11 (8 * l' + s') (.int (10 * nI ce + nI hi))) 10 l' (.int (nI s' + 1))) 12 l' (.int (add2 (eh_i Gc 12 l') (nI hi <<< ((2 * nI ce) &&& 31))))) 11 (8 * l' + i)) s' = eh_i Gc 12 l' := (lv_cg s' (fun i hi9 => n11 _ (by omega))).trans c7.symm
        exact (eh_i_self _ 12 l' _).trans (congr (congrArg add2 q.symm) ((congrArg wv s11).trans wz.1).symm)
    · refine ⟨c1.trans (ne _ (by omega)).symm, c2, s', c3, (n10 l' el).trans c4, fun x => (ne _ (by omega)).trans (c5 x), fun i hi => ?_, ?_⟩
      · rw [n11 _ (by omega), ne (26 + 8 * l' + i) (by omega), ne 0 (by omega)]
        exact c6 i hi
      · rw [n12 l' el, c7]
        exact lv_cg s' (fun i hi => (n11 _ (by omega)).symm)
  · rw [n10 l' (by omega), n12 l' (by omega)]
    exact b2 l' h1 h2
/-- the reference counts it -/
theorem D_les1 {s : Nat} (h : DRx q p o e (l + 1) l Gc Gm) (hp : p 1 = l) (hl : l < 8) (hs : eh_i Gc 10 l = nI s) (p3 : p 3 ≤ 6) : DR q (up p 1) o e Gc (eh_u (eh_u Gm 3 (18 + l) (.int (nI s))) 3 4 (.int (nI l + 1))) := by
  obtain ⟨a1, a2, a3, a4, a5, a6⟩ := h
  have ne : ∀ j, j ≠ 18 + l → j ≠ 4 → eh_i (eh_u (eh_u Gm 3 (18 + l) (.int (nI s))) 3 4 (.int (nI l + 1))) 3 j = eh_i Gm 3 j := fun j h1 h2 => (eh_i_ne _ _ (Or.inr (fun x => h2 x.symm))).trans (eh_i_ne _ _ (Or.inr (fun x => h1 x.symm)))
  refine ⟨DRs_fr a1 (fun _ _ => rfl) rfl (fun j hj => ne j (by omega) (by omega)), ⟨fun t ht => ⟨(a2.1 t ht).1, ?_, (a2.1 t ht).2.2⟩, a2.2⟩, a3, ?_, ?_, a6⟩
  · by_cases es : t = 1
    · subst es
      rw [up_self, hp]
      exact (eh_i_self _ 3 4 _).trans (lx_a1 _)
    · rw [ne _ (by omega) (by omega), up_ne p es]
      exact (a2.1 t ht).2.1
  · rw [up_self, hp]
    obtain ⟨b1, b2, b3⟩ := a4
    refine ⟨fun l' hl' => ?_, b2, b3⟩
    obtain ⟨c1, c2, s', c3, c4, c5, c6, c7⟩ := b1 l' hl'
    refine ⟨c1.trans (ne _ (by omega) (by omega)).symm, c2, s', c3, c4, fun x => ?_, fun i hi => ⟨(c6 i hi).1.trans (ne _ (by omega) (by omega)).symm, by rw [ne 0 (by omega) (by omega)]; exact (c6 i hi).2⟩, c7⟩
    by_cases el : l' = l
    · subst el
      exact (eh_i_ne _ _ (Or.inr (by omega))).trans ((eh_i_self _ _ _ _).trans (hs.symm.trans c4))
    · rw [ne _ (by omega) (by omega)]
      exact c5 (by omega)
  · rw [up_ne p (by decide)]
    exact DRb_fr a5 (fun _ => rfl) p3 (fun j h1 h2 => ne j (by omega) (by omega))
end LES
