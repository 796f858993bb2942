/-! guards as invariants -/
def sx_dep (g : sx_T) : List (Nat × Int × Int) := bif Nat.beq g.1.1 9999 then [(g.2.1.1, g.2.1.2.1, g.2.1.2.1), (g.2.2.1, g.2.2.2.1, g.2.2.2.1)] else [(g.1.1, g.1.2, g.1.2), (g.2.1.1, g.2.1.2.1, g.2.1.2.1 + 2147483648), (g.2.2.1, g.2.2.2.1, g.2.2.2.1 + 2147483648)]
def sx_dpg (gd : List sx_T) : sx_D := (fun j => match gd[j]? with
  | some g => sx_dep g
  | none => [], fun B k t v j => bif sx_gk (fun j => gd[j]?) B k t v j then [j] else [], fun B k t v => sx_lg (fun j => gd[j]?) k t v B.2.2.2.2 B, fun B j => sx_reg (fun j => gd[j]?) B j)
def sx_Jg (gd : List sx_T) (j : Nat) (h : ri_H) : Prop := ∀ g, gd[j]? = some g → sx_gh g h
theorem sx_gh_fr {g : sx_T} {h h' : ri_H} (hf : ∀ d ∈ sx_dep g, ∀ i : Int, d.2.1 ≤ i → i ≤ d.2.2 → sx_at h' d.1 i = sx_at h d.1 i) (H : sx_gh g h) : sx_gh g h' := by
  intro c i x y hc h0 hi hx x1 x2 hy
  unfold sx_dep at hf
  cases h9 : Nat.beq g.1.1 9999 with
  | true =>
    rw [h9] at hf
    dsimp only [cond_true] at hf
    have hc' : sx_cnt h g.1 = some c := by
      unfold sx_cnt at hc ⊢
      rw [h9] at hc ⊢
      exact hc
    have e : c = 1 := by
      unfold sx_cnt at hc
      rw [h9] at hc
      exact (Option.some.inj hc).symm
    have e2 : i = 0 := by omega
    subst e2
    rw [hf (g.2.1.1, g.2.1.2.1, g.2.1.2.1) (by simp) _ (by dsimp only; omega) (by dsimp only; omega)] at hx
    rw [hf (g.2.2.1, g.2.2.2.1, g.2.2.2.1) (by simp) _ (by dsimp only; omega) (by dsimp only; omega)] at hy
    exact H c 0 x y hc' h0 hi hx x1 x2 hy
  | false =>
    rw [h9] at hf
    dsimp only [cond_false] at hf
    have hcc : sx_cnt h' g.1 = sx_cnt h g.1 := sx_cnt_eq (hf (g.1.1, g.1.2, g.1.2) (by simp) _ (Int.le_refl _) (Int.le_refl _))
    have hb : c ≤ 2147483647 := by
      unfold sx_cnt at hc
      rw [h9] at hc
      dsimp only [cond_false] at hc
      split at hc
      · next z _ =>
        have := sx_bd z
        have := Option.some.inj hc
        omega
      · cases hc
    rw [hcc] at hc
    rw [hf (g.2.1.1, g.2.1.2.1, g.2.1.2.1 + 2147483648) (by simp) _ (by dsimp only; omega) (by dsimp only; omega)] at hx
    rw [hf (g.2.2.1, g.2.2.2.1, g.2.2.2.1 + 2147483648) (by simp) _ (by dsimp only; omega) (by dsimp only; omega)] at hy
    exact H c i x y hc h0 hi hx x1 x2 hy
theorem sx_HGg (gd : List sx_T) : sx_HG (sx_Jg gd) (fun j => gd[j]?) := fun j g hg h => ⟨fun H => H g hg, fun H g' hg' => by
  have hg : gd[j]? = some g := hg
  rw [hg] at hg'
  cases hg'
  exact H⟩
theorem sx_HJg (G : sx_G) (gd : List sx_T) : sx_HJ G (sx_Jg gd) (sx_dpg gd) := by
  refine ⟨fun j h h' hf hJ g hg => ?_, fun p B h k j jj ji t tv q v H hn hg hk hjl hs hJ => by
    cases hb : sx_gk (fun j => gd[j]?) B k t tv jj with
    | false =>
      have hs : ji ∈ (bif sx_gk (fun j => gd[j]?) B k t tv jj then [jj] else []) := hs
      rw [hb] at hs
      cases hs
    | true =>
      have hs : ji ∈ (bif sx_gk (fun j => gd[j]?) B k t tv jj then [jj] else []) := hs
      rw [hb] at hs
      rw [List.mem_singleton.mp hs]
      exact sx_gk_ok (sx_HGg gd) H hn hg hk hjl hb hJ, fun p B h k t v i x H hn hx hv => sx_lg_ok (sx_HGg gd) hn hx hv H H.2.2.2.2.1, fun p B h j H hs => sx_reg_ok (sx_HGg gd) H hs⟩
  refine sx_gh_fr (fun d hd => hf d ?_) (hJ g hg)
  show d ∈ (match gd[j]? with
    | some g => sx_dep g
    | none => [])
  rw [hg]
  exact hd
