theorem km_all : ∀ (n i : Nat) (X : sx_X), km_CT[i]? = some X → X.2.2.2.1 < n → sx_Vd km_G (mj_J km_gd) ri_md X := sorry
theorem km_cov : True ∧ km_CT.length = 352 := sorry
theorem ck_kb_8 : sx_ck km_G (mj_dp km_gd) ri_md kb_CT 5000 kb_8 = true := sorry
