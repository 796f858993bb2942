set_option maxRecDepth 100000 in
theorem km_ck34 : km_ix [345] = true := km_ixF_ok (by decide +kernel)
