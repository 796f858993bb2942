set_option maxRecDepth 100000 in
theorem tr_c : (ri_call [] ri_md 8 100 [.ref 0] [(11, (ri_df 11).getD [])]).isSome = true := by decide +kernel
