noncomputable def rc_0 : ri_F := (0, [(0, .ref 2), (1, .ref 1)], [], [
  (11, [.ref 1, .int 0] ++ List.replicate 13 .null ++ [.int 0, .int 0]),
  (14, List.replicate 940 (.int 0)),
  (8, [.null, .null] ++ List.replicate 6 (.int 0) ++ [.long 0, .int 0, .int 0])], 0, 0)
noncomputable def rc_1 : ri_F := (124, [(3, .int 12), (2, .int 2), (0, .ref 2), (1, .ref 1)], [.int 11, .long 0, .int 2, .ref 3], [
  (11, [.ref 1, .int 0] ++ List.replicate 13 .null ++ [.int 0, .int 0]),
  (14, List.replicate 940 (.int 0)),
  (8, [.ref 1, .ref 3, .int 0, .int 0, .int 0, .int 0, .int 0, .int (-1), .long 0, .int 0, .int 0]),
  (15, [.long 3322259, .long 20201198] ++ List.replicate 22 (.long 0))], 1, 24)
set_option maxRecDepth 100000 in
theorem rc_c0 : ri_is (ri_sn (ri_st [] (ri_call [] ri_md 6) (ri_bud ri_md) md_72) 430 rc_0) rc_1 = true := by decide +kernel
noncomputable def rc_2 : ri_F := (126, [(3, .int 26), (2, .int 4), (0, .ref 2), (1, .ref 1)], [.long 291, .int 4, .ref 3], [
  (11, [.ref 1, .int 0] ++ List.replicate 13 .null ++ [.int 0, .int 0]),
  (14, List.replicate 940 (.int 0)),
  (8, [.ref 1, .ref 3, .int 0, .int 0, .int 0, .int 0, .int 0, .int (-1), .long 0, .int 0, .int 0]),
  (15, [.long 3322259, .long 20201198, .long 11703827, .long 479437459, .long 9] ++ List.replicate 19 (.long 0))], 1, 24)
set_option maxRecDepth 100000 in
theorem rc_c1 : ri_is (ri_sn (ri_st [] (ri_call [] ri_md 6) (ri_bud ri_md) md_72) 430 rc_1) rc_2 = true := by decide +kernel
noncomputable def rc_3 : ri_F := (104, [(3, .int 41), (2, .int 7), (0, .ref 2), (1, .ref 1)], [.ref 2, .int 7, .ref 3], [
  (11, [.ref 1, .int 0] ++ List.replicate 13 .null ++ [.int 0, .int 0]),
  (14, List.replicate 940 (.int 0)),
  (8, [.ref 1, .ref 3, .int 0, .int 0, .int 0, .int 0, .int 0, .int (-1), .long 0, .int 0, .int 0]),
  (15, [.long 3322259, .long 20201198, .long 11703827, .long 479437459, .long 9317, .long 3749, .long 408538606, .long 20] ++ List.replicate 16 (.long 0))], 1, 24)
set_option maxRecDepth 100000 in
theorem rc_c2 : ri_is (ri_sn (ri_st [] (ri_call [] ri_md 6) (ri_bud ri_md) md_72) 430 rc_2) rc_3 = true := by decide +kernel
noncomputable def rc_4 : ri_F := (108, [(3, .int 55), (2, .int 9), (0, .ref 2), (1, .ref 1)], [.int 9, .ref 3, .int 9, .ref 3], [
  (11, [.ref 1, .int 0] ++ List.replicate 13 .null ++ [.int 0, .int 0]),
  (14, List.replicate 940 (.int 0)),
  (8, [.ref 1, .ref 3, .int 0, .int 0, .int 0, .int 0, .int 0, .int (-1), .long 0, .int 0, .int 0]),
  (15, [.long 3322259, .long 20201198, .long 11703827, .long 479437459, .long 9317, .long 3749, .long 408538606, .long 21643763890, .long 80948, .long 616] ++ List.replicate 14 (.long 0))], 1, 24)
set_option maxRecDepth 100000 in
theorem rc_c3 : ri_is (ri_sn (ri_st [] (ri_call [] ri_md 6) (ri_bud ri_md) md_72) 430 rc_3) rc_4 = true := by decide +kernel
noncomputable def rc_5 : ri_F := (112, [(3, .int 69), (2, .int 11), (0, .ref 2), (1, .ref 1)], [.long 32, .long 623916, .int 11, .ref 3], [
  (11, [.ref 1, .int 0] ++ List.replicate 13 .null ++ [.int 0, .int 0]),
  (14, List.replicate 940 (.int 0)),
  (8, [.ref 1, .ref 3, .int 0, .int 0, .int 0, .int 0, .int 0, .int (-1), .long 0, .int 0, .int 0]),
  (15, [.long 3322259, .long 20201198, .long 11703827, .long 479437459, .long 9317, .long 3749, .long 408538606, .long 21643763890, .long 80948, .long 20201203, .long 19183859, .long 623916] ++ List.replicate 12 (.long 0))], 1, 24)
set_option maxRecDepth 100000 in
theorem rc_c4 : ri_is (ri_sn (ri_st [] (ri_call [] ri_md 6) (ri_bud ri_md) md_72) 430 rc_4) rc_5 = true := by decide +kernel
noncomputable def rc_6 : ri_F := (116, [(3, .int 84), (2, .int 15), (0, .ref 2), (1, .ref 1)], [.int 84, .retAddr 5, .long 14816, .int 15, .ref 3], [
  (11, [.ref 1, .int 0] ++ List.replicate 13 .null ++ [.int 0, .int 0]),
  (14, List.replicate 940 (.int 0)),
  (8, [.ref 1, .ref 3, .int 0, .int 0, .int 0, .int 0, .int 0, .int (-1), .long 0, .int 0, .int 0]),
  (15, [.long 3322259, .long 20201198, .long 11703827, .long 479437459, .long 9317, .long 3749, .long 408538606, .long 21643763890, .long 80948, .long 20201203, .long 19183859, .long 19965331, .long 4153, .long 498, .long 1476, .long 463] ++ List.replicate 8 (.long 0))], 1, 24)
set_option maxRecDepth 100000 in
theorem rc_c5 : ri_is (ri_sn (ri_st [] (ri_call [] ri_md 6) (ri_bud ri_md) md_72) 430 rc_5) rc_6 = true := by decide +kernel
noncomputable def rc_7 : ri_F := (84, [(3, .int 99), (2, .int 18), (0, .ref 2), (1, .ref 1)], [.int 99, .retAddr 5], [
  (11, [.ref 1, .int 0] ++ List.replicate 13 .null ++ [.int 0, .int 0]),
  (14, List.replicate 940 (.int 0)),
  (8, [.ref 1, .ref 3, .int 0, .int 0, .int 0, .int 0, .int 0, .int (-1), .long 0, .int 0, .int 0]),
  (15, [.long 3322259, .long 20201198, .long 11703827, .long 479437459, .long 9317, .long 3749, .long 408538606, .long 21643763890, .long 80948, .long 20201203, .long 19183859, .long 19965331, .long 4153, .long 498, .long 1476, .long 14836, .long 12009198, .long 21467193, .long 1, .long 0, .long 0, .long 0, .long 0, .long 0])], 1, 24)
set_option maxRecDepth 100000 in
theorem rc_c6 : ri_is (ri_sn (ri_st [] (ri_call [] ri_md 6) (ri_bud ri_md) md_72) 430 rc_6) rc_7 = true := by decide +kernel
noncomputable def rc_8 : ri_F := (124, [(3, .int 113), (2, .int 21), (0, .ref 2), (1, .ref 1)], [.int 16, .long 643232, .int 21, .ref 3], [
  (11, [.ref 1, .int 0] ++ List.replicate 13 .null ++ [.int 0, .int 0]),
  (14, List.replicate 940 (.int 0)),
  (8, [.ref 1, .ref 3, .int 0, .int 0, .int 0, .int 0, .int 0, .int (-1), .long 0, .int 0, .int 0]),
  (15, [.long 3322259, .long 20201198, .long 11703827, .long 479437459, .long 9317, .long 3749, .long 408538606, .long 21643763890, .long 80948, .long 20201203, .long 19183859, .long 19965331, .long 4153, .long 498, .long 1476, .long 14836, .long 12009198, .long 21467193, .long 52, .long 89, .long 21279923, .long 20101, .long 0, .long 0])], 1, 24)
set_option maxRecDepth 100000 in
theorem rc_c7 : ri_is (ri_sn (ri_st [] (ri_call [] ri_md 6) (ri_bud ri_md) md_72) 430 rc_7) rc_8 = true := by decide +kernel
noncomputable def rc_9 : ri_F := (70000, [], [], [
  (11, [.ref 1, .int 0] ++ List.replicate 13 .null ++ [.int 0, .int 0]),
  (14, List.replicate 940 (.int 0)),
  (8, [.ref 1, .ref 3, .int 0, .int 0, .int 0, .int 0, .int 0, .int (-1), .long 0, .int 0, .int 0]),
  (15, [.long 3322259, .long 20201198, .long 11703827, .long 479437459, .long 9317, .long 3749, .long 408538606, .long 21643763890, .long 80948, .long 20201203, .long 19183859, .long 19965331, .long 4153, .long 498, .long 1476, .long 14836, .long 12009198, .long 21467193, .long 52, .long 89, .long 21279923, .long 20583955, .long 146885, .long 492210354])], 1, 24)
set_option maxRecDepth 100000 in
theorem rc_c8 : ri_is (ri_sn (ri_st [] (ri_call [] ri_md 6) (ri_bud ri_md) md_72) 421 rc_8) rc_9 = true := by decide +kernel
noncomputable def h_r0 : ri_H := [
  (11, [.ref 1, .int 0] ++ List.replicate 13 .null ++ [.int 0, .int 0]),
  (14, List.replicate 940 (.int 0)),
  (8, [.null, .null] ++ List.replicate 6 (.int 0) ++ [.long 0, .int 0, .int 0])]
noncomputable def h_r1 : ri_H := [
  (11, [.ref 1, .int 0] ++ List.replicate 13 .null ++ [.int 0, .int 0]),
  (14, List.replicate 940 (.int 0)),
  (8, [.ref 1, .ref 3, .int 0, .int 0, .int 0, .int 0, .int 0, .int (-1), .long 0, .int 0, .int 0]),
  (15, [.long 3322259, .long 20201198, .long 11703827, .long 479437459, .long 9317, .long 3749, .long 408538606, .long 21643763890, .long 80948, .long 20201203, .long 19183859, .long 19965331, .long 4153, .long 498, .long 1476, .long 14836, .long 12009198, .long 21467193, .long 52, .long 89, .long 21279923, .long 20583955, .long 146885, .long 492210354])]
