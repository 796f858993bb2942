def rc_0 : ri_F := (0, [(0, Value.ref 2), (1, Value.ref 1)], [], [
  (11, [Value.ref 1, Value.int 0] ++ List.replicate 13 Value.null ++ [Value.int 0, Value.int 0]),
  (14, List.replicate 940 (Value.int 0)),
  (8, [Value.null, Value.null] ++ List.replicate 6 (Value.int 0) ++ [Value.long 0, Value.int 0, Value.int 0])], 0, 0)
def rc_1 : ri_F := (124, [(3, Value.int 12), (2, Value.int 2), (0, Value.ref 2), (1, Value.ref 1)], [Value.int 11, Value.long 0, Value.int 2, Value.ref 3], [
  (11, [Value.ref 1, Value.int 0] ++ List.replicate 13 Value.null ++ [Value.int 0, Value.int 0]),
  (14, List.replicate 940 (Value.int 0)),
  (8, [Value.ref 1, Value.ref 3, Value.int 0, Value.int 0, Value.int 0, Value.int 0, Value.int 0, Value.int (-1), Value.long 0, Value.int 0, Value.int 0]),
  (15, [Value.long 3322259, Value.long 20201198] ++ List.replicate 22 (Value.long 0))], 1, 24)
set_option maxRecDepth 100000 in
theorem rc_c0 : ri_is (ri_sn (ri_st [] (ri_call [] ri_md 6) (ri_bud ri_md) md_72) 430 rc_0) rc_1 = true := by decide +kernel
def rc_2 : ri_F := (126, [(3, Value.int 26), (2, Value.int 4), (0, Value.ref 2), (1, Value.ref 1)], [Value.long 291, Value.int 4, Value.ref 3], [
  (11, [Value.ref 1, Value.int 0] ++ List.replicate 13 Value.null ++ [Value.int 0, Value.int 0]),
  (14, List.replicate 940 (Value.int 0)),
  (8, [Value.ref 1, Value.ref 3, Value.int 0, Value.int 0, Value.int 0, Value.int 0, Value.int 0, Value.int (-1), Value.long 0, Value.int 0, Value.int 0]),
  (15, [Value.long 3322259, Value.long 20201198, Value.long 11703827, Value.long 479437459, Value.long 9] ++ List.replicate 19 (Value.long 0))], 1, 24)
set_option maxRecDepth 100000 in
theorem rc_c1 : ri_is (ri_sn (ri_st [] (ri_call [] ri_md 6) (ri_bud ri_md) md_72) 430 rc_1) rc_2 = true := by decide +kernel
def rc_3 : ri_F := (104, [(3, Value.int 41), (2, Value.int 7), (0, Value.ref 2), (1, Value.ref 1)], [Value.ref 2, Value.int 7, Value.ref 3], [
  (11, [Value.ref 1, Value.int 0] ++ List.replicate 13 Value.null ++ [Value.int 0, Value.int 0]),
  (14, List.replicate 940 (Value.int 0)),
  (8, [Value.ref 1, Value.ref 3, Value.int 0, Value.int 0, Value.int 0, Value.int 0, Value.int 0, Value.int (-1), Value.long 0, Value.int 0, Value.int 0]),
  (15, [Value.long 3322259, Value.long 20201198, Value.long 11703827, Value.long 479437459, Value.long 9317, Value.long 3749, Value.long 408538606, Value.long 20] ++ List.replicate 16 (Value.long 0))], 1, 24)
set_option maxRecDepth 100000 in
theorem rc_c2 : ri_is (ri_sn (ri_st [] (ri_call [] ri_md 6) (ri_bud ri_md) md_72) 430 rc_2) rc_3 = true := by decide +kernel
def rc_4 : ri_F := (108, [(3, Value.int 55), (2, Value.int 9), (0, Value.ref 2), (1, Value.ref 1)], [Value.int 9, Value.ref 3, Value.int 9, Value.ref 3], [
  (11, [Value.ref 1, Value.int 0] ++ List.replicate 13 Value.null ++ [Value.int 0, Value.int 0]),
  (14, List.replicate 940 (Value.int 0)),
  (8, [Value.ref 1, Value.ref 3, Value.int 0, Value.int 0, Value.int 0, Value.int 0, Value.int 0, Value.int (-1), Value.long 0, Value.int 0, Value.int 0]),
  (15, [Value.long 3322259, Value.long 20201198, Value.long 11703827, Value.long 479437459, Value.long 9317, Value.long 3749, Value.long 408538606, Value.long 21643763890, Value.long 80948, Value.long 616] ++ List.replicate 14 (Value.long 0))], 1, 24)
set_option maxRecDepth 100000 in
theorem rc_c3 : ri_is (ri_sn (ri_st [] (ri_call [] ri_md 6) (ri_bud ri_md) md_72) 430 rc_3) rc_4 = true := by decide +kernel
def rc_5 : ri_F := (112, [(3, Value.int 69), (2, Value.int 11), (0, Value.ref 2), (1, Value.ref 1)], [Value.long 32, Value.long 623916, Value.int 11, Value.ref 3], [
  (11, [Value.ref 1, Value.int 0] ++ List.replicate 13 Value.null ++ [Value.int 0, Value.int 0]),
  (14, List.replicate 940 (Value.int 0)),
  (8, [Value.ref 1, Value.ref 3, Value.int 0, Value.int 0, Value.int 0, Value.int 0, Value.int 0, Value.int (-1), Value.long 0, Value.int 0, Value.int 0]),
  (15, [Value.long 3322259, Value.long 20201198, Value.long 11703827, Value.long 479437459, Value.long 9317, Value.long 3749, Value.long 408538606, Value.long 21643763890, Value.long 80948, Value.long 20201203, Value.long 19183859, Value.long 623916] ++ List.replicate 12 (Value.long 0))], 1, 24)
set_option maxRecDepth 100000 in
theorem rc_c4 : ri_is (ri_sn (ri_st [] (ri_call [] ri_md 6) (ri_bud ri_md) md_72) 430 rc_4) rc_5 = true := by decide +kernel
def rc_6 : ri_F := (116, [(3, Value.int 84), (2, Value.int 15), (0, Value.ref 2), (1, Value.ref 1)], [Value.int 84, Value.retAddr 5, Value.long 14816, Value.int 15, Value.ref 3], [
  (11, [Value.ref 1, Value.int 0] ++ List.replicate 13 Value.null ++ [Value.int 0, Value.int 0]),
  (14, List.replicate 940 (Value.int 0)),
  (8, [Value.ref 1, Value.ref 3, Value.int 0, Value.int 0, Value.int 0, Value.int 0, Value.int 0, Value.int (-1), Value.long 0, Value.int 0, Value.int 0]),
  (15, [Value.long 3322259, Value.long 20201198, Value.long 11703827, Value.long 479437459, Value.long 9317, Value.long 3749, Value.long 408538606, Value.long 21643763890, Value.long 80948, Value.long 20201203, Value.long 19183859, Value.long 19965331, Value.long 4153, Value.long 498, Value.long 1476, Value.long 463] ++ List.replicate 8 (Value.long 0))], 1, 24)
set_option maxRecDepth 100000 in
theorem rc_c5 : ri_is (ri_sn (ri_st [] (ri_call [] ri_md 6) (ri_bud ri_md) md_72) 430 rc_5) rc_6 = true := by decide +kernel
def rc_7 : ri_F := (84, [(3, Value.int 99), (2, Value.int 18), (0, Value.ref 2), (1, Value.ref 1)], [Value.int 99, Value.retAddr 5], [
  (11, [Value.ref 1, Value.int 0] ++ List.replicate 13 Value.null ++ [Value.int 0, Value.int 0]),
  (14, List.replicate 940 (Value.int 0)),
  (8, [Value.ref 1, Value.ref 3, Value.int 0, Value.int 0, Value.int 0, Value.int 0, Value.int 0, Value.int (-1), Value.long 0, Value.int 0, Value.int 0]),
  (15, [Value.long 3322259, Value.long 20201198, Value.long 11703827, Value.long 479437459, Value.long 9317, Value.long 3749, Value.long 408538606, Value.long 21643763890, Value.long 80948, Value.long 20201203, Value.long 19183859, Value.long 19965331, Value.long 4153, Value.long 498, Value.long 1476, Value.long 14836, Value.long 12009198, Value.long 21467193, Value.long 1, Value.long 0, Value.long 0, Value.long 0, Value.long 0, Value.long 0])], 1, 24)
set_option maxRecDepth 100000 in
theorem rc_c6 : ri_is (ri_sn (ri_st [] (ri_call [] ri_md 6) (ri_bud ri_md) md_72) 430 rc_6) rc_7 = true := by decide +kernel
def rc_8 : ri_F := (124, [(3, Value.int 113), (2, Value.int 21), (0, Value.ref 2), (1, Value.ref 1)], [Value.int 16, Value.long 643232, Value.int 21, Value.ref 3], [
  (11, [Value.ref 1, Value.int 0] ++ List.replicate 13 Value.null ++ [Value.int 0, Value.int 0]),
  (14, List.replicate 940 (Value.int 0)),
  (8, [Value.ref 1, Value.ref 3, Value.int 0, Value.int 0, Value.int 0, Value.int 0, Value.int 0, Value.int (-1), Value.long 0, Value.int 0, Value.int 0]),
  (15, [Value.long 3322259, Value.long 20201198, Value.long 11703827, Value.long 479437459, Value.long 9317, Value.long 3749, Value.long 408538606, Value.long 21643763890, Value.long 80948, Value.long 20201203, Value.long 19183859, Value.long 19965331, Value.long 4153, Value.long 498, Value.long 1476, Value.long 14836, Value.long 12009198, Value.long 21467193, Value.long 52, Value.long 89, Value.long 21279923, Value.long 20101, Value.long 0, Value.long 0])], 1, 24)
set_option maxRecDepth 100000 in
theorem rc_c7 : ri_is (ri_sn (ri_st [] (ri_call [] ri_md 6) (ri_bud ri_md) md_72) 430 rc_7) rc_8 = true := by decide +kernel
def rc_9 : ri_F := (70000, [], [], [
  (11, [Value.ref 1, Value.int 0] ++ List.replicate 13 Value.null ++ [Value.int 0, Value.int 0]),
  (14, List.replicate 940 (Value.int 0)),
  (8, [Value.ref 1, Value.ref 3, Value.int 0, Value.int 0, Value.int 0, Value.int 0, Value.int 0, Value.int (-1), Value.long 0, Value.int 0, Value.int 0]),
  (15, [Value.long 3322259, Value.long 20201198, Value.long 11703827, Value.long 479437459, Value.long 9317, Value.long 3749, Value.long 408538606, Value.long 21643763890, Value.long 80948, Value.long 20201203, Value.long 19183859, Value.long 19965331, Value.long 4153, Value.long 498, Value.long 1476, Value.long 14836, Value.long 12009198, Value.long 21467193, Value.long 52, Value.long 89, Value.long 21279923, Value.long 20583955, Value.long 146885, Value.long 492210354])], 1, 24)
set_option maxRecDepth 100000 in
theorem rc_c8 : ri_is (ri_sn (ri_st [] (ri_call [] ri_md 6) (ri_bud ri_md) md_72) 421 rc_8) rc_9 = true := by decide +kernel
def h_r0 : ri_H := [
  (11, [Value.ref 1, Value.int 0] ++ List.replicate 13 Value.null ++ [Value.int 0, Value.int 0]),
  (14, List.replicate 940 (Value.int 0)),
  (8, [Value.null, Value.null] ++ List.replicate 6 (Value.int 0) ++ [Value.long 0, Value.int 0, Value.int 0])]
def h_r1 : ri_H := [
  (11, [Value.ref 1, Value.int 0] ++ List.replicate 13 Value.null ++ [Value.int 0, Value.int 0]),
  (14, List.replicate 940 (Value.int 0)),
  (8, [Value.ref 1, Value.ref 3, Value.int 0, Value.int 0, Value.int 0, Value.int 0, Value.int 0, Value.int (-1), Value.long 0, Value.int 0, Value.int 0]),
  (15, [Value.long 3322259, Value.long 20201198, Value.long 11703827, Value.long 479437459, Value.long 9317, Value.long 3749, Value.long 408538606, Value.long 21643763890, Value.long 80948, Value.long 20201203, Value.long 19183859, Value.long 19965331, Value.long 4153, Value.long 498, Value.long 1476, Value.long 14836, Value.long 12009198, Value.long 21467193, Value.long 52, Value.long 89, Value.long 21279923, Value.long 20583955, Value.long 146885, Value.long 492210354])]
