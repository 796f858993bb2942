set_option maxRecDepth 100000 in
theorem km_ck5 : km_ix [102, 103, 104, 105, 106, 107, 108, 109, 110, 111, 112, 114, 115, 116, 117, 118, 119, 120, 121, 122] = true := by decide +kernel
set_option maxRecDepth 100000 in
theorem km_ck6 : km_ix [123, 124, 125, 126, 127, 128, 129, 130, 131, 132, 133, 134, 135, 136, 137, 138, 139, 140, 141, 142] = true := by decide +kernel
set_option maxRecDepth 100000 in
theorem km_ck7 : km_ix [143, 144, 145, 146, 147, 148, 149, 150, 151, 152, 153, 154, 155, 156, 157, 158, 159, 160, 161, 162] = true := by decide +kernel
set_option maxRecDepth 100000 in
theorem km_ck8 : km_ix [163, 164, 165, 166, 167, 168, 169, 170, 171, 172, 173, 174, 175, 176, 177, 178, 179, 180, 181, 182] = true := by decide +kernel
set_option maxRecDepth 100000 in
theorem km_ck9 : km_ix [183, 184, 185, 189, 190, 191, 192, 193, 194, 195, 196, 197, 198, 199, 200, 201, 202, 203, 204, 205] = true := by decide +kernel
