def km_ix (l : List Nat) : Bool := l.all (fun i => match km_CT[i]? with
  | some X => sx_ck km_G (sx_dpg km_gd) ri_md km_CT 5000 X
  | none => false)
set_option maxRecDepth 100000 in
theorem km_ck0 : km_ix [0, 1, 2, 3, 4, 5, 6, 7, 8, 9, 10, 11, 12, 13, 14, 15, 16, 17, 18, 19] = true := by decide +kernel
set_option maxRecDepth 100000 in
theorem km_ck1 : km_ix [20, 21, 22, 23, 24, 25, 26, 27, 28, 29, 32, 33, 34, 35, 36, 37, 38, 39, 40, 41] = true := by decide +kernel
set_option maxRecDepth 100000 in
theorem km_ck2 : km_ix [42, 43, 44, 45, 46, 47, 48, 49, 50, 51, 52, 53, 54, 55, 56, 57, 58, 59, 60, 61] = true := by decide +kernel
set_option maxRecDepth 100000 in
theorem km_ck3 : km_ix [62, 63, 64, 65, 66, 67, 68, 69, 70, 71, 72, 73, 74, 75, 76, 77, 78, 79, 80, 81] = true := by decide +kernel
set_option maxRecDepth 100000 in
theorem km_ck4 : km_ix [82, 86, 87, 88, 89, 90, 91, 92, 93, 94, 95, 96, 97, 98, 99, 100, 109, 110, 111, 112] = true := by decide +kernel
set_option maxRecDepth 100000 in
theorem km_ck5 : km_ix [113, 114, 115, 116, 117, 118, 119, 120, 121, 122, 123, 124, 125, 126, 127, 128, 129, 130, 131, 132] = true := by decide +kernel
set_option maxRecDepth 100000 in
theorem km_ck6 : km_ix [133, 134, 135, 136, 137, 138, 139, 140, 141, 142, 143, 144, 145, 146, 147, 148, 149, 150, 151, 152] = true := by decide +kernel
set_option maxRecDepth 100000 in
theorem km_ck7 : km_ix [153, 154, 155, 156, 157, 158, 159, 160, 161, 162, 163, 164, 165, 166, 167, 168, 169, 170, 171, 172] = true := by decide +kernel
set_option maxRecDepth 100000 in
theorem km_ck8 : km_ix [173, 174, 175, 176, 177, 178, 179, 180, 181, 182, 183, 184, 185, 186, 187, 188, 189, 190, 191, 192] = true := by decide +kernel
set_option maxRecDepth 100000 in
theorem km_ck9 : km_ix [193, 194, 195, 196, 197, 198, 199, 200, 201, 202, 203, 204, 205, 206, 207, 208, 209, 210, 211, 212] = true := by decide +kernel
set_option maxRecDepth 100000 in
theorem km_ck10 : km_ix [213, 214, 215, 216, 217, 218, 219, 220, 221, 222, 223, 224, 225, 226, 227, 228, 229, 230, 231, 232] = true := by decide +kernel
set_option maxRecDepth 100000 in
theorem km_ck11 : km_ix [233, 234, 235, 236, 237, 238, 239, 240, 241, 242, 243, 244, 245, 246, 247, 248, 249, 250, 251, 252] = true := by decide +kernel
set_option maxRecDepth 100000 in
theorem km_ck12 : km_ix [253, 254, 255, 256, 257, 258, 259, 260, 261, 262, 263, 264, 265, 266, 268, 269, 270, 271, 272, 273] = true := by decide +kernel
set_option maxRecDepth 100000 in
theorem km_ck13 : km_ix [274, 278, 279, 280, 281, 282, 283, 284, 285, 286, 287, 288, 289, 290, 291, 292, 293, 294, 295, 296] = true := by decide +kernel
set_option maxRecDepth 100000 in
theorem km_ck14 : km_ix [297, 298, 299, 300, 301, 302, 303, 304, 305, 306, 307, 308, 309, 310, 311, 312, 313, 314] = true := by decide +kernel
