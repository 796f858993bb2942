set_option maxRecDepth 100000 in
theorem km_ck10 : km_ix [206, 207, 208, 209, 213, 214, 215, 216, 217, 218, 219, 220, 221, 222, 225, 226, 227, 228, 229, 230] = true := by decide +kernel
set_option maxRecDepth 100000 in
theorem km_ck11 : km_ix [231, 232, 233, 234, 235, 236, 237, 238, 239, 240, 241, 242, 243, 244, 245, 246, 247, 248, 249, 250] = true := by decide +kernel
set_option maxRecDepth 100000 in
theorem km_ck12 : km_ix [251, 252, 253, 254, 255, 256, 257, 258, 259, 260, 261, 262, 263, 264, 265, 266, 267, 268, 269, 270] = true := by decide +kernel
set_option maxRecDepth 100000 in
theorem km_ck13 : km_ix [271, 272, 273, 274, 275, 276, 277, 278, 279, 280, 281, 282, 283, 284, 285, 286, 287, 288, 289, 296] = true := by decide +kernel
set_option maxRecDepth 100000 in
theorem km_ck14 : km_ix [297, 298, 299, 301, 302, 303, 304, 305, 306, 307, 308, 310, 311, 312, 313, 314, 315, 316, 317, 318] = true := by decide +kernel
