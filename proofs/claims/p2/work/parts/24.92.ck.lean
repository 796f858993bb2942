set_option maxRecDepth 100000 in
theorem km_ck10 : km_ix [223, 224, 225, 226, 227, 228, 229, 230, 231, 232, 233, 234, 235, 236, 237, 238, 239, 240, 241, 242] = true := by decide +kernel
set_option maxRecDepth 100000 in
theorem km_ck11 : km_ix [243, 244, 245, 246, 247, 248, 249, 250, 251, 252, 253, 254, 255, 256, 257, 258, 259, 260, 261, 262] = true := by decide +kernel
set_option maxRecDepth 100000 in
theorem km_ck12 : km_ix [263, 264, 265, 266, 267, 268, 269, 270, 271, 272, 273, 274, 275, 277, 278, 279, 280, 281, 282, 283] = true := by decide +kernel
set_option maxRecDepth 100000 in
theorem km_ck13 : km_ix [287, 288, 289, 290, 291, 292, 293, 294, 296, 297, 298, 299, 300, 301, 302, 303, 304, 305, 306, 307] = true := by decide +kernel
set_option maxRecDepth 100000 in
theorem km_ck14 : km_ix [308, 309, 311, 312, 314, 315, 316, 317, 318, 319, 320, 321, 322, 323, 324, 325, 328, 329, 330, 332] = true := by decide +kernel
