def km_ls : List (List Nat) := [[0, 1, 2, 3, 4, 5, 6, 7, 8, 9, 10, 11, 12, 13, 14, 15, 16, 17, 18, 19], [20, 21, 22, 23, 24, 25, 26, 27, 28, 29, 30, 31, 32, 33, 34, 35, 36, 37, 38, 39], [40, 41, 42, 43, 44, 45, 46, 47, 48, 49, 50, 51, 52, 53, 54, 55, 56, 57, 58, 59], [60, 61, 62, 63, 64, 65, 66, 67, 68, 69, 70, 71, 72, 73, 74, 75, 76, 77, 78, 79], [80, 81, 82, 83, 84, 85, 88, 89, 90, 91, 92, 93, 94, 95, 96, 97, 98, 99, 100, 101], [102, 103, 104, 105, 106, 107, 108, 109, 110, 111, 112, 114, 115, 116, 117, 118, 119, 120, 121, 122], [123, 124, 125, 126, 127, 128, 129, 130, 131, 132, 133, 134, 135, 136, 137, 138, 139, 140, 141, 142], [143, 144, 145, 146, 147, 148, 149, 150, 151, 152, 153, 154, 155, 156, 157, 158, 159, 160, 161, 162], [163, 164, 165, 166, 167, 168, 169, 170, 171, 172, 173, 174, 175, 176, 177, 178, 179, 180, 181, 182], [183, 184, 185, 189, 190, 191, 192, 193, 194, 195, 196, 197, 198, 199, 200, 201, 202, 203, 204, 205], [206, 207, 208, 209, 213, 214, 215, 216, 217, 218, 219, 220, 221, 222, 225, 226, 227, 228, 229, 230], [231, 232, 233, 234, 235, 236, 237, 238, 239, 240, 241, 242, 243, 244, 245, 246, 247, 248, 249, 250], [251, 252, 253, 254, 255, 256, 257, 258, 259, 260, 261, 262, 263, 264, 265, 266, 267, 268, 269, 270], [271, 272, 273, 274, 275, 276, 277, 278, 279, 280, 281, 282, 283, 284, 285, 286, 287, 288, 289, 296], [297, 298, 299, 301, 302, 303, 304, 305, 306, 307, 308, 310, 311, 312, 313, 314, 315, 316, 317, 318], [319, 320, 321, 322, 323, 324, 326, 327, 329, 331, 332, 333, 334, 335, 336, 337, 338, 339, 340, 341], [342, 343, 344, 347, 348, 349, 351], [86], [87], [113], [186], [187], [188], [210], [211], [212], [291], [292], [293], [294], [295], [309], [325], [330], [345], [346], [350], [223], [224], [328]]
theorem km_lsok : ∀ l ∈ km_ls, km_ix l = true := by
  intro l hl
  unfold km_ls at hl
  simp only [List.mem_cons, List.mem_nil_iff, or_false] at hl
  rcases hl with rfl | rfl | rfl | rfl | rfl | rfl | rfl | rfl | rfl | rfl | rfl | rfl | rfl | rfl | rfl | rfl | rfl | rfl | rfl | rfl | rfl | rfl | rfl | rfl | rfl | rfl | rfl | rfl | rfl | rfl | rfl | rfl | rfl | rfl | rfl | rfl | rfl | rfl | rfl | rfl
  · exact km_ck0
  · exact km_ck1
  · exact km_ck2
  · exact km_ck3
  · exact km_ck4
  · exact km_ck5
  · exact km_ck6
  · exact km_ck7
  · exact km_ck8
  · exact km_ck9
  · exact km_ck10
  · exact km_ck11
  · exact km_ck12
  · exact km_ck13
  · exact km_ck14
  · exact km_ck15
  · exact km_ck16
  · exact km_ck17
  · exact km_ck18
  · exact km_ck19
  · exact km_ck20
  · exact km_ck21
  · exact km_ck22
  · exact km_ck23
  · exact km_ck24
  · exact km_ck25
  · exact km_ck26
  · exact km_ck27
  · exact km_ck28
  · exact km_ck29
  · exact km_ck30
  · exact km_ck31
  · exact km_ck32
  · exact km_ck33
  · exact km_ck34
  · exact km_ck35
  · exact km_ck36
  · exact km_ck37
  · exact km_ck38
  · exact km_ck39
set_option maxRecDepth 100000 in
theorem km_cov : (List.range 352).all (fun i => km_ls.any (fun l => l.any (Nat.beq i)) || (Nat.beq i 290 || Nat.beq i 300)) = true ∧ km_CT.length = 352 := by decide +kernel
set_option maxRecDepth 100000 in
theorem km_dep : km_222.2.2.2.1 = 2 ∧ km_195.2.2.2.1 = 2 ∧ km_196.2.2.2.1 = 2 ∧ km_CT[222]? = some km_222 ∧ km_CT[195]? = some km_195 ∧ km_CT[196]? = some km_196 ∧ km_CT[290]? = some km_290 ∧ km_CT[300]? = some km_300 ∧ km_290.2.2.2.1 = 3 ∧ km_300.2.2.2.1 = 3 := ⟨rfl, rfl, rfl, rfl, rfl, rfl, rfl, rfl, rfl, rfl⟩
/-- every context of the reference holds -/
theorem km_all : ∀ (n i : Nat) (X : sx_X), km_CT[i]? = some X → X.2.2.2.1 < n → sx_Vd km_G (mj_J km_gd) ri_md X := by
  intro n
  induction n with
  | zero => intro i X _ h; omega
  | succ n ih =>
    intro i X hX hn
    obtain ⟨d1, d2, d3, e1, e2, e3, e4, e5, d4, d5⟩ := km_dep
    have hi : i < 352 := by
      rw [← km_cov.2]
      exact (List.getElem?_eq_some_iff.mp hX).1
    have hc := List.all_eq_true.mp km_cov.1 i (List.mem_range.mpr hi)
    rcases (Bool.or_eq_true _ _).mp hc with s | s
    · obtain ⟨l, l1, l2⟩ := List.any_eq_true.mp s
      obtain ⟨k, k1, k2⟩ := List.any_eq_true.mp l2
      have := km_lsok l l1
      unfold km_ix at this
      have := List.all_eq_true.mp this k k1
      rw [← Nat.eq_of_beq_eq_true k2, hX] at this
      exact sx_ck_ok (mj_HJ km_G km_gd) (fun k' Y hY hlt => ih k' Y hY (by omega)) this
    · rcases (Bool.or_eq_true _ _).mp s with s | s
      · rw [Nat.eq_of_beq_eq_true s, e4] at hX
        cases hX
        exact hi_Vd (ih 195 _ e2 (by omega)) (ih 196 _ e3 (by omega)) (by omega) (by omega)
      · rw [Nat.eq_of_beq_eq_true s, e5] at hX
        cases hX
        exact hs_Vd (ih 222 _ e1 (by omega)) (by omega)
