def kc_ls : List (List Nat) := [[0, 1, 2, 3, 4, 5, 6, 7, 8, 9, 10, 11, 12, 13, 14, 15, 16, 17, 18, 19, 20, 21, 22, 23, 24, 25, 26, 27, 28, 29], [30, 31, 32, 33, 34, 35, 36, 37, 38, 39, 40, 41, 42, 43, 44, 45, 46, 47, 48, 49, 50, 51, 52, 53, 54, 55, 56, 57, 58, 59], [60, 61, 62, 63, 64, 65, 66, 67, 68, 69, 70, 71, 72, 73, 74, 75, 76, 77, 78, 79, 80, 81, 82, 83, 84, 85, 86, 87, 88, 89], [90, 91, 92, 93, 94, 95, 96, 97, 98, 99, 100, 101, 102, 103, 104, 105, 106, 107, 108, 109, 110, 111, 112, 113, 114, 115, 116, 117, 118, 119], [120, 121, 122, 123, 124, 125, 126, 127, 128, 129, 130, 131, 132, 133, 134, 135, 136, 137, 138, 139, 140, 141, 142, 143, 144, 145, 146, 147, 148, 149], [150, 151, 152, 153, 154, 155, 156, 157, 158, 159, 160, 161, 162, 163, 164, 165, 166, 167, 168, 169, 170, 171, 172, 173, 174, 175, 176, 177, 178, 179], [180, 181, 182, 183, 184, 185, 186, 187, 188, 189, 190, 191, 192, 193, 194, 195, 196, 197, 198, 199, 200, 201, 202, 203, 204, 205, 206, 207, 208, 209], [210, 211, 212, 213, 214, 215, 216, 217, 218, 219, 220, 221, 222, 223, 224, 225, 226, 227, 228, 229, 230, 231, 232, 233, 234, 235, 236, 237, 238, 239], [240, 241, 242, 243, 244, 245, 246, 247, 248, 249, 250, 251, 252, 253, 254, 255, 256, 257, 258, 259, 260, 261, 262]]
theorem kc_lsok : ∀ l ∈ kc_ls, kc_ix l = true := by
  intro l hl
  unfold kc_ls at hl
  simp only [List.mem_cons, List.mem_nil_iff, or_false] at hl
  rcases hl with rfl | rfl | rfl | rfl | rfl | rfl | rfl | rfl | rfl
  · exact kc_ck0
  · exact kc_ck1
  · exact kc_ck2
  · exact kc_ck3
  · exact kc_ck4
  · exact kc_ck5
  · exact kc_ck6
  · exact kc_ck7
  · exact kc_ck8
set_option maxRecDepth 100000 in
theorem kc_cov : (List.range 263).all (fun i => kc_ls.any (fun l => l.any (Nat.beq i))) = true ∧ kc_C2.length = 263 := by decide +kernel
/-- every context of the class holds (139, lesson, is left out: it may throw) -/
theorem kc_all : ∀ (n i : Nat) (X : sx_X), kc_C2[i]? = some X → X.2.2.2.1 < n → sx_Vd kc_G (sx_Jg kc_gd) ri_md X := by
  intro n
  induction n with
  | zero => intro i X _ h; omega
  | succ n ih =>
    intro i X hX hn
    have hi : i < 263 := by
      rw [← kc_cov.2]
      exact (List.getElem?_eq_some_iff.mp hX).1
    have hc := List.all_eq_true.mp kc_cov.1 i (List.mem_range.mpr hi)
    obtain ⟨l, l1, l2⟩ := List.any_eq_true.mp hc
    obtain ⟨k, k1, k2⟩ := List.any_eq_true.mp l2
    have := kc_lsok l l1
    unfold kc_ix at this
    have := List.all_eq_true.mp this k k1
    rw [← Nat.eq_of_beq_eq_true k2, hX] at this
    exact sx_ck_ok (sx_HJg kc_G kc_gd) (fun k' Y hY hlt => ih k' Y hY (by omega)) this
