/-! answers that are numbers; restore -/
def cg_an (c : Int) (X : sx_X) : Bool := X.1.2.2.1.all (fun ex => match ex.2.1 with
  | [t] => sx_veq t (0, 0, c)
  | _ => false)
theorem cg_ans {G : sx_G} {J : Nat → ri_H → Prop} {X : sx_X} {c : Int} (hc : cg_an c X = true) {ex : sx_A} (hx : ex ∈ X.1.2.2.1) {p : List Int} {h : ri_H} {x : Int32} (HS : sx_S G J p ex [] [.int x] h) : x.toInt = c := by
  have q := List.all_eq_true.mp hc ex hx
  have s2 : sx_sts p ex.2.1 [.int x] := HS.2.1
  split at q
  · next t ht =>
    rw [ht, sx_veq_ok q] at s2
    exact cf_an (t := (0, 0, c)) rfl s2
  · cases q
section CSC
variable {W : cs_W} {X Y : sx_X} {j1 j2 n : Nat} {hc hm t : ri_H} {xs : List Int32}
/-- a pair of calls that answer one number -/
theorem cs_pairc (c : Int) (HL : cs_L W hc hm) (V1 : sx_Vd kc_G (sx_Jg kc_gd) ri_md X) (V2 : sx_Vd km_G (mj_J km_gd) ri_md Y) (hok : cs_ok W j1 j2 n X Y = true) (a1 : cg_an c X = true) (a2 : cg_an c Y = true) (hn : xs.length = n) (hP : sx_P X.1.2.1.2.2.2.1 (xs.map Int32.toInt)) : cs_R (fun a b => a = b) W j1 j2 xs hc hm t := by
  unfold cs_ok at hok
  simp only [Bool.and_eq_true, decide_eq_true_eq] at hok
  obtain ⟨o1, o2, o3, o4, o5, o6, o7, o8⟩ := hok
  have o5 := List.isEmpty_iff.mp o5
  have o6 := List.isEmpty_iff.mp o6
  obtain ⟨x1, hc', c1, c2, c3, c4, ⟨ex1, c5, e1, c6⟩, c7⟩ := cs_cls (t := t) HL V1 o1 o3 hn (p := xs.map Int32.toInt) cs_map hP (by rw [o5]; exact fun o ho => absurd ho List.not_mem_nil)
  obtain ⟨x2, hm', b1, b2, b3, b4, ⟨ex2, b5, e2, b6⟩, b7⟩ := cs_mdl HL V2 o2 o4 hn (p := xs.map Int32.toInt) cs_map (by rw [← o7]; exact hP) (by rw [o6]; exact fun o ho => absurd ho List.not_mem_nil)
  refine ⟨x1, x2, hc', hm', c1, b1, ⟨c2, c3, c4, b2, b3, fun w hw => ?_, b4⟩, Int32.toInt_inj.mp ((cg_ans a1 c5 c6).trans (cg_ans a2 b5 b6).symm)⟩
  have q := List.all_eq_true.mp o8 w hw
  simp only [Bool.and_eq_true, Nat.blt_eq] at q
  exact cs_tws q.2 (HL.2.2.2.2.2.1 w hw) q.1 c2 c5 c6 b5 b6 c7 b7
end CSC
def rr_x (k : Int) (js : List Nat) : List sx_A := [([], [(0, 0, 0)], ([], [(k, k), (0, 0)], [], [], js)), ([], [(0, 0, 1)], ([], [(k, k), (1, 1)], [], [], js))]
theorem rr_out {G : sx_G} {J : Nat → ri_H → Prop} {h : ri_H} {p e : List Int} {ex : sx_A} {x : Int32} {k : Int} {js : List Nat} {y : Int} (hp : p[1]? = some y) (hx : ex ∈ rr_x k js) (S : sx_S G J (p ++ e) ex [] [.int x] h) : x.toInt = y := by
  unfold rr_x at hx
  simp only [List.mem_cons, List.mem_nil_iff, or_false] at hx
  obtain ⟨-, S2, S3, S4, -⟩ := S
  rcases hx with rfl | rfl
  · have a1 := cf_iv S4 hp (t := (0, 0)) rfl
    have a2 : x.toInt = 0 := cf_an (p := p ++ e) (t := (0, 0, 0)) rfl S2
    omega
  · have a1 := cf_iv S4 hp (t := (1, 1)) rfl
    have a2 : x.toInt = 1 := cf_an (p := p ++ e) (t := (0, 0, 1)) rfl S2
    omega
section CSR
variable {W : cs_W} {X Y : sx_X} {hc hm t : ri_H} {xs : List Int32}
theorem rr_oh {h : ri_H} {p : List Int} {y : Int32} {s k : Nat} {i : Int} (hp : p[s]? = some y.toInt) (h1 : sx_at h k i = some (.int y)) : ∀ o ∈ [((k : Nat), ((0, 0, i) : sx_v), ((1, s, 0) : sx_v))], sx_oh p h o := by
  intro o ho
  rw [List.mem_singleton.mp ho]
  refine ⟨i, .int y, rfl, h1, sx_g_of ?_⟩
  show (match p[s]? with
    | some y => some (y + (0 : Int))
    | none => none) = some y.toInt
  rw [hp]
  show some (y.toInt + 0) = _
  rw [Int.add_zero]
/-- restore at k: it answers the flag, and keeps the slots of W -/
theorem cs_rst {k : Int} {cc : Nat} (hW : ((cc, 3), (17, k)) ∈ W) (hcc : cc < 209) (hr : W.all (fun w => Nat.blt w.1.1 209 && (cg_kp w.1.1 w.1.2 X && cg_kp w.2.1 w.2.2 Y)) = true) (HL : cs_L W hc hm) (hb : ∀ y : Int32, sx_at hc cc 3 = some (.int y) → 0 ≤ y.toInt ∧ y.toInt ≤ 1) (V1 : sx_Vd kc_G (sx_Jg kc_gd) ri_md X) (V2 : sx_Vd km_G (mj_J km_gd) ri_md Y) (k1 : cg_ok cs_jc 209 142 1 X = true) (k2 : cg_ok cs_jm 18 253 1 Y = true) (b1 : ri_bud ri_md 142 = some (0, 0)) (b2 : ri_bud ri_md 253 = some (0, 0))
    (eX : X.1.2.1.2.2.1 = [(cc, (0, 0, 3), (1, 1, 0))]) (iX : X.1.2.1.2.2.2.1 = [(k, k), (0, 1)]) (xX : X.1.2.2.1 = rr_x k cs_jc) (eY : Y.1.2.1.2.2.1 = [(17, (0, 0, k), (1, 1, 0))]) (iY : Y.1.2.1.2.2.2.1 = [(k, k), (0, 1)]) (xY : Y.1.2.2.1 = rr_x k cs_jm) {z : Int32} (hxs : xs = [z]) (hz : z.toInt = k) : cs_R (fun a b => a = b) W 142 253 xs hc hm t := by
  subst hxs
  obtain ⟨y, y1, y2⟩ := HL.2.2.2.2.2.1 _ hW
  obtain ⟨y3, y4⟩ := hb y y1
  have l1 := HL.1
  have hp1 : ([z].map Int32.toInt ++ [y.toInt])[1]? = some y.toInt := rfl
  have hP : sx_P [(k, k), (0, 1)] ([z].map Int32.toInt ++ [y.toInt]) := ⟨⟨by dsimp only; omega, by dsimp only; omega⟩, ⟨by dsimp only; omega, by dsimp only; omega⟩, trivial⟩
  obtain ⟨x1, hc', a1, a2, a3, a4, ⟨ex1, a5, e1, a6⟩, a7⟩ := cs_cls (t := t) HL V1 k1 b1 (xs := [z]) rfl (p := [z].map Int32.toInt ++ [y.toInt]) cs_map2 (by rw [iX]; exact hP) (by rw [eX]; exact rr_oh hp1 (by rw [cs_at (h := hc) (List.getElem?_append_left (by omega))]; exact y1))
  obtain ⟨x2, hm', c1, c2, c3, c4, ⟨ex2, c5, e2, c6⟩, c7⟩ := cs_mdl HL V2 k2 b2 (xs := [z]) rfl (p := [z].map Int32.toInt ++ [y.toInt]) cs_map2 (by rw [iY]; exact hP) (by rw [eY]; exact rr_oh hp1 y2)
  rw [xX] at a5
  rw [xY] at c5
  have z1 := rr_out hp1 a5 a6
  have z2 := rr_out hp1 c5 c6
  refine ⟨x1, x2, hc', hm', a1, c1, ⟨a2, a3, a4, c2, c3, fun w hw => ?_, c4⟩, Int32.toInt_inj.mp (z1.trans z2.symm)⟩
  have q := List.all_eq_true.mp hr w hw
  simp only [Bool.and_eq_true, Nat.blt_eq] at q
  obtain ⟨u, u1, u2⟩ := HL.2.2.2.2.2.1 w hw
  exact ⟨u, by rw [a7 _ _ q.1 q.2.1]; exact u1, by rw [c7 _ _ q.2.2]; exact u2⟩
end CSR
