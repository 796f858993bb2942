/-! the bytes that feed adds -/
theorem by_sh (x : BitVec 32) (s : Nat) (hs : s ≤ 24) : (x >>> s).signExtend 8 = (x.sshiftRight s).signExtend 8 := by
  rw [BitVec.signExtend_eq_setWidth_of_le _ (by decide), BitVec.signExtend_eq_setWidth_of_le _ (by decide)]
  ext i hi
  simp only [BitVec.getElem_setWidth, BitVec.getLsbD_ushiftRight, BitVec.getLsbD_sshiftRight]
  rw [if_pos (by omega)]
  have : decide (32 ≤ i) = false := by
    rw [decide_eq_false_iff_not]
    omega
  rw [this]
  simp
theorem by_24 (v : Int32) : (v.toUInt32 >>> ((24 : Int32).toUInt32 &&& Int32.toUInt32 31)).toInt32.toInt8 = (v >>> ((24 : Int32) &&& 31)).toInt8 := Int8.toBitVec_inj.mp (by_sh v.toBitVec 24 (by decide))
theorem by_16 (v : Int32) : (v.toUInt32 >>> ((16 : Int32).toUInt32 &&& Int32.toUInt32 31)).toInt32.toInt8 = (v >>> ((16 : Int32) &&& 31)).toInt8 := Int8.toBitVec_inj.mp (by_sh v.toBitVec 16 (by decide))
theorem by_8 (v : Int32) : (v.toUInt32 >>> ((8 : Int32).toUInt32 &&& Int32.toUInt32 31)).toInt32.toInt8 = (v >>> ((8 : Int32) &&& 31)).toInt8 := Int8.toBitVec_inj.mp (by_sh v.toBitVec 8 (by decide))
theorem by_0 (v : Int32) : (v.toUInt32 >>> ((0 : Int32).toUInt32 &&& Int32.toUInt32 31)).toInt32.toInt8 = (v >>> ((0 : Int32) &&& 31)).toInt8 := Int8.toBitVec_inj.mp (by_sh v.toBitVec 0 (by decide))
def by1 (v s : Int32) : Int32 := ((v >>> (s &&& 31)).toInt8.toInt32).toInt8.toInt32
def by4 (v : Int32) (n i : Nat) (x : Int32) : Int32 := if i = n + 3 then by1 v 0 else if i = n + 2 then by1 v 8 else if i = n + 1 then by1 v 16 else if i = n then by1 v 24 else x
theorem by4_up {G : eh_W} {c n i : Nat} {w0 w1 w2 w3 : Int32} {z0 z1 z2 z3 : Value} : eh_i (eh_u (eh_u (eh_u (eh_u (eh_u (eh_u (eh_u (eh_u G 1 n (.int w0)) 0 c z0) 1 (n + 1) (.int w1)) 0 c z1) 1 (n + 2) (.int w2)) 0 c z2) 1 (n + 3) (.int w3)) 0 c z3) 1 i = if i = n + 3 then w3 else if i = n + 2 then w2 else if i = n + 1 then w1 else if i = n then w0 else eh_i G 1 i := by
  have s : ∀ (G : eh_W) (z : Value), eh_i (eh_u G 0 c z) 1 i = eh_i G 1 i := fun _ _ => rfl
  rw [s]
  by_cases e3 : i = n + 3
  · rw [if_pos e3, e3]
    exact eh_i_self _ _ _ _
  · rw [if_neg e3, eh_i_ne _ _ (Or.inr (fun x => e3 x.symm)), s]
    by_cases e2 : i = n + 2
    · rw [if_pos e2, e2]
      exact eh_i_self _ _ _ _
    · rw [if_neg e2, eh_i_ne _ _ (Or.inr (fun x => e2 x.symm)), s]
      by_cases e1 : i = n + 1
      · rw [if_pos e1, e1]
        exact eh_i_self _ _ _ _
      · rw [if_neg e1, eh_i_ne _ _ (Or.inr (fun x => e1 x.symm)), s]
        by_cases e0 : i = n
        · rw [if_pos e0, e0]
          exact eh_i_self _ _ _ _
        · rw [if_neg e0]
          exact eh_i_ne _ _ (Or.inr (fun x => e0 x.symm))
def ap_C (G : eh_W) (v : Int32) (G1 : eh_W) : Prop := ∀ n, n + 4 ≤ 940 → eh_i G 0 1 = nI n → eh_i G1 0 1 = nI (n + 4) ∧ ∀ i, eh_i G1 1 i = by4 v n i (eh_i G 1 i)
def ap_M (G : eh_W) (v : Int32) (G1 : eh_W) : Prop := ∀ n, n + 4 ≤ 940 → eh_i G 0 2 = nI n → eh_i G1 0 2 = nI (n + 4) ∧ ∀ i, eh_i G1 1 i = by4 v n i (eh_i G 1 i)
section FD
variable {d : Nat} {h h' : ri_H} {v : Option Value} {G : eh_W} {v0 : Int32}
theorem fd_102 (E : ri_calE ri_md (d + 1) 102 [.ref 0, .int v0] h = some (v, h')) (hV : eh_V h = G) (ty : eh_ty tC G) : ∃ G1, ap_C G v0 G1 ∧ eh_ty tC G1 ∧ v = none ∧ eh_V h' = G1 ∧ eh_N h' = eh_N h := by
  have ch : ∀ {n : Nat}, n + 4 ≤ 940 → eh_i G 0 1 = nI n → (eh_i G 0 1).toInt < 940 ∧ (eh_i G 0 1 + 1).toInt < 940 ∧ (eh_i G 0 1 + 1 + 1).toInt < 940 ∧ (eh_i G 0 1 + 1 + 1 + 1).toInt < 940 := fun {n} hn hG => by
    rw [hG, lx_a1, lx_a1, lx_a1, lx_i (a := n) (by omega), lx_i (a := n + 1) (by omega), lx_i (a := n + 1 + 1) (by omega), lx_i (a := n + 1 + 1 + 1) (by omega)]
    omega
  rcases sp_102 E hV ty with ⟨c0, r1, r2, r3⟩ | ⟨_, c0, r1, r2, r3⟩ | ⟨_, _, c0, r1, r2, r3⟩ | ⟨_, _, _, c0, r1, r2, r3⟩ | ⟨-, -, -, -, r1, r2, r3⟩
  · exact ⟨_, fun n hn hG => absurd (ch hn hG).1 c0, by rw [r2]; exact ty, r1, rfl, r3⟩
  · exact ⟨_, fun n hn hG => absurd (ch hn hG).2.1 c0, by rw [r2]; exact (ty.ui rfl).ui rfl, r1, rfl, r3⟩
  · exact ⟨_, fun n hn hG => absurd (ch hn hG).2.2.1 c0, by rw [r2]; exact (((ty.ui rfl).ui rfl).ui rfl).ui rfl, r1, rfl, r3⟩
  · exact ⟨_, fun n hn hG => absurd (ch hn hG).2.2.2 c0, by rw [r2]; exact (((((ty.ui rfl).ui rfl).ui rfl).ui rfl).ui rfl).ui rfl, r1, rfl, r3⟩
  · refine ⟨_, fun n hn hG => ?_, by rw [r2]; exact (((((((ty.ui rfl).ui rfl).ui rfl).ui rfl).ui rfl).ui rfl).ui rfl).ui rfl, r1, rfl, r3⟩
    rw [r2, hG, lx_a1, lx_a1, lx_a1, lx_a1, lx_cl (a := n) (by omega), lx_cl (a := n + 1) (by omega), lx_cl (a := n + 1 + 1) (by omega), lx_cl (a := n + 1 + 1 + 1) (by omega), by_24, by_16, by_8, by_0]
    exact ⟨rfl, fun i => by4_up⟩
theorem fd_146 (E : ri_calE ri_md (d + 1) 146 [.ref 0, .int v0] h = some (v, h')) (hV : eh_V h = G) (ty : eh_ty tM G) : ∃ G1, ap_M G v0 G1 ∧ eh_ty tM G1 ∧ v = none ∧ eh_V h' = G1 ∧ eh_N h' = eh_N h := by
  obtain ⟨r1, r2, r3⟩ := sp_146 E hV ty
  refine ⟨_, fun n hn hG => ?_, by rw [r2]; exact (((((((ty.ui rfl).ui rfl).ui rfl).ui rfl).ui rfl).ui rfl).ui rfl).ui rfl, r1, rfl, r3⟩
  rw [r2, hG, lx_a1, lx_a1, lx_a1, lx_a1, lx_cl (a := n) (by omega), lx_cl (a := n + 1) (by omega), lx_cl (a := n + 1 + 1) (by omega), lx_cl (a := n + 1 + 1 + 1) (by omega)]
  exact ⟨rfl, fun i => by4_up⟩
end FD
/-- one int on both sides -/
theorem ap_J {Gc Gm Hc Hm : eh_W} {v : Int32} {n : Nat} (h1 : ap_C Gc v Hc) (h2 : ap_M Gm v Hm) (hn : n + 4 ≤ 940) (e1 : eh_i Gc 0 1 = nI n) (e2 : eh_i Gm 0 2 = nI n) (hb : ∀ i, i < 940 → eh_i Gc 1 i = eh_i Gm 1 i) : eh_i Hc 0 1 = nI (n + 4) ∧ eh_i Hm 0 2 = nI (n + 4) ∧ ∀ i, i < 940 → eh_i Hc 1 i = eh_i Hm 1 i :=
  ⟨(h1 n hn e1).1, (h2 n hn e2).1, fun i hi => by rw [(h1 n hn e1).2, (h2 n hn e2).2, hb i hi]⟩
