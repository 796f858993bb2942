/-! add (class): what it leaves -/
def pAd (k i : Nat) : Bool := (Nat.ble 19 k && Nat.ble k 21) || (Nat.beq k 18 && Nat.beq i 1)
section ADD
variable {d : Nat} {h h' : ri_H} {v : Option Value} {b : Nat → Int32} {n m : Nat} {ke si nu : Int32}
theorem fs_88 (E : ri_calE ri_md (d + 1) 88 [.ref 18, .int ke, .int si, .int nu] h = some (v, h')) (ty : eh_ty tC (eh_V h)) : eh_fr pAd (eh_V h) (eh_V h') := by
  rcases zs_88 E rfl ty with ⟨-, -, r2, -⟩ | ⟨-, -, r2, -⟩
  · rw [r2]
    exact eh_fr.rf
  · rw [r2]
    exact (((eh_fr.rf.up rfl).up rfl).up rfl).up rfl
theorem ts_88 (E : ri_calE ri_md (d + 1) 88 [.ref 18, .int ke, .int si, .int nu] h = some (v, h')) (iv : iS b n m (eh_V h)) : v = none ∧ iS b n m (eh_V h') ∧ eh_N h' = eh_N h := by
  rcases zs_88 E rfl iv.1 with ⟨-, r1, r2, r3⟩ | ⟨-, r1, r2, r3⟩
  · exact ⟨r1, by rw [r2]; exact iv, r3⟩
  · refine ⟨r1, ?_, r3⟩
    rw [r2]
    have j0 : iS b n m (eh_u (eh_V h) 19 (eh_i (eh_V h) 18 1).toNatClampNeg (.int ke)) := iS_u iv (iv.1.ui rfl) rfl
    have j1 : iS b n m (eh_u (eh_u (eh_V h) 19 (eh_i (eh_V h) 18 1).toNatClampNeg (.int ke)) 20 (eh_i (eh_V h) 18 1).toNatClampNeg (.int si)) := iS_u j0 (j0.1.ui rfl) rfl
    have j2 : iS b n m (eh_u (eh_u (eh_u (eh_V h) 19 (eh_i (eh_V h) 18 1).toNatClampNeg (.int ke)) 20 (eh_i (eh_V h) 18 1).toNatClampNeg (.int si)) 21 (eh_i (eh_V h) 18 1).toNatClampNeg (.int nu)) := iS_u j1 (j1.1.ui rfl) rfl
    exact iS_u j2 (j2.1.ui rfl) rfl
end ADD
