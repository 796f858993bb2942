/-! what is alike between two calls, beside the slots named: the tapes' bytes; the words are told -/
def cs_Q (hc hm : ri_H) : Prop := (∀ i : Nat, i < 940 → ∃ y : Int32, sx_at hc 1 (i : Int) = some (.int y) ∧ sx_at hm 1 (i : Int) = some (.int y)) ∧ (∀ k : Nat, k < 24 → sx_at hc 3 (k : Int) = some (.long (lx_K k))) ∧ (∀ k : Nat, k < 24 → sx_at hm 6 (k : Int) = some (.long (lx_Wd k)))
def cg_ct (k : Nat) (X : sx_X) : Bool := X.1.2.2.2.all (fun m => !Nat.beq m.1 k)
theorem cg_ct_kp {k : Nat} {X : sx_X} (h : cg_ct k X = true) (i : Int) : cg_kp k i X = true := List.all_eq_true.mpr (fun m hm => by
  have := List.all_eq_true.mp h m hm
  rw [this]
  rfl)
def cs_qc (X : sx_X) : Bool := cg_ct 1 X && cg_ct 3 X
def cs_qm (Y : sx_X) : Bool := cg_ct 1 Y && cg_ct 6 Y
def cs_qk (X Y : sx_X) : Bool := cs_qc X && cs_qm Y
section CSQ
variable {X Y : sx_X} {hc hm hc' hm' : ri_H}
theorem cs_Q_frc (q : cs_qc X = true) (H : cs_Q hc hm) (K1 : ∀ (k : Nat) (i : Int), k < 209 → cg_kp k i X = true → sx_at hc' k i = sx_at hc k i) : cs_Q hc' hm := by
  unfold cs_qc at q
  rw [Bool.and_eq_true] at q
  refine ⟨fun i hi => ?_, fun k hk => ?_, H.2.2⟩
  · obtain ⟨y, y1, y2⟩ := H.1 i hi
    exact ⟨y, by rw [K1 _ _ (by decide) (cg_ct_kp q.1 _)]; exact y1, y2⟩
  · rw [K1 _ _ (by decide) (cg_ct_kp q.2 _)]
    exact H.2.1 k hk
theorem cs_Q_frm (q : cs_qm Y = true) (H : cs_Q hc hm) (K2 : ∀ (k : Nat) (i : Int), cg_kp k i Y = true → sx_at hm' k i = sx_at hm k i) : cs_Q hc hm' := by
  unfold cs_qm at q
  rw [Bool.and_eq_true] at q
  refine ⟨fun i hi => ?_, H.2.1, fun k hk => ?_⟩
  · obtain ⟨y, y1, y2⟩ := H.1 i hi
    exact ⟨y, y1, by rw [K2 _ _ (cg_ct_kp q.1 _)]; exact y2⟩
  · rw [K2 _ _ (cg_ct_kp q.2 _)]
    exact H.2.2 k hk
theorem cs_Q_fr (q : cs_qk X Y = true) (H : cs_Q hc hm) (K1 : ∀ (k : Nat) (i : Int), k < 209 → cg_kp k i X = true → sx_at hc' k i = sx_at hc k i) (K2 : ∀ (k : Nat) (i : Int), cg_kp k i Y = true → sx_at hm' k i = sx_at hm k i) : cs_Q hc' hm' := by
  unfold cs_qk at q
  rw [Bool.and_eq_true] at q
  exact cs_Q_frm q.2 (cs_Q_frc q.1 H K1) K2
/-- the reference's own cells alone count -/
theorem cs_Q_lm (H : cs_Q hc hm) (hk : ∀ k, k < 18 → hm'[k]? = hm[k]?) : cs_Q hc hm' := by
  have e : ∀ (k : Nat) (i : Int), k < 18 → sx_at hm' k i = sx_at hm k i := fun k i h => by
    unfold sx_at
    rw [hk k h]
  exact ⟨fun i hi => by rw [e _ _ (by decide)]; exact H.1 i hi, H.2.1, fun k h => by rw [e _ _ (by decide)]; exact H.2.2 k h⟩
end CSQ
