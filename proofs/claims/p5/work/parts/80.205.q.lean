/-! what is alike between two calls, beside the slots named: the tapes' bytes; the words are told -/
def cs_Q0 (hc hm : ri_H) : Prop := (∀ i : Nat, i < 940 → ∃ y : Int32, sx_at hc 1 (i : Int) = some (.int y) ∧ sx_at hm 1 (i : Int) = some (.int y)) ∧ (∀ k : Nat, k < 24 → sx_at hc 3 (k : Int) = some (.long (lx_K k))) ∧ (∀ k : Nat, k < 24 → sx_at hm 6 (k : Int) = some (.long (lx_Wd k))) ∧ GQ (eh_V hc) (eh_V hm)
def cg_ct (k : Nat) (X : sx_X) : Bool := X.1.2.2.2.all (fun m => !Nat.beq m.1 k)
theorem cg_ct_kp {k : Nat} {X : sx_X} (h : cg_ct k X = true) (i : Int) : cg_kp k i X = true := List.all_eq_true.mpr (fun m hm => by
  have := List.all_eq_true.mp h m hm
  rw [this]
  rfl)
theorem ei_sx {h h' : ri_H} {k i : Nat} (e : sx_at h' k (i : Int) = sx_at h k (i : Int)) : eh_i (eh_V h') k i = eh_i (eh_V h) k i := ei_eq (by rw [eh_V_at, eh_V_at, e])
/-- what surely, never, ask answer stays -/
def cs_gc (X : sx_X) : Bool := cg_ct 203 X
def cs_gm (Y : sx_X) : Bool := (List.range 4).all (fun j => cg_kp 0 ((28 + j : Nat) : Int) Y)
theorem GQ_frc {X : sx_X} {hc hc' hm : ri_H} (q : cs_gc X = true) (H : GQ (eh_V hc) (eh_V hm)) (K1 : ∀ (k : Nat) (i : Int), k < 209 → cg_kp k i X = true → sx_at hc' k i = sx_at hc k i) : GQ (eh_V hc') (eh_V hm) := GQ_kp H (fun _ _ => ei_sx (K1 _ _ (by decide) (cg_ct_kp q _))) (fun _ _ _ => rfl)
theorem GQ_frm {Y : sx_X} {hc hm hm' : ri_H} (q : cs_gm Y = true) (H : GQ (eh_V hc) (eh_V hm)) (K2 : ∀ (k : Nat) (i : Int), cg_kp k i Y = true → sx_at hm' k i = sx_at hm k i) : GQ (eh_V hc) (eh_V hm') := GQ_kp H (fun _ _ => rfl) (fun i a b => ei_sx (K2 _ _ (by
  have := List.all_eq_true.mp q (i - 28) (List.mem_range.mpr (by omega))
  rw [show 28 + (i - 28) = i by omega] at this
  exact this)))
def cs_q0c (X : sx_X) : Bool := cg_ct 1 X && (cg_ct 3 X && cs_gc X)
def cs_q0m (Y : sx_X) : Bool := cg_ct 1 Y && (cg_ct 6 Y && cs_gm Y)
def cs_q0k (X Y : sx_X) : Bool := cs_q0c X && cs_q0m Y
section CSQ
variable {X Y : sx_X} {hc hm hc' hm' : ri_H}
theorem cs_Q0_frc (q : cs_q0c X = true) (H : cs_Q0 hc hm) (K1 : ∀ (k : Nat) (i : Int), k < 209 → cg_kp k i X = true → sx_at hc' k i = sx_at hc k i) : cs_Q0 hc' hm := by
  unfold cs_q0c at q
  rw [Bool.and_eq_true, Bool.and_eq_true] at q
  refine ⟨fun i hi => ?_, fun k hk => ?_, H.2.2.1, GQ_frc q.2.2 H.2.2.2 K1⟩
  · obtain ⟨y, y1, y2⟩ := H.1 i hi
    exact ⟨y, by rw [K1 _ _ (by decide) (cg_ct_kp q.1 _)]; exact y1, y2⟩
  · rw [K1 _ _ (by decide) (cg_ct_kp q.2.1 _)]
    exact H.2.1 k hk
theorem cs_Q0_frm (q : cs_q0m Y = true) (H : cs_Q0 hc hm) (K2 : ∀ (k : Nat) (i : Int), cg_kp k i Y = true → sx_at hm' k i = sx_at hm k i) : cs_Q0 hc hm' := by
  unfold cs_q0m at q
  rw [Bool.and_eq_true, Bool.and_eq_true] at q
  refine ⟨fun i hi => ?_, H.2.1, fun k hk => ?_, GQ_frm q.2.2 H.2.2.2 K2⟩
  · obtain ⟨y, y1, y2⟩ := H.1 i hi
    exact ⟨y, y1, by rw [K2 _ _ (cg_ct_kp q.1 _)]; exact y2⟩
  · rw [K2 _ _ (cg_ct_kp q.2.1 _)]
    exact H.2.2.1 k hk
theorem cs_Q0_fr (q : cs_q0k X Y = true) (H : cs_Q0 hc hm) (K1 : ∀ (k : Nat) (i : Int), k < 209 → cg_kp k i X = true → sx_at hc' k i = sx_at hc k i) (K2 : ∀ (k : Nat) (i : Int), cg_kp k i Y = true → sx_at hm' k i = sx_at hm k i) : cs_Q0 hc' hm' := by
  unfold cs_q0k at q
  rw [Bool.and_eq_true] at q
  exact cs_Q0_frm q.2 (cs_Q0_frc q.1 H K1) K2
/-- the reference's own cells alone count -/
theorem cs_Q0_lm (H : cs_Q0 hc hm) (hk : ∀ k, k < 18 → hm'[k]? = hm[k]?) : cs_Q0 hc hm' := by
  have e : ∀ (k : Nat) (i : Int), k < 18 → sx_at hm' k i = sx_at hm k i := fun k i h => by
    unfold sx_at
    rw [hk k h]
  exact ⟨fun i hi => by rw [e _ _ (by decide)]; exact H.1 i hi, H.2.1, fun k h => by rw [e _ _ (by decide)]; exact H.2.2.1 k h, GQ_kp H.2.2.2 (fun _ _ => rfl) (fun i _ _ => ei_sx (e 0 _ (by decide)))⟩
end CSQ
/-! and the lakes -/
def cs_Q1 (hc hm : ri_H) : Prop := cs_Q0 hc hm ∧ LQ (eh_V hc) (eh_V hm)
def cs_lc (X : sx_X) : Bool := (List.range 9).all (fun k => cg_ct (23 + k) X) && ((List.range 10).all (fun k => cg_ct (143 + k) X) && (List.range 10).all (fun k => cg_ct (171 + k) X))
def cs_lr (Y : sx_X) : Bool := (List.range 96).all (fun j => cg_kp 2 (j : Int) Y) && (cg_ct 15 Y && cg_ct 17 Y)
def cs_q1m (Y : sx_X) : Bool := cs_q0m Y && cs_lr Y
def cs_q1k (X Y : sx_X) : Bool := cs_q0k X Y && (cs_lc X && cs_lr Y)
section CSL
variable {X Y : sx_X} {hc hm hc' hm' t : ri_H}
theorem LQ_frc (q : cs_lc X = true) (H : LQ (eh_V hc) (eh_V hm)) (K1 : ∀ (k : Nat) (i : Int), k < 209 → cg_kp k i X = true → sx_at hc' k i = sx_at hc k i) : LQ (eh_V hc') (eh_V hm) := by
  unfold cs_lc at q
  rw [Bool.and_eq_true, Bool.and_eq_true] at q
  refine LQ_kp H (fun k i hk _ => ei_sx ?_) (fun _ _ => rfl) (fun _ _ => rfl) (fun _ _ => rfl)
  rcases hk with hk | hk | hk
  · have := List.all_eq_true.mp q.1 (k - 23) (List.mem_range.mpr (by omega))
    rw [show 23 + (k - 23) = k by omega] at this
    exact K1 _ _ (by omega) (cg_ct_kp this _)
  · have := List.all_eq_true.mp q.2.1 (k - 143) (List.mem_range.mpr (by omega))
    rw [show 143 + (k - 143) = k by omega] at this
    exact K1 _ _ (by omega) (cg_ct_kp this _)
  · have := List.all_eq_true.mp q.2.2 (k - 171) (List.mem_range.mpr (by omega))
    rw [show 171 + (k - 171) = k by omega] at this
    exact K1 _ _ (by omega) (cg_ct_kp this _)
theorem LQ_frm (q : cs_lr Y = true) (H : LQ (eh_V hc) (eh_V hm)) (K2 : ∀ (k : Nat) (i : Int), cg_kp k i Y = true → sx_at hm' k i = sx_at hm k i) : LQ (eh_V hc) (eh_V hm') := by
  unfold cs_lr at q
  rw [Bool.and_eq_true, Bool.and_eq_true] at q
  exact LQ_kp H (fun _ _ _ _ => rfl) (fun j hj => ei_sx (K2 _ _ (List.all_eq_true.mp q.1 j (List.mem_range.mpr hj)))) (fun j _ => ei_sx (K2 _ _ (cg_ct_kp q.2.1 _))) (fun j _ => ei_sx (K2 _ _ (cg_ct_kp q.2.2 _)))
theorem cs_Q1_frm (q : cs_q1m Y = true) (H : cs_Q1 hc hm) (K2 : ∀ (k : Nat) (i : Int), cg_kp k i Y = true → sx_at hm' k i = sx_at hm k i) : cs_Q1 hc hm' := by
  unfold cs_q1m at q
  rw [Bool.and_eq_true] at q
  exact ⟨cs_Q0_frm q.1 H.1 K2, LQ_frm q.2 H.2 K2⟩
theorem cs_Q1_fr (q : cs_q1k X Y = true) (H : cs_Q1 hc hm) (K1 : ∀ (k : Nat) (i : Int), k < 209 → cg_kp k i X = true → sx_at hc' k i = sx_at hc k i) (K2 : ∀ (k : Nat) (i : Int), cg_kp k i Y = true → sx_at hm' k i = sx_at hm k i) : cs_Q1 hc' hm' := by
  unfold cs_q1k at q
  rw [Bool.and_eq_true, Bool.and_eq_true] at q
  exact ⟨cs_Q0_fr q.1 H.1 K1 K2, LQ_frm q.2.2 (LQ_frc q.2.1 H.2 K1) K2⟩
theorem cs_Q1_lm (H : cs_Q1 hc hm) (hk : ∀ k, k < 18 → hm'[k]? = hm[k]?) : cs_Q1 hc hm' := by
  have e : ∀ k i, k < 18 → eh_i (eh_V hm') k i = eh_i (eh_V hm) k i := fun k i h => ei_eq (by
    unfold eh_V
    rw [hk k h])
  exact ⟨cs_Q0_lm H.1 hk, LQ_kp H.2 (fun _ _ _ _ => rfl) (fun _ _ => e _ _ (by decide)) (fun _ _ => e _ _ (by decide)) (fun _ _ => e _ _ (by decide))⟩
/-- the class's own cells alone count -/
theorem ei_ap (hl : hc.length = 209) {k i : Nat} (hk : k < 209) : eh_i (eh_V (hc ++ t)) k i = eh_i (eh_V hc) k i := ei_eq (by
  unfold eh_V
  rw [List.getElem?_append_left (by omega)])
theorem LQ_up (hl : hc.length = 209) (H : LQ (eh_V hc) (eh_V hm)) : LQ (eh_V (hc ++ t)) (eh_V hm) := LQ_kp H (fun k i _ _ => ei_ap hl (by omega)) (fun _ _ => rfl) (fun _ _ => rfl) (fun _ _ => rfl)
theorem LQ_dn (hl : hc.length = 209) (H : LQ (eh_V (hc ++ t)) (eh_V hm)) : LQ (eh_V hc) (eh_V hm) := LQ_kp H (fun k i _ _ => (ei_ap hl (by omega)).symm) (fun _ _ => rfl) (fun _ _ => rfl) (fun _ _ => rfl)
end CSL
/-! and the names of the lakes -/
theorem el_sx {h h' : ri_H} {k i : Nat} (e : sx_at h' k (i : Int) = sx_at h k (i : Int)) : eh_l (eh_V h') k i = eh_l (eh_V h) k i := el_eq (by rw [eh_V_at, eh_V_at, e])
def cs_Q2 (hc hm : ri_H) : Prop := cs_Q1 hc hm ∧ NQ (eh_V hc) (eh_V hm)
def cs_nc (X : sx_X) : Bool := ([32, 33, 34, 153, 154, 155, 181, 182, 183] : List Nat).all (fun k => cg_ct k X)
def cs_nr (Y : sx_X) : Bool := (List.range 24).all (fun j => cg_kp 5 (j : Int) Y) && cg_ct 16 Y
def cs_q2m (Y : sx_X) : Bool := cs_q1m Y && cs_nr Y
def cs_q2k (X Y : sx_X) : Bool := cs_q1k X Y && (cs_nc X && cs_nr Y)
section CSN
variable {X Y : sx_X} {hc hm hc' hm' t : ri_H}
theorem NQ_frc (q : cs_nc X = true) (H : NQ (eh_V hc) (eh_V hm)) (K1 : ∀ (k : Nat) (i : Int), k < 209 → cg_kp k i X = true → sx_at hc' k i = sx_at hc k i) : NQ (eh_V hc') (eh_V hm) := by
  have z : ∀ k, k ∈ ([32, 33, 34, 153, 154, 155, 181, 182, 183] : List Nat) → cg_ct k X = true := List.all_eq_true.mp q
  refine NQ_kp H (fun k i hk _ => el_sx (K1 _ _ ?_ (cg_ct_kp (z k ?_) _))) (fun k i hk _ => ei_sx (K1 _ _ ?_ (cg_ct_kp (z k ?_) _))) (fun _ _ => rfl) (fun _ _ => rfl) (fun _ _ => rfl) (fun _ _ => rfl) (fun _ _ => rfl)
  · omega
  · rcases hk with rfl | rfl | rfl <;> decide
  · omega
  · rcases hk with rfl | rfl | rfl | rfl | rfl | rfl <;> decide
theorem NQ_frm (q : cs_lr Y = true) (q' : cs_nr Y = true) (H : NQ (eh_V hc) (eh_V hm)) (K2 : ∀ (k : Nat) (i : Int), cg_kp k i Y = true → sx_at hm' k i = sx_at hm k i) : NQ (eh_V hc) (eh_V hm') := by
  unfold cs_lr at q
  unfold cs_nr at q'
  rw [Bool.and_eq_true] at q'
  rw [Bool.and_eq_true, Bool.and_eq_true] at q
  exact NQ_kp H (fun _ _ _ _ => rfl) (fun _ _ _ _ => rfl) (fun j hj => ei_sx (K2 _ _ (List.all_eq_true.mp q.1 j (List.mem_range.mpr (by omega))))) (fun j _ => ei_sx (K2 _ _ (cg_ct_kp q.2.1 _))) (fun j _ => ei_sx (K2 _ _ (cg_ct_kp q.2.2 _))) (fun j hj => el_sx (K2 _ _ (List.all_eq_true.mp q'.1 j (List.mem_range.mpr hj)))) (fun j _ => el_sx (K2 _ _ (cg_ct_kp q'.2 _)))
theorem cs_Q2_frm (q : cs_q2m Y = true) (H : cs_Q2 hc hm) (K2 : ∀ (k : Nat) (i : Int), cg_kp k i Y = true → sx_at hm' k i = sx_at hm k i) : cs_Q2 hc hm' := by
  unfold cs_q2m at q
  rw [Bool.and_eq_true] at q
  have q1 := q.1
  unfold cs_q1m at q1
  rw [Bool.and_eq_true] at q1
  exact ⟨cs_Q1_frm q.1 H.1 K2, NQ_frm q1.2 q.2 H.2 K2⟩
theorem cs_Q2_fr (q : cs_q2k X Y = true) (H : cs_Q2 hc hm) (K1 : ∀ (k : Nat) (i : Int), k < 209 → cg_kp k i X = true → sx_at hc' k i = sx_at hc k i) (K2 : ∀ (k : Nat) (i : Int), cg_kp k i Y = true → sx_at hm' k i = sx_at hm k i) : cs_Q2 hc' hm' := by
  unfold cs_q2k at q
  rw [Bool.and_eq_true, Bool.and_eq_true] at q
  have q1 := q.1
  unfold cs_q1k at q1
  rw [Bool.and_eq_true, Bool.and_eq_true] at q1
  exact ⟨cs_Q1_fr q.1 H.1 K1 K2, NQ_frm q1.2.2 q.2.2 (NQ_frc q.2.1 H.2 K1) K2⟩
theorem cs_Q2_lm (H : cs_Q2 hc hm) (hk : ∀ k, k < 18 → hm'[k]? = hm[k]?) : cs_Q2 hc hm' := by
  have e : ∀ k i, k < 18 → eh_V hm' k i = eh_V hm k i := fun k i h => by
    unfold eh_V
    rw [hk k h]
  exact ⟨cs_Q1_lm H.1 hk, NQ_kp H.2 (fun _ _ _ _ => rfl) (fun _ _ _ _ => rfl) (fun _ _ => ei_eq (e _ _ (by decide))) (fun _ _ => ei_eq (e _ _ (by decide))) (fun _ _ => ei_eq (e _ _ (by decide))) (fun _ _ => el_eq (e _ _ (by decide))) (fun _ _ => el_eq (e _ _ (by decide)))⟩
theorem el_ap (hl : hc.length = 209) {k i : Nat} (hk : k < 209) : eh_l (eh_V (hc ++ t)) k i = eh_l (eh_V hc) k i := el_eq (by
  unfold eh_V
  rw [List.getElem?_append_left (by omega)])
theorem NQ_up (hl : hc.length = 209) (H : NQ (eh_V hc) (eh_V hm)) : NQ (eh_V (hc ++ t)) (eh_V hm) := NQ_kp H (fun k i _ _ => el_ap hl (by omega)) (fun k i _ _ => ei_ap hl (by omega)) (fun _ _ => rfl) (fun _ _ => rfl) (fun _ _ => rfl) (fun _ _ => rfl) (fun _ _ => rfl)
theorem NQ_dn (hl : hc.length = 209) (H : NQ (eh_V (hc ++ t)) (eh_V hm)) : NQ (eh_V hc) (eh_V hm) := NQ_kp H (fun k i _ _ => (el_ap hl (by omega)).symm) (fun k i _ _ => (ei_ap hl (by omega)).symm) (fun _ _ => rfl) (fun _ _ => rfl) (fun _ _ => rfl) (fun _ _ => rfl) (fun _ _ => rfl)
end CSN
/-! and the FAULT -/
def FQ (Gc Gm : eh_W) : Prop := eh_i Gc 0 15 = eh_i Gm 0 15
def cs_Q (hc hm : ri_H) : Prop := cs_Q2 hc hm ∧ FQ (eh_V hc) (eh_V hm)
def cs_fk (X : sx_X) : Bool := cg_kp 0 ((15 : Nat) : Int) X
def cs_qm (Y : sx_X) : Bool := cs_q2m Y && cs_fk Y
def cs_qk (X Y : sx_X) : Bool := cs_q2k X Y && (cs_fk X && cs_fk Y)
section CSF
variable {X Y : sx_X} {hc hm hc' hm' t : ri_H}
theorem FQ_frc (q : cs_fk X = true) (H : FQ (eh_V hc) (eh_V hm)) (K1 : ∀ (k : Nat) (i : Int), k < 209 → cg_kp k i X = true → sx_at hc' k i = sx_at hc k i) : FQ (eh_V hc') (eh_V hm) := (ei_sx (K1 0 _ (by decide) q)).trans H
theorem FQ_frm (q : cs_fk Y = true) (H : FQ (eh_V hc) (eh_V hm)) (K2 : ∀ (k : Nat) (i : Int), cg_kp k i Y = true → sx_at hm' k i = sx_at hm k i) : FQ (eh_V hc) (eh_V hm') := Eq.trans H (ei_sx (K2 0 _ q)).symm
theorem cs_Q_frm (q : cs_qm Y = true) (H : cs_Q hc hm) (K2 : ∀ (k : Nat) (i : Int), cg_kp k i Y = true → sx_at hm' k i = sx_at hm k i) : cs_Q hc hm' := by
  unfold cs_qm at q
  rw [Bool.and_eq_true] at q
  exact ⟨cs_Q2_frm q.1 H.1 K2, FQ_frm q.2 H.2 K2⟩
theorem cs_Q_fr (q : cs_qk X Y = true) (H : cs_Q hc hm) (K1 : ∀ (k : Nat) (i : Int), k < 209 → cg_kp k i X = true → sx_at hc' k i = sx_at hc k i) (K2 : ∀ (k : Nat) (i : Int), cg_kp k i Y = true → sx_at hm' k i = sx_at hm k i) : cs_Q hc' hm' := by
  unfold cs_qk at q
  rw [Bool.and_eq_true, Bool.and_eq_true] at q
  exact ⟨cs_Q2_fr q.1 H.1 K1 K2, FQ_frm q.2.2 (FQ_frc q.2.1 H.2 K1) K2⟩
theorem cs_Q_lm (H : cs_Q hc hm) (hk : ∀ k, k < 18 → hm'[k]? = hm[k]?) : cs_Q hc hm' := ⟨cs_Q2_lm H.1 hk, Eq.trans H.2 (ei_eq (by
  unfold eh_V
  rw [hk 0 (by decide)])).symm⟩
theorem FQ_up (hl : hc.length = 209) (H : FQ (eh_V hc) (eh_V hm)) : FQ (eh_V (hc ++ t)) (eh_V hm) := (ei_ap hl (by decide)).trans H
theorem FQ_dn (hl : hc.length = 209) (H : FQ (eh_V (hc ++ t)) (eh_V hm)) : FQ (eh_V hc) (eh_V hm) := (ei_ap hl (by decide)).symm.trans H
end CSF
