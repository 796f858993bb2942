def ri_xn (n : Nat) : String := match n with
  | 1 => "SETTING_WITHOUT"
  | 2 => "MOST_OF_SORT"
  | 3 => "SETTING_LEAST"
  | _ => "SETTING_MOST"
def ri_key : String := "cells shown keeps nights ice cue lesson teacher boat shows rings sails day or and not known today at by times steps done number "
/-- a table of the class's -/
def ri_xt (E : ri_V) (t : Nat) (xs : List Int32) (U : State) (H : Heap) : Prop := ∃ cell : Cell, H[t]? = some cell ∧ U.isArrayOf cell .int ∧ cell.vm ≠ .unknown ∧ cell.slots.size = xs.length ∧ (∀ j : Nat, j < xs.length → cell.slots[j]? = some (.int (xs.getD j 0))) ∧ U.vm.findClass "[I" = some cell.cls ∧ ¬ ri_A E t
theorem ri_xt.moved {E : ri_V} {t : Nat} {xs : List Int32} {u U : State} {H : Heap} (hvm : u.vm.Alike U.vm) (h : ri_xt E t xs u H) : ri_xt E t xs U H := by
  obtain ⟨cell, h1, h2, h3, h4, h5, h6, h7⟩ := h
  exact ⟨cell, h1, State.isArrayOf_alike hvm h2, h3, h4, h5, by rw [hvm.findClass]; exact h6, h7⟩
theorem ri_xt.kept {E : ri_V} {t : Nat} {xs : List Int32} {U : State} {H H1 : Heap} (h : ri_xt E t xs U H) (hq : ∀ a : Nat, a < H.size → ¬ ri_A E a → H1[a]? = H[a]?) : ri_xt E t xs U H1 := by
  obtain ⟨cell, h1, h2, h3, h4, h5, h6, h7⟩ := h
  exact ⟨cell, by rw [hq t (Array.getElem?_eq_some_iff.mp h1).1 h7]; exact h1, h2, h3, h4, h5, h6, h7⟩
/-- what was there before the law -/
def ri_X (E : ri_V) (U : State) (H : Heap) : Prop :=
  (∀ n : Nat, 1 ≤ n → n ≤ 4 → ∃ t : Nat, E.2.1 n = some t ∧ va_Z "LakeLearns" (ri_xn n) "[I" (.ref t) (ri_A E) U H ∧ ri_xt E t (ri_xl n) U H) ∧
  va_Z "java/lang/String" "COMPACT_STRINGS" "Z" (.int 1) (ri_A E) U H ∧
  (∃ t5 t6 : Nat, E.2.1 5 = some t5 ∧ E.2.1 6 = some t6 ∧ vk_R "LakeLearns$Reader" 48 ri_key t5 U ∧ va_O "java/lang/String" t5 (ri_A E) U H ∧ va_OF "java/lang/String" "coder" "B" (.int 0) t5 (ri_A E) U H ∧ va_OF "java/lang/String" "value" "[B" (.ref t6) t5 (ri_A E) U H ∧ va_T .byte t6 128 (fun j => .int ((ri_xl 6).getD j 0)) (ri_A E) U H) ∧
  va_Z "jdk/internal/util/Preconditions" "SIOOBE_FORMATTER" "Ljava/util/function/BiFunction;" (va_rf (E.2.1 7)) (ri_A E) U H
theorem ri_X.to {E : ri_V} {u U : State} {H H1 : Heap} (hvm : u.vm.Alike U.vm) (hk : ∀ a : Nat, vk_R "LakeLearns$Reader" 48 ri_key a u → vk_R "LakeLearns$Reader" 48 ri_key a U) (hq : ∀ a : Nat, a < H.size → ¬ ri_A E a → H1[a]? = H[a]?) (h : ri_X E u H) : ri_X E U H1 := by
  obtain ⟨h1, h2, ⟨t5, t6, g1, g2, g3, g4, g5, g6, g7⟩, h4⟩ := h
  refine ⟨fun n a b => ?_, (va_Z.moved hvm h2).kept hq, ⟨t5, t6, g1, g2, hk _ g3, (va_O.moved hvm g4).kept hq, (va_OF.moved hvm g5).kept hq, (va_OF.moved hvm g6).kept hq, (va_T.moved hvm g7).kept hq⟩, (va_Z.moved hvm h4).kept hq⟩
  obtain ⟨t, e1, e2, e3⟩ := h1 n a b
  exact ⟨t, e1, (va_Z.moved hvm e2).kept hq, (e3.moved hvm).kept hq⟩
/-- the arrays' classes -/
def ri_tys (cA : Nat → ClassId) : List (ClassId × FieldType) := [(cA 13, .int), (cA 14, .byte), (cA 15, .long), (cA 16, .boolean), (cA 17, .object RX6), (cA 18, .object RX3)]
/-- a body's surroundings -/
def ri_Cx (p : Program) (s : State) (m : MethodId) (args : Array Value) (meth : Method) (c : Code) (E : ri_V) (D : va_G) (cA : Nat → ClassId) (M : ri_M) : Prop :=
  p.tables.exec = Jvm.exec ∧ c.code = M.2.1 ∧ c.maxLocals = M.2.2.1 ∧ s.vm.findClass M.2.2.2.2.1 = some m.cls ∧ (∀ w ∈ lw_tbl, ri_stb w = true → w.before args s = true) ∧ va_K D vwCl (ri_tys cA) s ∧ ri_X E s s.heap ∧ meth.name = M.1.name ∧ E.1 ≤ s.heap.size
def ri_Ab (p : Program) (l : Launch) (e : Env) (R : Room) (s : State) (m : MethodId) (args : Array Value) (below : List Frame) (meth : Method) (c : Code) (Q : State → Prop) (E : ri_V) (D : va_G) (cA : Nat → ClassId) (nL : Nat) (f : ri_F) : Prop :=
  ∀ (H : Heap) (ls : Array Slot) (locs : List Loc), lv_has ls nL (ri_mp E f.2.1) → ri_R E D cA f.2.2.2.1 H → va_S (ri_A E) s.heap H locs → W p l e R s m args below meth c H locs f.2.2.2.2.1 f.2.2.2.2.2 Q (F0 m f.1 ls (f.2.2.1.map (ri_cv E)))
theorem ri_wd {args : Array Value} {s : State} (hts : ∀ w ∈ lw_tbl, ri_stb w = true → w.before args s = true) {i : Nat} {w : Cond} (h : lw_tbl[i]? = some w) (hs : ri_stb w = true) : w.before args s = true := hts w (List.mem_of_getElem? h) hs
/-- a class's words, types, names -/
def ri_clok (r : vw_C) (ty0 : Nat → FieldType) (fs : List Value) : Bool :=
  (u_ws r.1 r.2.1 r.2.2).all (fun w => decide (w ∈ lw_tbl) && ri_stb w) && ((List.range r.2.2).all (fun k => decide (parseFieldDescriptor (r.2.1 k).2.2.1 = some (ty0 k)) && decide (defaultValue (ty0 k) = fs.getD k .null)) &&
  (List.range r.2.2).all (fun a => (List.range r.2.2).all (fun b => decide (a = b) || decide ((r.2.1 a).2.1 ≠ (r.2.1 b).2.1))))
def ri_Cl (r : vw_C) (ty0 : Nat → FieldType) (fs : List Value) : Prop :=
  (∀ w ∈ u_ws r.1 r.2.1 r.2.2, w ∈ lw_tbl.filter ri_stb) ∧ (∀ k, k < r.2.2 → parseFieldDescriptor (r.2.1 k).2.2.1 = some (ty0 k)) ∧ (∀ k, k < r.2.2 → defaultValue (ty0 k) = fs.getD k .null) ∧ ∀ a, a < r.2.2 → ∀ b, b < r.2.2 → a ≠ b → (r.2.1 a).2.1 ≠ (r.2.1 b).2.1
theorem ri_clok_ok {r : vw_C} {ty0 : Nat → FieldType} {fs : List Value} (h : ri_clok r ty0 fs = true) : ri_Cl r ty0 fs := by
  unfold ri_clok at h
  simp only [Bool.and_eq_true, List.all_eq_true, decide_eq_true_eq, List.mem_range, Bool.or_eq_true] at h
  obtain ⟨h1, h2, h3⟩ := h
  refine ⟨fun w hw => List.mem_filter.mpr (h1 w hw), fun k hk => (h2 k hk).1, fun k hk => (h2 k hk).2, fun a ha b hb hne => ?_⟩
  rcases h3 a ha b hb with h | h
  · exact absurd h hne
  · exact h
set_option maxRecDepth 100000 in
theorem ri_cl0 : ri_clok (RX0, TX0, 4) tyX0 ((ri_df 0).getD []) = true := by decide +kernel
set_option maxRecDepth 100000 in
theorem ri_cl1 : ri_clok (RX1, TX1, 1) tyX1 ((ri_df 1).getD []) = true := by decide +kernel
set_option maxRecDepth 100000 in
theorem ri_cl2 : ri_clok (RX2, TX2, 8) tyX2 ((ri_df 2).getD []) = true := by decide +kernel
set_option maxRecDepth 100000 in
theorem ri_cl3 : ri_clok (RX3, TX3, 4) tyX3 ((ri_df 3).getD []) = true := by decide +kernel
set_option maxRecDepth 100000 in
theorem ri_cl4 : ri_clok (RX4, TX4, 13) tyX4 ((ri_df 4).getD []) = true := by decide +kernel
set_option maxRecDepth 100000 in
theorem ri_cl5 : ri_clok (RX5, TX5, 3) tyX5 ((ri_df 5).getD []) = true := by decide +kernel
set_option maxRecDepth 100000 in
theorem ri_cl6 : ri_clok (RX6, TX6, 16) tyX6 ((ri_df 6).getD []) = true := by decide +kernel
set_option maxRecDepth 100000 in
theorem ri_cl7 : ri_clok (RX7, TX7, 3) tyX7 ((ri_df 7).getD []) = true := by decide +kernel
set_option maxRecDepth 100000 in
theorem ri_cl8 : ri_clok (RX8, TX8, 11) tyX8 ((ri_df 8).getD []) = true := by decide +kernel
set_option maxRecDepth 100000 in
theorem ri_cl9 : ri_clok (RX9, TX9, 6) tyX9 ((ri_df 9).getD []) = true := by decide +kernel
set_option maxRecDepth 100000 in
theorem ri_cl10 : ri_clok (RX10, TX10, 2) tyX10 ((ri_df 10).getD []) = true := by decide +kernel
set_option maxRecDepth 100000 in
theorem ri_cl11 : ri_clok (RX11, TX11, 17) tyX11 ((ri_df 11).getD []) = true := by decide +kernel
set_option maxRecDepth 100000 in
theorem ri_cl12 : ri_clok (RX12, TX12, 48) tyX12 ((ri_df 12).getD []) = true := by decide +kernel
theorem ri_cls {t : Nat} {r : vw_C} (h : vwCl[t]? = some r) : ∃ (ty0 : Nat → FieldType) (fs : List Value), ri_df t = some fs ∧ fs.length = r.2.2 ∧ ri_Cl r ty0 fs := by
  match t, h with
  | 0, h => cases h; exact ⟨_, _, rfl, rfl, ri_clok_ok ri_cl0⟩
  | 1, h => cases h; exact ⟨_, _, rfl, rfl, ri_clok_ok ri_cl1⟩
  | 2, h => cases h; exact ⟨_, _, rfl, rfl, ri_clok_ok ri_cl2⟩
  | 3, h => cases h; exact ⟨_, _, rfl, rfl, ri_clok_ok ri_cl3⟩
  | 4, h => cases h; exact ⟨_, _, rfl, rfl, ri_clok_ok ri_cl4⟩
  | 5, h => cases h; exact ⟨_, _, rfl, rfl, ri_clok_ok ri_cl5⟩
  | 6, h => cases h; exact ⟨_, _, rfl, rfl, ri_clok_ok ri_cl6⟩
  | 7, h => cases h; exact ⟨_, _, rfl, rfl, ri_clok_ok ri_cl7⟩
  | 8, h => cases h; exact ⟨_, _, rfl, rfl, ri_clok_ok ri_cl8⟩
  | 9, h => cases h; exact ⟨_, _, rfl, rfl, ri_clok_ok ri_cl9⟩
  | 10, h => cases h; exact ⟨_, _, rfl, rfl, ri_clok_ok ri_cl10⟩
  | 11, h => cases h; exact ⟨_, _, rfl, rfl, ri_clok_ok ri_cl11⟩
  | 12, h => cases h; exact ⟨_, _, rfl, rfl, ri_clok_ok ri_cl12⟩
  | t + 13, h => simp [vwCl] at h
