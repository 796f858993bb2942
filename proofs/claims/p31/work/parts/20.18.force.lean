/-! the same walks, cheaper to evaluate: a state's lists are spelled out (sx_fo) before the walk goes on -/
noncomputable def sx_fo {α β : Type} (l : List α) : (List α → β) → β := List.rec (motive := fun _ => (List α → β) → β) (fun k => k []) (fun a _ ih k => ih (fun t' => k (a :: t'))) l
theorem sx_fo_eq {α β : Type} : ∀ (l : List α) (k : List α → β), sx_fo l k = k l
  | [], _ => rfl
  | a :: t, k => sx_fo_eq t (fun t' => k (a :: t'))
noncomputable def sx_nm {β : Type} (A : sx_A) (k : sx_A → β) : β := sx_fo A.1 (fun a => sx_fo A.2.1 (fun b => sx_fo A.2.2.1 (fun c => sx_fo A.2.2.2.1 (fun d => sx_fo A.2.2.2.2.1 (fun e => sx_fo A.2.2.2.2.2.1 (fun f => sx_fo A.2.2.2.2.2.2 (fun g => k (a, b, c, d, e, f, g))))))))
theorem sx_nm_eq {β : Type} (A : sx_A) (k : sx_A → β) : sx_nm A k = k A := by
  unfold sx_nm
  first
    | exact (sx_fo_eq _ _).trans ((sx_fo_eq _ _).trans ((sx_fo_eq _ _).trans ((sx_fo_eq _ _).trans ((sx_fo_eq _ _).trans ((sx_fo_eq _ _).trans (sx_fo_eq _ _))))))
    | (simp only [sx_fo_eq]; done)
    | (simp only [sx_fo_eq]; rfl)
noncomputable def sx_wkF (G : sx_G) (dp : sx_D) (n : Nat) (sps : Nat → List sx_Y) (look : Nat → Option ri_En) (ret : Option FieldType) (xs : List sx_A) (ks : List sx_K) (kp : List Nat) (r0 : List sx_v) (stp : ri_En → Nat → sx_A → Option (List (Nat × sx_A))) (fuel : Nat) : Bool → Nat → sx_A → Bool :=
  Nat.rec (motive := fun _ => Bool → Nat → sx_A → Bool) (fun _ _ _ => false) (fun _ ih first pc A => match sx_sp G (sps pc) A with
    | some L => L.all (fun A' => sx_nm A' (ih first pc))
    | none => bif !first && kp.any (Nat.beq pc) then sx_cut G dp n r0 pc A ks else match look pc with
    | some en => bif ri_isR en.1 then sx_fin G dp n ret en.1 A xs else (match stp en pc A with
      | some L => L.all (fun q => sx_nm q.2 (ih false q.1))
      | none => false)
    | none => false) fuel
section FORCE
variable {G : sx_G} {dp : sx_D} {n : Nat} {sps : Nat → List sx_Y} {look : Nat → Option ri_En} {ret : Option FieldType} {xs : List sx_A} {ks : List sx_K} {kp : List Nat} {r0 : List sx_v} {stp : ri_En → Nat → sx_A → Option (List (Nat × sx_A))} {md : List (ri_M × ri_T)} {CT : List sx_X} {X : sx_X} {q : ri_M × ri_T}
theorem sx_wkF_eq (fuel : Nat) : ∀ (first : Bool) (pc : Nat) (A : sx_A), sx_wkF G dp n sps look ret xs ks kp r0 stp fuel first pc A = sx_wk G dp n sps look ret xs ks kp r0 stp fuel first pc A := by
  induction fuel with
  | zero =>
    intro _ _ _
    rfl
  | succ m ih =>
    intro first pc A
    show (match sx_sp G (sps pc) A with
      | some L => L.all (fun A' => sx_nm A' (sx_wkF G dp n sps look ret xs ks kp r0 stp m first pc))
      | none => bif !first && kp.any (Nat.beq pc) then sx_cut G dp n r0 pc A ks else match look pc with
      | some en => bif ri_isR en.1 then sx_fin G dp n ret en.1 A xs else (match stp en pc A with
        | some L => L.all (fun q => sx_nm q.2 (sx_wkF G dp n sps look ret xs ks kp r0 stp m false q.1))
        | none => false)
      | none => false) = (match sx_sp G (sps pc) A with
      | some L => L.all (fun A' => sx_wk G dp n sps look ret xs ks kp r0 stp m first pc A')
      | none => bif !first && kp.any (Nat.beq pc) then sx_cut G dp n r0 pc A ks else match look pc with
      | some en => bif ri_isR en.1 then sx_fin G dp n ret en.1 A xs else (match stp en pc A with
        | some L => L.all (fun q => sx_wk G dp n sps look ret xs ks kp r0 stp m false q.1 q.2)
        | none => false)
      | none => false)
    first
      | (simp only [sx_nm_eq, ih]; done)
      | (simp only [sx_nm_eq, ih]; rfl)
noncomputable def sx_wxF (G : sx_G) (dp : sx_D) (md : List (ri_M × ri_T)) (CT : List sx_X) (X : sx_X) (q : ri_M × ri_T) (r0 : List sx_v) (fuel pc : Nat) (A : sx_A) : Bool :=
  sx_wkF G dp X.1.2.1.2.2.2.1.length (sx_yh X.2.2.2.2) (ri_look2 q.2) q.1.2.2.2.1 X.1.2.2.1 X.2.1 (X.2.1.map (fun c => c.1)) r0 (fun en pc A => sx_step G dp X.1.2.1.2.2.2.1.length X.1.2.2.2 (sx_cts1 CT (sx_hl X.2.2.1 pc)) (ri_bud md) q.1 en pc A) fuel true pc A
theorem sx_wxF_eq {fuel pc : Nat} {A : sx_A} : sx_wxF G dp md CT X q r0 fuel pc A = sx_wx G dp md CT X q r0 fuel pc A := by
  unfold sx_wxF sx_wx
  exact sx_wkF_eq fuel true pc A
noncomputable def sx_ckF (G : sx_G) (dp : sx_D) (md : List (ri_M × ri_T)) (CT : List sx_X) (fuel : Nat) (X : sx_X) : Bool := match md[X.1.1.1]? with
  | some q => Nat.ble X.1.1.2 q.1.2.2.1 && (Nat.blt 0 X.2.2.2.1 && (X.2.2.2.2.all (fun y => !Nat.beq y.1 70000) && (X.2.2.1.all (fun hh => hh.2.all (fun k => match CT[k]? with
      | some Y => Nat.blt Y.2.2.2.1 X.2.2.2.1
      | none => false)) && (q.2.all (fun b => b.2.all (fun x => Nat.blt x.1 70000)) && (X.2.1.all (fun c => !Nat.beq c.1 70000 && sx_rkb c.2.1.2.2.2.1 c.2.2) && (sx_wxF G dp md CT X q sx_r00 fuel 0 X.1.2.1 && X.2.1.all (fun c => sx_wxF G dp md CT X q c.2.2 fuel c.1 c.2.1)))))))
  | none => false
theorem sx_ckF_eq {fuel : Nat} : sx_ckF G dp md CT fuel X = sx_ck G dp md CT fuel X := by
  unfold sx_ckF sx_ck
  first
    | (simp only [sx_wxF_eq]; done)
    | (simp only [sx_wxF_eq]; rfl)
end FORCE
