def lw_qs : List (List Cond) := (List.range 32).map (fun k => lw_tbl.drop (64 * k))
/-- the table by blocks of 64: a place in it is found without all that lies ahead -/
theorem lw_qs_ok (k : Nat) (b : List Cond) (h : lw_qs[k]? = some b) : b = lw_tbl.drop (64 * k) := by
  unfold lw_qs at h
  rw [List.getElem?_map] at h
  cases e : (List.range 32)[k]? with
  | none =>
    rw [e] at h
    cases h
  | some a =>
    rw [e] at h
    obtain ⟨h3, h4⟩ := List.getElem?_eq_some_iff.mp e
    rw [List.getElem_range] at h4
    subst h4
    exact (Option.some.inj h).symm
def ri_wi (i : Nat) (w : Cond) : Bool := match lw_qs[i / 64]? with
  | some b => decide (b[i % 64]? = some w)
  | none => false
/-- what must hold of an entry's links -/
def ri_fk (M : ri_M) (idx t i j : Nat) : Bool := match vwCl[t]? with
  | some r => Nat.blt t 13 && (Nat.blt i r.2.2 && ri_wi j (.fieldLink M.2.2.2.2.1 idx (r.2.1 i).1 (r.2.1 i).2.1 (r.2.1 i).2.2.1))
  | none => false
def ri_tk (q : Nat) (d : String) : Bool := match parseFieldDescriptor d with
  | some .int => Nat.beq q 0
  | some .boolean => Nat.beq q 1
  | some .long => Nat.beq q 2
  | some (.object _) => Nat.beq q 3
  | some (.array _) => Nat.beq q 3
  | _ => false
def ri_pk (M : ri_M) (idx t i j q : Nat) : Bool := match vwCl[t]? with
  | some r => ri_fk M idx t i j && (ri_tk q (r.2.1 i).2.2.1 && (!(r.2.1 i).2.2.2 || (decide (M.1.name = "<init>") && decide ((r.2.1 i).1 = M.2.2.2.2.1))))
  | none => false
def ri_ivV (md : List (ri_M × ri_T)) (M : ri_M) (idx : Nat) (aux : List Nat) : Bool := match aux with
  | [5, i] => ri_wi i (.methodLink M.2.2.2.2.1 idx ⟨"[I", "clone", "()Ljava/lang/Object;"⟩)
  | [1, j, n, t, i, i3, i2] => match md[j]?, vwCl[t]? with
    | some q, some r => Nat.blt t 13 && (ri_wi i (.methodLink M.2.2.2.2.1 idx q.1.1) && (ri_wi i3 (.selects r.1 q.1.1 q.1.1) && (ri_wi i2 (.instanceMethod q.1.1) && decide ((parseMethodDescriptor q.1.1.desc).map (fun d => d.parameters.length) = some n))))
    | _, _ => false
  | [6, j, n, _, i, i3, i2] => match md[j]? with
    | some q => ri_wi i (.methodLink M.2.2.2.2.1 idx q.1.1) && (ri_wi i3 (.selects "java/lang/String" q.1.1 q.1.1) && (ri_wi i2 (.instanceMethod q.1.1) && decide ((parseMethodDescriptor q.1.1.desc).map (fun d => d.parameters.length) = some n)))
    | none => false
  | _ => false
def ri_ivI (md : List (ri_M × ri_T)) (M : ri_M) (idx : Nat) (aux : List Nat) : Bool := match aux with
  | [0, i] => ri_wi i (.methodLink M.2.2.2.2.1 idx objectInit)
  | [kd, j, n, _, i, i2] => match md[j]? with
    | some q => (Nat.beq kd 2 || Nat.beq kd 7) && ((ri_wi i (.methodLink M.2.2.2.2.1 idx q.1.1) || ri_wi i (.methodLinkNest M.2.2.2.2.1 idx q.1.1 "LakeLearns")) && (ri_wi i2 (.instanceMethod q.1.1) && (decide (q.1.1.name = "<init>") && (decide (q.1.2.2.2.1 = none) && decide ((parseMethodDescriptor q.1.1.desc).map (fun d => d.parameters.length) = some n)))))
    | none => false
  | _ => false
def ri_ivS (md : List (ri_M × ri_T)) (M : ri_M) (idx : Nat) (aux : List Nat) : Bool := match aux with
  | [4, i] => ri_wi i (.methodLink M.2.2.2.2.1 idx arraycopyName)
  | [8, i] => ri_wi i (.methodLink M.2.2.2.2.1 idx Lib.Math.min.name)
  | [9, i] => ri_wi i (.methodLink M.2.2.2.2.1 idx Lib.Math.max.name)
  | [3, j, n, _, i, i2] => match md[j]? with
    | some q => ri_wi i (.methodLink M.2.2.2.2.1 idx q.1.1) && (ri_wi i2 (.static q.1.1) && decide ((parseMethodDescriptor q.1.1.desc).map (fun d => d.parameters.length) = some n))
    | none => false
  | _ => false
def ri_pok (md : List (ri_M × ri_T)) (M : ri_M) (pc : Nat) (e : ri_En) : Bool := match e.1 with
  | .aload_n _ => Nat.beq e.2.1 1
  | .iload_n _ => Nat.beq e.2.1 1
  | .lload_n _ => Nat.beq e.2.1 1
  | .istore_n _ => Nat.beq e.2.1 1
  | .astore_n _ => Nat.beq e.2.1 1
  | .aload _ => Nat.beq e.2.1 2
  | .iload _ => Nat.beq e.2.1 2
  | .istore _ => Nat.beq e.2.1 2
  | .astore _ => Nat.beq e.2.1 2
  | .iinc _ _ => Nat.beq e.2.1 3
  | .iconst _ => Nat.beq e.2.1 1
  | .bipush _ => Nat.beq e.2.1 2
  | .sipush _ => Nat.beq e.2.1 3
  | .lconst _ => Nat.beq e.2.1 1
  | .ldc idx => Nat.beq e.2.1 2 && (match e.2.2.2 with
    | .int x => (match e.2.2.1 with
      | [i] => ri_wi i (.constant M.2.2.2.2.1 idx x)
      | _ => false)
    | .retAddr 5 => decide (M.2.2.2.2.1 = "LakeLearns$Reader") && Nat.beq idx 48
    | _ => false)
  | .ldc_w idx => Nat.beq e.2.1 3 && (match e.2.2.2 with
    | .int x => (match e.2.2.1 with
      | [i] => ri_wi i (.constant M.2.2.2.2.1 idx x)
      | _ => false)
    | _ => false)
  | .ldc2_w idx => Nat.beq e.2.1 3 && (match e.2.2.2 with
    | .long x => (match e.2.2.1 with
      | [i] => ri_wi i (.constantLong M.2.2.2.2.1 idx x)
      | _ => false)
    | _ => false)
  | .iadd => Nat.beq e.2.1 1
  | .isub => Nat.beq e.2.1 1
  | .imul => Nat.beq e.2.1 1
  | .iand => Nat.beq e.2.1 1
  | .ior => Nat.beq e.2.1 1
  | .ixor => Nat.beq e.2.1 1
  | .ishl => Nat.beq e.2.1 1
  | .idiv => Nat.beq e.2.1 1
  | .irem => Nat.beq e.2.1 1
  | .iushr => Nat.beq e.2.1 1
  | .ishr => Nat.beq e.2.1 1
  | .i2b => Nat.beq e.2.1 1
  | .i2c => Nat.beq e.2.1 1
  | .i2l => Nat.beq e.2.1 1
  | .ladd => Nat.beq e.2.1 1
  | .lmul => Nat.beq e.2.1 1
  | .lor => Nat.beq e.2.1 1
  | .lshl => Nat.beq e.2.1 1
  | .lcmp => Nat.beq e.2.1 1
  | .dup => Nat.beq e.2.1 1
  | .dup2 => Nat.beq e.2.1 1
  | .pop => Nat.beq e.2.1 1
  | .goto off => Nat.beq e.2.1 3 && (match e.2.2.1 with
    | [t] => decide ((pc : Int) + off = (t : Int))
    | _ => false)
  | .ifCond _ off => Nat.beq e.2.1 3 && (match e.2.2.1 with
    | [t] => decide ((pc : Int) + off = (t : Int))
    | _ => false)
  | .if_icmp _ off => Nat.beq e.2.1 3 && (match e.2.2.1 with
    | [t] => decide ((pc : Int) + off = (t : Int))
    | _ => false)
  | .tableswitch d _ _ offs => match e.2.2.1 with
    | dt :: ts => decide ((pc : Int) + d = (dt : Int)) && decide (offs.toList.map (fun o => (pc : Int) + o) = ts.map Int.ofNat)
    | _ => false
  | .getfield idx => Nat.beq e.2.1 3 && (match e.2.2.1 with
    | [t, i, j] => bif Nat.blt t 13 then ri_fk M idx t i j else (bif Nat.beq i 0 then ri_wi j (.fieldLink M.2.2.2.2.1 idx "java/lang/String" "coder" "B") else ri_wi j (.fieldLink M.2.2.2.2.1 idx "java/lang/String" "value" "[B"))
    | _ => false)
  | .putfield idx => Nat.beq e.2.1 3 && (match e.2.2.1 with
    | [t, i, j, q] => ri_pk M idx t i j q
    | _ => false)
  | .getstatic idx => Nat.beq e.2.1 3 && (match e.2.2.1 with
    | [w, j] => bif Nat.ble 1 w && Nat.ble w 4 then ri_wi j (.fieldLinkNest M.2.2.2.2.1 idx "LakeLearns" (ri_xn w) "[I" "LakeLearns") else (bif Nat.beq w 5 then ri_wi j (.fieldLink M.2.2.2.2.1 idx "java/lang/String" "COMPACT_STRINGS" "Z") else ri_wi j (.fieldLink M.2.2.2.2.1 idx "jdk/internal/util/Preconditions" "SIOOBE_FORMATTER" "Ljava/util/function/BiFunction;"))
    | _ => false)
  | .new idx => Nat.beq e.2.1 3 && (match e.2.2.1 with
    | [t, i1, i2, i3] => (match vwCl[t]? with
      | some r => Nat.blt t 13 && (ri_wi i1 (.classLink M.2.2.2.2.1 idx r.1) && (ri_wi i2 (.instantiable r.1 r.2.2) && ri_wi i3 (.initialized r.1)))
      | none => false)
    | _ => false)
  | .newarray a => Nat.beq e.2.1 2 && (match e.2.2.1 with
    | [i] => ri_wi i (.arrayClass (newarray.typeOf a))
    | _ => false)
  | .anewarray idx => Nat.beq e.2.1 3 && (match e.2.2.1 with
    | [t, i1, i2] => bif Nat.beq t 17 then ri_wi i1 (.classLink M.2.2.2.2.1 idx RX6) && ri_wi i2 (.arrayOver (.object RX6)) else (ri_wi i1 (.classLink M.2.2.2.2.1 idx RX3) && ri_wi i2 (.arrayOver (.object RX3)))
    | _ => false)
  | .arraylength => Nat.beq e.2.1 1
  | .iaload => Nat.beq e.2.1 1
  | .baload => Nat.beq e.2.1 1
  | .laload => Nat.beq e.2.1 1
  | .aaload => Nat.beq e.2.1 1
  | .iastore => Nat.beq e.2.1 1
  | .bastore => Nat.beq e.2.1 1
  | .lastore => Nat.beq e.2.1 1
  | .aastore => Nat.beq e.2.1 1
  | .invokevirtual idx => Nat.beq e.2.1 3 && ri_ivV md M idx e.2.2.1
  | .invokespecial idx => Nat.beq e.2.1 3 && ri_ivI md M idx e.2.2.1
  | .invokestatic idx => Nat.beq e.2.1 3 && ri_ivS md M idx e.2.2.1
  | .checkcast idx => Nat.beq e.2.1 3 && (match e.2.2.1 with
    | [i] => ri_wi i (.classLink M.2.2.2.2.1 idx "[I")
    | _ => false)
  | .ireturn => Nat.beq e.2.1 1
  | .return_ => Nat.beq e.2.1 1
  | _ => false
def ri_ok (md : List (ri_M × ri_T)) (M : ri_M) (pc : Nat) (e : ri_En) : Bool := decide (decode M.2.1 pc = .ok (e.1, e.2.1)) && ri_pok md M pc e
theorem ri_wi_ok {i : Nat} {w : Cond} (h : ri_wi i w = true) : lw_tbl[i]? = some w := by
  unfold ri_wi at h
  split at h
  · next b hb =>
    have e := of_decide_eq_true h
    rw [lw_qs_ok _ _ hb, List.getElem?_drop, show 64 * (i / 64) + i % 64 = i by omega] at e
    exact e
  · cases h
