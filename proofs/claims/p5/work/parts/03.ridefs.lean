/-! An abstract machine (ri_): references are counted from the first cell that the law makes; a cell is a kind and a list of values; steps and runs are functions. A float stands for a named int, a returnAddress for a cell that was there before. -/
abbrev ri_C : Type := Nat × List Value
abbrev ri_H : Type := List ri_C
abbrev ri_En : Type := Instr × Nat × List Nat × Value
abbrev ri_F : Type := Nat × List (Nat × Value) × List Value × ri_H × Nat × Nat
abbrev ri_M : Type := MethodName × ByteArray × Nat × Option FieldType × String × Nat × Nat
abbrev ri_T : Type := List (Nat × List (Nat × ri_En))
abbrev ri_V : Type := Nat × (Nat → Option Nat) × (Nat → Int32)
abbrev ri_O : Type := List (Nat × Value × Value × Bool)
def ri_A (E : ri_V) : Nat → Prop := fun q => E.1 ≤ q
def ri_ush (x : Int32) (k : Nat) : Int32 := (x.toUInt32 >>> ((nI k).toUInt32 &&& Int32.toUInt32 31)).toInt32
def ri_shr (x : Int32) (k : Nat) : Int32 := x >>> (nI k &&& 31)
def ri_sem (sg : Nat → Int32) (n : Nat) : Int32 :=
  match n / 512 with
  | 0 => sg (n % 16)
  | 1 => ri_ush (sg (n % 16)) (n / 16 % 32)
  | 2 => ri_shr (sg (n % 16)) (n / 16 % 32)
  | 3 => (ri_ush (sg (n % 16)) (n / 16 % 32)).toInt8.toInt32
  | _ => (ri_shr (sg (n % 16)) (n / 16 % 32)).toInt8.toInt32
/-- what a value of the abstract machine is on the machine -/
def ri_cv (E : ri_V) (v : Value) : Value := match v with
  | .ref k => .ref (E.1 + k)
  | .retAddr n => va_rf (E.2.1 n)
  | .float t => .int (ri_sem E.2.2 t.toNat)
  | v => v
def ri_isA (v : Value) : Bool := match v with
  | .ref _ => true
  | .retAddr _ => true
  | .null => true
  | _ => false
def ri_isI (v : Value) : Bool := match v with
  | .int _ => true
  | .float _ => true
  | _ => false
def ri_isL (v : Value) : Bool := match v with
  | .long _ => true
  | _ => false
def ri_ic (E : ri_V) (v : Value) : Int32 := match ri_cv E v with
  | .int x => x
  | _ => 0
def ri_lk : List (Nat × Value) → Nat → Option Value
  | [], _ => none
  | q :: t, i => bif Nat.beq q.1 i then some q.2 else ri_lk t i
def ri_st1 (lo : List (Nat × Value)) (i : Nat) (v : Value) : List (Nat × Value) := (i, v) :: lo.filter (fun q => !(q.1 == i) && !(q.1 + 1 == i && q.2.category == 2))
def ri_as : Nat → List Value → List (Nat × Value)
  | _, [] => []
  | i, v :: vs => (i, v) :: ri_as (if v.category = 2 then i + 2 else i + 1) vs
def ri_look : List (Nat × ri_En) → Nat → Option ri_En
  | [], _ => none
  | q :: t, pc => bif Nat.beq q.1 pc then some q.2 else ri_look t pc
def ri_look2 : ri_T → Nat → Option ri_En
  | [], _ => none
  | q :: t, pc => bif Nat.blt pc q.1 then ri_look q.2 pc else ri_look2 t pc
/-- compares: 0 eq, 1 ne, 2 lt, 3 ge, 4 gt, 5 le, 6 outside 0 .. b -/
def ri_hd (c : Nat) (a b : Int32) : Bool := match c with
  | 0 => decide (a = b)
  | 1 => !decide (a = b)
  | 2 => decide (a < b)
  | 3 => decide (b ≤ a)
  | 4 => decide (b < a)
  | 5 => decide (a ≤ b)
  | _ => decide (a.toInt < 0) || decide (b.toInt < a.toInt)
def ri_cn (c : ClassFile.Cond) : Nat := match c with
  | .eq => 0
  | .ne => 1
  | .lt => 2
  | .ge => 3
  | .gt => 4
  | .le => 5
def ri_fd : ri_O → Nat → Value → Value → Option Bool
  | [], _, _, _ => none
  | q :: t, c, x, y => bif Nat.beq q.1 c && (decide (q.2.1 = x) && decide (q.2.2.1 = y)) then some q.2.2.2 else ri_fd t c x y
def ri_cmp (dc : ri_O) (c : Nat) (x y : Value) : Option Bool := match x, y with
  | .int a, .int b => some (ri_hd c a b)
  | x, y => bif ri_isI x && ri_isI y then ri_fd dc c x y else none
def ri_br (dc : ri_O) (c : Nat) (x y : Value) (tgt nx : Nat) (lo : List (Nat × Value)) (st : List Value) (h : ri_H) (k z : Nat) : Option ri_F := match ri_cmp dc c x y with
  | some true => some (tgt, lo, st, h, k, z)
  | some false => some (nx, lo, st, h, k, z)
  | none => none
/-- the default values of an object's fields, by its kind -/
def ri_dv (d : String) : Value := match d.toList with
  | ['I'] => .int 0
  | ['Z'] => .int 0
  | ['J'] => .long 0
  | _ => .null
def ri_df (t : Nat) : Option (List Value) := match vwCl[t]? with
  | some r => some ((List.range r.2.2).map (fun k => ri_dv (r.2.1 k).2.2.1))
  | none => none
/-- may a value go into a field of a type: 0 int, 1 boolean, 2 long, 3 reference -/
def ri_fit (q : Nat) (v : Value) : Bool := match q, v with
  | 0, .int _ => true
  | 0, .float _ => true
  | 1, .int x => decide (x = 0) || decide (x = 1)
  | 2, .long _ => true
  | 3, .ref _ => true
  | 3, .null => true
  | _, _ => false
/-- arrays that were there before: the class's four tables, the bytes of the key words -/
def ri_xl (n : Nat) : List Int32 := match n with
  | 1 => [4, 3, 20, 0, 0]
  | 2 => [6, 8, 4, 6]
  | 3 => [1, 1, 1, 1, 0]
  | 4 => [8, 9, 99, 30, 99]
  | 6 => [99, 101, 108, 108, 115, 32, 115, 104, 111, 119, 110, 32, 107, 101, 101, 112, 115, 32, 110, 105, 103, 104, 116, 115, 32, 105, 99, 101, 32, 99, 117, 101, 32, 108, 101, 115, 115, 111, 110, 32, 116, 101, 97, 99, 104, 101, 114, 32, 98, 111, 97, 116, 32, 115, 104, 111, 119, 115, 32, 114, 105, 110, 103, 115, 32, 115, 97, 105, 108, 115, 32, 100, 97, 121, 32, 111, 114, 32, 97, 110, 100, 32, 110, 111, 116, 32, 107, 110, 111, 119, 110, 32, 116, 111, 100, 97, 121, 32, 97, 116, 32, 98, 121, 32, 116, 105, 109, 101, 115, 32, 115, 116, 101, 112, 115, 32, 100, 111, 110, 101, 32, 110, 117, 109, 98, 101, 114, 32]
  | _ => []
/-- what an array holds at a place; kinds 13 int, 14 byte, 15 long, 16 boolean, 17 Life, 18 Image -/
def ri_ald (g : Nat → Bool) (x : Nat) (a : Value) (i : Int32) (h : ri_H) : Option Value := match a with
  | .ref r => match h[r]? with
    | some q => bif g q.1 && !decide (i < 0) then q.2[i.toNatClampNeg]? else none
    | none => none
  | .retAddr n => bif Nat.beq x 1 && (Nat.ble 1 n && Nat.ble n 4) || (Nat.beq x 2 && Nat.beq n 6) then (bif !decide (i < 0) then ((ri_xl n)[i.toNatClampNeg]?).map Value.int else none) else none
  | _ => none
def ri_ast (g : Nat → Bool) (a : Value) (i : Int32) (v : Value) (h : ri_H) : Option ri_H := match a with
  | .ref r => match h[r]? with
    | some q => bif g q.1 && (!decide (i < 0) && Nat.blt i.toNatClampNeg q.2.length) then some (h.set r (q.1, q.2.set i.toNatClampNeg v)) else none
    | none => none
  | _ => none
/-- a value as a byte array keeps it -/
def ri_nb (v : Value) : Option Value := match v with
  | .int x => some (.int x.toInt8.toInt32)
  | .float t => bif Nat.ble 1536 t.toNat then some v else none
  | _ => none
def ri_alen (a : Value) (h : ri_H) : Option Int32 := match a with
  | .ref r => match h[r]? with
    | some q => bif Nat.ble 13 q.1 && Nat.ble q.1 18 then some (Int32.ofNat q.2.length) else none
    | none => none
  | .retAddr n => bif Nat.ble 1 n && Nat.ble n 4 || Nat.beq n 6 then some (Int32.ofNat (ri_xl n).length) else none
  | _ => none
def ri_new (M : ri_M) (t nx : Nat) (fs : List Value) (lo : List (Nat × Value)) (st : List Value) (h : ri_H) (k z : Nat) : Option ri_F :=
  bif Nat.ble (k + 1) M.2.2.2.2.2.1 && Nat.ble (z + fs.length) M.2.2.2.2.2.2 then some (nx, lo, .ref h.length :: st, h ++ [(t, fs)], k + 1, z + fs.length) else none
def ri_wt (st : List Value) : Nat := (st.map fun v => v.category).sum
def ri_take : Nat → List Value → List Value → Option (List Value × List Value)
  | 0, acc, st => some (acc, st)
  | n + 1, acc, v :: st => ri_take n (v :: acc) st
  | _ + 1, _, [] => none
def ri_cpy (f g : List Value) (sp dp n : Nat) : List Value := g.take dp ++ (f.drop sp).take n ++ g.drop (dp + n)
def ri_copy (a b : Value) (sp dp n : Int32) (h : ri_H) : Option ri_H := match b with
  | .ref rb => match h[rb]? with
    | some qb => bif (Nat.beq qb.1 13 || Nat.beq qb.1 15) && (!decide (sp < 0) && (!decide (dp < 0) && (!decide (n < 0) && Nat.ble (dp.toNatClampNeg + n.toNatClampNeg) qb.2.length))) then (match a with
        | .ref ra => match h[ra]? with
          | some qa => bif Nat.beq qa.1 qb.1 && (Nat.ble (sp.toNatClampNeg + n.toNatClampNeg) qa.2.length && ((qa.2.drop sp.toNatClampNeg).take n.toNatClampNeg).all (fun v => bif Nat.beq qb.1 13 then ri_isI v else ri_isL v)) then some (h.set rb (qb.1, ri_cpy qa.2 qb.2 sp.toNatClampNeg dp.toNatClampNeg n.toNatClampNeg)) else none
          | none => none
        | .retAddr x => bif Nat.beq qb.1 13 && (Nat.ble 1 x && Nat.ble x 4 && Nat.ble (sp.toNatClampNeg + n.toNatClampNeg) (ri_xl x).length) then some (h.set rb (qb.1, ri_cpy ((ri_xl x).map Value.int) qb.2 sp.toNatClampNeg dp.toNatClampNeg n.toNatClampNeg)) else none
        | _ => none) else none
    | none => none
  | _ => none
/-- a call: kind 0 Object(), 1 virtual, 2 constructor, 3 static, 4 arraycopy, 5 clone of a table, 6 virtual on the key words, 7 constructor of a nest mate, 8 Math.min, 9 Math.max; then the callee's number, how many arguments beside the receiver, the receiver's kind -/
def ri_inv (dc : ri_O) (cal : Nat → List Value → ri_H → Option (Option Value × ri_H)) (bud : Nat → Option (Nat × Nat)) (M : ri_M) (pc : Nat) (aux : List Nat) (lo : List (Nat × Value)) (st : List Value) (h : ri_H) (k z : Nat) : Option ri_F := match aux with
  | 0 :: _ => match st with
    | .ref _ :: r => bif Nat.ble (ri_wt r) 8 then some (pc + 3, lo, r, h, k, z) else none
    | _ => none
  | 4 :: _ => match st with
    | .int n :: .int dp :: b :: .int sp :: a :: r => bif Nat.ble (ri_wt r) 8 then (match ri_copy a b sp dp n h with
      | some h' => some (pc + 3, lo, r, h', k, z)
      | none => none) else none
    | _ => none
  | 5 :: _ => match st with
    | .retAddr n :: r => bif Nat.ble 1 n && (Nat.ble n 4 && Nat.ble (ri_wt r) 8) then ri_new M 13 (pc + 3) ((ri_xl n).map Value.int) lo r h k z else none
    | _ => none
  | 8 :: _ => match st with
    | y :: x :: r => bif Nat.ble (ri_wt r) 8 && (Nat.ble k M.2.2.2.2.2.1 && Nat.ble z M.2.2.2.2.2.2) then (match ri_cmp dc 2 y x with
      | some b => some (pc + 3, lo, (bif b then y else x) :: r, h, k, z)
      | none => none) else none
    | _ => none
  | 9 :: _ => match st with
    | y :: x :: r => bif Nat.ble (ri_wt r) 8 && (Nat.ble k M.2.2.2.2.2.1 && Nat.ble z M.2.2.2.2.2.2) then (match ri_cmp dc 2 x y with
      | some b => some (pc + 3, lo, (bif b then y else x) :: r, h, k, z)
      | none => none) else none
    | _ => none
  | kd :: j :: n :: t :: _ => match ri_take n [] st with
    | some (as, r0) => match (bif Nat.beq kd 3 then some (as, r0) else match r0 with
        | .ref b :: r => bif Nat.beq kd 1 || (Nat.beq kd 2 || Nat.beq kd 7) then (match h[b]? with
          | some q => bif Nat.beq q.1 t then some (.ref b :: as, r) else none
          | none => none) else none
        | .retAddr 5 :: r => bif Nat.beq kd 6 then some (.retAddr 5 :: as, r) else none
        | _ => none) with
      | some (as', r) => bif Nat.ble (ri_wt r) 8 then (match bud j, cal j as' h with
        | some (mc, ms), some (v, h') => bif Nat.ble (k + mc) M.2.2.2.2.2.1 && Nat.ble (z + ms) M.2.2.2.2.2.2 then some (pc + 3, lo, v.toList ++ r, h', k + mc, z + ms) else none
        | _, _ => none) else none
      | none => none
    | none => none
  | _ => none
def ri_i2 (op : Int32 → Int32 → Int32) (pc : Nat) (lo : List (Nat × Value)) (st : List Value) (h : ri_H) (k z : Nat) : Option ri_F := match st with
  | .int y :: .int x :: r => some (pc + 1, lo, .int (op x y) :: r, h, k, z)
  | _ => none
def ri_d2 (op : Int32 → Int32 → Int32) (pc : Nat) (lo : List (Nat × Value)) (st : List Value) (h : ri_H) (k z : Nat) : Option ri_F := match st with
  | .int y :: .int x :: r => bif decide (y = 0) then none else some (pc + 1, lo, .int (op x y) :: r, h, k, z)
  | _ => none
def ri_s2 (op : Int32 → Int32 → Int32) (q : Nat) (pc : Nat) (lo : List (Nat × Value)) (st : List Value) (h : ri_H) (k z : Nat) : Option ri_F := match st with
  | .int y :: .int x :: r => some (pc + 1, lo, .int (op x y) :: r, h, k, z)
  | .int y :: .float t :: r => bif Nat.blt t.toNat 16 && (Nat.blt y.toNatClampNeg 32 && decide (nI y.toNatClampNeg = y)) then some (pc + 1, lo, .float (UInt32.ofNat (512 * q + 16 * y.toNatClampNeg + t.toNat)) :: r, h, k, z) else none
  | _ => none
def ri_l2 (op : Int64 → Int64 → Int64) (pc : Nat) (lo : List (Nat × Value)) (st : List Value) (h : ri_H) (k z : Nat) : Option ri_F := match st with
  | .long y :: .long x :: r => some (pc + 1, lo, .long (op x y) :: r, h, k, z)
  | _ => none
def ri_ld (t : Value → Bool) (i n pc : Nat) (lo : List (Nat × Value)) (st : List Value) (h : ri_H) (k z : Nat) : Option ri_F := match ri_lk lo i with
  | some v => bif t v then some (pc + n, lo, v :: st, h, k, z) else none
  | none => none
def ri_sto (t : Value → Bool) (M : ri_M) (i n pc : Nat) (lo : List (Nat × Value)) (st : List Value) (h : ri_H) (k z : Nat) : Option ri_F := match st with
  | v :: r => bif t v && Nat.blt i M.2.2.1 then some (pc + n, ri_st1 lo i v, r, h, k, z) else none
  | [] => none
def ri_g1 (n : Nat) : Bool := Nat.beq n 13
def ri_g2 (n : Nat) : Bool := Nat.beq n 14
def ri_g3 (n : Nat) : Bool := Nat.beq n 15
def ri_g4 (n : Nat) : Bool := Nat.beq n 16
def ri_g5 (n : Nat) : Bool := Nat.beq n 17 || Nat.beq n 18
def ri_g24 (n : Nat) : Bool := Nat.beq n 14 || Nat.beq n 16
/-- may a method of this return type give this value back -/
def ri_rok (r : Option FieldType) (v : Value) : Bool := match r, v with
  | some .int, .int _ => true
  | some .int, .float _ => true
  | some .boolean, .int x => decide (x = 0) || decide (x = 1)
  | some .byte, .int x => decide (x = 0) || decide (x = 1)
  | some .char, .int x => decide ((x.toUInt32 % 65536).toInt32 = x)
  | _, _ => false
def ri_step (dc : ri_O) (cal : Nat → List Value → ri_H → Option (Option Value × ri_H)) (bud : Nat → Option (Nat × Nat)) (M : ri_M) (e : ri_En) (pc : Nat) (lo : List (Nat × Value)) (st : List Value) (h : ri_H) (k z : Nat) : Option ri_F := match e.1 with
  | .aload_n n => ri_ld ri_isA n.val 1 pc lo st h k z
  | .aload n => ri_ld ri_isA n 2 pc lo st h k z
  | .iload_n n => ri_ld ri_isI n.val 1 pc lo st h k z
  | .iload n => ri_ld ri_isI n 2 pc lo st h k z
  | .lload_n n => ri_ld ri_isL n.val 1 pc lo st h k z
  | .istore_n n => ri_sto ri_isI M n.val 1 pc lo st h k z
  | .istore n => ri_sto ri_isI M n 2 pc lo st h k z
  | .astore_n n => ri_sto ri_isA M n.val 1 pc lo st h k z
  | .astore n => ri_sto ri_isA M n 2 pc lo st h k z
  | .iinc i n => match ri_lk lo i with
    | some (.int x) => bif Nat.blt i M.2.2.1 then some (pc + 3, ri_st1 lo i (.int (x + Int32.ofInt n)), st, h, k, z) else none
    | _ => none
  | .iconst n => some (pc + 1, lo, .int (Int32.ofInt n) :: st, h, k, z)
  | .bipush n => some (pc + 2, lo, .int ((Int8.ofInt n).toInt32) :: st, h, k, z)
  | .sipush n => some (pc + 3, lo, .int ((Int16.ofInt n).toInt32) :: st, h, k, z)
  | .lconst n => some (pc + 1, lo, .long (Int64.ofNat n.val) :: st, h, k, z)
  | .ldc _ => match e.2.2.2 with
    | .int x => some (pc + 2, lo, .int x :: st, h, k, z)
    | .retAddr 5 => some (pc + 2, lo, .retAddr 5 :: st, h, k, z)
    | _ => none
  | .ldc_w _ => match e.2.2.2 with
    | .int x => some (pc + 3, lo, .int x :: st, h, k, z)
    | _ => none
  | .ldc2_w _ => match e.2.2.2 with
    | .long x => some (pc + 3, lo, .long x :: st, h, k, z)
    | _ => none
  | .iadd => ri_i2 (fun x y => x + y) pc lo st h k z
  | .isub => ri_i2 (fun x y => x - y) pc lo st h k z
  | .imul => ri_i2 (fun x y => x * y) pc lo st h k z
  | .iand => ri_i2 (fun x y => x &&& y) pc lo st h k z
  | .ior => ri_i2 (fun x y => x ||| y) pc lo st h k z
  | .ixor => ri_i2 (fun x y => x ^^^ y) pc lo st h k z
  | .ishl => ri_i2 (fun x y => x <<< (y &&& 31)) pc lo st h k z
  | .idiv => ri_d2 (fun x y => x / y) pc lo st h k z
  | .irem => ri_d2 (fun x y => x - x / y * y) pc lo st h k z
  | .iushr => ri_s2 (fun x y => (x.toUInt32 >>> (y.toUInt32 &&& Int32.toUInt32 31)).toInt32) 1 pc lo st h k z
  | .ishr => ri_s2 (fun x y => x >>> (y &&& 31)) 2 pc lo st h k z
  | .i2b => match st with
    | .int x :: r => some (pc + 1, lo, .int x.toInt8.toInt32 :: r, h, k, z)
    | .float t :: r => bif Nat.ble 512 t.toNat && Nat.blt t.toNat 1536 then some (pc + 1, lo, .float (UInt32.ofNat (t.toNat + 1024)) :: r, h, k, z) else none
    | _ => none
  | .i2c => match st with
    | .int x :: r => some (pc + 1, lo, .int (x.toUInt32 % 65536).toInt32 :: r, h, k, z)
    | _ => none
  | .i2l => match st with
    | .int x :: r => some (pc + 1, lo, .long x.toInt64 :: r, h, k, z)
    | _ => none
  | .ladd => ri_l2 (fun x y => x + y) pc lo st h k z
  | .lmul => ri_l2 (fun x y => x * y) pc lo st h k z
  | .lor => ri_l2 (fun x y => x ||| y) pc lo st h k z
  | .lshl => match st with
    | .int y :: .long x :: r => some (pc + 1, lo, .long (x <<< (y.toInt64 &&& 63)) :: r, h, k, z)
    | _ => none
  | .lcmp => match st with
    | .long y :: .long x :: r => some (pc + 1, lo, .int (lg_cmp x y) :: r, h, k, z)
    | _ => none
  | .dup => match st with
    | v :: r => bif Nat.beq v.category 1 then some (pc + 1, lo, v :: v :: r, h, k, z) else none
    | _ => none
  | .dup2 => match st with
    | v :: w :: r => bif Nat.beq v.category 1 && Nat.beq w.category 1 then some (pc + 1, lo, v :: w :: v :: w :: r, h, k, z) else none
    | _ => none
  | .pop => match st with
    | v :: r => bif Nat.beq v.category 1 then some (pc + 1, lo, r, h, k, z) else none
    | _ => none
  | .goto _ => match e.2.2.1 with
    | [tgt] => some (tgt, lo, st, h, k, z)
    | _ => none
  | .ifCond c _ => match e.2.2.1, st with
    | [tgt], x :: r => ri_br dc (ri_cn c) x (.int 0) tgt (pc + 3) lo r h k z
    | _, _ => none
  | .if_icmp c _ => match e.2.2.1, st with
    | [tgt], y :: x :: r => ri_br dc (ri_cn c) x y tgt (pc + 3) lo r h k z
    | _, _ => none
  | .tableswitch _ lw hw _ => match e.2.2.1, st with
    | dt :: ts, .int x :: r => bif decide (x.toInt < lw) || decide (hw < x.toInt) then some (dt, lo, r, h, k, z) else (match ts[(x.toInt - lw).toNat]? with
      | some tgt => some (tgt, lo, r, h, k, z)
      | none => none)
    | dt :: _, .float t :: r => bif decide (0 ≤ lw) then (match ri_fd dc 6 (.float t) (.int (Int32.ofInt hw)) with
      | some true => bif decide ((Int32.ofInt hw).toInt = hw) then some (dt, lo, r, h, k, z) else none
      | _ => none) else none
    | _, _ => none
  | .getfield _ => match e.2.2.1, st with
    | [t, i, _], .ref r :: s => match h[r]? with
      | some q => bif Nat.beq q.1 t && Nat.blt t 13 then (match q.2[i]? with
        | some v => some (pc + 3, lo, v :: s, h, k, z)
        | none => none) else none
      | none => none
    | [50, 0, _], .retAddr 5 :: s => some (pc + 3, lo, .int 0 :: s, h, k, z)
    | [50, 1, _], .retAddr 5 :: s => some (pc + 3, lo, .retAddr 6 :: s, h, k, z)
    | _, _ => none
  | .putfield _ => match e.2.2.1, st with
    | [t, i, _, q], v :: .ref r :: s => match h[r]? with
      | some c => bif (Nat.beq c.1 t && Nat.blt t 13) && (Nat.blt i c.2.length && ri_fit q v) then some (pc + 3, lo, s, h.set r (c.1, c.2.set i v), k, z) else none
      | none => none
    | _, _ => none
  | .getstatic _ => match e.2.2.1 with
    | [1, _] => some (pc + 3, lo, .retAddr 1 :: st, h, k, z)
    | [2, _] => some (pc + 3, lo, .retAddr 2 :: st, h, k, z)
    | [3, _] => some (pc + 3, lo, .retAddr 3 :: st, h, k, z)
    | [4, _] => some (pc + 3, lo, .retAddr 4 :: st, h, k, z)
    | [5, _] => some (pc + 3, lo, .int 1 :: st, h, k, z)
    | [7, _] => some (pc + 3, lo, .retAddr 7 :: st, h, k, z)
    | _ => none
  | .new _ => match e.2.2.1 with
    | t :: _ => match ri_df t with
      | some fs => ri_new M t (pc + 3) fs lo st h k z
      | none => none
    | _ => none
  | .newarray a => match st with
    | .int n :: r => bif !decide (n < 0) && Nat.ble n.toNatClampNeg 100000 then (match a with
      | .int => ri_new M 13 (pc + 2) (List.replicate n.toNatClampNeg (.int 0)) lo r h k z
      | .byte => ri_new M 14 (pc + 2) (List.replicate n.toNatClampNeg (.int 0)) lo r h k z
      | .long => ri_new M 15 (pc + 2) (List.replicate n.toNatClampNeg (.long 0)) lo r h k z
      | .boolean => ri_new M 16 (pc + 2) (List.replicate n.toNatClampNeg (.int 0)) lo r h k z
      | _ => none) else none
    | _ => none
  | .anewarray _ => match e.2.2.1, st with
    | t :: _, .int n :: r => bif (Nat.beq t 17 || Nat.beq t 18) && (!decide (n < 0) && Nat.ble n.toNatClampNeg 100000) then ri_new M t (pc + 3) (List.replicate n.toNatClampNeg .null) lo r h k z else none
    | _, _ => none
  | .arraylength => match st with
    | a :: r => match ri_alen a h with
      | some n => some (pc + 1, lo, .int n :: r, h, k, z)
      | none => none
    | _ => none
  | .iaload => match st with
    | .int i :: a :: r => match ri_ald ri_g1 1 a i h with
      | some v => some (pc + 1, lo, v :: r, h, k, z)
      | none => none
    | _ => none
  | .baload => match st with
    | .int i :: a :: r => match ri_ald ri_g24 2 a i h with
      | some v => some (pc + 1, lo, v :: r, h, k, z)
      | none => none
    | _ => none
  | .laload => match st with
    | .int i :: a :: r => match ri_ald ri_g3 0 a i h with
      | some v => some (pc + 1, lo, v :: r, h, k, z)
      | none => none
    | _ => none
  | .aaload => match st with
    | .int i :: a :: r => match ri_ald ri_g5 0 a i h with
      | some v => some (pc + 1, lo, v :: r, h, k, z)
      | none => none
    | _ => none
  | .iastore => match st with
    | v :: .int i :: a :: r => bif ri_isI v then (match ri_ast ri_g1 a i v h with
      | some h' => some (pc + 1, lo, r, h', k, z)
      | none => none) else none
    | _ => none
  | .bastore => match st with
    | v :: .int i :: a :: r => match ri_nb v with
      | some w => (match ri_ast ri_g2 a i w h with
        | some h' => some (pc + 1, lo, r, h', k, z)
        | none => (match v with
          | .int x => bif decide (x = 0) || decide (x = 1) then (match ri_ast ri_g4 a i v h with
            | some h' => some (pc + 1, lo, r, h', k, z)
            | none => none) else none
          | _ => none))
      | none => none
    | _ => none
  | .lastore => match st with
    | v :: .int i :: a :: r => bif ri_isL v then (match ri_ast ri_g3 a i v h with
      | some h' => some (pc + 1, lo, r, h', k, z)
      | none => none) else none
    | _ => none
  | .aastore => match st with
    | .ref w :: .int i :: .ref a :: r => match h[w]?, h[a]? with
      | some qw, some qa => bif Nat.beq qw.1 6 && Nat.beq qa.1 17 || (Nat.beq qw.1 3 && Nat.beq qa.1 18) then (match ri_ast ri_g5 (.ref a) i (.ref w) h with
        | some h' => some (pc + 1, lo, r, h', k, z)
        | none => none) else none
      | _, _ => none
    | _ => none
  | .invokevirtual _ => ri_inv dc cal bud M pc e.2.2.1 lo st h k z
  | .invokespecial _ => ri_inv dc cal bud M pc e.2.2.1 lo st h k z
  | .invokestatic _ => ri_inv dc cal bud M pc e.2.2.1 lo st h k z
  | .checkcast _ => match st with
    | .ref a :: r => match h[a]? with
      | some q => bif Nat.beq q.1 13 then some (pc + 3, lo, .ref a :: r, h, k, z) else none
      | none => none
    | _ => none
  | _ => none
def ri_isR (i : Instr) : Bool := match i with
  | .ireturn => true
  | .return_ => true
  | _ => false
def ri_ret (r : Option FieldType) (i : Instr) (st : List Value) : Option (List Value) := match i with
  | .ireturn => match st with
    | [v] => bif ri_rok r v then some [v] else none
    | _ => none
  | .return_ => match r, st with
    | none, [] => some []
    | _, _ => none
  | _ => none
/-- one step of a method's frame; at 70000 it has returned -/
def ri_st (dc : ri_O) (cal : Nat → List Value → ri_H → Option (Option Value × ri_H)) (bud : Nat → Option (Nat × Nat)) (q : ri_M × ri_T) (f : ri_F) : Option ri_F :=
  bif Nat.beq f.1 70000 then some f else match ri_look2 q.2 f.1 with
    | some e => bif ri_isR e.1 then (match ri_ret q.1.2.2.2.1 e.1 f.2.2.1 with
        | some r => some (70000, [], r, f.2.2.2.1, f.2.2.2.2.1, f.2.2.2.2.2)
        | none => none) else (match ri_step dc cal bud q.1 e f.1 f.2.1 f.2.2.1 f.2.2.2.1 f.2.2.2.2.1 f.2.2.2.2.2 with
        | some f' => bif Nat.beq f'.1 70000 then none else some f'
        | none => none)
    | none => none
/-- 2 ^ n steps, or as many as there are -/
noncomputable def ri_it (stp : ri_F → Option ri_F) (n : Nat) : ri_F → Option ri_F :=
  Nat.rec (motive := fun _ => ri_F → Option ri_F) stp (fun _ ih f => match ih f with
    | some f' => bif Nat.beq f'.1 70000 then some f' else ih f'
    | none => none) n
def ri_bud (md : List (ri_M × ri_T)) (j : Nat) : Option (Nat × Nat) := match md[j]? with
  | some q => some (q.1.2.2.2.2.2.1, q.1.2.2.2.2.2.2)
  | none => none
/-- a whole call, of depth d at most, of 2 ^ 14 steps a frame at most -/
noncomputable def ri_call (dc : ri_O) (md : List (ri_M × ri_T)) (d : Nat) : Nat → List Value → ri_H → Option (Option Value × ri_H) :=
  Nat.rec (motive := fun _ => Nat → List Value → ri_H → Option (Option Value × ri_H)) (fun _ _ _ => none) (fun _ ih j as h => match md[j]? with
    | some q => bif Nat.ble (ri_wt as) q.1.2.2.1 then (match ri_it (ri_st dc ih (ri_bud md) q) 14 (0, ri_as 0 as, [], h, 0, 0) with
      | some f => bif Nat.beq f.1 70000 && (Nat.ble f.2.2.2.2.1 q.1.2.2.2.2.2.1 && Nat.ble f.2.2.2.2.2 q.1.2.2.2.2.2.2) then some (f.2.2.1.head?, f.2.2.2.1) else none
      | none => none) else none
    | none => none) d
