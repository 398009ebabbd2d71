/-! ===== a small machine, that computes: its cells have numbers 0, 1, .. in the order in which they are made; all values are written out ===== -/
/-- cells made, slots made, (tag, length) of each cell, what its places hold -/
abbrev mj_H : Type := Nat × Nat × (Nat → Nat × Nat) × (Nat → Nat → Value)
/-- an instruction, its length, and two numbers that the tables say of it -/
abbrev mj_I : Type := Instr × Nat × Nat × Nat
/-- the number of the script; of the first text constant -/
abbrev mj_X : Nat := 1000000
def mj_put (V : Nat → Nat → Value) (i k : Nat) (v : Value) : Nat → Nat → Value := fun a b => if a = i then (if b = k then v else V a b) else V a b
def mj_st (h : mj_H) (i k : Nat) (v : Value) : mj_H := (h.1, h.2.1, h.2.2.1, mj_put h.2.2.2 i k v)
def mj_new (h : mj_H) (t n : Nat) (v : Nat → Value) : mj_H := (h.1 + 1, h.2.1 + n, fun i => if i = h.1 then (t, n) else h.2.2.1 i, fun i k => if i = h.1 then v k else h.2.2.2 i k)
/-- an array of arrays: the outer one, then the inner ones -/
def mj_new2 (h : mj_H) (t t2 n n2 : Nat) (v : Value) : mj_H := (h.1 + 1 + n, h.2.1 + (n + n * n2), fun i => if i = h.1 then (t, n) else if h.1 < i ∧ i < h.1 + 1 + n then (t2, n2) else h.2.2.1 i,
  fun i k => if i = h.1 then (if k < n then .ref (h.1 + 1 + k) else .null) else if h.1 < i ∧ i < h.1 + 1 + n then v else h.2.2.2 i k)
/-- no value (an unset local, or the second half of a long) -/
abbrev mj_no : Value := .retAddr 0
def mj_isno : Value → Bool
  | .retAddr _ => true
  | _ => false
def mj_wide : Option Value → Bool
  | some (.long _) => true
  | some (.double _) => true
  | _ => false
def mj_ty : Nat → FieldType
  | 20 => .int
  | 21 => .boolean
  | 22 => .char
  | 23 => .object "GhostTrain$CarKind"
  | 24 => .object "GhostTrain$Text"
  | 25 => .object "GhostTrain$Sheet"
  | 26 => .object "GhostTrain$Slot"
  | _ => .array .int
/-- the type of a field of a class -/
def mj_fty (a b : Nat) : FieldType := match vwCl[a]? with
  | some r => (parseFieldDescriptor (r.2.1 b).2.2.1).getD .int
  | none => .int
def mj_cat1 (v : Value) : Bool := v.category == 1
/-- what an instruction does that needs no cell -/
def mj_sp (e : mj_I) (pc : Nat) (ls st : List Value) : Option (Nat × List Value × List Value) :=
  match e.1 with
  | .aconst_null => some (pc + e.2.1, ls, .null :: st)
  | .iconst n => some (pc + e.2.1, ls, .int (Int32.ofInt n) :: st)
  | .bipush n => some (pc + e.2.1, ls, .int (Int8.ofInt n).toInt32 :: st)
  | .sipush n => some (pc + e.2.1, ls, .int (Int16.ofInt n).toInt32 :: st)
  | .lconst n => some (pc + e.2.1, ls, .long (Int64.ofNat (n : Nat)) :: st)
  | .ldc _ => if e.2.2.2 = 0 then some (pc + e.2.1, ls, .int (Int32.ofNat e.2.2.1) :: st) else none
  | .ldc_w _ => if e.2.2.2 = 0 then some (pc + e.2.1, ls, .int (Int32.ofNat e.2.2.1) :: st) else none
  | .iload i => match ls[i]? with
    | some (.int x) => some (pc + e.2.1, ls, .int x :: st)
    | _ => none
  | .iload_n i => match ls[(i : Nat)]? with
    | some (.int x) => some (pc + e.2.1, ls, .int x :: st)
    | _ => none
  | .lload i => match ls[i]? with
    | some (.long x) => some (pc + e.2.1, ls, .long x :: st)
    | _ => none
  | .lload_n i => match ls[(i : Nat)]? with
    | some (.long x) => some (pc + e.2.1, ls, .long x :: st)
    | _ => none
  | .aload i => match ls[i]? with
    | some (.ref x) => some (pc + e.2.1, ls, .ref x :: st)
    | _ => none
  | .aload_n i => match ls[(i : Nat)]? with
    | some (.ref x) => some (pc + e.2.1, ls, .ref x :: st)
    | _ => none
  | .istore i => match st with
    | .int x :: r => if i < ls.length ∧ mj_wide ls[i - 1]? = false then some (pc + e.2.1, ls.set i (.int x), r) else none
    | _ => none
  | .istore_n i => match st with
    | .int x :: r => if (i : Nat) < ls.length ∧ mj_wide ls[(i : Nat) - 1]? = false then some (pc + e.2.1, ls.set (i : Nat) (.int x), r) else none
    | _ => none
  | .astore i => match st with
    | .ref x :: r => if i < ls.length ∧ mj_wide ls[i - 1]? = false then some (pc + e.2.1, ls.set i (.ref x), r) else none
    | _ => none
  | .astore_n i => match st with
    | .ref x :: r => if (i : Nat) < ls.length ∧ mj_wide ls[(i : Nat) - 1]? = false then some (pc + e.2.1, ls.set (i : Nat) (.ref x), r) else none
    | _ => none
  | .lstore i => match st with
    | .long x :: r => if i + 1 < ls.length ∧ mj_wide ls[i - 1]? = false then some (pc + e.2.1, (ls.set i (.long x)).set (i + 1) mj_no, r) else none
    | _ => none
  | .lstore_n i => match st with
    | .long x :: r => if (i : Nat) + 1 < ls.length ∧ mj_wide ls[(i : Nat) - 1]? = false then some (pc + e.2.1, (ls.set (i : Nat) (.long x)).set ((i : Nat) + 1) mj_no, r) else none
    | _ => none
  | .iinc i n => match ls[i]? with
    | some (.int x) => if mj_wide ls[i - 1]? = false then some (pc + e.2.1, ls.set i (.int (x + Int32.ofInt n)), st) else none
    | _ => none
  | .pop => match st with
    | v :: r => if mj_cat1 v then some (pc + e.2.1, ls, r) else none
    | _ => none
  | .dup => match st with
    | v :: r => if mj_cat1 v then some (pc + e.2.1, ls, v :: v :: r) else none
    | _ => none
  | .dup2 => match st with
    | v :: w :: r => if mj_cat1 v && mj_cat1 w then some (pc + e.2.1, ls, v :: w :: v :: w :: r) else none
    | _ => none
  | .iadd => match st with
    | .int y :: .int x :: r => some (pc + e.2.1, ls, .int (x + y) :: r)
    | _ => none
  | .isub => match st with
    | .int y :: .int x :: r => some (pc + e.2.1, ls, .int (x - y) :: r)
    | _ => none
  | .imul => match st with
    | .int y :: .int x :: r => some (pc + e.2.1, ls, .int (x * y) :: r)
    | _ => none
  | .idiv => match st with
    | .int y :: .int x :: r => if y = 0 then none else some (pc + e.2.1, ls, .int (x / y) :: r)
    | _ => none
  | .irem => match st with
    | .int y :: .int x :: r => if y = 0 then none else some (pc + e.2.1, ls, .int (x % y) :: r)
    | _ => none
  | .ineg => match st with
    | .int x :: r => some (pc + e.2.1, ls, .int (-x) :: r)
    | _ => none
  | .ishl => match st with
    | .int y :: .int x :: r => some (pc + e.2.1, ls, .int (x <<< (y &&& 31)) :: r)
    | _ => none
  | .ishr => match st with
    | .int y :: .int x :: r => some (pc + e.2.1, ls, .int (x >>> (y &&& 31)) :: r)
    | _ => none
  | .iushr => match st with
    | .int y :: .int x :: r => some (pc + e.2.1, ls, .int (x.toUInt32 >>> (y.toUInt32 &&& Int32.toUInt32 31)).toInt32 :: r)
    | _ => none
  | .iand => match st with
    | .int y :: .int x :: r => some (pc + e.2.1, ls, .int (x &&& y) :: r)
    | _ => none
  | .ior => match st with
    | .int y :: .int x :: r => some (pc + e.2.1, ls, .int (x ||| y) :: r)
    | _ => none
  | .ixor => match st with
    | .int y :: .int x :: r => some (pc + e.2.1, ls, .int (x ^^^ y) :: r)
    | _ => none
  | .ladd => match st with
    | .long y :: .long x :: r => some (pc + e.2.1, ls, .long (x + y) :: r)
    | _ => none
  | .lsub => match st with
    | .long y :: .long x :: r => some (pc + e.2.1, ls, .long (x - y) :: r)
    | _ => none
  | .lneg => match st with
    | .long x :: r => some (pc + e.2.1, ls, .long (-x) :: r)
    | _ => none
  | .lcmp => match st with
    | .long y :: .long x :: r => some (pc + e.2.1, ls, .int (lg_cmp x y) :: r)
    | _ => none
  | .i2l => match st with
    | .int x :: r => some (pc + e.2.1, ls, .long x.toInt64 :: r)
    | _ => none
  | .l2i => match st with
    | .long x :: r => some (pc + e.2.1, ls, .int x.toInt32 :: r)
    | _ => none
  | .i2s => match st with
    | .int x :: r => some (pc + e.2.1, ls, .int x.toInt16.toInt32 :: r)
    | _ => none
  | .i2c => match st with
    | .int x :: r => some (pc + e.2.1, ls, .int (x.toUInt32 % 65536).toInt32 :: r)
    | _ => none
  | .goto _ => some (e.2.2.1, ls, st)
  | .ifCond c _ => match st with
    | .int x :: r => match c with
      | .eq => some (if x = 0 then e.2.2.1 else pc + e.2.1, ls, r)
      | .ne => some (if x = 0 then pc + e.2.1 else e.2.2.1, ls, r)
      | .lt => some (if x < 0 then e.2.2.1 else pc + e.2.1, ls, r)
      | .ge => some (if 0 ≤ x then e.2.2.1 else pc + e.2.1, ls, r)
      | .gt => some (if 0 < x then e.2.2.1 else pc + e.2.1, ls, r)
      | .le => some (if x ≤ 0 then e.2.2.1 else pc + e.2.1, ls, r)
    | _ => none
  | .if_icmp c _ => match st with
    | .int y :: .int x :: r => match c with
      | .eq => some (if x = y then e.2.2.1 else pc + e.2.1, ls, r)
      | .ne => some (if x = y then pc + e.2.1 else e.2.2.1, ls, r)
      | .lt => some (if x < y then e.2.2.1 else pc + e.2.1, ls, r)
      | .ge => some (if y ≤ x then e.2.2.1 else pc + e.2.1, ls, r)
      | .gt => some (if y < x then e.2.2.1 else pc + e.2.1, ls, r)
      | .le => some (if x ≤ y then e.2.2.1 else pc + e.2.1, ls, r)
    | _ => none
  | .ifnull _ => match st with
    | .ref _ :: r => some (pc + e.2.1, ls, r)
    | .null :: r => some (e.2.2.1, ls, r)
    | _ => none
  | .ifnonnull _ => match st with
    | .ref _ :: r => some (e.2.2.1, ls, r)
    | .null :: r => some (pc + e.2.1, ls, r)
    | _ => none
  | .tableswitch d lo hi offs => match st with
    | .int x :: r => some (if x.toInt < lo ∨ hi < x.toInt then ((pc : Int) + d).toNat else ((pc : Int) + (offs[(x.toInt - lo).toNat]?).getD d).toNat, ls, r)
    | _ => none
  | .lookupswitch d ps => match st with
    | .int x :: r => some (((pc : Int) + Op.lookupswitch.offset ps.toList d x.toInt).toNat, ls, r)
    | _ => none
  | _ => none
/-- may be read: a cell that was made, or the script -/
def mj_rd (h : mj_H) (a : Nat) : Bool := decide (a < h.1) || a == mj_X
/-- an index into an array of n places -/
def mj_in (i : Int32) (n : Nat) : Bool := decide (¬ i < 0) && decide (i.toNatClampNeg < n)
def mj_cpy (V : Nat → Nat → Value) (a sp b dp n : Nat) : Nat → Nat → Value := fun i k => if i = b then (if dp ≤ k ∧ k < dp + n then V a (sp + (k - dp)) else V b k) else V i k
def mj_isint : Value → Bool
  | .int _ => true
  | _ => false
/-- what an instruction does with cells -/
def mj_sh (e : mj_I) (pc : Nat) (ls st : List Value) (h : mj_H) : Option (Nat × List Value × List Value × mj_H) :=
  match e.1 with
  | .getfield _ => match st with
    | .ref a :: r => if a < h.1 ∧ (h.2.2.1 a).1 = e.2.2.1 then some (pc + e.2.1, ls, h.2.2.2 a e.2.2.2 :: r, h) else none
    | _ => none
  | .putfield _ => match st with
    | v :: .ref a :: r => if a < h.1 ∧ (h.2.2.1 a).1 = e.2.2.1 ∧ narrow (mj_fty e.2.2.1 e.2.2.2) v = v ∧ fits (mj_fty e.2.2.1 e.2.2.2) v = true then some (pc + e.2.1, ls, r, mj_st h a e.2.2.2 v) else none
    | _ => none
  | .arraylength => match st with
    | .ref a :: r => if mj_rd h a = true ∧ 20 ≤ (h.2.2.1 a).1 ∧ (h.2.2.1 a).1 < 28 then some (pc + e.2.1, ls, .int (Int32.ofNat (h.2.2.1 a).2) :: r, h) else none
    | _ => none
  | .iaload => match st with
    | .int i :: .ref a :: r => if mj_rd h a = true ∧ (h.2.2.1 a).1 = 20 ∧ mj_in i (h.2.2.1 a).2 = true then some (pc + e.2.1, ls, h.2.2.2 a i.toNatClampNeg :: r, h) else none
    | _ => none
  | .baload => match st with
    | .int i :: .ref a :: r => if a < h.1 ∧ (h.2.2.1 a).1 = 21 ∧ mj_in i (h.2.2.1 a).2 = true then some (pc + e.2.1, ls, h.2.2.2 a i.toNatClampNeg :: r, h) else none
    | _ => none
  | .caload => match st with
    | .int i :: .ref a :: r => if a < h.1 ∧ (h.2.2.1 a).1 = 22 ∧ mj_in i (h.2.2.1 a).2 = true then some (pc + e.2.1, ls, h.2.2.2 a i.toNatClampNeg :: r, h) else none
    | _ => none
  | .aaload => match st with
    | .int i :: .ref a :: r => if a < h.1 ∧ 23 ≤ (h.2.2.1 a).1 ∧ (h.2.2.1 a).1 < 28 ∧ mj_in i (h.2.2.1 a).2 = true then some (pc + e.2.1, ls, h.2.2.2 a i.toNatClampNeg :: r, h) else none
    | _ => none
  | .iastore => match st with
    | .int x :: .int i :: .ref a :: r => if a < h.1 ∧ (h.2.2.1 a).1 = 20 ∧ mj_in i (h.2.2.1 a).2 = true then some (pc + e.2.1, ls, r, mj_st h a i.toNatClampNeg (.int x)) else none
    | _ => none
  | .bastore => match st with
    | .int x :: .int i :: .ref a :: r => if a < h.1 ∧ (h.2.2.1 a).1 = 21 ∧ mj_in i (h.2.2.1 a).2 = true then some (pc + e.2.1, ls, r, mj_st h a i.toNatClampNeg (narrow .boolean (.int x))) else none
    | _ => none
  | .castore => match st with
    | .int x :: .int i :: .ref a :: r => if a < h.1 ∧ (h.2.2.1 a).1 = 22 ∧ mj_in i (h.2.2.1 a).2 = true then some (pc + e.2.1, ls, r, mj_st h a i.toNatClampNeg (narrow .char (.int x))) else none
    | _ => none
  | .aastore => match st with
    | .ref v :: .int i :: .ref a :: r => if a < h.1 ∧ v < h.1 ∧ ((h.2.2.1 a).1 = 23 ∧ (h.2.2.1 v).1 < 6 ∨ (h.2.2.1 a).1 = 24 ∧ (h.2.2.1 v).1 = 10 ∨ (h.2.2.1 a).1 = 25 ∧ (h.2.2.1 v).1 = 7 ∨ (h.2.2.1 a).1 = 26 ∧ (h.2.2.1 v).1 = 8) ∧ mj_in i (h.2.2.1 a).2 = true then some (pc + e.2.1, ls, r, mj_st h a i.toNatClampNeg (.ref v)) else none
    | _ => none
  | .new _ => match vwCl[e.2.2.1]? with
    | some q => if h.1 < 1000 then some (pc + e.2.1, ls, .ref h.1 :: st, mj_new h e.2.2.1 q.2.2 (fun k => defaultValue (mj_fty e.2.2.1 k))) else none
    | none => none
  | .newarray _ => match st with
    | .int n :: r => if h.1 < 1000 ∧ ¬ n < 0 ∧ n.toNatClampNeg ≤ 10000 ∧ 20 ≤ e.2.2.1 ∧ e.2.2.1 < 23 then some (pc + e.2.1, ls, .ref h.1 :: r, mj_new h e.2.2.1 n.toNatClampNeg (fun _ => .int 0)) else none
    | _ => none
  | .anewarray _ => match st with
    | .int n :: r => if h.1 < 1000 ∧ ¬ n < 0 ∧ n.toNatClampNeg ≤ 10000 ∧ 23 ≤ e.2.2.1 ∧ e.2.2.1 < 27 then some (pc + e.2.1, ls, .ref h.1 :: r, mj_new h e.2.2.1 n.toNatClampNeg (fun _ => .null)) else none
    | _ => none
  | .multianewarray _ _ => match st with
    | .int k :: .int n :: r => if h.1 + 1 + n.toNatClampNeg < 1000 ∧ ¬ n < 0 ∧ ¬ k < 0 ∧ n.toNatClampNeg ≤ 1000 ∧ k.toNatClampNeg ≤ 1000 then some (pc + e.2.1, ls, .ref h.1 :: r, mj_new2 h 27 20 n.toNatClampNeg k.toNatClampNeg (.int 0)) else none
    | _ => none
  | .invokespecial _ => match st with
    | .ref a :: r => if e.2.2.1 = 3000 ∧ a < h.1 ∧ (r.map fun v => v.category).sum ≤ 8 then some (pc + e.2.1, ls, r, h) else none
    | _ => none
  | .invokestatic _ => match st with
    | .int n :: .int dp :: .ref b :: .int sp :: .ref a :: r => if e.2.2.1 = 3001 ∧ a < h.1 ∧ b < h.1 ∧ (h.2.2.1 a).1 = 20 ∧ (h.2.2.1 b).1 = 20 ∧ ¬ sp < 0 ∧ ¬ dp < 0 ∧ ¬ n < 0 ∧ sp.toNatClampNeg + n.toNatClampNeg ≤ (h.2.2.1 a).2 ∧ dp.toNatClampNeg + n.toNatClampNeg ≤ (h.2.2.1 b).2 ∧ (∀ i : Nat, i < n.toNatClampNeg → mj_isint (h.2.2.2 a (sp.toNatClampNeg + i)) = true) ∧ (r.map fun v => v.category).sum ≤ 8
        then some (pc + e.2.1, ls, r, (h.1, h.2.1, h.2.2.1, mj_cpy h.2.2.2 a sp.toNatClampNeg b dp.toNatClampNeg n.toNatClampNeg)) else none
    | _ => none
  | _ => none
/-- the text constants, their signs -/
def mj_txt : List (List Nat) := [[112, 97, 99, 101], [102, 101, 101], [102, 105, 110, 101], [33], [40], [41], [119, 114, 98], [115, 116], [102, 109], [124], [38], [60, 61, 62], [43, 45], [42, 47]]
def mj_tx (a : Nat) : List Nat := mj_txt.getD (a - (mj_X + 1)) []
def mj_find (c : Int32) : List Nat → Nat → Int32
  | [], _ => -1
  | x :: l, i => if c = Int32.ofNat x then Int32.ofNat i else mj_find c l (i + 1)
/-- what an instruction does with a text constant -/
def mj_sx (e : mj_I) (pc : Nat) (ls st : List Value) : Option (Nat × List Value × List Value) :=
  match e.1 with
  | .ldc _ => if e.2.2.2 = 1 then some (pc + e.2.1, ls, .ref (mj_X + 1 + e.2.2.1) :: st) else none
  | .invokevirtual _ => match st with
    | .ref a :: r => if e.2.2.1 = 3002 ∧ mj_X < a ∧ a < mj_X + 15 ∧ (r.map fun v => v.category).sum ≤ 8 then some (pc + e.2.1, ls, .int (Int32.ofNat (mj_tx a).length) :: r) else none
    | .int i :: .ref a :: r =>
      if e.2.2.1 = 3003 ∧ mj_X < a ∧ a < mj_X + 15 ∧ mj_in i (mj_tx a).length = true ∧ (r.map fun v => v.category).sum ≤ 8 then some (pc + e.2.1, ls, .int (Int32.ofNat ((mj_tx a).getD i.toNatClampNeg 0)) :: r)
      else if e.2.2.1 = 3004 ∧ mj_X < a ∧ a < mj_X + 15 ∧ (r.map fun v => v.category).sum ≤ 8 then some (pc + e.2.1, ls, .int (mj_find i (mj_tx a) 0) :: r) else none
    | _ => none
  | .invokestatic _ =>
    if e.2.2.1 = 3005 then (match st with
      | .int y :: .int x :: r => if (r.map fun v => v.category).sum ≤ 8 then some (pc + e.2.1, ls, .int (if x < y then y else x) :: r) else none
      | _ => none)
    else if e.2.2.1 = 3006 then (match st with
      | .int y :: .int x :: r => if (r.map fun v => v.category).sum ≤ 8 then some (pc + e.2.1, ls, .int (if y < x then y else x) :: r) else none
      | _ => none)
    else if e.2.2.1 = 3007 then (match st with
      | .int x :: r => if (r.map fun v => v.category).sum ≤ 8 then some (pc + e.2.1, ls, .int (if 0 ≤ x then x else 0 - x) :: r) else none
      | _ => none)
    else none
  | _ => none
/-- one step that is no call and no return -/
def mj_stp (e : mj_I) (pc : Nat) (ls st : List Value) (h : mj_H) : Option (Nat × List Value × List Value × mj_H) :=
  match mj_sp e pc ls st with
  | some q => some (q.1, q.2.1, q.2.2, h)
  | none => match mj_sx e pc ls st with
    | some q => some (q.1, q.2.1, q.2.2, h)
    | none => mj_sh e pc ls st h
/-- what a return gives back -/
def mj_ret (rt : Option FieldType) (e : mj_I) (st : List Value) : Option (Option Value) :=
  match e.1 with
  | .ireturn => match st, rt with
    | [.int v], some t => if narrow t (.int v) = .int v then some (some (.int v)) else none
    | _, _ => none
  | .lreturn => match st, rt with
    | [.long v], some .long => some (some (.long v))
    | _, _ => none
  | .areturn => match st, rt with
    | [.null], some (.object _) => some (some .null)
    | [.ref a], some (.object _) => some (some (.ref a))
    | _, _ => none
  | .return_ => match st, rt with
    | [], none => some none
    | _, _ => none
  | _ => none
