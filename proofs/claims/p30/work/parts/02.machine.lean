/-! THE PICTURE MACHINE. A memory is (how many cells stand, whole numbers by vector and place, references by cell and place).
Cells have fixed names: 16 b + c is part c of the b-th State (0 the object, 1 .. its arrays), 208.. the desk and the pad, 224.. the model;
from 1000 on what stood before: the script, the static rows, the String constants. -/
abbrev Mm : Type := Nat × (Nat → Nat → Int32) × (Nat → Nat → Option Nat)
abbrev Lo : Type := List (Option Value)
abbrev Rz : Type := Option Value × Mm
abbrev Cf : Type := Nat × Lo × List Value × Mm
abbrev Orc : Type := Nat → List Value → Mm → Option Rz
def up {α : Type} (I : Nat → α) (v : Nat) (V : α) : Nat → α := fun w => if w = v then V else I w
/-- kind (1 .. 4 an object of that class less one; 5 int[], 6 char[], 7 boolean[], 8 State[], 9 int[][]), length, first place -/
def dsS : List (Nat × Nat × Nat) := [(2, 17, 0), (5, 6, 2), (5, 12, 14), (5, 12, 26), (9, 6, 0), (5, 10, 58), (5, 10, 68), (5, 10, 78), (5, 10, 88), (5, 10, 98), (5, 10, 108), (5, 10, 48), (5, 10, 118), (5, 10, 128), (5, 10, 138)]
def dsO : List (Nat × Nat × Nat) := [(3, 10, 0), (8, 6, 0), (8, 2, 0), (7, 2, 1), (1, 5, 0), (6, 80, 10), (5, 3, 6), (0, 0, 0), (0, 0, 0), (0, 0, 0), (0, 0, 0), (0, 0, 0), (0, 0, 0), (0, 0, 0), (0, 0, 0), (0, 0, 0),
  (4, 11, 0), (5, 148, 0), (5, 148, 0), (5, 888, 0), (5, 296, 0), (7, 2, 0), (5, 80, 10), (5, 164, 0)]
def ds (a : Nat) : Nat × Nat × Nat := if a < 208 then dsS.getD (a % 16) (0, 0, 0) else dsO.getD (a - 208) (0, 0, 0)
def kd (a : Nat) : Nat := (ds a).1
def ln (a : Nat) : Nat := (ds a).2.1
def off (a : Nat) : Nat := (ds a).2.2
/-- in which vector an array's or an object's numbers lie -/
def vec (a : Nat) : Nat := if a < 208 then a / 16 else if a < 224 then 20 else if a = 224 then 32 else if a = 229 then 32 else if a = 230 then 32 else if a = 231 then 33 else a
def vx (a j : Nat) : Nat := if a = 227 then 40 + j / 148 else if a = 228 then 50 + j / 148 else vec a
def ix (a j : Nat) : Nat := if a = 227 then j % 148 else if a = 228 then j % 148 else off a + j
/-- a field of a class: 0 a reference, 1 an int, 2 a set of topics that lies as ten numbers, 3 a char; and its place -/
def fkL : List (List (Nat × Nat)) := [[], [(0, 0), (0, 0), (1, 3), (3, 4), (1, 5)], [(0, 0), (0, 0), (0, 0), (0, 0), (0, 0), (0, 0), (0, 0), (0, 0), (1, 1), (2, 0), (1, 13), (1, 0), (1, 8), (1, 9), (1, 10), (1, 11), (1, 12)],
  [(0, 0), (0, 0), (0, 0), (1, 0), (0, 0), (0, 0), (0, 0), (0, 0), (0, 0), (0, 0)], [(0, 0), (0, 0), (0, 0), (1, 2), (0, 0), (0, 0), (0, 0), (1, 3), (1, 4), (0, 0), (1, 5)]]
def fk (c k : Nat) : Nat := ((fkL.getD c []).getD k (0, 0)).1
def fo (c k : Nat) : Nat := ((fkL.getD c []).getD k (0, 0)).2
def bt1 (V : Nat → Int32) (t : Nat) : Nat := if V (38 + t) = 1 then 1 else 0
def pkN (V : Nat → Int32) : Nat := bt1 V 0 + 2 * bt1 V 1 + 4 * bt1 V 2 + 8 * bt1 V 3 + 16 * bt1 V 4 + 32 * bt1 V 5 + 64 * bt1 V 6 + 128 * bt1 V 7 + 256 * bt1 V 8 + 512 * bt1 V 9
def pk (V : Nat → Int32) : Int32 := nI (pkN V)
def unpk (V : Nat → Int32) (m : Nat) : Nat → Int32 := fun k => if 38 ≤ k ∧ k < 48 then nI (m / 2 ^ (k - 38) % 2) else V k
/-- the order in which the cells are made -/
def sbL : List Nat := [1, 16, 32, 47, 62, 77, 92, 107, 123, 138, 157, 172, 187]
def poL : List Nat := [0, 31, 122, 153, 154, 155, 156, 9999, 9999, 9999, 9999, 9999, 9999, 9999, 9999, 9999, 9999, 9999, 9999, 9999, 9999, 9999, 9999, 9999]
def pos (a : Nat) : Nat := if a < 208 then (if a % 16 = 15 then 9999 else sbL.getD (a / 16) 9999 + a % 16) else poL.getD (a - 208) 9999
def adL : List Nat := [208, 0, 1, 2, 3, 4, 5, 6, 7, 8, 9, 10, 11, 12, 13, 14, 16, 17, 18, 19, 20, 21, 22, 23, 24, 25, 26, 27, 28, 29, 30, 209, 32, 33, 34, 35, 36, 37, 38, 39, 40, 41, 42, 43, 44, 45, 46, 48, 49, 50, 51, 52, 53, 54, 55, 56, 57, 58, 59, 60, 61, 62, 64, 65, 66, 67, 68, 69, 70, 71, 72, 73, 74, 75, 76, 77, 78, 80, 81, 82, 83, 84, 85, 86, 87, 88, 89, 90, 91, 92, 93, 94, 96, 97, 98, 99, 100, 101, 102, 103, 104, 105, 106, 107, 108, 109, 110, 112, 113, 114, 115, 116, 117, 118, 119, 120, 121, 122, 123, 124, 125, 126, 210, 128, 129, 130, 131, 132, 133, 134, 135, 136, 137, 138, 139, 140, 141, 142, 144, 145, 146, 147, 148, 149, 150, 151, 152, 153, 154, 155, 156, 157, 158, 211, 212, 213, 214, 160, 161, 162, 163, 164, 165, 166, 167, 168, 169, 170, 171, 172, 173, 174, 176, 177, 178, 179, 180, 181, 182, 183, 184, 185, 186, 187, 188, 189, 190, 192, 193, 194, 195, 196, 197, 198, 199, 200, 201, 202, 203, 204, 205, 206]
def adr (n : Nat) : Nat := adL.getD n 999
/-- how many slots the first n cells have -/
def sl : Nat → Nat
  | 0 => 0
  | n + 1 => sl n + ln (adr n)
/-- what an object's field holds -/
def fv (I : Nat → Nat → Int32) (R : Nat → Nat → Option Nat) (a k : Nat) : Value := match fk (kd a) k with
  | 0 => va_rf (R a k)
  | 2 => .int (pk (I (vec a)))
  | _ => .int (I (vec a) (fo (kd a) k))
/-- the constants' contents -/
def csI (a j : Nat) : Int32 := match a with
  | 1001 => ([50, 5, 10, 8, 3, 40] : List Int32).getD j 0
  | 1002 => ([1, 1, 0, 0, 0, 0] : List Int32).getD j 0
  | _ => ([100, 20, 50, 20, 99, 999] : List Int32).getD j 0
/-! ===== the step ===== -/
abbrev inb (j : Int32) (n : Nat) : Prop := ¬ (j < 0 ∨ n ≤ j.toNatClampNeg)
def cln (x : Option Value) : Option Value := match x with
  | some v => if v.category = 2 then none else some v
  | none => none
def sto1 : Lo → Nat → Value → Lo
  | [], _, _ => []
  | _ :: l, 0, v => some v :: l
  | x :: l, 1, v => cln x :: sto1 l 0 v
  | x :: l, i + 2, v => x :: sto1 l (i + 1) v
def sto2 : Lo → Nat → Value → Lo
  | _ :: _ :: l, 0, v => some v :: none :: l
  | x :: l, 1, v => cln x :: sto2 l 0 v
  | x :: l, i + 2, v => x :: sto2 l (i + 1) v
  | _, _, _ => []
/-- what a constant's instruction pushes, and its length -/
def pshI (i : Instr) : Option (Value × Nat) := match i with
  | .iconst n => some (.int (Int32.ofInt n), 1)
  | .bipush n => some (.int (Int8.ofInt n).toInt32, 2)
  | .sipush n => some (.int (Int16.ofInt n).toInt32, 3)
  | .lconst n => some (.long (Int64.ofNat n), 1)
  | .fconst 0 => some (.float FP.fconst0, 1)
  | .fconst 1 => some (.float FP.fconst1, 1)
  | .fconst 2 => some (.float FP.fconst2, 1)
  | .dconst 0 => some (.double FP.dconst0, 1)
  | .dconst 1 => some (.double FP.dconst1, 1)
  | _ => none
/-- a value's kind -/
def vkn (v : Value) : Nat := match v with
  | .int _ => 0
  | .long _ => 1
  | .float _ => 2
  | .double _ => 3
  | .ref _ => 4
  | _ => 9
def ldI (i : Instr) : Option (Nat × Nat × Nat) := match i with
  | .iload_n k => some (0, k, 1)
  | .lload_n k => some (1, k, 1)
  | .fload_n k => some (2, k, 1)
  | .dload_n k => some (3, k, 1)
  | .aload_n k => some (4, k, 1)
  | .iload k => some (0, k, 2)
  | .lload k => some (1, k, 2)
  | .fload k => some (2, k, 2)
  | .dload k => some (3, k, 2)
  | .aload k => some (4, k, 2)
  | _ => none
def stoI (i : Instr) : Option (Nat × Nat × Nat) := match i with
  | .istore_n k => some (0, k, 1)
  | .lstore_n k => some (1, k, 1)
  | .fstore_n k => some (2, k, 1)
  | .dstore_n k => some (3, k, 1)
  | .astore_n k => some (4, k, 1)
  | .istore k => some (0, k, 2)
  | .lstore k => some (1, k, 2)
  | .fstore k => some (2, k, 2)
  | .dstore k => some (3, k, 2)
  | .astore k => some (4, k, 2)
  | _ => none
def binI (i : Instr) (x y : Int32) : Option Int32 := match i with
  | .iadd => some (x + y)
  | .isub => some (x - y)
  | .imul => some (x * y)
  | .iand => some (x &&& y)
  | .ior => some (x ||| y)
  | .ixor => some (x ^^^ y)
  | .ishl => some (x <<< (y &&& 31))
  | .ishr => some (x >>> (y &&& 31))
  | .iushr => some (x.toUInt32 >>> (y.toUInt32 &&& Int32.toUInt32 31)).toInt32
  | .idiv => if y = 0 then none else some (x / y)
  | .irem => if y = 0 then none else some (x - x / y * y)
  | _ => none
def binL (i : Instr) (x y : Int64) : Option Int64 := match i with
  | .ladd => some (x + y)
  | .lsub => some (x - y)
  | .land => some (x &&& y)
  | .lor => some (x ||| y)
  | _ => none
def shL (i : Instr) (x : Int64) (y : Int32) : Option Int64 := match i with
  | .lshl => some (x <<< (y.toInt64 &&& 63))
  | .lshr => some (x >>> (y.toInt64 &&& 63))
  | .lushr => some (x.toUInt64 >>> (y.toInt64.toUInt64 &&& Int64.toUInt64 63)).toInt64
  | _ => none
def unI (i : Instr) (v : Value) : Option Value := match i, v with
  | .i2l, .int x => some (.long x.toInt64)
  | .l2i, .long x => some (.int x.toInt32)
  | .i2b, .int x => some (.int x.toInt8.toInt32)
  | .i2c, .int x => some (.int (x.toUInt32 % 65536).toInt32)
  | .i2d, .int x => some (.double (FP.i2d x))
  | .d2l, .double x => some (.long (FP.d2l x))
  | .f2i, .float x => some (.int (FP.f2i x))
  | .d2f, .double x => if FP.d2f x &&& 0x7fffffff ≤ 0x7f800000 then some (.float (FP.d2f x)) else none
  | _, _ => none
def binF (i : Instr) (v w : Value) : Option Value := match i, v, w with
  | .lcmp, .long x, .long y => some (.int (lg_cmp x y))
  | .fmul, .float x, .float y => if FP.fmul x y &&& 0x7fffffff ≤ 0x7f800000 then some (.float (FP.fmul x y)) else none
  | .dmul, .double x, .double y => if FP.dmul x y &&& 0x7fffffffffffffff ≤ 0x7ff0000000000000 then some (.double (FP.dmul x y)) else none
  | .ddiv, .double x, .double y => if FP.ddiv x y &&& 0x7fffffffffffffff ≤ 0x7ff0000000000000 then some (.double (FP.ddiv x y)) else none
  | .fcmp op, .float x, .float y => some (.int (Op.cmpValue (FP.fcmp x y) op))
  | .dcmp op, .double x, .double y => some (.int (Op.cmpValue (FP.dcmp x y) op))
  | _, _, _ => none
/-- a condition of two ints -/
def cnd (c : ClassFile.Cond) (x y : Int32) : Bool := match c with
  | .eq => decide (x = y)
  | .ne => decide (¬ x = y)
  | .lt => decide (x < y)
  | .ge => decide (y ≤ x)
  | .gt => decide (y < x)
  | .le => decide (x ≤ y)
def tgt (pc : Nat) (o : Int) : Nat := ((pc : Int) + o).toNat
/-- what stands at a place of an array of whole numbers -/
def ardI (k : Nat) (n : Nat) (I : Nat → Nat → Int32) (a : Nat) (j : Int32) : Option Int32 :=
  if a < 1000 then (if kd a = k ∧ pos a < n ∧ inb j (ln a) then some (I (vx a j.toNatClampNeg) (ix a j.toNatClampNeg)) else none)
  else if a = 1000 then (if k = 5 ∧ inb j (I 61 0).toNatClampNeg then some (I 60 j.toNatClampNeg) else none)
  else if a < 1004 then (if k = 5 ∧ inb j 6 then some (csI a j.toNatClampNeg) else none)
  else none
def aln (n : Nat) (I : Nat → Nat → Int32) (a : Nat) : Option Int32 :=
  if a < 1000 then (if 5 ≤ kd a ∧ pos a < n then some (nI (ln a)) else none)
  else if a = 1000 then some (nI (I 61 0).toNatClampNeg)
  else none
def wI (I : Nat → Nat → Int32) (a j : Nat) (x : Int32) : Nat → Nat → Int32 := up I (vx a j) (up (I (vx a j)) (ix a j) x)
/-- what a store keeps -/
def nar (k : Nat) (x : Int32) : Int32 := match k with
  | 6 => vp_nar .char x
  | 7 => vp_nar .boolean x
  | _ => x
def wR (R : Nat → Nat → Option Nat) (a k : Nat) (v : Option Nat) : Nat → Nat → Option Nat := up R a (up (R a) k v)
/-- a new cell's numbers and references -/
def bnI (I : Nat → Nat → Int32) (a : Nat) : Nat → Nat → Int32 :=
  if kd a ≤ 4 then (fun v x => if v = vec a ∧ ((List.range (ln a)).any (fun k => (fk (kd a) k == 1 || fk (kd a) k == 3) && x == fo (kd a) k) || (kd a == 2 && decide (38 ≤ x ∧ x < 48))) = true then 0 else I v x)
  else if kd a ≤ 7 then (fun v x => if (if a = 227 then 40 ≤ v ∧ v < 46 ∧ x < 148 else if a = 228 then 50 ≤ v ∧ v < 52 ∧ x < 148 else v = vec a ∧ off a ≤ x ∧ x < off a + ln a) then 0 else I v x)
  else I
def bnR (R : Nat → Nat → Option Nat) (a : Nat) : Nat → Nat → Option Nat := up R a (fun _ => none)
def bn (M : Mm) : Mm := (M.1 + 1, bnI M.2.1 (adr M.1), bnR M.2.2 (adr M.1))
/-- a copy between arrays of ints -/
def cpI (n : Nat) (I : Nat → Nat → Int32) (a0 : Nat) (sp : Int32) (a1 : Nat) (dp : Int32) (w : Int32) : Option (Nat → Nat → Int32) :=
  if (a0 < 1000 ∧ kd a0 = 5 ∧ pos a0 < n ∧ a0 ≠ 227 ∧ a0 ≠ 228 ∨ a0 = 1001) ∧ a1 < 1000 ∧ kd a1 = 5 ∧ pos a1 < n ∧ a1 ≠ 227 ∧ a1 ≠ 228 ∧ sp = 0 ∧ dp = 0 ∧ ¬ w < 0 ∧ w.toNatClampNeg ≤ (if a0 = 1001 then 6 else ln a0) ∧ w.toNatClampNeg ≤ ln a1 then
    some (up I (vec a1) (fun x => if off a1 ≤ x ∧ x < off a1 + w.toNatClampNeg then (if a0 = 1001 then csI 1001 (x - off a1) else I (vec a0) (off a0 + (x - off a1))) else I (vec a1) x))
  else none
/-- is it an object of that class -/
def isO (C : String) (n : Nat) (a : Nat) : Bool := if a < 1000 then decide (1 ≤ kd a ∧ kd a ≤ 4 ∧ pos a < n ∧ cn (kd a - 1) = C) else false
/-- a class's field, out of an object -/
def gfI (n : Nat) (I : Nat → Nat → Int32) (R : Nat → Nat → Option Nat) (ci k a : Nat) : Option Value :=
  if ci = 100 then none
  else if kd a = ci + 1 ∧ a < 1000 ∧ pos a < n ∧ k < ln a then some (fv I R a k) else none
def pfI (n : Nat) (I : Nat → Nat → Int32) (R : Nat → Nat → Option Nat) (ci k a : Nat) (v : Value) : Option ((Nat → Nat → Int32) × (Nat → Nat → Option Nat)) :=
  if kd a = ci + 1 ∧ a < 1000 ∧ pos a < n ∧ k < ln a ∧ ci ≤ 3 then
    (match fk (ci + 1) k, v with
      | 0, .ref b => if b < 1000 ∧ pos b < n then some (I, wR R a k (some b)) else none
      | 1, .int x => some (up I (vec a) (up (I (vec a)) (fo (ci + 1) k) x), R)
      | 3, .int x => if narrow .char (.int x) = .int x ∧ fits .char (.int x) = true then some (up I (vec a) (up (I (vec a)) (fo (ci + 1) k) x), R) else none
      | 2, .int x => if ¬ x < 0 ∧ x.toNatClampNeg < 1024 then some (up I (vec a) (unpk (I (vec a)) x.toNatClampNeg), R) else none
      | _, _ => none)
  else none
/-- a field's use: own class, index, the field's class and number, the word's place, final -/
abbrev Fi : Type := Nat × Nat × Nat × Nat × Nat × Bool
def fldL0 : List Fi := [(0, 9, 0, 0, 112, true), (0, 15, 0, 1, 113, true)]
def fldL1 : List Fi := [(1, 9, 1, 0, 37, true), (1, 24, 1, 1, 39, true), (1, 27, 1, 2, 41, true), (1, 32, 1, 3, 43, true), (1, 35, 1, 4, 44, true), (1, 38, 1, 5, 46, true), (1, 41, 1, 6, 48, true), (1, 44, 1, 7, 50, true), (1, 47, 1, 8, 52, false), (1, 51, 1, 9, 54, false), (1, 54, 1, 10, 55, false), (1, 57, 1, 11, 57, false), (1, 60, 1, 12, 59, false), (1, 63, 1, 13, 61, false), (1, 66, 1, 14, 63, false), (1, 69, 1, 15, 65, false), (1, 72, 1, 16, 67, false)]
def fldL2 : List Fi := [(2, 12, 2, 0, 128, false), (2, 16, 2, 1, 129, false), (2, 19, 2, 2, 130, true), (2, 23, 2, 4, 132, true), (2, 26, 2, 5, 133, true), (2, 33, 2, 6, 134, true), (2, 37, 2, 7, 135, true), (2, 40, 2, 8, 136, true), (2, 43, 2, 9, 137, true), (2, 165, 2, 3, 131, false), (2, 109, 1, 5, 47, true), (2, 113, 1, 6, 49, true), (2, 116, 1, 7, 51, true), (2, 119, 1, 10, 56, false), (2, 123, 1, 4, 45, true), (2, 129, 1, 0, 38, true), (2, 132, 1, 11, 58, false), (2, 138, 1, 8, 53, false), (2, 144, 1, 12, 60, false), (2, 147, 1, 13, 62, false), (2, 150, 1, 14, 64, false), (2, 153, 1, 15, 66, false), (2, 156, 1, 16, 68, false), (2, 162, 0, 2, 114, false), (2, 171, 1, 1, 40, true), (2, 174, 1, 2, 42, true)]
def fldL (o : Nat) : List Fi := match o with
  | 0 => fldL0
  | 1 => fldL1
  | 2 => fldL2
  | _ => []
def fld (o i : Nat) : Option Fi := (fldL o).find? (fun c => c.2.1 == i)
def gstL : List (Nat × Nat × Nat × Nat) := [(1, 15, 1001, 0), (1, 114, 1002, 0), (1, 117, 1003, 0)]
def gst (o i : Nat) : Option (Nat × Nat × Nat × Nat) := gstL.find? (fun c => c.1 == o && c.2.1 == i)
def konL : List (Nat × Nat × Value) := [(4, 7, .int 2147483647), (2, 224, .float 1258291200), (2, 225, .int 8388608), (4, 8, .int 40503), (6, 265, .int 1431655765), (6, 266, .int 858993459), (6, 267, .int 252645135)]
def kon (o i : Nat) : Option (Nat × Nat × Value) := konL.find? (fun c => c.1 == o && c.2.1 == i)
def ko2L : List (Nat × Nat × Value) := [(2, 181, .long (-1)), (2, 226, .double 4611686018427387904), (2, 228, .double 4841369599423283200), (2, 230, .long (4503599627370496))]
def ko2 (o i : Nat) : Option (Nat × Nat × Value) := ko2L.find? (fun c => c.1 == o && c.2.1 == i)
def nwcL : List (Nat × Nat × Nat) := [(2, 9, 1), (2, 30, 0), (4, 10, 2)]
def nwc (o i : Nat) : Option (Nat × Nat × Nat) := nwcL.find? (fun c => c.1 == o && c.2.1 == i)
def anw (o i : Nat) : Bool := (o == 2 && i == 9)
def mna (o i : Nat) : Bool := (o == 1 && i == 30)
def natL : List (Nat × Nat × Nat) := [(0, 3, 4), (1, 3, 4), (1, 18, 1), (2, 3, 4)]
def nat (o i : Nat) : Option Nat := (natL.find? (fun c => c.1 == o && c.2.1 == i)).map (fun c => c.2.2)
/-- what a static field holds -/
def gsv (w : Nat) : Value := .ref w
/-! the steps, by groups: what comes next, or the end -/
def stA (i : Instr) (pc : Nat) (ls : Lo) (st : List Value) (M : Mm) : Option Cf :=
  match pshI i with
  | some (v, n) => some (pc + n, ls, v :: st, M)
  | none => match ldI i with
    | some (t, k, n) => (match ls[k]? with
      | some (some v) => if vkn v = t then some (pc + n, ls, v :: st, M) else none
      | _ => none)
    | none => match stoI i with
      | some (t, k, n) => (match st with
        | v :: r => if vkn v = t then (if v.category = 2 then (if k + 1 < ls.length then some (pc + n, sto2 ls k v, r, M) else none) else (if k < ls.length then some (pc + n, sto1 ls k v, r, M) else none)) else none
        | _ => none)
      | none => none
def stBn (i : Instr) (pc : Nat) (ls : Lo) (st : List Value) (M : Mm) : Option Cf :=
  match st with
  | .int y :: .int x :: r => (binI i x y).map (fun z => (pc + 1, ls, .int z :: r, M))
  | .long y :: .long x :: r => (match binL i x y with
    | some z => some (pc + 1, ls, .long z :: r, M)
    | none => (binF i (.long x) (.long y)).map (fun z => (pc + 1, ls, z :: r, M)))
  | .int y :: .long x :: r => (shL i x y).map (fun z => (pc + 1, ls, .long z :: r, M))
  | .float y :: .float x :: r => (binF i (.float x) (.float y)).map (fun z => (pc + 1, ls, z :: r, M))
  | .double y :: .double x :: r => (binF i (.double x) (.double y)).map (fun z => (pc + 1, ls, z :: r, M))
  | _ => none
def stUn (i : Instr) (pc : Nat) (ls : Lo) (st : List Value) (M : Mm) : Option Cf :=
  match st with
  | v :: r => (unI i v).map (fun z => (pc + 1, ls, z :: r, M))
  | _ => none
def stJ (i : Instr) (len pc : Nat) (ls : Lo) (st : List Value) (M : Mm) : Option Cf :=
  match i with
  | .goto o => if len = 3 ∧ 0 ≤ (pc : Int) + o then some (tgt pc o, ls, st, M) else none
  | .iinc k n => (match ls[k]? with
    | some (some (.int x)) => if len = 3 then some (pc + 3, sto1 ls k (.int (x + Int32.ofInt n)), st, M) else none
    | _ => none)
  | .ifCond c o => (match st with
    | .int x :: r => if len = 3 ∧ 0 ≤ (pc : Int) + o then some (if cnd c x 0 = true then tgt pc o else pc + 3, ls, r, M) else none
    | _ => none)
  | .if_icmp c o => (match st with
    | .int y :: .int x :: r => if len = 3 ∧ 0 ≤ (pc : Int) + o then some (if cnd c x y = true then tgt pc o else pc + 3, ls, r, M) else none
    | _ => none)
  | .tableswitch d lo hi os => (match st with
    | .int x :: r => if x.toInt < lo ∨ hi < x.toInt then (if 0 ≤ (pc : Int) + d then some (tgt pc d, ls, r, M) else none)
        else (match os[(x.toInt - lo).toNat]? with
          | some o => if 0 ≤ (pc : Int) + o then some (tgt pc o, ls, r, M) else none
          | none => none)
    | _ => none)
  | .lookupswitch d ps => (match st with
    | .int x :: r => if (ps.toList.zip (ps.toList.drop 1)).all (fun (a, next) => a.1 < next.1) = true ∧ 0 ≤ (pc : Int) + Op.lookupswitch.offset ps.toList d x.toInt then some (tgt pc (Op.lookupswitch.offset ps.toList d x.toInt), ls, r, M) else none
    | _ => none)
  | .dup => (match st with
    | v :: r => if v.category = 1 then some (pc + 1, ls, v :: v :: r, M) else none
    | _ => none)
  | .pop => (match st with
    | v :: r => if v.category = 1 then some (pc + 1, ls, r, M) else none
    | _ => none)
  | .dup2 => (match st with
    | v :: w :: r => if v.category = 1 ∧ w.category = 1 then some (pc + 1, ls, v :: w :: v :: w :: r, M) else none
    | _ => none)
  | _ => none
def stM (K : Nat) (i : Instr) (pc : Nat) (ls : Lo) (st : List Value) (M : Mm) : Option Cf :=
  match i, st with
  | .iaload, .int j :: .ref a :: r => (ardI 5 M.1 M.2.1 a j).map (fun z => (pc + 1, ls, .int z :: r, M))
  | .caload, .int j :: .ref a :: r => (ardI 6 M.1 M.2.1 a j).map (fun z => (pc + 1, ls, .int z :: r, M))
  | .baload, .int j :: .ref a :: r => (ardI 7 M.1 M.2.1 a j).map (fun z => (pc + 1, ls, .int z :: r, M))
  | .aaload, .int j :: .ref a :: r => if 8 ≤ kd a ∧ a < 1000 ∧ pos a < M.1 ∧ inb j (ln a) then some (pc + 1, ls, va_rf (M.2.2 a j.toNatClampNeg) :: r, M) else none
  | .arraylength, .ref a :: r => (aln M.1 M.2.1 a).map (fun z => (pc + 1, ls, .int z :: r, M))
  | .iastore, .int x :: .int j :: .ref a :: r => if kd a = 5 ∧ a < 1000 ∧ pos a < M.1 ∧ inb j (ln a) then some (pc + 1, ls, r, (M.1, wI M.2.1 a j.toNatClampNeg x, M.2.2)) else none
  | .castore, .int x :: .int j :: .ref a :: r => if kd a = 6 ∧ a < 1000 ∧ pos a < M.1 ∧ inb j (ln a) then some (pc + 1, ls, r, (M.1, wI M.2.1 a j.toNatClampNeg (vp_nar .char x), M.2.2)) else none
  | .bastore, .int x :: .int j :: .ref a :: r => if kd a = 7 ∧ a < 1000 ∧ pos a < M.1 ∧ inb j (ln a) then some (pc + 1, ls, r, (M.1, wI M.2.1 a j.toNatClampNeg (vp_nar .boolean x), M.2.2)) else none
  | .aastore, .ref b :: .int j :: .ref a :: r => if kd a = 8 ∧ a < 1000 ∧ pos a < M.1 ∧ inb j (ln a) ∧ kd b = 2 ∧ b < 1000 ∧ pos b < M.1 then some (pc + 1, ls, r, (M.1, M.2.1, wR M.2.2 a j.toNatClampNeg (some b))) else none
  | .getfield x, .ref a :: r => (match fld (ow K) x with
    | some c => (gfI M.1 M.2.1 M.2.2 c.2.2.1 c.2.2.2.1 a).map (fun z => (pc + 3, ls, z :: r, M))
    | none => none)
  | .putfield x, v :: .ref a :: r => (match fld (ow K) x with
    | some c => if c.2.2.1 = ow K ∧ ((nm K).name = "<init>" ∨ c.2.2.2.2.2 = false) ∨ c.2.2.2.2.2 = false then (pfI M.1 M.2.1 M.2.2 c.2.2.1 c.2.2.2.1 a v).map (fun z => (pc + 3, ls, r, (M.1, z.1, z.2))) else none
    | none => none)
  | .getstatic x, r => (match gst (ow K) x with
    | some c => some (pc + 3, ls, gsv c.2.2.1 :: r, M)
    | none => none)
  | .ldc x, r => (match kon (ow K) x with
    | some c => some (pc + 2, ls, c.2.2 :: r, M)
    | none => none)
  | .ldc_w x, r => (match kon (ow K) x with
    | some (_, _, .int v) => some (pc + 3, ls, .int v :: r, M)
    | _ => none)
  | .ldc2_w x, r => (match ko2 (ow K) x with
    | some c => some (pc + 3, ls, c.2.2 :: r, M)
    | none => none)
  | .new x, r => (match nwc (ow K) x with
    | some c => if M.1 < 202 ∧ kd (adr M.1) = c.2.2 + 1 then some (pc + 3, ls, .ref (adr M.1) :: r, bn M) else none
    | none => none)
  | .newarray t, .int w :: r => if M.1 < 202 ∧ kd (adr M.1) = (if newarray.typeOf t = .int then 5 else if newarray.typeOf t = .char then 6 else if newarray.typeOf t = .boolean then 7 else 99) ∧ ¬ w < 0 ∧ w.toNatClampNeg = ln (adr M.1) then some (pc + 2, ls, .ref (adr M.1) :: r, bn M) else none
  | .anewarray x, .int w :: r => if anw (ow K) x = true ∧ M.1 < 202 ∧ kd (adr M.1) = 8 ∧ ¬ w < 0 ∧ w.toNatClampNeg = ln (adr M.1) then some (pc + 3, ls, .ref (adr M.1) :: r, bn M) else none
  | .multianewarray x d, .int w :: .int u :: r => if mna (ow K) x = true ∧ d = 2 ∧ M.1 + 7 ≤ 202 ∧ kd (adr M.1) = 9 ∧ u = 6 ∧ w = 10 ∧ adr M.1 + 6 < 208 ∧ (List.range 6).all (fun j => adr (M.1 + 1 + j) == adr M.1 + 1 + j) = true then
      some (pc + 4, ls, .ref (adr M.1) :: r, (M.1 + 7, (bn (bn (bn (bn (bn (bn (bn M))))))).2.1, up (bn (bn (bn (bn (bn (bn (bn M))))))).2.2 (adr M.1) (fun j => if j < 6 then some (adr M.1 + 1 + j) else none))) else none
  | _, _ => none
def stC (F : Orc) (K : Nat) (i : Instr) (pc : Nat) (ls : Lo) (st : List Value) (M : Mm) : Option Cf :=
  match i with
  | .invokestatic x => (match cal (ow K) x with
    | some c => if (c.2.2.1 = 1 ∨ c.2.2.1 = 4) ∧ c.2.2.2.2.2.2.2.2 ≤ st.length ∧ st.length ≤ c.2.2.2.2.2.2.2.2 + 4 ∧ rk c.2.2.2.1 < rk K ∧ mxl c.2.2.2.1 ≤ 18 then
        (F c.2.2.2.1 (st.take c.2.2.2.2.2.2.2.2).reverse M).map (fun z => (pc + 3, ls, z.1.toList ++ st.drop c.2.2.2.2.2.2.2.2, z.2)) else none
    | none => (match nat (ow K) x, st with
      | some 1, .int w :: .int dp :: .ref a1 :: .int sp :: .ref a0 :: r => if r.length ≤ 4 ∧ 1 ≤ rk K then (cpI M.1 M.2.1 a0 sp a1 dp w).map (fun z => (pc + 3, ls, r, (M.1, z, M.2.2))) else none
      | _, _ => none))
  | .invokevirtual x => (match cal (ow K) x with
    | some c => (match st.drop c.2.2.2.2.2.2.2.2 with
      | .ref a :: r => if c.2.2.1 = 0 ∧ c.2.2.2.2.2.2.2.2 ≤ st.length ∧ r.length ≤ 4 ∧ rk c.2.2.2.1 < rk K ∧ mxl c.2.2.2.1 ≤ 18 ∧ isO (nm c.2.2.2.1).cls M.1 a = true then
          (F c.2.2.2.1 (.ref a :: (st.take c.2.2.2.2.2.2.2.2).reverse) M).map (fun z => (pc + 3, ls, z.1.toList ++ r, z.2)) else none
      | _ => none)
    | none => none)
  | .invokespecial x => (match cal (ow K) x with
    | some c => (match st.drop c.2.2.2.2.2.2.2.2 with
      | .ref a :: r => if c.2.2.1 = 2 ∧ c.2.2.2.2.2.2.2.2 ≤ st.length ∧ r.length ≤ 4 ∧ rk c.2.2.2.1 < rk K ∧ mxl c.2.2.2.1 ≤ 18 then
          (match F c.2.2.2.1 (.ref a :: (st.take c.2.2.2.2.2.2.2.2).reverse) M with
            | some (none, M') => some (pc + 3, ls, r, M')
            | _ => none) else none
      | _ => none)
    | none => (match nat (ow K) x, st with
      | some 4, .ref _ :: r => if r.length ≤ 4 ∧ 1 ≤ rk K then some (pc + 3, ls, r, M) else none
      | _, _ => none))
  | _ => none
def stR (K : Nat) (i : Instr) (st : List Value) (M : Mm) : Option Rz :=
  match i, st with
  | .ireturn, [.int v] => (match rtt K with
    | some ty => if narrow ty (.int v) = .int v then some (some (.int v), M) else none
    | none => none)
  | .lreturn, [.long v] => if rtt K = some .long then some (some (.long v), M) else none
  | .return_, [] => if rtt K = none then some (none, M) else none
  | _, _ => none
/-- an instruction's length -/
def lok (i : Instr) (len : Nat) : Bool := match i with
  | .bipush _ | .iload _ | .lload _ | .fload _ | .dload _ | .aload _ | .istore _ | .lstore _ | .fstore _ | .dstore _ | .astore _ | .ldc _ | .newarray _ => len == 2
  | .sipush _ | .iinc _ _ | .goto _ | .ifCond _ _ | .if_icmp _ _ | .getfield _ | .putfield _ | .getstatic _ | .ldc_w _ | .ldc2_w _ | .new _ | .anewarray _ | .invokestatic _ | .invokevirtual _ | .invokespecial _ => len == 3
  | .multianewarray _ _ => len == 4
  | .tableswitch _ _ _ _ | .lookupswitch _ _ => true
  | _ => len == 1
def stp (F : Orc) (K : Nat) (c : Cf) : Option (Cf ⊕ Rz) :=
  match decode (cod K) c.1 with
  | .error _ => none
  | .ok (i, len) => if lok i len = false then none else (match stR K i c.2.2.1 c.2.2.2 with
    | some r => some (.inr r)
    | none => (match stA i c.1 c.2.1 c.2.2.1 c.2.2.2 with
      | some c' => some (.inl c')
      | none => (match stBn i c.1 c.2.1 c.2.2.1 c.2.2.2 with
        | some c' => some (.inl c')
        | none => (match stUn i c.1 c.2.1 c.2.2.1 c.2.2.2 with
          | some c' => some (.inl c')
          | none => (match stJ i len c.1 c.2.1 c.2.2.1 c.2.2.2 with
            | some c' => some (.inl c')
            | none => (match stM K i c.1 c.2.1 c.2.2.1 c.2.2.2 with
              | some c' => some (.inl c')
              | none => (match stC F K i c.1 c.2.1 c.2.2.1 c.2.2.2 with
                | some c' => some (.inl c')
                | none => none)))))))
def run (F : Orc) (K : Nat) : Nat → Cf → Option Rz
  | 0, _ => none
  | n + 1, c => match stp F K c with
    | none => none
    | some (.inl c') => run F K n c'
    | some (.inr r) => some r
theorem run_mono {F : Orc} {K : Nat} : ∀ (n : Nat) (c : Cf) (r : Rz), run F K n c = some r → run F K (n + 1) c = some r := by
  intro n
  induction n with
  | zero => intro c r h; cases h
  | succ n ih =>
    intro c r h
    rw [run] at h ⊢
    cases hs : stp F K c with
    | none => rw [hs] at h; cases h
    | some x =>
      rw [hs] at h
      cases x with
      | inl c' => exact ih c' r h
      | inr z => exact h
theorem run_le {F : Orc} {K : Nat} {n m : Nat} {c : Cf} {r : Rz} (h : run F K n c = some r) (hm : n ≤ m) : run F K m c = some r := by
  induction hm with
  | refl => exact h
  | step _ ih => exact run_mono _ _ _ ih
theorem run_lim (F : Orc) (K : Nat) (c : Cf) : ∃ o : Option Rz, ∃ n, ∀ m, n ≤ m → run F K m c = o := by
  by_cases h : ∃ n r, run F K n c = some r
  · obtain ⟨n, r, h⟩ := h
    exact ⟨some r, n, fun m hm => run_le h hm⟩
  · refine ⟨none, 0, fun m _ => ?_⟩
    cases hr : run F K m c with
    | none => rfl
    | some r => exact absurd ⟨m, r, hr⟩ h
noncomputable def EV (F : Orc) (K : Nat) (c : Cf) : Option Rz := Classical.choose (run_lim F K c)
theorem EV_spec (F : Orc) (K : Nat) (c : Cf) : ∃ n, ∀ m, n ≤ m → run F K m c = EV F K c := Classical.choose_spec (run_lim F K c)
theorem EV_step (F : Orc) (K : Nat) (c : Cf) : EV F K c = (match stp F K c with
    | none => none
    | some (.inl c') => EV F K c'
    | some (.inr r) => some r) := by
  obtain ⟨n, hn⟩ := EV_spec F K c
  have h1 := hn (n + 1) (Nat.le_succ n)
  rw [← h1, run]
  cases hs : stp F K c with
  | none => rfl
  | some x =>
    cases x with
    | inr z => rfl
    | inl c' =>
      obtain ⟨n', hn'⟩ := EV_spec F K c'
      show run F K n c' = EV F K c'
      have h2 := hn' (n + n') (Nat.le_add_left _ _)
      have h3 := hn (n + n' + 1) (by omega)
      rw [run, hs] at h3
      have h4 : run F K (n + n') c' = EV F K c := h3
      rw [run, hs] at h1
      have h5 : run F K n c' = EV F K c := h1
      rw [h5, ← h4, h2]
theorem EV_run {F : Orc} {K : Nat} {c : Cf} {r : Rz} (h : EV F K c = some r) : ∃ n, run F K n c = some r := by
  obtain ⟨n, hn⟩ := EV_spec F K c
  exact ⟨n, by rw [hn n (Nat.le_refl n), h]⟩
/-- a method's locals at its start -/
def ina : List Value → Lo
  | [] => []
  | v :: l => if v.category = 2 then some v :: none :: ina l else some v :: ina l
def ini (K : Nat) (a : List Value) : Lo := ina a ++ List.replicate (mxl K - (ina a).length) none
/-- what the methods below a rank answer -/
noncomputable def G : Nat → Orc
  | 0 => fun _ _ _ => none
  | r + 1 => fun y a M => if rk y = r ∧ (ina a).length ≤ mxl y then EV (G r) y (0, ini y a, [], M) else G r y a M
noncomputable def FF (y : Nat) (a : List Value) (M : Mm) : Option Rz := G (rk y + 1) y a M
noncomputable def EE (K pc : Nat) (ls : Lo) (st : List Value) (M : Mm) : Option Rz := EV (G (rk K)) K (pc, ls, st, M)
theorem FF_eq (K : Nat) (a : List Value) (M : Mm) (h : (ina a).length ≤ mxl K) : FF K a M = EE K 0 (ini K a) [] M := by
  unfold FF EE
  rw [G]
  exact if_pos ⟨rfl, h⟩
theorem G_none {y : Nat} (a : List Value) (M : Mm) : ∀ {r : Nat}, r ≤ rk y → G r y a M = none := by
  intro r
  induction r with
  | zero => intro _; rfl
  | succ r ih =>
    intro h
    rw [G]
    show (if rk y = r ∧ _ then _ else _) = _
    rw [if_neg (fun q => by have := q.1; omega)]
    exact ih (by omega)
theorem FF_some {y : Nat} {a : List Value} {M : Mm} {z : Rz} (h : FF y a M = some z) : (ina a).length ≤ mxl y ∧ EV (G (rk y)) y (0, ini y a, [], M) = some z := by
  unfold FF at h
  rw [G] at h
  by_cases hc : rk y = rk y ∧ (ina a).length ≤ mxl y
  · have h1 : (if rk y = rk y ∧ (ina a).length ≤ mxl y then EV (G (rk y)) y (0, ini y a, [], M) else G (rk y) y a M) = some z := h
    rw [if_pos hc] at h1
    exact ⟨hc.2, h1⟩
  · have h1 : (if rk y = rk y ∧ (ina a).length ≤ mxl y then EV (G (rk y)) y (0, ini y a, [], M) else G (rk y) y a M) = some z := h
    rw [if_neg hc, G_none a M (Nat.le_refl _)] at h1
    cases h1
theorem G_FF {y : Nat} (a : List Value) (M : Mm) : ∀ {r : Nat}, rk y < r → G r y a M = FF y a M := by
  intro r
  induction r with
  | zero => intro h; omega
  | succ r ih =>
    intro h
    by_cases e : rk y = r
    · unfold FF
      rw [e]
    · rw [G]
      show (if rk y = r ∧ _ then _ else _) = _
      rw [if_neg (fun q => e q.1)]
      exact ih (by omega)
