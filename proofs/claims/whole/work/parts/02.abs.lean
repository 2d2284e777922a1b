/-! THE ABSTRACT MACHINE: values, memory, one step of a plain instruction, runs by fuel. Pure: nothing of the real machine but its instructions' names. -/
/-- a value: an int, a long, a reference (none: null), or a reference of which nothing is known -/
abbrev AV : Type := Int ⊕ (Int ⊕ (Option Nat ⊕ Unit))
abbrev vi (z : Int) : AV := .inl z
abbrev vl (z : Int) : AV := .inr (.inl z)
abbrev vq (r : Option Nat) : AV := .inr (.inr (.inl r))
abbrev vr (a : Nat) : AV := .inr (.inr (.inl (some a)))
abbrev vj : AV := .inr (.inr (.inr ()))
abbrev ALs : Type := List (Option AV)
/-- ints and longs by cell and place -/
abbrev AM : Type := (Nat → Nat → Int) × (Nat → Nat → Int)
/-- the layout (tag and number: 0 an object of that class, 1 ints, 2 longs, 3 booleans, 4 icon sets, of that length), references by cell and place; cells and slots made -/
abbrev AE : Type := (List (Nat × Nat) × (Nat → Nat → Option Nat)) × (Nat × Nat)
abbrev AS : Type := AM × AE
abbrev AX : Type := Nat × (Nat → Int)
abbrev AI : Type := Instr × Nat × (Nat × Nat × Nat)
abbrev AF : Type := Nat × ALs × List AV
abbrev in32 (z : Int) : Prop := -2147483648 ≤ z ∧ z ≤ 2147483647
abbrev in64 (z : Int) : Prop := -9223372036854775808 ≤ z ∧ z ≤ 9223372036854775807
def w32 (z : Int) : Int := (Int32.ofInt z).toInt
def w64 (z : Int) : Int := (Int64.ofInt z).toInt
def up2 {α : Type} (f : Nat → Nat → α) (a k : Nat) (v : α) : Nat → Nat → α := fun b j => if b = a then (if j = k then v else f b j) else f b j
abbrev gi (S : AS) (a k : Nat) : Int := S.1.1 a k
abbrev gl (S : AS) (a k : Nat) : Int := S.1.2 a k
abbrev gr (S : AS) (a k : Nat) : Option Nat := S.2.1.2 a k
abbrev lay (S : AS) : List (Nat × Nat) := S.2.1.1
def si (S : AS) (a k : Nat) (v : Int) : AS := ((up2 S.1.1 a k v, S.1.2), S.2)
def sl (S : AS) (a k : Nat) (v : Int) : AS := ((S.1.1, up2 S.1.2 a k v), S.2)
def sr (S : AS) (a k : Nat) (v : Option Nat) : AS := (S.1, ((S.2.1.1, up2 S.2.1.2 a k v), S.2.2))
/-- a new cell: all zero; n slots -/
def mk (S : AS) (q : Nat × Nat) (n : Nat) : AS :=
  ((fun b j => if b = S.2.1.1.length then 0 else S.1.1 b j, fun b j => if b = S.2.1.1.length then 0 else S.1.2 b j),
   ((S.2.1.1 ++ [q], fun b j => if b = S.2.1.1.length then none else S.2.1.2 b j), (S.2.2.1 + 1, S.2.2.2 + n)))
/-- an exception thrown: a cell of six slots, of which nothing more is said -/
def thrS (S : AS) : AS := (S.1, (S.2.1, (S.2.2.1 + 1, S.2.2.2 + 6)))
/-- the cells that are not the law's own: the script, the extras by preference, texts and their bytes -/
def xScr : Nat := 1000000
def xExt : Nat := 1000001
def xStr : Nat := 1000100
def xByt : Nat := 1000200
def exs : List Int := [0, -1, 1, -2, 2]
/-- the texts of the constants that are read: size extra part bar box line icon at -/
def TXT : List (List Nat) := [[115,105,122,101],[101,120,116,114,97],[112,97,114,116],[98,97,114],[98,111,120],[108,105,110,101],[105,99,111,110],[97,116]]
-- the classes' fields: 0 an int or boolean, 1 a long, 2 a reference
def FT : List (List Nat) := [[2,0,0],[2,0,0],[2,2,2],[0,2,2,2,0],[2,2,0,0,0,0,0,0],[2,2,0],[2,0],[2,2,0],[2,2,2,2,2,2,2,0],[2,2,2,0,0,2,0,0,0,0,0,0,0,0,1,2,2,0,2,2,0,2,0]]
def isL (o : Option (Option AV)) : Bool := match o with
  | some (some (.inr (.inl _))) => true
  | _ => false
/-- a long ahead of place i is gone when place i is written -/
def kil (ls : ALs) (i : Nat) : ALs := match i with
  | 0 => ls
  | j + 1 => if isL ls[j]? = true then ls.set j none else ls
def st1 (ls : ALs) (i : Nat) (v : AV) : Option ALs := if i < ls.length then some ((kil ls i).set i (some v)) else none
def st2 (ls : ALs) (i : Nat) (v : AV) : Option ALs := if i + 1 < ls.length then some (((kil ls i).set i (some v)).set (i + 1) none) else none
def opI (f : Int32 → Int32 → Int32) (x y : Int) : Int := (f (Int32.ofInt x) (Int32.ofInt y)).toInt
def opL (f : Int64 → Int64 → Int64) (x y : Int) : Int := (f (Int64.ofInt x) (Int64.ofInt y)).toInt
def fShl (x y : Int32) : Int32 := x <<< (y &&& 31)
def fShr (x y : Int32) : Int32 := x >>> (y &&& 31)
def fUsh (x y : Int32) : Int32 := (x.toUInt32 >>> (y.toUInt32 &&& Int32.toUInt32 31)).toInt32
def fRem (x y : Int32) : Int32 := x - x / y * y
def fLshl (x : Int64) (y : Int32) : Int64 := x <<< (y.toInt64 &&& 63)
def fI2c (x : Int32) : Int32 := (x.toUInt32 % 65536).toInt32
def lcmpI (x y : Int) : Int := if x < y then -1 else if x = y then 0 else 1
/-- ints, or booleans, of an array cell -/
def rdA (X : AX) (t : Nat) (S : AS) (a : Nat) (i : Int) : Option Int := match (lay S)[a]? with
  | some (u, n) => if u = t ∧ 0 ≤ i ∧ i < n then some (gi S a i.toNat) else none
  | none => if t = 1 ∧ a = xScr ∧ 0 ≤ i ∧ i < X.1 then some (X.2 i.toNat) else if t = 1 ∧ a = xExt ∧ 0 ≤ i ∧ i < 5 then some (exs.getD i.toNat 0) else if t = 3 ∧ xByt ≤ a ∧ a < xByt + 8 ∧ 0 ≤ i ∧ i < ((TXT.getD (a - xByt) []).length : Int) then some (((TXT.getD (a - xByt) []).getD i.toNat 0 : Nat) : Int) else none
def lnA (X : AX) (S : AS) (a : Nat) : Option Int := match (lay S)[a]? with
  | some (u, n) => if u = 0 then none else some n
  | none => if a = xScr then some X.1 else if a = xExt then some 5 else if xByt ≤ a ∧ a < xByt + 8 then some ((TXT.getD (a - xByt) []).length : Int) else none
/-- a plain instruction: locals, stack and memory behind it -/
def stp (X : AX) (I : Instr) (ax : Nat × Nat × Nat) (ls : ALs) (st : List AV) (S : AS) : Option (ALs × List AV × AS) := match I with
  | .iconst n => if in32 n then some (ls, vi n :: st, S) else none
  | .bipush n => if -128 ≤ n ∧ n ≤ 127 then some (ls, vi n :: st, S) else none
  | .sipush n => if -32768 ≤ n ∧ n ≤ 32767 then some (ls, vi n :: st, S) else none
  | .lconst n => some (ls, vl n.val :: st, S)
  | .ldc _ => if ax.1 = 1 then (if ax.2.1 < 2147483648 then some (ls, vi ax.2.1 :: st, S) else none) else if ax.1 = 2 then some (ls, vr (xStr + ax.2.1) :: st, S) else none
  | .ldc_w _ => if ax.1 = 1 ∧ ax.2.1 < 2147483648 then some (ls, vi ax.2.1 :: st, S) else none
  | .ldc2_w _ => if ax.2.1 < 9223372036854775808 then some (ls, vl (if ax.1 = 1 then -(ax.2.1 : Int) else (ax.2.1 : Int)) :: st, S) else none
  | .aconst_null => some (ls, vq none :: st, S)
  | .iload i => match ls[i]? with | some (some (.inl z)) => some (ls, vi z :: st, S) | _ => none
  | .iload_n i => match ls[i.val]? with | some (some (.inl z)) => some (ls, vi z :: st, S) | _ => none
  | .lload i => match ls[i]? with | some (some (.inr (.inl z))) => some (ls, vl z :: st, S) | _ => none
  | .lload_n i => match ls[i.val]? with | some (some (.inr (.inl z))) => some (ls, vl z :: st, S) | _ => none
  | .aload i => match ls[i]? with | some (some (.inr (.inr (.inl r)))) => some (ls, vq r :: st, S) | _ => none
  | .aload_n i => match ls[i.val]? with | some (some (.inr (.inr (.inl r)))) => some (ls, vq r :: st, S) | _ => none
  | .istore i => match st with | .inl z :: r => (st1 ls i (vi z)).map (fun l => (l, r, S)) | _ => none
  | .istore_n i => match st with | .inl z :: r => (st1 ls i.val (vi z)).map (fun l => (l, r, S)) | _ => none
  | .lstore i => match st with | .inr (.inl z) :: r => (st2 ls i (vl z)).map (fun l => (l, r, S)) | _ => none
  | .lstore_n i => match st with | .inr (.inl z) :: r => (st2 ls i.val (vl z)).map (fun l => (l, r, S)) | _ => none
  | .astore i => match st with | .inr (.inr (.inl q)) :: r => (st1 ls i (vq q)).map (fun l => (l, r, S)) | .inr (.inr (.inr _)) :: r => (st1 ls i vj).map (fun l => (l, r, S)) | _ => none
  | .astore_n i => match st with | .inr (.inr (.inl q)) :: r => (st1 ls i.val (vq q)).map (fun l => (l, r, S)) | .inr (.inr (.inr _)) :: r => (st1 ls i.val vj).map (fun l => (l, r, S)) | _ => none
  | .iinc i n => match ls[i]? with | some (some (.inl z)) => (st1 ls i (vi (w32 (z + n)))).map (fun l => (l, st, S)) | _ => none
  | .iadd => match st with | .inl y :: .inl x :: r => some (ls, vi (w32 (x + y)) :: r, S) | _ => none
  | .isub => match st with | .inl y :: .inl x :: r => some (ls, vi (w32 (x - y)) :: r, S) | _ => none
  | .imul => match st with | .inl y :: .inl x :: r => some (ls, vi (w32 (x * y)) :: r, S) | _ => none
  | .ineg => match st with | .inl x :: r => some (ls, vi (w32 (-x)) :: r, S) | _ => none
  | .idiv => match st with | .inl y :: .inl x :: r => if y = 0 then none else some (ls, vi (opI (· / ·) x y) :: r, S) | _ => none
  | .irem => match st with | .inl y :: .inl x :: r => if y = 0 then none else some (ls, vi (opI fRem x y) :: r, S) | _ => none
  | .iand => match st with | .inl y :: .inl x :: r => some (ls, vi (opI (· &&& ·) x y) :: r, S) | _ => none
  | .ior => match st with | .inl y :: .inl x :: r => some (ls, vi (opI (· ||| ·) x y) :: r, S) | _ => none
  | .ixor => match st with | .inl y :: .inl x :: r => some (ls, vi (opI (· ^^^ ·) x y) :: r, S) | _ => none
  | .ishl => match st with | .inl y :: .inl x :: r => some (ls, vi (opI fShl x y) :: r, S) | _ => none
  | .ishr => match st with | .inl y :: .inl x :: r => some (ls, vi (opI fShr x y) :: r, S) | _ => none
  | .iushr => match st with | .inl y :: .inl x :: r => some (ls, vi (opI fUsh x y) :: r, S) | _ => none
  | .i2l => match st with | .inl x :: r => some (ls, vl x :: r, S) | _ => none
  | .i2c => match st with | .inl x :: r => some (ls, vi (fI2c (Int32.ofInt x)).toInt :: r, S) | _ => none
  | .l2i => match st with | .inr (.inl x) :: r => some (ls, vi (w32 x) :: r, S) | _ => none
  | .ladd => match st with | .inr (.inl y) :: .inr (.inl x) :: r => some (ls, vl (w64 (x + y)) :: r, S) | _ => none
  | .lsub => match st with | .inr (.inl y) :: .inr (.inl x) :: r => some (ls, vl (w64 (x - y)) :: r, S) | _ => none
  | .lmul => match st with | .inr (.inl y) :: .inr (.inl x) :: r => some (ls, vl (w64 (x * y)) :: r, S) | _ => none
  | .land => match st with | .inr (.inl y) :: .inr (.inl x) :: r => some (ls, vl (opL (· &&& ·) x y) :: r, S) | _ => none
  | .lor => match st with | .inr (.inl y) :: .inr (.inl x) :: r => some (ls, vl (opL (· ||| ·) x y) :: r, S) | _ => none
  | .lshl => match st with | .inl y :: .inr (.inl x) :: r => some (ls, vl (fLshl (Int64.ofInt x) (Int32.ofInt y)).toInt :: r, S) | _ => none
  | .lcmp => match st with | .inr (.inl y) :: .inr (.inl x) :: r => some (ls, vi (lcmpI x y) :: r, S) | _ => none
  | .dup => match st with | .inl x :: r => some (ls, vi x :: vi x :: r, S) | .inr (.inr (.inl q)) :: r => some (ls, vq q :: vq q :: r, S) | _ => none
  | .dup2 => match st with
    | .inr (.inl x) :: r => some (ls, vl x :: vl x :: r, S)
    | .inl y :: .inl x :: r => some (ls, vi y :: vi x :: vi y :: vi x :: r, S)
    | .inl y :: .inr (.inr (.inl q)) :: r => some (ls, vi y :: vq q :: vi y :: vq q :: r, S)
    | _ => none
  | .dup_x1 => match st with | .inl y :: .inr (.inr (.inl q)) :: r => some (ls, vi y :: vq q :: vi y :: r, S) | _ => none
  | .pop => match st with | .inl _ :: r => some (ls, r, S) | .inr (.inr _) :: r => some (ls, r, S) | _ => none
  | .getfield _ => match st with
    | .inr (.inr (.inl (some a))) :: r =>
      if ax.1 = 20 then (if (lay S)[a]? = none ∧ xStr ≤ a ∧ a < xStr + 8 then (if ax.2.1 = 0 then some (ls, vr (a + 100) :: r, S) else some (ls, vi 0 :: r, S)) else none)
      else if (lay S)[a]? = some (0, ax.1) then
        (match (FT.getD ax.1 [])[ax.2.1]? with
         | some 0 => some (ls, vi (gi S a ax.2.1) :: r, S)
         | some 1 => some (ls, vl (gl S a ax.2.1) :: r, S)
         | some _ => some (ls, vq (gr S a ax.2.1) :: r, S)
         | none => none)
      else none
    | _ => none
  | .putfield _ => match st with
    | v :: .inr (.inr (.inl (some a))) :: r =>
      if (lay S)[a]? = some (0, ax.1) then
        (match (FT.getD ax.1 [])[ax.2.1]?, v with
         | some 0, .inl z => if ax.2.2 = 0 ∨ z = 0 ∨ z = 1 then some (ls, r, si S a ax.2.1 z) else none
         | some 1, .inr (.inl z) => some (ls, r, sl S a ax.2.1 z)
         | some 2, .inr (.inr (.inl (some b))) => if b < (lay S).length then some (ls, r, sr S a ax.2.1 (some b)) else none
         | _, _ => none)
      else none
    | _ => none
  | .iaload => match st with | .inl i :: .inr (.inr (.inl (some a))) :: r => (rdA X 1 S a i).map (fun z => (ls, vi z :: r, S)) | _ => none
  | .baload => match st with | .inl i :: .inr (.inr (.inl (some a))) :: r => (rdA X 3 S a i).map (fun z => (ls, vi z :: r, S)) | _ => none
  | .laload => match st with
    | .inl i :: .inr (.inr (.inl (some a))) :: r => (match (lay S)[a]? with
      | some (u, n) => if u = 2 ∧ 0 ≤ i ∧ i < n then some (ls, vl (gl S a i.toNat) :: r, S) else none
      | none => none)
    | _ => none
  | .aaload => match st with
    | .inl i :: .inr (.inr (.inl (some a))) :: r => (match (lay S)[a]? with
      | some (u, n) => if u = 4 ∧ 0 ≤ i ∧ i < n then some (ls, vq (gr S a i.toNat) :: r, S) else none
      | none => none)
    | _ => none
  | .iastore => match st with
    | .inl z :: .inl i :: .inr (.inr (.inl (some a))) :: r => (match (lay S)[a]? with
      | some (u, n) => if u = 1 ∧ 0 ≤ i ∧ i < n then some (ls, r, si S a i.toNat z) else none
      | none => none)
    | _ => none
  | .bastore => match st with
    | .inl z :: .inl i :: .inr (.inr (.inl (some a))) :: r => (match (lay S)[a]? with
      | some (u, n) => if u = 3 ∧ 0 ≤ i ∧ i < n ∧ (z = 0 ∨ z = 1) then some (ls, r, si S a i.toNat z) else none
      | none => none)
    | _ => none
  | .lastore => match st with
    | .inr (.inl z) :: .inl i :: .inr (.inr (.inl (some a))) :: r => (match (lay S)[a]? with
      | some (u, n) => if u = 2 ∧ 0 ≤ i ∧ i < n then some (ls, r, sl S a i.toNat z) else none
      | none => none)
    | _ => none
  | .aastore => match st with
    | .inr (.inr (.inl (some b))) :: .inl i :: .inr (.inr (.inl (some a))) :: r => (match (lay S)[a]? with
      | some (u, n) => if u = 4 ∧ 0 ≤ i ∧ i < n ∧ (lay S)[b]? = some (0, 2) then some (ls, r, sr S a i.toNat (some b)) else none
      | none => none)
    | _ => none
  | .arraylength => match st with | .inr (.inr (.inl (some a))) :: r => (lnA X S a).map (fun z => (ls, vi z :: r, S)) | _ => none
  | .new _ => if ax.1 = 1 ∧ (lay S).length < 1000000 ∧ ax.2.1 < 10 then some (ls, vr (lay S).length :: st, mk S (0, ax.2.1) (FT.getD ax.2.1 []).length) else none
  | .newarray ty => match st with
    | .inl n :: r => if 0 ≤ n ∧ n ≤ 100000 ∧ (lay S).length < 1000000 ∧ ((ax.1 = 1 ∧ ty = .int) ∨ (ax.1 = 2 ∧ ty = .long) ∨ (ax.1 = 3 ∧ ty = .boolean)) then some (ls, vr (lay S).length :: r, mk S (ax.1, n.toNat) n.toNat) else none
    | _ => none
  | .anewarray _ => match st with
    | .inl n :: r => if 0 ≤ n ∧ n ≤ 100000 ∧ (lay S).length < 1000000 ∧ ax.1 = 4 then some (ls, vr (lay S).length :: r, mk S (4, n.toNat) n.toNat) else none
    | _ => none
  | .getstatic _ => if ax.1 = 1 then some (ls, vr xExt :: st, S) else if ax.1 = 2 then some (ls, vi 1 :: st, S) else if ax.1 = 3 then some (ls, vj :: st, S) else none
  | _ => none
