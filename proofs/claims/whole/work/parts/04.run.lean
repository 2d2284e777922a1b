/-! RUNS of the abstract machine over the program's tables, and what the kernel checks of the tables. -/
noncomputable def cdAt (k pc : Nat) : Option AI := (CT.getD k []).lookup pc
noncomputable def mt (k : Nat) : AMt := MT.getD k (⟨"", "", ""⟩, ⟨#[]⟩, 0, none, [], (0, 0), (0, 0, 0))
noncomputable def mY (k : Nat) : MethodName := (mt k).1
def kLaw : Nat := 282
def kN : Nat := 295
/-- a method's bytes: those of its code's word -/
def bOf (w : Option Cond) : ByteArray := match w with
  | some (.code _ b _ _) => b
  | some (.codeWith _ b _ _ _) => b
  | _ => ⟨#[]⟩
noncomputable def mC (k : Nat) : ByteArray := if k = kLaw then code else bOf lw_tbl[(MW.getD k (0, 0, 0, 0)).1]?
noncomputable def mL (k : Nat) : Nat := (mt k).2.2.1
noncomputable def mR (k : Nat) : Option FieldType := (mt k).2.2.2.1
noncomputable def mH (k : Nat) : List (Nat × Nat × Nat × Nat) := (mt k).2.2.2.2.1
noncomputable def mF (k : Nat) : Nat := (mt k).2.2.2.2.2.1.1
noncomputable def mLo (k : Nat) : Nat := (mt k).2.2.2.2.2.1.2
noncomputable def mO (k : Nat) : Nat := (mt k).2.2.2.2.2.2.1
noncomputable def mA (k : Nat) : Nat := (mt k).2.2.2.2.2.2.2.1
noncomputable def mG (k : Nat) : Nat := (mt k).2.2.2.2.2.2.2.2
def cHold (c : Jvm.ClassFile.Cond) (x y : Int) : Bool := match c with
  | .eq => decide (x = y)
  | .ne => decide (x ≠ y)
  | .lt => decide (x < y)
  | .ge => decide (y ≤ x)
  | .gt => decide (y < x)
  | .le => decide (x ≤ y)
def tgt (pc : Nat) (off : Int) : Nat := ((pc : Int) + off).toNat
def acat (v : AV) : Nat := match v with
  | .inr (.inl _) => 2
  | _ => 1
def entL (as : List AV) : ALs := as.flatMap (fun v => match v with | .inr (.inl _) => [some v, none] | _ => [some v])
abbrev AR : Type := (AF × AS) ⊕ ((Nat × List AV × List AV) ⊕ ((Option AV ⊕ Nat) × AS))
def jmp (fr : AF) (off : Int) (r : List AV) (S : AS) : Option AR := if 0 ≤ (fr.1 : Int) + off then some (.inl ((tgt fr.1 off, fr.2.1, r), S)) else none
noncomputable def ctl (I : Instr) (len : Nat) (ax : Nat × Nat × Nat) (fr : AF) (S : AS) : Option AR := match I with
  | .goto off => jmp fr off fr.2.2 S
  | .ifCond c off => match fr.2.2 with
    | .inl x :: r => if 0 ≤ (fr.1 : Int) + off then (if cHold c x 0 = true then some (.inl ((tgt fr.1 off, fr.2.1, r), S)) else some (.inl ((fr.1 + 3, fr.2.1, r), S))) else none
    | _ => none
  | .if_icmp c off => match fr.2.2 with
    | .inl y :: .inl x :: r => if 0 ≤ (fr.1 : Int) + off then (if cHold c x y = true then some (.inl ((tgt fr.1 off, fr.2.1, r), S)) else some (.inl ((fr.1 + 3, fr.2.1, r), S))) else none
    | _ => none
  | .ifnull off => match fr.2.2 with
    | .inr (.inr (.inl none)) :: r => jmp fr off r S
    | .inr (.inr (.inl (some _))) :: r => some (.inl ((fr.1 + 3, fr.2.1, r), S))
    | _ => none
  | .ifnonnull off => match fr.2.2 with
    | .inr (.inr (.inl none)) :: r => some (.inl ((fr.1 + 3, fr.2.1, r), S))
    | .inr (.inr (.inl (some _))) :: r => jmp fr off r S
    | _ => none
  | .if_acmp c off => match fr.2.2 with
    | .inr (.inr (.inl (some b))) :: .inr (.inr (.inl (some a))) :: r =>
      if a < (lay S).length ∧ b < (lay S).length then
        (match c with
         | .eq => if 0 ≤ (fr.1 : Int) + off then (if a = b then some (.inl ((tgt fr.1 off, fr.2.1, r), S)) else some (.inl ((fr.1 + 3, fr.2.1, r), S))) else none
         | .ne => if 0 ≤ (fr.1 : Int) + off then (if a = b then some (.inl ((fr.1 + 3, fr.2.1, r), S)) else some (.inl ((tgt fr.1 off, fr.2.1, r), S))) else none)
      else none
    | _ => none
  | .tableswitch d lo hi offs => match fr.2.2 with
    | .inl x :: r => if x < lo ∨ hi < x then jmp fr d r S else (match offs[(x - lo).toNat]? with | some o => jmp fr o r S | none => none)
    | _ => none
  | .lookupswitch d ps => match fr.2.2 with
    | .inl x :: r => if (ps.toList.zip (ps.toList.drop 1)).all (fun (a, next) => a.1 < next.1) = true then jmp fr (Op.lookupswitch.offset ps.toList d x) r S else none
    | _ => none
  | .ireturn => match fr.2.2 with
    | [.inl z] => if ax.1 = 0 ∨ z = 0 ∨ z = 1 ∨ (ax.1 = 2 ∧ 0 ≤ z ∧ z ≤ 127) then some (.inr (.inr (.inl (some (vi z)), S))) else none
    | _ => none
  | .lreturn => match fr.2.2 with
    | [.inr (.inl z)] => some (.inr (.inr (.inl (some (vl z)), S)))
    | _ => none
  | .areturn => match fr.2.2 with
    | [.inr (.inr (.inl q))] => some (.inr (.inr (.inl (some (vq q)), S)))
    | _ => none
  | .return_ => match fr.2.2 with
    | [] => some (.inr (.inr (.inl none, S)))
    | _ => none
  | .new _ => if ax.1 = 2 ∧ (fr.2.2.map acat).sum ≤ 8 then some (.inr (.inr (.inr ax.2.1, thrS S))) else none
  | .invokestatic _ =>
    if ax.1 = 2 ∨ ax.1 = 3 ∨ ax.1 = 10 then
      (if (fr.2.2.take ax.2.2).length = ax.2.2 then some (.inr (.inl (ax.2.1, (fr.2.2.take ax.2.2).reverse, fr.2.2.drop ax.2.2))) else none)
    else if ax.1 = 5 then
      (match fr.2.2 with
       | .inl n :: .inl dp :: .inr (.inr (.inl (some a))) :: .inl sp :: .inr (.inr (.inl (some b))) :: r =>
         (match (lay S)[a]?, (lay S)[b]? with
          | some (1, na), some (1, nb) => if 0 ≤ sp ∧ 0 ≤ dp ∧ 0 ≤ n ∧ sp + n ≤ nb ∧ dp + n ≤ na ∧ (r.map acat).sum ≤ 8 then
              some (.inl ((fr.1 + 3, fr.2.1, r), ((fun x j => if x = a then (if dp.toNat ≤ j ∧ j < dp.toNat + n.toNat then S.1.1 b (sp.toNat + (j - dp.toNat)) else S.1.1 x j) else S.1.1 x j, S.1.2), S.2))) else none
          | _, _ => none)
       | _ => none)
    else if ax.1 = 6 then
      (match fr.2.2 with
       | .inl n :: .inl dp :: .inr (.inr (.inl (some a))) :: .inl sp :: .inr (.inr (.inl (some b))) :: r =>
         (match (lay S)[a]?, (lay S)[b]? with
          | some (2, na), some (2, nb) => if 0 ≤ sp ∧ 0 ≤ dp ∧ 0 ≤ n ∧ sp + n ≤ nb ∧ dp + n ≤ na ∧ (r.map acat).sum ≤ 8 then
              some (.inl ((fr.1 + 3, fr.2.1, r), ((S.1.1, fun x j => if x = a then (if dp.toNat ≤ j ∧ j < dp.toNat + n.toNat then S.1.2 b (sp.toNat + (j - dp.toNat)) else S.1.2 x j) else S.1.2 x j), S.2))) else none
          | _, _ => none)
       | _ => none)
    else none
  | .invokevirtual _ =>
    if ax.1 = 1 then
      (if (fr.2.2.take ax.2.2).length = ax.2.2 then
        (match fr.2.2.drop ax.2.2 with
         | .inr (.inr (.inl (some b))) :: r => if (lay S)[b]? = some (0, mO ax.2.1) ∨ (mO ax.2.1 = 13 ∧ (lay S)[b]? = none ∧ xStr ≤ b ∧ b < xStr + 8) then some (.inr (.inl (ax.2.1, vr b :: (fr.2.2.take ax.2.2).reverse, r))) else none
         | _ => none)
       else none)
    else none
  | .invokespecial _ =>
    if ax.1 = 4 then
      (if (fr.2.2.take ax.2.2).length = ax.2.2 then
        (match fr.2.2.drop ax.2.2 with
         | .inr (.inr (.inl (some b))) :: r => if (lay S)[b]? = some (0, mO ax.2.1) then some (.inr (.inl (ax.2.1, vr b :: (fr.2.2.take ax.2.2).reverse, r))) else none
         | _ => none)
       else none)
    else if ax.1 = 7 then
      (match fr.2.2 with
       | .inr (.inr (.inl (some _))) :: r => if (r.map acat).sum ≤ 8 then some (.inl ((fr.1 + 3, fr.2.1, r), S)) else none
       | _ => none)
    else none
  | _ => none
/-- the handler of a method for an exception thrown at a place -/
noncomputable def hnd (k pc x : Nat) : Option Nat := match mH k with
  | [] => none
  | hs => (hs.zip (HX.getD k [])).findSome? (fun q => if q.1.1 ≤ pc ∧ pc < q.1.2.1 ∧ q.2 = x then some q.1.2.2.1 else none)
/-- a run: at most n steps and calls in depth -/
noncomputable def run (X : AX) : Nat → Nat → AF → AS → Option ((Option AV ⊕ Nat) × AS)
  | 0, _, _, _ => none
  | n + 1, k, fr, S => match cdAt k fr.1 with
    | none => none
    | some (I, len, ax) => match stp X I ax fr.2.1 fr.2.2 S with
      | some (ls', st', S') => run X n k (fr.1 + len, ls', st') S'
      | none => match ctl I len ax fr S with
        | none => none
        | some (.inl (fr', S')) => run X n k fr' S'
        | some (.inr (.inr (o, S'))) => some (o, S')
        | some (.inr (.inl (j, as, rest))) =>
          if (entL as).length ≤ mL j ∧ (rest.map acat).sum ≤ 8 then
            match run X n j (0, entL as ++ List.replicate (mL j - (entL as).length) none, []) S with
            | none => none
            | some (.inl v, S') => run X n k (fr.1 + len, fr.2.1, v.toList ++ rest) S'
            | some (.inr x, S') => match hnd k fr.1 x with
              | some h => run X n k (h, fr.2.1, [vj]) S'
              | none => some (.inr x, S')
          else none
