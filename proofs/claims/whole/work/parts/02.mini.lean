/-! THE SMALL MACHINE: a program is a table of resolved instructions; a state is what the cells hold, by numbers of their own. -/
/-- ints by cell and place, longs, references, what a cell is (its kind, its length), the next number, cells and slots that were made, the script -/
abbrev mH : Type := (Nat → Nat → Int32) × (Nat → Nat → Int64) × (Nat → Nat → Value) × (Nat → Nat × Nat) × Nat × Nat × Nat × (Nat × (Nat → Int32))
def mI (h : mH) : Nat → Nat → Int32 := h.1
def mL (h : mH) : Nat → Nat → Int64 := h.2.1
def mV (h : mH) : Nat → Nat → Value := h.2.2.1
def mK (h : mH) : Nat → Nat × Nat := h.2.2.2.1
def mN (h : mH) : Nat := h.2.2.2.2.1
def mC (h : mH) : Nat := h.2.2.2.2.2.1
def mS (h : mH) : Nat := h.2.2.2.2.2.2.1
def mX (h : mH) : Nat × (Nat → Int32) := h.2.2.2.2.2.2.2
def mSI (h : mH) (a k : Nat) (x : Int32) : mH := (fun b j => if b = a ∧ j = k then x else h.1 b j, h.2)
def mSL (h : mH) (a k : Nat) (x : Int64) : mH := (h.1, fun b j => if b = a ∧ j = k then x else h.2.1 b j, h.2.2)
def mSV (h : mH) (a k : Nat) (x : Value) : mH := (h.1, h.2.1, fun b j => if b = a ∧ j = k then x else h.2.2.1 b j, h.2.2.2)
/-- a new cell: all 0 and null -/
def mNew (h : mH) (kd : Nat × Nat) (slots : Nat) : mH :=
  (fun b j => if b = mN h then 0 else h.1 b j, fun b j => if b = mN h then 0 else h.2.1 b j, fun b j => if b = mN h then .null else h.2.2.1 b j,
   fun b => if b = mN h then kd else h.2.2.2.1 b, mN h + 1, mC h + 1, mS h + slots, mX h)
/-- cells that nobody looks at (an exception's) -/
def mUse (h : mH) (c s : Nat) : mH := (h.1, h.2.1, h.2.2.1, h.2.2.2.1, h.2.2.2.2.1, mC h + c, mS h + s, mX h)
/-- a copy of n ints from one row to another -/
def mCpy (h : mH) (a i b j n : Nat) : mH := (fun q k => if q = b ∧ j ≤ k ∧ k < j + n then h.1 a (i + (k - j)) else h.1 q k, h.2)
theorem mI_SI (h : mH) (a k : Nat) (x : Int32) (b j : Nat) : mI (mSI h a k x) b j = if b = a ∧ j = k then x else mI h b j := rfl
theorem mI_SL (h : mH) (a k : Nat) (x : Int64) : mI (mSL h a k x) = mI h := rfl
theorem mI_SV (h : mH) (a k : Nat) (x : Value) : mI (mSV h a k x) = mI h := rfl
theorem mL_SI (h : mH) (a k : Nat) (x : Int32) : mL (mSI h a k x) = mL h := rfl
theorem mL_SL (h : mH) (a k : Nat) (x : Int64) (b j : Nat) : mL (mSL h a k x) b j = if b = a ∧ j = k then x else mL h b j := rfl
theorem mL_SV (h : mH) (a k : Nat) (x : Value) : mL (mSV h a k x) = mL h := rfl
theorem mV_SI (h : mH) (a k : Nat) (x : Int32) : mV (mSI h a k x) = mV h := rfl
theorem mV_SL (h : mH) (a k : Nat) (x : Int64) : mV (mSL h a k x) = mV h := rfl
theorem mV_SV (h : mH) (a k : Nat) (x : Value) (b j : Nat) : mV (mSV h a k x) b j = if b = a ∧ j = k then x else mV h b j := rfl
theorem mK_SI (h : mH) (a k : Nat) (x : Int32) : mK (mSI h a k x) = mK h := rfl
theorem mK_SL (h : mH) (a k : Nat) (x : Int64) : mK (mSL h a k x) = mK h := rfl
theorem mK_SV (h : mH) (a k : Nat) (x : Value) : mK (mSV h a k x) = mK h := rfl
theorem mN_SI (h : mH) (a k : Nat) (x : Int32) : mN (mSI h a k x) = mN h := rfl
theorem mN_SL (h : mH) (a k : Nat) (x : Int64) : mN (mSL h a k x) = mN h := rfl
theorem mN_SV (h : mH) (a k : Nat) (x : Value) : mN (mSV h a k x) = mN h := rfl
theorem mX_SI (h : mH) (a k : Nat) (x : Int32) : mX (mSI h a k x) = mX h := rfl
theorem mX_SL (h : mH) (a k : Nat) (x : Int64) : mX (mSL h a k x) = mX h := rfl
theorem mX_SV (h : mH) (a k : Nat) (x : Value) : mX (mSV h a k x) = mX h := rfl
theorem mC_SI (h : mH) (a k : Nat) (x : Int32) : mC (mSI h a k x) = mC h := rfl
theorem mC_SL (h : mH) (a k : Nat) (x : Int64) : mC (mSL h a k x) = mC h := rfl
theorem mC_SV (h : mH) (a k : Nat) (x : Value) : mC (mSV h a k x) = mC h := rfl
theorem mS_SI (h : mH) (a k : Nat) (x : Int32) : mS (mSI h a k x) = mS h := rfl
theorem mS_SL (h : mH) (a k : Nat) (x : Int64) : mS (mSL h a k x) = mS h := rfl
theorem mS_SV (h : mH) (a k : Nat) (x : Value) : mS (mSV h a k x) = mS h := rfl
/-- how a call ends: returned, or thrown (the exception's number) -/
abbrev mR : Type := Option Value ⊕ Nat
abbrev mO : Type := mR × mH
abbrev mLo : Type := List (Option Value)
/-- behind one instruction: on, or the end -/
abbrev mY : Type := (Nat × mLo × List Value × mH) ⊕ mO
def mGo (pc : Nat) (lo : mLo) (st : List Value) (h : mH) : Option mY := some (.inl (pc, lo, st, h))
def mEnd (r : mR) (h : mH) : Option mY := some (.inr (r, h))
def mTo (pc : Nat) (off : Int) : Option Nat := if 0 ≤ (pc : Int) + off then some ((pc : Int) + off).toNat else none
def mBin (f : Int32 → Int32 → Option Value) : List Value → Option (List Value)
  | .int y :: .int x :: st => (f x y).map (fun v => v :: st)
  | _ => none
def mBinL (f : Int64 → Int64 → Option Value) : List Value → Option (List Value)
  | .long y :: .long x :: st => (f x y).map (fun v => v :: st)
  | _ => none
def mBinD (f : UInt64 → UInt64 → Option Value) : List Value → Option (List Value)
  | .double y :: .double x :: st => (f x y).map (fun v => v :: st)
  | _ => none
def mUn (f : Int32 → Value) : List Value → Option (List Value)
  | .int x :: st => some (f x :: st)
  | _ => none
def mUnL (f : Int64 → Value) : List Value → Option (List Value)
  | .long x :: st => some (f x :: st)
  | _ => none
def mDup : List Value → Option (List Value)
  | v :: st => if v.category = 1 then some (v :: v :: st) else none
  | _ => none
def mDup2 : List Value → Option (List Value)
  | v :: w :: st => if v.category = 1 ∧ w.category = 1 then some (v :: w :: v :: w :: st) else none
  | _ => none
def mDupX1 : List Value → Option (List Value)
  | v :: w :: st => if v.category = 1 ∧ w.category = 1 then some (v :: w :: v :: st) else none
  | _ => none
def mPop : List Value → Option (List Value)
  | v :: st => if v.category = 1 then some st else none
  | _ => none
def mOkD (x : UInt64) : Bool := decide (x &&& 0x7fffffffffffffff ≤ 0x7ff0000000000000)
/-- instructions that touch the stack alone -/
def mStk (i : Instr) (st : List Value) : Option (List Value) :=
  match i with
  | .iconst n => some (.int (Int32.ofInt n) :: st)
  | .bipush n => some (.int (Int8.ofInt n).toInt32 :: st)
  | .sipush n => some (.int (Int16.ofInt n).toInt32 :: st)
  | .lconst n => some (.long (Int64.ofNat (n : Nat)) :: st)
  | .dconst n => if n = 0 then some (.double FP.dconst0 :: st) else none
  | .aconst_null => some (.null :: st)
  | .iadd => mBin (fun x y => some (.int (x + y))) st
  | .isub => mBin (fun x y => some (.int (x - y))) st
  | .imul => mBin (fun x y => some (.int (x * y))) st
  | .idiv => mBin (fun x y => if y = 0 then none else some (.int (x / y))) st
  | .irem => mBin (fun x y => if y = 0 then none else some (.int (x - x / y * y))) st
  | .iand => mBin (fun x y => some (.int (x &&& y))) st
  | .ior => mBin (fun x y => some (.int (x ||| y))) st
  | .ixor => mBin (fun x y => some (.int (x ^^^ y))) st
  | .ishl => mBin (fun x y => some (.int (x <<< (y &&& 31)))) st
  | .ishr => mBin (fun x y => some (.int (x >>> (y &&& 31)))) st
  | .iushr => mBin (fun x y => some (.int (x.toUInt32 >>> (y.toUInt32 &&& Int32.toUInt32 31)).toInt32)) st
  | .ineg => mUn (fun x => .int (-x)) st
  | .i2l => mUn (fun x => .long x.toInt64) st
  | .i2d => mUn (fun x => .double (FP.i2d x)) st
  | .i2c => mUn (fun x => .int (x.toUInt32 % 65536).toInt32) st
  | .i2b => mUn (fun x => .int x.toInt8.toInt32) st
  | .l2i => mUnL (fun x => .int x.toInt32) st
  | .ladd => mBinL (fun x y => some (.long (x + y))) st
  | .lmul => mBinL (fun x y => some (.long (x * y))) st
  | .ldiv => mBinL (fun x y => if y = 0 then none else some (.long (x / y))) st
  | .lrem => mBinL (fun x y => if y = 0 then none else some (.long (x - x / y * y))) st
  | .lcmp => mBinL (fun x y => some (.int (lg_cmp x y))) st
  | .ddiv => mBinD (fun x y => if mOkD (FP.ddiv x y) = true then some (.double (FP.ddiv x y)) else none) st
  | .dcmp op => mBinD (fun x y => some (.int (Op.cmpValue (FP.dcmp x y) op))) st
  | .dup => mDup st
  | .dup2 => mDup2 st
  | .dup_x1 => mDupX1 st
  | .pop => mPop st
  | _ => none
/-- a place of the locals, one slot, or two -/
def mGet (lo : mLo) (n : Nat) : Option Value :=
  match lo[n]? with
  | some (some v) => if v.category = 2 then (if lo[n + 1]? = some none then some v else none) else some v
  | _ => none
def mPut (lo : mLo) (n : Nat) (v : Value) : Option mLo :=
  if v.category = 2 then (if n + 1 < lo.length then some ((lo.set n (some v)).set (n + 1) none) else none)
  else if n < lo.length then some (lo.set n (some v)) else none
/-- which local an instruction loads, and what sort: 0 int, 1 long, 2 reference, 3 double -/
def mLd : Instr → Option (Nat × Nat)
  | .iload n => some (n, 0)
  | .iload_n n => some (n, 0)
  | .lload n => some (n, 1)
  | .lload_n n => some (n, 1)
  | .aload n => some (n, 2)
  | .aload_n n => some (n, 2)
  | .dload n => some (n, 3)
  | .dload_n n => some (n, 3)
  | _ => none
def mSt : Instr → Option (Nat × Nat)
  | .istore n => some (n, 0)
  | .istore_n n => some (n, 0)
  | .lstore n => some (n, 1)
  | .lstore_n n => some (n, 1)
  | .astore n => some (n, 2)
  | .astore_n n => some (n, 2)
  | .dstore n => some (n, 3)
  | .dstore_n n => some (n, 3)
  | _ => none
def mSort : Value → Nat
  | .int _ => 0
  | .long _ => 1
  | .ref _ => 2
  | .null => 2
  | .double _ => 3
  | _ => 4
def mIf : ClassFile.Cond → Int32 → Int32 → Bool
  | .eq, x, y => decide (x = y)
  | .ne, x, y => decide (¬ x = y)
  | .lt, x, y => decide (x < y)
  | .ge, x, y => decide (y ≤ x)
  | .gt, x, y => decide (y < x)
  | .le, x, y => decide (x ≤ y)
def mBr (pc len : Nat) (off : Int) (lo : mLo) (st : List Value) (h : mH) (b : Bool) : Option mY :=
  match mTo pc off with
  | none => none
  | some t => if b = true then mGo t lo st h else mGo (pc + len) lo st h
def mIn (i : Int32) (n : Nat) : Bool := decide (¬ (i < 0 ∨ n ≤ i.toNatClampNeg))
def mSum (st : List Value) : Nat := (st.map fun v => v.category).sum
