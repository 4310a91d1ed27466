/-! THE CONSTRUCTORS, BY A SMALLER MACHINE: a state is the list of what was done -/
abbrev OP : Type := Nat × Nat × Nat × Nat × Nat × Int32
/-- the next number, what was done (the last first): 0 a cell b of kind (x, y), n slots; 1 a reference; 2 an int -/
abbrev AS : Type := Nat × List OP
def cApp : OP → mH → mH
  | (0, _, x, y, n, _), h => mNew h (x, y) n
  | (1, a, f, t, _, _), h => mSV h a f (.ref t)
  | (_, a, f, _, _, v), h => mSI h a f v
def hZ (X : Nat × (Nat → Int32)) : mH := (fun _ _ => 0, fun _ _ => 0, fun _ _ => .null, fun _ => (0, 0), 200, 0, 0, X)
def conc (X : Nat × (Nat → Int32)) : List OP → mH
  | [] => hZ X
  | o :: l => cApp o (conc X l)
def wfL : Nat → List OP → Prop
  | N, [] => N = 200
  | N, (0, b, _) :: l => N = b + 1 ∧ wfL b l
  | N, (_ + 1, _) :: l => wfL N l
def aK : List OP → Nat → Nat × Nat
  | [], _ => (0, 0)
  | (0, b, x, y, _) :: l, a => if a = b then (x, y) else aK l a
  | (_ + 1, _) :: l, a => aK l a
def aV : List OP → Nat → Nat → Option Nat
  | [], _, _ => none
  | (0, b, _) :: l, a, f => if a = b then none else aV l a f
  | (1, b, g, t, _) :: l, a, f => if a = b ∧ f = g then some t else aV l a f
  | (_ + 2, _) :: l, a, f => aV l a f
def aI : List OP → Nat → Nat → Int32
  | [], _, _ => 0
  | (0, b, _) :: l, a, f => if a = b then 0 else aI l a f
  | (1, _) :: l, a, f => aI l a f
  | (_ + 2, b, g, _, _, v) :: l, a, f => if a = b ∧ f = g then v else aI l a f
def aC : List OP → Nat
  | [] => 0
  | (0, _) :: l => aC l + 1
  | (_ + 1, _) :: l => aC l
def aS : List OP → Nat
  | [] => 0
  | (0, _, _, _, n, _) :: l => aS l + n
  | (_ + 1, _) :: l => aS l
theorem c_N {X : Nat × (Nat → Int32)} : ∀ {l : List OP} {N : Nat}, wfL N l → mN (conc X l) = N
  | [], N, w => w.symm
  | (0, b, x, y, n, v) :: l, N, w => by
    show mN (conc X l) + 1 = N
    rw [c_N w.2, w.1]
  | (1, b, x, y, n, v) :: l, N, w => c_N (l := l) w
  | (k + 2, b, x, y, n, v) :: l, N, w => c_N (l := l) w
theorem c_K {X : Nat × (Nat → Int32)} {a : Nat} : ∀ {l : List OP} {N : Nat}, wfL N l → mK (conc X l) a = aK l a
  | [], N, w => rfl
  | (0, b, x, y, n, v) :: l, N, w => by
    show (if a = mN (conc X l) then (x, y) else mK (conc X l) a) = _
    rw [c_N w.2, c_K w.2]
    rfl
  | (1, b, x, y, n, v) :: l, N, w => c_K (l := l) w
  | (k + 2, b, x, y, n, v) :: l, N, w => c_K (l := l) w
theorem c_V {X : Nat × (Nat → Int32)} {a f : Nat} : ∀ {l : List OP} {N : Nat}, wfL N l → mV (conc X l) a f = (match aV l a f with | some t => .ref t | none => .null)
  | [], N, w => rfl
  | (0, b, x, y, n, v) :: l, N, w => by
    show (if a = mN (conc X l) then Value.null else mV (conc X l) a f) = _
    rw [c_N w.2, c_V w.2, aV]
    by_cases c : a = b
    · rw [if_pos c, if_pos c]
    · rw [if_neg c, if_neg c]
  | (1, b, x, y, n, v) :: l, N, w => by
    show (if a = b ∧ f = x then Value.ref y else mV (conc X l) a f) = _
    rw [c_V (l := l) w, aV]
    by_cases c : a = b ∧ f = x
    · rw [if_pos c, if_pos c]
    · rw [if_neg c, if_neg c]
  | (k + 2, b, x, y, n, v) :: l, N, w => c_V (l := l) w
theorem c_I {X : Nat × (Nat → Int32)} {a f : Nat} : ∀ {l : List OP} {N : Nat}, wfL N l → mI (conc X l) a f = aI l a f
  | [], N, w => rfl
  | (0, b, x, y, n, v) :: l, N, w => by
    show (if a = mN (conc X l) then (0 : Int32) else mI (conc X l) a f) = _
    rw [c_N w.2, c_I w.2]
    rfl
  | (1, b, x, y, n, v) :: l, N, w => c_I (l := l) w
  | (k + 2, b, x, y, n, v) :: l, N, w => by
    show (if a = b ∧ f = x then v else mI (conc X l) a f) = _
    rw [c_I (l := l) w]
    rfl
theorem c_C {X : Nat × (Nat → Int32)} : ∀ {l : List OP}, mC (conc X l) = aC l ∧ mS (conc X l) = aS l ∧ mX (conc X l) = X
  | [] => ⟨rfl, rfl, rfl⟩
  | (0, b, x, y, n, v) :: l => by
    obtain ⟨h1, h2, h3⟩ := c_C (X := X) (l := l)
    refine ⟨?_, ?_, h3⟩
    · show mC (conc X l) + 1 = _
      rw [h1]; rfl
    · show mS (conc X l) + n = _
      rw [h2]; rfl
  | (1, b, x, y, n, v) :: l => c_C (l := l)
  | (k + 2, b, x, y, n, v) :: l => c_C (l := l)
def aIs (A : AS) (a kd : Nat) : Bool := decide (mNC ≤ a ∧ a < A.1 ∧ (aK A.2 a).1 = kd)
theorem c_is {X : Nat × (Nat → Int32)} {A : AS} {a kd : Nat} (w : wfL A.1 A.2) : mIs (conc X A.2) a kd = aIs A a kd := by
  unfold mIs aIs
  rw [c_N w, c_K w]
abbrev aY : Type := (Nat × mLo × List Value × AS) ⊕ AS
def aRcv (y : Nat) (A : AS) : Option Value → Bool
  | some (.ref a) => decide (mCo y < 100) && aIs A a (mCo y)
  | _ => false
def aInv (C : Nat → List Value → AS → Option AS) (pc len : Nat) (r : List Nat) (lo : mLo) (st : List Value) (A : AS) : Option aY :=
  match r with
  | [k, y, n, _, _] =>
    if k = 3 then (match st with
      | .ref a :: st => if mSum st ≤ 8 ∧ mNC ≤ a then some (.inl (pc + len, lo, st, A)) else none
      | _ => none)
    else if k = 4 ∨ k = 1 then none
    else if aRcv y A st[n]? = true ∧ n + 1 ≤ st.length ∧ mSum (st.drop (n + 1)) ≤ 8 then (C y (st.take (n + 1)).reverse A).map (fun A' => .inl (pc + len, lo, st.drop (n + 1), A')) else none
  | _ => none
def aPut (pc len : Nat) (r : List Nat) (lo : mLo) (st : List Value) (A : AS) : Option aY :=
  match r, st with
  | [ci, k, _, z, _, _, _], .int x :: .ref a :: st => if aIs A a ci = true ∧ mRf ci k = false ∧ (z = 0 ∨ x = 0 ∨ x = 1) then some (.inl (pc + len, lo, st, (A.1, (2, a, k, 0, 0, x) :: A.2))) else none
  | [ci, k, _, _, _, _, _], .ref v :: .ref a :: st => if aIs A a ci = true ∧ mRf ci k = true then some (.inl (pc + len, lo, st, (A.1, (1, a, k, v, 0, 0) :: A.2))) else none
  | _, _ => none
def aGet (pc len : Nat) (r : List Nat) (lo : mLo) (st : List Value) (A : AS) : Option aY :=
  match r, st with
  | [0, ci, k, _, _, _], .ref a :: st => if aIs A a ci = true then (if mRf ci k = true then (aV A.2 a k).map (fun t => .inl (pc + len, lo, .ref t :: st, A)) else some (.inl (pc + len, lo, .int (aI A.2 a k) :: st, A))) else none
  | _, _ => none
def aLen (pc len : Nat) (lo : mLo) (st : List Value) (A : AS) : Option aY :=
  match st with
  | .ref a :: st => if a < mNC then none else if aIs A a 100 = true ∨ aIs A a 101 = true then some (.inl (pc + len, lo, .int (Int32.ofNat (aK A.2 a).2) :: st, A)) else none
  | _ => none
def aSto (pc len : Nat) (lo : mLo) (st : List Value) (A : AS) : Option aY :=
  match st with
  | .int x :: .int j :: .ref a :: st => if aIs A a 100 = true ∧ mIn j (aK A.2 a).2 = true then some (.inl (pc + len, lo, st, (A.1, (2, a, j.toNatClampNeg, 0, 0, x) :: A.2))) else none
  | _ => none
def aNwa (pc len : Nat) (r : List Nat) (lo : mLo) (st : List Value) (A : AS) : Option aY :=
  match r, st with
  | [kd], .int n :: st => if ¬ n < 0 ∧ n.toNatClampNeg ≤ 65536 then some (.inl (pc + len, lo, .ref A.1 :: st, (A.1 + 1, (0, A.1, kd, n.toNatClampNeg, n.toNatClampNeg, 0) :: A.2))) else none
  | _, _ => none
def aNw (pc len : Nat) (r : List Nat) (lo : mLo) (st : List Value) (A : AS) : Option aY :=
  match r with
  | [0, ci, n, _, _, _] => some (.inl (pc + len, lo, .ref A.1 :: st, (A.1 + 1, (0, A.1, ci, 0, n, 0) :: A.2)))
  | _ => none
def aBr (pc len : Nat) (off : Int) (lo : mLo) (st : List Value) (A : AS) (b : Bool) : Option aY :=
  (mTo pc off).bind fun t => some (.inl (if b = true then t else pc + len, lo, st, A))
def aHp (C : Nat → List Value → AS → Option AS) (mid pc : Nat) (i : Instr) (len : Nat) (r : List Nat) (lo : mLo) (st : List Value) (A : AS) : Option aY :=
  match i with
  | .new _ => aNw pc len r lo st A
  | .newarray _ => aNwa pc len r lo st A
  | .putfield _ => aPut pc len r lo st A
  | .getfield _ => aGet pc len r lo st A
  | .arraylength => aLen pc len lo st A
  | .iastore => aSto pc len lo st A
  | .invokespecial _ => aInv C pc len r lo st A
  | .invokevirtual _ => aInv C pc len r lo st A
  | .goto off => (mTo pc off).bind fun t => some (.inl (t, lo, st, A))
  | .ifCond c off => match st with
    | .int x :: st => aBr pc len off lo st A (mIf c x 0)
    | _ => none
  | .if_icmp c off => match st with
    | .int y :: .int x :: st => aBr pc len off lo st A (mIf c x y)
    | _ => none
  | .iinc n c => match mGet lo n with
    | some (.int x) => some (.inl (pc + len, lo.set n (some (.int (x + Int32.ofInt c))), st, A))
    | _ => none
  | .return_ => if st.isEmpty = true ∧ (mRetT mid).isNone = true then some (.inr A) else none
  | _ => none
def aBody (C : Nat → List Value → AS → Option AS) (mid pc : Nat) (i : Instr) (len : Nat) (r : List Nat) (lo : mLo) (st : List Value) (A : AS) : Option aY :=
  match mLd i with
  | some (n, so) => (mGet lo n).bind fun v => if mSort v = so then some (.inl (pc + len, lo, v :: st, A)) else none
  | none =>
  match mSt i with
  | some (n, so) => (match st with
    | v :: st => if mSort v = so then (mPut lo n v).bind fun lo' => some (.inl (pc + len, lo', st, A)) else none
    | [] => none)
  | none =>
  match mStk i st with
  | some st' => some (.inl (pc + len, lo, st', A))
  | none => aHp C mid pc i len r lo st A
def aStep (C : Nat → List Value → AS → Option AS) (mid pc : Nat) (lo : mLo) (st : List Value) (A : AS) : Option aY :=
  match mIns mid pc with
  | none => none
  | some (i, len, r) => aBody C mid pc i len r lo st A
def aRun (C : Nat → List Value → AS → Option AS) (mid : Nat) : Nat → Nat → mLo → List Value → AS → Option AS
  | 0, _, _, _, _ => none
  | n + 1, pc, lo, st, A => match aStep C mid pc lo st A with
    | none => none
    | some (.inr A') => some A'
    | some (.inl q) => aRun C mid n q.1 q.2.1 q.2.2.1 q.2.2.2
def aCall : Nat → Nat → List Value → AS → Option AS
  | 0, _, _, _ => none
  | d + 1, mid, args, A => if mid < mNI ∧ (mEx.getD mid []).isEmpty = true ∧ (mEnt args).length ≤ mMax mid then aRun (aCall d) mid 5000 0 (mEnt args ++ List.replicate (mMax mid - (mEnt args).length) none) [] A else none
/-- so many steps, and where they stop -/
def aTo (C : Nat → List Value → AS → Option AS) (mid : Nat) : Nat → Nat → mLo → List Value → AS → Option (Nat × mLo × List Value × AS)
  | 0, pc, lo, st, A => some (pc, lo, st, A)
  | n + 1, pc, lo, st, A => match aStep C mid pc lo st A with
    | some (.inl q) => aTo C mid n q.1 q.2.1 q.2.2.1 q.2.2.2
    | _ => none
/-- the smaller machine's calls are the machine's -/
def cOK (C' : Nat → List Value → mH → Option mO) (C : Nat → List Value → AS → Option AS) : Prop := ∀ y args A A', C y args A = some A' → wfL A.1 A.2 → wfL A'.1 A'.2 ∧ ∀ X, C' y args (conc X A.2) = some (.inl none, conc X A'.2)
/-- a step of the smaller machine is one of the machine -/
def yOK (C' : Nat → List Value → mH → Option mO) (mid pc : Nat) (lo : mLo) (st : List Value) (A : AS) (z : aY) : Prop :=
  match z with
  | .inl (pc', lo', st', A') => wfL A'.1 A'.2 ∧ ∀ X, mExec C' mid pc lo st (conc X A.2) = mExec C' mid pc' lo' st' (conc X A'.2)
  | .inr A' => wfL A'.1 A'.2 ∧ ∀ X, mExec C' mid pc lo st (conc X A.2) = some (.inl none, conc X A'.2)
