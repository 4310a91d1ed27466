/-! THE SMALL MACHINE'S STEP, over the program's tables -/
/-- a constant row: the script (0), or one of the tables -/
def mCA (h : mH) (c : Nat) : Option (FieldType × Nat × (Nat → Value)) :=
  if c = 0 then some (.int, (mX h).1, fun j => .int ((mX h).2 j))
  else (mCT.find? (fun q => q.1 == c)).map (fun q => (q.2.1, q.2.2.length, fun j => q.2.2.getD j .null))
/-- a constant text's fields: 0 its bytes, 1 how they are coded -/
def mCF (c key : Nat) : Option Value :=
  (mStr.find? (fun q => q.1 == c)).bind (fun q => if key = 0 then some (.ref q.2.1) else if key = 1 then some (.int 0) else none)
def mRf (ci k : Nat) : Bool := (mRef.getD ci []).getD k false
/-- a cell of the heap, of a kind: 0 .. the classes, 100 rows of ints, 101 rows of longs -/
def mIs (h : mH) (a kd : Nat) : Bool := decide (mNC ≤ a ∧ a < mN h ∧ (mK h a).1 = kd)
def mGetf (pc len : Nat) (r : List Nat) (lo : mLo) (st : List Value) (h : mH) : Option mY :=
  match r, st with
  | [0, ci, k, _, _, _], .ref a :: st => if mIs h a ci = true then mGo (pc + len) lo ((if mRf ci k = true then mV h a k else .int (mI h a k)) :: st) h else none
  | [1, key, _], .ref c :: st => if c < mNC then (mCF c key).bind (fun v => mGo (pc + len) lo (v :: st) h) else none
  | _, _ => none
def mPutf (pc len : Nat) (r : List Nat) (lo : mLo) (st : List Value) (h : mH) : Option mY :=
  match r, st with
  | [ci, k, _, z, _, _, _], .int x :: .ref a :: st => if mIs h a ci = true ∧ mRf ci k = false ∧ (z = 0 ∨ x = 0 ∨ x = 1) then mGo (pc + len) lo st (mSI h a k x) else none
  | [ci, k, _, _, _, _, _], .ref v :: .ref a :: st => if mIs h a ci = true ∧ mRf ci k = true then mGo (pc + len) lo st (mSV h a k (.ref v)) else none
  | _, _ => none
def mLen (pc len : Nat) (lo : mLo) (st : List Value) (h : mH) : Option mY :=
  match st with
  | .ref a :: st => if a < mNC then (mCA h a).bind (fun q => mGo (pc + len) lo (.int (Int32.ofNat q.2.1) :: st) h)
    else if mIs h a 100 = true ∨ mIs h a 101 = true then mGo (pc + len) lo (.int (Int32.ofNat (mK h a).2) :: st) h else none
  | _ => none
def mAld (i : Instr) (pc len : Nat) (lo : mLo) (st : List Value) (h : mH) : Option mY :=
  match i, st with
  | .iaload, .int j :: .ref a :: st => if a < mNC then (mCA h a).bind (fun q => if q.1 = .int ∧ mIn j q.2.1 = true then mGo (pc + len) lo (q.2.2 j.toNatClampNeg :: st) h else none)
    else if mIs h a 100 = true ∧ mIn j (mK h a).2 = true then mGo (pc + len) lo (.int (mI h a j.toNatClampNeg) :: st) h else none
  | .baload, .int j :: .ref a :: st => if a < mNC then (mCA h a).bind (fun q => if q.1 = .byte ∧ mIn j q.2.1 = true then mGo (pc + len) lo (q.2.2 j.toNatClampNeg :: st) h else none) else none
  | .aaload, .int j :: .ref a :: st => if a < mNC then (mCA h a).bind (fun q => if q.1 = .object "java/lang/String" ∧ mIn j q.2.1 = true then mGo (pc + len) lo (q.2.2 j.toNatClampNeg :: st) h else none) else none
  | .laload, .int j :: .ref a :: st => if mIs h a 101 = true ∧ mIn j (mK h a).2 = true then mGo (pc + len) lo (.long (mL h a j.toNatClampNeg) :: st) h else none
  | _, _ => none
def mAst (i : Instr) (pc len : Nat) (lo : mLo) (st : List Value) (h : mH) : Option mY :=
  match i, st with
  | .iastore, .int x :: .int j :: .ref a :: st => if mIs h a 100 = true ∧ mIn j (mK h a).2 = true then mGo (pc + len) lo st (mSI h a j.toNatClampNeg x) else none
  | .lastore, .long x :: .int j :: .ref a :: st => if mIs h a 101 = true ∧ mIn j (mK h a).2 = true then mGo (pc + len) lo st (mSL h a j.toNatClampNeg x) else none
  | _, _ => none
def mNewa (pc len : Nat) (r : List Nat) (lo : mLo) (st : List Value) (h : mH) : Option mY :=
  match r, st with
  | [kd], .int n :: st => if ¬ n < 0 ∧ n.toNatClampNeg ≤ 65536 then mGo (pc + len) lo (.ref (mN h) :: st) (mNew h (kd, n.toNatClampNeg) n.toNatClampNeg) else none
  | _, _ => none
/-- the first handler that takes the exception x -/
def mHand (pc x : Nat) : List (List Nat) → Option Nat
  | [] => none
  | [lo, hi, t, e, _, _] :: l => if lo ≤ pc ∧ pc < hi ∧ e = x then some t else mHand pc x l
  | _ :: _ => none
/-- how a call's end goes on in its caller -/
def mBack (mid pc len : Nat) (lo : mLo) (st : List Value) : mO → Option mY
  | (.inl none, h) => mGo (pc + len) lo st h
  | (.inl (some v), h) => mGo (pc + len) lo (v :: st) h
  | (.inr x, h) =>
    match mEx.getD mid [] with
    | [] => mEnd (.inr x) h
    | t => (mHand pc x t).bind fun hp =>
      match mIns mid hp with
      | some (i, l, _) => match mSt i with
        | some (n, 2) => if n < lo.length then mGo (hp + l) (List.replicate lo.length none) [] h else none
        | _ => none
      | none => none
def mCal (C : Nat → List Value → mH → Option mO) (mid pc len y m nest : Nat) (lo : mLo) (st : List Value) (h : mH) : Option mY :=
  if m ≤ st.length ∧ mSum (st.drop m) ≤ 8 then
    (C y (st.take m).reverse h).bind fun o => if nest = 0 ∨ o.1.isLeft = true then mBack mid pc len lo (st.drop m) o else none
  else none
def mCo (y : Nat) : Nat := mCoL.getD y 300
/-- a virtual call's receiver: of the method's own class -/
def mRcv (y : Nat) (h : mH) : Option Value → Bool
  | some (.ref a) => (decide (mCo y < 100) && mIs h a (mCo y)) || (decide (a < mNC) && decide (mCo y = 200) && mStr.any (fun q => decide (q.1 = a)))
  | _ => false
def mInv (C : Nat → List Value → mH → Option mO) (mid pc len : Nat) (r : List Nat) (lo : mLo) (st : List Value) (h : mH) : Option mY :=
  match r with
  | [k, y, n, _, nest] =>
    if k = 3 then (match st with
      | .ref a :: st => if mSum st ≤ 8 ∧ mNC ≤ a then mGo (pc + len) lo st h else none
      | _ => none)
    else if k = 4 then (match st with
      | .int n :: .int j :: .ref b :: .int i :: .ref a :: st => if mSum st ≤ 8 ∧ mIs h a 100 = true ∧ mIs h b 100 = true ∧ ¬ i < 0 ∧ ¬ j < 0 ∧ ¬ n < 0 ∧ i.toNatClampNeg + n.toNatClampNeg ≤ (mK h a).2 ∧ j.toNatClampNeg + n.toNatClampNeg ≤ (mK h b).2 then mGo (pc + len) lo st (mCpy h a i.toNatClampNeg b j.toNatClampNeg n.toNatClampNeg) else none
      | _ => none)
    else if k = 1 then mCal C mid pc len y n nest lo st h
    else if mRcv y h st[n]? = true then (if k = 0 then mCal C mid pc len y (n + 1) nest lo st h else mCal C mid pc len y (n + 1) 1 lo st h)
    else none
  | _ => none
def mRetT (mid : Nat) : Option FieldType := (mMeth[mid]?).bind fun q => q.2.2.2
def mRtn (mid : Nat) (i : Instr) (st : List Value) (h : mH) : Option mY :=
  match i, st with
  | .return_, [] => if mRetT mid = none then mEnd (.inl none) h else none
  | .ireturn, [.int x] => if mRetT mid = some .int ∨ (mRetT mid = some .boolean ∧ (x = 0 ∨ x = 1)) ∨ (mRetT mid = some .char ∧ narrow .char (.int x) = .int x) ∨ (mRetT mid = some .byte ∧ narrow .byte (.int x) = .int x) then mEnd (.inl (some (.int x))) h else none
  | .lreturn, [.long x] => if mRetT mid = some .long then mEnd (.inl (some (.long x))) h else none
  | .dreturn, [.double x] => if mRetT mid = some .double then mEnd (.inl (some (.double x))) h else none
  | .areturn, [.ref a] => if mRetT mid = some (.array .int) ∨ mRetT mid = some (.object "MuseumGuide$Text") then mEnd (.inl (some (.ref a))) h else none
  | _, _ => none
def mSw (pc : Nat) (i : Instr) (x : Int32) : Option Nat :=
  match i with
  | .tableswitch d lo hi offs => if x.toInt < lo ∨ hi < x.toInt then mTo pc d else (offs[(x.toInt - lo).toNat]?).bind (mTo pc)
  | .lookupswitch d ps => if (ps.toList.zip (ps.toList.drop 1)).all (fun (a, next) => a.1 < next.1) = true then mTo pc (Op.lookupswitch.offset ps.toList d x.toInt) else none
  | _ => none
def mHp (C : Nat → List Value → mH → Option mO) (mid pc : Nat) (i : Instr) (len : Nat) (r : List Nat) (lo : mLo) (st : List Value) (h : mH) : Option mY :=
  match i with
  | .iinc n c => match mGet lo n with
    | some (.int x) => mGo (pc + len) (lo.set n (some (.int (x + Int32.ofInt c)))) st h
    | _ => none
  | .goto off => (mTo pc off).bind fun t => mGo t lo st h
  | .ifCond c off => match st with
    | .int x :: st => mBr pc len off lo st h (mIf c x 0)
    | _ => none
  | .if_icmp c off => match st with
    | .int y :: .int x :: st => mBr pc len off lo st h (mIf c x y)
    | _ => none
  | .tableswitch .. => match st with
    | .int x :: st => (mSw pc i x).bind fun t => mGo t lo st h
    | _ => none
  | .lookupswitch .. => match st with
    | .int x :: st => (mSw pc i x).bind fun t => mGo t lo st h
    | _ => none
  | .getfield _ => mGetf pc len r lo st h
  | .putfield _ => mPutf pc len r lo st h
  | .getstatic _ => match r with
    | [j, _] => (mStat[j]?).bind fun q => mGo (pc + len) lo (q.2.2.2 :: st) h
    | _ => none
  | .ldc _ => match r with
    | [0, v, _] => mGo (pc + len) lo (.int (Int32.ofNat v) :: st) h
    | [1, c, _] => if c < mNC then mGo (pc + len) lo (.ref c :: st) h else none
    | _ => none
  | .ldc_w _ => match r with
    | [0, v, _] => mGo (pc + len) lo (.int (Int32.ofNat v) :: st) h
    | _ => none
  | .ldc2_w _ => match r with
    | [v, _] => mGo (pc + len) lo (.long (Int64.ofNat v) :: st) h
    | _ => none
  | .arraylength => mLen pc len lo st h
  | .iaload => mAld i pc len lo st h
  | .baload => mAld i pc len lo st h
  | .aaload => mAld i pc len lo st h
  | .laload => mAld i pc len lo st h
  | .iastore => mAst i pc len lo st h
  | .lastore => mAst i pc len lo st h
  | .newarray _ => mNewa pc len r lo st h
  | .new _ => match r with
    | [0, ci, n, _, _, _] => mGo (pc + len) lo (.ref (mN h) :: st) (mNew h (ci, 0) n)
    | [1, e, _, _, _] => if mSum st ≤ 8 then mEnd (.inr e) (mUse h 1 6) else none
    | _ => none
  | .invokevirtual _ => mInv C mid pc len r lo st h
  | .invokestatic _ => mInv C mid pc len r lo st h
  | .invokespecial _ => mInv C mid pc len r lo st h
  | .return_ => mRtn mid i st h
  | .ireturn => mRtn mid i st h
  | .lreturn => mRtn mid i st h
  | .dreturn => mRtn mid i st h
  | .areturn => mRtn mid i st h
  | _ => none
def mBody (C : Nat → List Value → mH → Option mO) (mid pc : Nat) (i : Instr) (len : Nat) (r : List Nat) (lo : mLo) (st : List Value) (h : mH) : Option mY :=
  match mLd i with
  | some (n, so) => (mGet lo n).bind fun v => if mSort v = so then mGo (pc + len) lo (v :: st) h else none
  | none =>
  match mSt i with
  | some (n, so) => (match st with
    | v :: st => if mSort v = so then (mPut lo n v).bind fun lo' => mGo (pc + len) lo' st h else none
    | [] => none)
  | none =>
  match mStk i st with
  | some st' => mGo (pc + len) lo st' h
  | none => mHp C mid pc i len r lo st h
def mStep (C : Nat → List Value → mH → Option mO) (mid pc : Nat) (lo : mLo) (st : List Value) (h : mH) : Option mY :=
  match mIns mid pc with
  | none => none
  | some (i, len, r) => mBody C mid pc i len r lo st h
theorem mStep_at {C : Nat → List Value → mH → Option mO} {mid pc : Nat} {lo : mLo} {st : List Value} {h : mH} {i : Instr} {len : Nat} {r : List Nat} (hi : mIns mid pc = some (i, len, r)) : mStep C mid pc lo st h = mBody C mid pc i len r lo st h := by
  rw [mStep, hi]
/-- so many instructions -/
def mRun (C : Nat → List Value → mH → Option mO) (mid : Nat) : Nat → Nat → mLo → List Value → mH → Option mO
  | 0, _, _, _, _ => none
  | n + 1, pc, lo, st, h => match mStep C mid pc lo st h with
    | none => none
    | some (.inr o) => some o
    | some (.inl q) => mRun C mid n q.1 q.2.1 q.2.2.1 q.2.2.2
theorem mRun_more {C : Nat → List Value → mH → Option mO} {mid : Nat} {o : mO} : ∀ (n k pc : Nat) (lo : mLo) (st : List Value) (h : mH), mRun C mid n pc lo st h = some o → mRun C mid (n + k) pc lo st h = some o := by
  intro n
  induction n with
  | zero => intro k pc lo st h e; cases e
  | succ n ih =>
    intro k pc lo st h e
    rw [show n + 1 + k = (n + k) + 1 by omega]
    simp only [mRun] at e ⊢
    cases hs : mStep C mid pc lo st h with
    | none => rw [hs] at e; cases e
    | some y =>
      rw [hs] at e
      cases y with
      | inr o' => exact e
      | inl q => exact ih k _ _ _ _ e
theorem mRun_one {C : Nat → List Value → mH → Option mO} {mid : Nat} {o o' : mO} {n k pc : Nat} {lo : mLo} {st : List Value} {h : mH} (h1 : mRun C mid n pc lo st h = some o) (h2 : mRun C mid k pc lo st h = some o') : o = o' := by
  have a := mRun_more n k pc lo st h h1
  have b := mRun_more k n pc lo st h h2
  rw [Nat.add_comm k n] at b
  exact Option.some.inj (a.symm.trans b)
/-- from an instruction to the method's end -/
noncomputable def mExec (C : Nat → List Value → mH → Option mO) (mid pc : Nat) (lo : mLo) (st : List Value) (h : mH) : Option mO :=
  @dite _ (∃ (n : Nat) (o : mO), mRun C mid n pc lo st h = some o) (Classical.propDecidable _) (fun hx => some (Classical.choose (Classical.choose_spec hx))) (fun _ => none)
theorem mExec_iff {C : Nat → List Value → mH → Option mO} {mid pc : Nat} {lo : mLo} {st : List Value} {h : mH} {o : mO} : mExec C mid pc lo st h = some o ↔ ∃ n, mRun C mid n pc lo st h = some o := by
  unfold mExec
  by_cases hx : ∃ (n : Nat) (o : mO), mRun C mid n pc lo st h = some o
  · rw [dif_pos hx]
    have h1 := Classical.choose_spec (Classical.choose_spec hx)
    constructor
    · intro e
      cases e
      exact ⟨_, h1⟩
    · rintro ⟨n, hn⟩
      rw [mRun_one h1 hn]
  · rw [dif_neg hx]
    constructor
    · intro e; cases e
    · rintro ⟨n, hn⟩; exact absurd ⟨n, o, hn⟩ hx
theorem mExec_step (C : Nat → List Value → mH → Option mO) (mid pc : Nat) (lo : mLo) (st : List Value) (h : mH) : mExec C mid pc lo st h = (match mStep C mid pc lo st h with
    | none => none
    | some (.inr o) => some o
    | some (.inl q) => mExec C mid q.1 q.2.1 q.2.2.1 q.2.2.2) := by
  apply Option.ext
  intro o
  rw [mExec_iff]
  cases hs : mStep C mid pc lo st h with
  | none =>
    constructor
    · rintro ⟨n, hn⟩
      cases n with
      | zero => cases hn
      | succ n => simp only [mRun, hs] at hn; cases hn
    · intro e; cases e
  | some y =>
    cases y with
    | inr o' =>
      constructor
      · rintro ⟨n, hn⟩
        cases n with
        | zero => cases hn
        | succ n => simp only [mRun, hs] at hn; exact hn
      · intro e; exact ⟨1, by simp only [mRun, hs]; exact e⟩
    | inl q =>
      show _ ↔ mExec C mid q.1 q.2.1 q.2.2.1 q.2.2.2 = some o
      rw [mExec_iff]
      constructor
      · rintro ⟨n, hn⟩
        cases n with
        | zero => cases hn
        | succ n => simp only [mRun, hs] at hn; exact ⟨n, hn⟩
      · rintro ⟨n, hn⟩; exact ⟨n + 1, by simp only [mRun, hs]; exact hn⟩
theorem mExec_go {C : Nat → List Value → mH → Option mO} {mid pc pc' : Nat} {lo lo' : mLo} {st st' : List Value} {h h' : mH} (hs : mStep C mid pc lo st h = mGo pc' lo' st' h') : mExec C mid pc lo st h = mExec C mid pc' lo' st' h' := by
  rw [mExec_step, hs]; rfl
theorem mExec_end {C : Nat → List Value → mH → Option mO} {mid pc : Nat} {lo : mLo} {st : List Value} {h h' : mH} {r : mR} (hs : mStep C mid pc lo st h = mEnd r h') : mExec C mid pc lo st h = some (r, h') := by
  rw [mExec_step, hs]; rfl
def mEnt : List Value → mLo
  | [] => []
  | v :: l => if v.category = 2 then some v :: none :: mEnt l else some v :: mEnt l
def mMax (mid : Nat) : Nat := (mMeth.getD mid (⟨"", "", ""⟩, ⟨#[]⟩, 0, none)).2.2.1
/-- a call, of a method that calls at most so deep -/
noncomputable def mCall : Nat → Nat → List Value → mH → Option mO
  | 0, _, _, _ => none
  | d + 1, mid, args, h => if mid < mNI ∧ (mEnt args).length ≤ mMax mid then mExec (mCall d) mid 0 (mEnt args ++ List.replicate (mMax mid - (mEnt args).length) none) [] h else none
