/-! THE PURE PARSER: over the tokens' sorts k; at a place i, with the code's base b; where it failed, or where it ended, the code, the events -/
/-- operation, operand, the token that it waits for, + 1 -/
abbrev CI : Type := Int32 × Int32 × Nat
/-- a role, its token; or 0, a block's first token, its last one -/
abbrev EVt : Type := Nat × Nat × Nat
abbrev PR : Type := Nat × Option (List CI × List EVt)
abbrev PA : Type := Nat → Nat → PR
def sq (p q : PA) : PA := fun i b => match p i b with
  | (i1, none) => (i1, none)
  | (i1, some (c, e)) => match q i1 (b + c.length) with
    | (i2, none) => (i2, none)
    | (i2, some (c', e')) => (i2, some (c ++ c', e ++ e'))
def tk (k : Nat → Nat) (c : Nat) : PA := fun i _ => if k i = c then (i + 1, some ([], [])) else (i, none)
def em (op : Int32) : PA := fun i _ => (i, some ([(op, 0, 0)], []))
def ho (k : Nat → Nat) (op : Int32) (nm r : Nat) : PA := fun i _ => if k i = nm then (i + 1, some ([(op, 0, i + 1)], [(r, i, 0)])) else (i, none)
def flp : PA := fun i _ => (i, none)
def skp : PA := fun i _ => (i, some ([], []))
def lpp (k : Nat → Nat) (c1 : Nat) (o1 : Int32) (c2 : Nat) (o2 : Int32) (x : PA) : Nat → PA
  | 0 => skp
  | n + 1 => fun i b => if k i = c1 then sq (tk k c1) (sq x (sq (em o1) (lpp k c1 o1 c2 o2 x n))) i b else if k i = c2 then sq (tk k c2) (sq x (sq (em o2) (lpp k c1 o1 c2 o2 x n))) i b else skp i b
def lpF (f : Nat → PA) : PA := fun i b => f (402 - i) i b
def pProd (k : Nat → Nat) (one : PA) : PA := sq one (lpF (lpp k 41 22 42 23 one))
def pSum (k : Nat → Nat) (one : PA) : PA := sq (pProd k one) (lpF (lpp k 39 20 40 21 (pProd k one)))
def pPr (k : Nat → Nat) (c : Nat) (op : Int32) (one : PA) : PA := sq (tk k c) (sq (tk k 33) (sq (pSum k one) (sq (tk k 38) (sq (pSum k one) (sq (tk k 34) (em op))))))
def pOneF (k : Nat → Nat) (rc : Option PA) : PA := fun i b =>
  if k i = 30 then ho k 10 30 75 i b
  else if k i = 20 then sq (tk k 20) (em 11) i b
  else if k i = 21 then sq (tk k 21) (em 12) i b
  else if k i = 22 then sq (tk k 22) (em 13) i b
  else if k i = 23 then sq (tk k 23) (em 14) i b
  else if k i = 6 then sq (tk k 6) (em 15) i b
  else if k i = 40 then (match rc with | none => flp i b | some one => sq (tk k 40) (sq one (em 18)) i b)
  else if k i = 33 then (match rc with | none => flp i b | some one => sq (tk k 33) (sq (pSum k one) (tk k 34)) i b)
  else if k i = 27 then (match rc with | none => sq (tk k 27) flp i b | some one => pPr k 27 24 one i b)
  else if k i = 28 then (match rc with | none => sq (tk k 28) flp i b | some one => pPr k 28 25 one i b)
  else flp i b
def pOne (k : Nat → Nat) : Nat → PA
  | 0 => pOneF k none
  | a + 1 => pOneF k (some (pOne k a))
def pCmp (k : Nat → Nat) (sum : PA) : PA := fun i b =>
  if k i = 43 then sq (tk k 43) (sq sum (em 26)) i b
  else if k i = 44 then sq (tk k 44) (sq sum (em 27)) i b
  else if k i = 45 then sq (tk k 45) (sq sum (em 28)) i b
  else if k i = 46 then sq (tk k 46) (sq sum (em 29)) i b
  else if k i = 47 then sq (tk k 47) (sq sum (em 30)) i b
  else flp i b
def pBth (k : Nat → Nat) (s : PA) : PA := sq s (lpF (lpp k 25 31 99 0 s))
def pTst (k : Nat → Nat) (s : PA) : PA := sq (pBth k s) (lpF (lpp k 26 32 99 0 (pBth k s)))
def pSin (k : Nat → Nat) (sum : PA) (rc : Option PA) : PA := fun i b =>
  if k i = 24 then (match rc with | none => flp i b | some s => sq (tk k 24) (sq s (em 19)) i b)
  else if k i = 35 then (match rc with | none => flp i b | some s => sq (tk k 35) (sq (pTst k s) (tk k 36)) i b)
  else if k i = 18 then sq (tk k 18) (ho k 16 29 68) i b
  else if k i = 19 then sq (tk k 19) (ho k 17 29 67) i b
  else sq sum (pCmp k sum) i b
def pSingle (k : Nat → Nat) : Nat → PA
  | 0 => pSin k (pSum k (pOne k 0)) none
  | a + 1 => pSin k (pSum k (pOne k (a + 1))) (some (pSingle k a))
def pIf (k : Nat → Nat) (tst blk : PA) : PA := fun i b =>
  match sq (em 1) (sq (tk k 14) tst) i b with
  | (i1, none) => (i1, none)
  | (i1, some (c1, e1)) =>
    match blk i1 (b + c1.length + 1) with
    | (i2, none) => (i2, none)
    | (i2, some (c2, e2)) =>
      if k i2 = 15 then
        match blk (i2 + 1) (b + c1.length + 1 + c2.length + 1) with
        | (i3, none) => (i3, none)
        | (i3, some (c3, e3)) => (i3, some (c1 ++ [(9, Int32.ofNat (b + c1.length + 1 + c2.length + 1), 0)] ++ c2 ++ [(8, Int32.ofNat (b + c1.length + 1 + c2.length + 1 + c3.length), 0)] ++ c3, e1 ++ e2 ++ e3))
      else (i2, some (c1 ++ [(9, Int32.ofNat (b + c1.length + 1 + c2.length), 0)] ++ c2, e1 ++ e2))
def pRep (k : Nat → Nat) (blk : PA) : PA := fun i b =>
  match sq (em 1) (sq (tk k 16) (ho k 6 30 74)) i b with
  | (i1, none) => (i1, none)
  | (i1, some (c1, e1)) =>
    match blk i1 (b + c1.length + 1) with
    | (i2, none) => (i2, none)
    | (i2, some (c2, e2)) => (i2, some (c1 ++ [(7, Int32.ofNat (b + c1.length + 1 + c2.length + 1), 0)] ++ c2 ++ [(8, Int32.ofNat (b + c1.length), 0)], e1 ++ e2))
def pLeaf (k : Nat → Nat) (c : Nat) (op : Int32) (nm r : Nat) : PA := sq (em 1) (sq (tk k c) (sq (ho k op nm r) (tk k 37)))
def pSen (k : Nat → Nat) (tst blk : PA) : PA := fun i b =>
  if k i = 11 then pLeaf k 11 2 29 67 i b
  else if k i = 12 then pLeaf k 12 3 29 68 i b
  else if k i = 13 then pLeaf k 13 4 30 73 i b
  else if k i = 17 then pLeaf k 17 5 29 69 i b
  else if k i = 14 then pIf k tst blk i b
  else if k i = 16 then pRep k blk i b
  else flp i b
def isSe (c : Nat) : Bool := decide (c = 11) || decide (c = 12) || decide (c = 13) || decide (c = 17) || decide (c = 14) || decide (c = 16)
def pSns (k : Nat → Nat) (tst blk : PA) : Nat → PA
  | 0 => skp
  | n + 1 => fun i b => if isSe (k i) = true then sq (pSen k tst blk) (pSns k tst blk n) i b else skp i b
def pBlkF (k : Nat → Nat) (tst blk : PA) : PA := fun i b =>
  match sq (tk k 31) (sq (lpF (pSns k tst blk)) (tk k 32)) i b with
  | (j, none) => (j, none)
  | (j, some (c, e)) => (j, some (c, e ++ [(0, i, j - 1)]))
def pBlock (k : Nat → Nat) : Nat → PA
  | 0 => flp
  | a + 1 => pBlkF k (pTst k (pSingle k a)) (pBlock k a)
theorem sq_n {p q : PA} {i b j : Nat} (h : p i b = (j, none)) : sq p q i b = (j, none) := by unfold sq; rw [h]
theorem sq_sn {p q : PA} {i b j l : Nat} {c : List CI} {e : List EVt} (h : p i b = (j, some (c, e))) (h2 : q j (b + c.length) = (l, none)) : sq p q i b = (l, none) := by unfold sq; rw [h]; dsimp only; rw [h2]
theorem sq_ss {p q : PA} {i b j l : Nat} {c c' : List CI} {e e' : List EVt} (h : p i b = (j, some (c, e))) (h2 : q j (b + c.length) = (l, some (c', e'))) : sq p q i b = (l, some (c ++ c', e ++ e')) := by unfold sq; rw [h]; dsimp only; rw [h2]
/-! THE REFERENCE'S PARSER'S STATE -/
def kap (k : Nat) : Int32 := if k < 29 then Int32.ofNat k else if k = 29 then 200 else if k = 30 then 201 else if k < 46 then sSy.getD (k - 31) 0 else if k = 46 then 204 else if k = 47 then 205 else if k = 48 then 202 else 203
theorem kap_inj : ∀ a, a < 50 → ∀ b, b < 50 → kap a = kap b → a = b := by decide +kernel
theorem kap_eq {a : Nat} {x : Int32} (b : Nat) (ha : a < 50) (hb : b < 50) (e : x = kap b) : (kap a = x) = (a = b) := by
  apply propext
  rw [e]
  exact ⟨kap_inj a ha b hb, fun z => by rw [z]⟩
/-- sorts, how many tokens, their places, words, names of rooms, parts, tours, the counts; doors -/
abbrev PX : Type := (Nat → Nat) × Nat × (Nat → Int32) × (Nat → Int64) × (Nat → Int64) × (Nat → Int64) × (Nat → Int64) × Nat × Nat × Nat × Nat
/-- error, its place, values, blocks' ends -/
abbrev RS : Type := Int32 × Int32 × (Nat → Int32) × (Nat → Int32)
def xOK (X : PX) : Prop := X.2.1 ≤ 402 ∧ 1 ≤ X.2.1 ∧ (∀ i, X.1 i < 50) ∧ (∀ i, i + 1 < X.2.1 → X.1 i < 48) ∧ ¬ X.1 (X.2.1 - 1) < 48 ∧ X.2.2.2.2.2.2.2.1 ≤ 12 ∧ X.2.2.2.2.2.2.2.2.1 ≤ 16 ∧ X.2.2.2.2.2.2.2.2.2.1 ≤ 6
def pS (h : mH) (p : Nat) (X : PX) (i d : Nat) (s : RS) : Prop := kM h ∧ isP p ∧ xOK X ∧ i < X.2.1 ∧ (∀ j, j < X.2.1 → mI h (p + 1) j = kap (X.1 j)) ∧ mI h (p + 3) = X.2.2.1 ∧ mL h (p + 5) = X.2.2.2.1 ∧ mL h (p + 6) = X.2.2.2.2.1 ∧ mL h (p + 7) = X.2.2.2.2.2.1 ∧ mL h (p + 8) = X.2.2.2.2.2.2.1 ∧ mI h p 6 = Int32.ofNat X.2.2.2.2.2.2.2.1 ∧ mI h p 8 = Int32.ofNat X.2.2.2.2.2.2.2.2.1 ∧ mI h p 9 = Int32.ofNat X.2.2.2.2.2.2.2.2.2.1 ∧ mI h p 16 = Int32.ofNat i ∧ mI h p 17 = Int32.ofNat d ∧ mI h p 18 = s.1 ∧ mI h p 19 = s.2.1 ∧ mI h (p + 2) = s.2.2.1 ∧ mI h (p + 4) = s.2.2.2 ∧ mI h p 7 = Int32.ofNat X.2.2.2.2.2.2.2.2.2.2
def sMn (X : PX) (s : RS) (i : Nat) (b : Bool) (n : Int32) : RS := if b = true ∧ s.1 = 0 then (n, X.2.2.1 i, s.2.2) else s
def sV (s : RS) (i : Nat) (x : Int32) : RS := (s.1, s.2.1, fun q => if q = i then x else s.2.2.1 q, s.2.2.2)
def sL (s : RS) (i : Nat) (x : Int32) : RS := (s.1, s.2.1, s.2.2.1, fun q => if q = i then x else s.2.2.2 q)
def sNm (X : PX) (s : RS) (i : Nat) (x : Int32) : RS := sMn X (sV s i x) i (decide (x = -1)) 3
/-- what an event does -/
def evR (X : PX) (s : RS) : EVt → RS
  | (r, i, j) =>
    if r = 0 then sL s i (Int32.ofNat j)
    else if r = 67 then sNm X s i (fnL X.2.2.2.2.1 (X.2.2.2.1 i) X.2.2.2.2.2.2.2.1 0)
    else if r = 68 then sNm X s i (fnL X.2.2.2.2.2.1 (X.2.2.2.1 i) X.2.2.2.2.2.2.2.2.1 0)
    else if r = 69 then sNm X s i (fnL X.2.2.2.2.2.2.1 (X.2.2.2.1 i) X.2.2.2.2.2.2.2.2.2.1 0)
    else if r = 73 then sMn X s i (!inR (s.2.2.1 i) 1 900) 5
    else if r = 74 then sMn X s i (!inR (s.2.2.1 i) 0 9) 5
    else s
def evs (X : PX) (s : RS) (e : List EVt) : RS := e.foldl (evR X) s
/-- what a method did: it failed at j, or went to j with the events -/
def RG (p : Nat) (X : PX) (d i : Nat) (s : RS) (h : mH) (t : Option mO) : PR → Prop
  | (j, none) => ∃ H, t = some (.inl (some (.int 0)), H) ∧ kM H ∧ mI H p 18 = 1 ∧ mI H p 19 = X.2.2.1 j ∧ Fr [p, p + 2, p + 4] h H
  | (j, some (_, e)) => ∃ H, t = some (.inl (some (.int 1)), H) ∧ pS H p X j d (evs X s e) ∧ i ≤ j ∧ Fr [p, p + 2, p + 4] h H
/-- the method does what the parser does -/
def RC (D mid : Nat) (X : PX) (a : Nat) (pa : PA) : Prop := ∀ (h : mH) (p i b : Nat) (s : RS), pS h p X i (8 - a) s → RG p X (8 - a) i s h (mCall D mid [.ref p] h) (pa i b)
