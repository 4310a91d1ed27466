/-! THE LAW'S BEGINNING: RUN -/
def aF : Option (Nat × mLo × List Value × AS) := aTo (aCall 60) 263 13 0 [some (.ref 0), none, none, none, none, none, none, none, none] [] (200, [])
def loOK : mLo → Bool
  | [some (.ref 0), some (.ref 200), some (.ref 316), some (.ref 360), some (.int z), none, none, none, none] => decide (z = 0)
  | _ => false
/-- the class's cells -/
def okC (l : List OP) : Bool := (List.range 116).all (fun n => decide (aK l (200 + n) = cKt.getD n (0, 0))) && cRt.all (fun q => decide (aV l q.1 q.2.1 = some q.2.2)) && (List.range 116).all (fun n => !isRow (200 + n) || decide (aI l (200 + n) 1 = if n = 31 then 144 else 0)) && decide (aV l 224 6 = some 233) && decide (aV l 200 12 = some 287) && decide (aI l 200 13 = -1) && decide (aI l 224 5 = 0) && decide (aI l 268 3 = 0) && decide (aI l 269 6 = 0)
/-- the reference's, the row -/
def okM (l : List OP) : Bool := (List.range 44).all (fun n => decide (aK l (316 + n) = mmKt.getD n (0, 0))) && mmRt.all (fun q => decide (aV l q.1 q.2.1 = some q.2.2)) && decide (aV l 316 11 = some 323) && decide (aV l 316 12 = some 335) && (List.range 12).all (fun r => decide (aI l 320 r = 0)) && [6, 7, 8, 9].all (fun j => decide (aI l 323 j = 0)) && [2, 5, 6].all (fun j => decide (aI l 316 j = 0)) && decide (aI l 316 3 = -1) && [0, 6, 13].all (fun j => decide (aI l 347 j = 0)) && decide (aK l 360 = (101, 1)) && decide (aC l ≤ 1000) && decide (aS l ≤ 100000)
def okF : Option (Nat × mLo × List Value × AS) → Bool
  | some (pc, lo, st, A) => decide (pc = 23) && loOK lo && st.isEmpty && decide (A.1 = 361) && okC A.2 && okM A.2
  | none => false
theorem aF_ok : okF aF = true := by decide +kernel
