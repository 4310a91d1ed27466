/-! THE REFERENCE'S PARSER: A TEXT'S STATE -/
/-- what a program holds: names, errors, values; its doors, its parts, its tours' places; what the part that is read has: worth, kind, needs -/
abbrev TS : Type := PX × RS × (Nat → Int32) × (Nat → Int32) × (Nat → Int32) × Int32 × Int32 × Int32
def adR (w : Int64) : PX → PX
  | (k, n, f, wd, rs, ps, ts, nr, np, nt, nd) => (k, n, f, wd, fun q => if q = nr then w else rs q, ps, ts, nr + 1, np, nt, nd)
def adP (w : Int64) : PX → PX
  | (k, n, f, wd, rs, ps, ts, nr, np, nt, nd) => (k, n, f, wd, rs, fun q => if q = np then w else ps q, ts, nr, np + 1, nt, nd)
def adT (w : Int64) : PX → PX
  | (k, n, f, wd, rs, ps, ts, nr, np, nt, nd) => (k, n, f, wd, rs, ps, fun q => if q = nt then w else ts q, nr, np, nt + 1, nd)
def adD : PX → PX
  | (k, n, f, wd, rs, ps, ts, nr, np, nt, nd) => (k, n, f, wd, rs, ps, ts, nr, np, nt, nd + 1)
/-- so many places copied -/
def cpF (f : Nat → Int32) (j n : Nat) (g : Nat → Int32) : Nat → Int32 := fun q => if j ≤ q ∧ q < j + n then g (q - j) else f q
/-- what an event of a text does -/
def evT (Q : TS) (ev : EVt) : TS :=
  match Q, ev with
  | (X, s, td, tp, tt, wo, ki, ne), (r, i, j) =>
    if r = 60 then (X, sNw X s i (fnL X.2.2.2.2.1 (X.2.2.2.1 i) X.2.2.2.2.2.2.2.1 0) (decide (X.2.2.2.2.2.2.2.1 = 12)), td, tp, tt, wo, ki, ne)
    else if r = 61 then (X, sMn X (sNm X s i (fnL X.2.2.2.2.1 (X.2.2.2.1 i) X.2.2.2.2.2.2.2.1 0)) i (decide (X.2.2.2.2.2.2.2.2.2.2 = 24)) 4, td, tp, tt, wo, ki, ne)
    else if r = 62 then (X, sMn X (sNm X s i (fnL X.2.2.2.2.1 (X.2.2.2.1 i) X.2.2.2.2.2.2.2.1 0)) i (decide ((sNm X s i (fnL X.2.2.2.2.1 (X.2.2.2.1 i) X.2.2.2.2.2.2.2.1 0)).2.2.1 i = (sNm X s i (fnL X.2.2.2.2.1 (X.2.2.2.1 i) X.2.2.2.2.2.2.2.1 0)).2.2.1 (i - 1))) 6, td, tp, tt, wo, ki, ne)
    else if r = 70 then (X, sMn X s i (!inR (s.2.2.1 i) 1 200) 5, td, tp, tt, wo, ki, ne)
    else if r = 63 then (X, sNw X s i (fnL X.2.2.2.2.2.1 (X.2.2.2.1 i) X.2.2.2.2.2.2.2.2.1 0) (decide (X.2.2.2.2.2.2.2.2.1 = 16)), td, tp, tt, 1, 0, 0)
    else if r = 64 then (X, sNm X s i (fnL X.2.2.2.2.1 (X.2.2.2.1 i) X.2.2.2.2.2.2.2.1 0), td, tp, tt, wo, ki, ne)
    else if r = 71 then (X, sMn X s i (!inR (s.2.2.1 i) 1 900) 5, td, tp, tt, wo, ki, ne)
    else if r = 65 then
      let s' := sNm X s i (fnL X.2.2.2.2.2.1 (X.2.2.2.1 i) X.2.2.2.2.2.2.2.2.1 0)
      (X, s', td, tp, tt, wo, ki, ne ||| (if s'.1 = 0 then (1 : Int32) <<< (s'.2.2.1 i &&& 31) else 0))
    else if r = 76 then (X, s, td, tp, tt, wo, Int32.ofNat (X.1 i) - 7, ne)
    else if r = 72 then (X, sMn X s i (!inR (s.2.2.1 i) 0 99) 5, td, tp, tt, s.2.2.1 i, ki, ne)
    else if r = 66 then (X, sNw X s i (fnL X.2.2.2.2.2.2.1 (X.2.2.2.1 i) X.2.2.2.2.2.2.2.2.2.1 0) (decide (X.2.2.2.2.2.2.2.2.2.1 = 6)), td, tp, tt, wo, ki, ne)
    else if r = 1 then (if s.1 = 0 then (adR (X.2.2.2.1 i) X, s, td, tp, tt, wo, ki, ne) else (X, s, td, tp, tt, wo, ki, ne))
    else if r = 2 then (if s.1 = 0 then (adD X, s, cpF td (3 * X.2.2.2.2.2.2.2.2.2.2) 3 (fun q => s.2.2.1 (i + q)), tp, tt, wo, ki, ne) else (X, s, td, tp, tt, wo, ki, ne))
    else if r = 3 then (if s.1 = 0 then (adP (X.2.2.2.1 i) X, s, td, cpF tp (5 * X.2.2.2.2.2.2.2.2.1) 5 (fun q => [s.2.2.1 (i + 2), s.2.2.1 (i + 3), wo, ki, ne].getD q 0), tt, wo, ki, ne) else (X, s, td, tp, tt, wo, ki, ne))
    else if r = 4 then (if s.1 = 0 then (adT (X.2.2.2.1 i) X, s, td, tp, fun q => if q = X.2.2.2.2.2.2.2.2.2.1 then Int32.ofNat (i + 1) else tt q, wo, ki, ne) else (X, s, td, tp, tt, wo, ki, ne))
    else (X, evR X s (r, i, j), td, tp, tt, wo, ki, ne)
def evTs (Q : TS) (e : List EVt) : TS := e.foldl evT Q
def tS (h : mH) (p i : Nat) (Q : TS) : Prop := pS h p Q.1 i 0 Q.2.1 ∧ mI h (p + 9) = Q.2.2.1 ∧ mI h (p + 10) = Q.2.2.2.1 ∧ mI h (p + 11) = Q.2.2.2.2.1
def FT (p c : Nat) (h H : mH) : Prop := (∀ a j, a < 361 → ¬ (p ≤ a ∧ a ≤ p + 11) → mI H a j = mI h a j ∧ mL H a j = mL h a j) ∧ (∀ a j, a < 361 → mV H a j = mV h a j) ∧ (∀ a, a < 361 → mK H a = mK h a) ∧ mN h ≤ mN H ∧ mX H = mX h ∧ mC H ≤ mC h + c ∧ mS H ≤ mS h + 5 * c
theorem FT_refl {p : Nat} {h : mH} : FT p 0 h h := ⟨fun _ _ _ _ => ⟨rfl, rfl⟩, fun _ _ _ => rfl, fun _ _ => rfl, Nat.le_refl _, rfl, Nat.le_refl _, Nat.le_refl _⟩
theorem FT_trans {p c c' : Nat} {h H G : mH} (a : FT p c h H) (b : FT p c' H G) : FT p (c + c') h G := by
  obtain ⟨a1, a2, a3, a4, a5, a6, a7⟩ := a
  obtain ⟨b1, b2, b3, b4, b5, b6, b7⟩ := b
  exact ⟨fun x j h1 h2 => ⟨(b1 x j h1 h2).1.trans (a1 x j h1 h2).1, (b1 x j h1 h2).2.trans (a1 x j h1 h2).2⟩, fun x j h1 => (b2 x j h1).trans (a2 x j h1), fun x h1 => (b3 x h1).trans (a3 x h1), Nat.le_trans a4 b4, b5.trans a5, by omega, by omega⟩
theorem FT_mono {p c c' : Nat} {h H : mH} (a : FT p c h H) (hc : c ≤ c') : FT p c' h H := by
  obtain ⟨a1, a2, a3, a4, a5, a6, a7⟩ := a
  exact ⟨a1, a2, a3, a4, a5, by omega, by omega⟩
theorem FT_Fr {p : Nat} {h H : mH} (f : Fr [p, p + 2, p + 4] h H) : FT p 0 h H := by
  refine ⟨fun a j h1 h2 => ⟨f.2 a j (by simp only [List.mem_cons, List.not_mem_nil, or_false]; omega), ?_⟩, ?_, ?_, ?_, ?_, ?_, ?_⟩
  · exact congrFun (congrFun (congrArg (fun q => q.1) f.1) a) j
  · intro a j _; rw [Fr_V f]
  · intro a _; rw [Fr_K f]
  · exact Nat.le_of_eq (Fr_N f).symm
  · exact congrArg (fun q => q.2.2.2.2.2.2) f.1
  · exact Nat.le_of_eq (congrArg (fun q => q.2.2.2.2.1) f.1)
  · exact Nat.le_of_eq (congrArg (fun q => q.2.2.2.2.2.1) f.1)
/-- a step of a part of a program leaves the tables -/
theorem tS_pS {h H : mH} {p i j : Nat} {Q : TS} {s' : RS} (m : tS h p i Q) (m' : pS H p Q.1 j 0 s') (f : Fr [p, p + 2, p + 4] h H) : tS H p j (Q.1, s', Q.2.2) := by
  obtain ⟨m1, m2, m3, m4⟩ := m
  have n : ∀ k, 9 ≤ k → p + k ∉ [p, p + 2, p + 4] := by
    intro k h0 hc
    simp only [List.mem_cons, List.not_mem_nil, or_false] at hc
    omega
  refine ⟨m', ?_, ?_, ?_⟩
  · funext q; rw [f.2 _ _ (n 9 (by omega)), m2]
  · funext q; rw [f.2 _ _ (n 10 (by omega)), m3]
  · funext q; rw [f.2 _ _ (n 11 (by omega)), m4]
/-- what a method of a text did -/
def RH (p i : Nat) (Q : TS) (h : mH) (t : Option mO) : PR → Prop
  | (j, none) => ∃ H, t = some (.inl (some (.int 0)), H) ∧ kM H ∧ mI H p 18 = 1 ∧ mI H p 19 = Q.1.2.2.1 j ∧ FT p (402 - i) h H
  | (j, some (_, e)) => ∃ H, t = some (.inl (some (.int 1)), H) ∧ tS H p j (evTs Q e) ∧ i < j ∧ FT p (j - i) h H
def nmk (k : Nat → Nat) (c r : Nat) : PA := fun i _ => if k i = c then (i + 1, some ([], [(r, i, 0)])) else (i, none)
def evE (P : PA) (ev : Nat → EVt) : PA := fun i b => match P i b with
  | (j, none) => (j, none)
  | (j, some (c, e)) => (j, some (c, e ++ [ev i]))
def pRoom (k : Nat → Nat) : PA := evE (sq (tk k 0) (sq (nmk k 29 60) (tk k 37))) (fun i => (1, i + 1, 0))
def pTour (k : Nat → Nat) : PA := evE (sq (tk k 10) (sq (nmk k 29 66) (pBlock k 8))) (fun i => (4, i + 1, 0))
