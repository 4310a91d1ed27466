/-! WHAT A METHOD IS GIVEN: the tables' words, the constants -/
def mNm (mid : Nat) : MethodName := (mMeth.getD mid (⟨"", "", ""⟩, ⟨#[]⟩, 0, none)).1
def mBy (mid : Nat) : ByteArray := (mMeth.getD mid (⟨"", "", ""⟩, ⟨#[]⟩, 0, none)).2.1
def mWall : List Cond := lw_tbl.filter goodWord
theorem mWall_of {p : Nat} {w : Cond} (h1 : lw_tbl[p]? = some w) (h2 : goodWord w = true) : w ∈ mWall := List.mem_filter.mpr ⟨List.mem_of_getElem? h1, h2⟩
theorem mWall_good : GoodIn mWall mWall := fun w hw => ⟨hw, good_of_word (List.mem_filter.mp hw).2⟩
/-- a word that the tables alone decide, and that stays under warmer tables -/
def mFace (w : Cond) : Bool := w.onTables && w.keepsFace
theorem mFace_warm {w : Cond} (hf : mFace w = true) {s U : State} (hW : s.WarmedH U.vm) (h : va_Nw w s) : va_Nw w U := by
  unfold mFace at hf
  rw [Bool.and_eq_true] at hf
  have h1 : w.before #[] (s.setVm U.vm) = true := Cond.before_shiftedFace (State.Shifted.of_warmed hW) w hf.2 h
  exact va_tabs hf.1 (rfl : (s.setVm U.vm).vm = U.vm) h1
def mNest : Cond → Bool
  | .fieldLinkNest .. => true
  | .methodLinkNest .. => true
  | _ => false
theorem mNest_warm {w : Cond} (hf : mNest w = true) {s U : State} (hW : s.WarmedH U.vm) (h : va_Nw w s) : va_Nw w U := by
  cases w <;> first | (cases hf; done) | exact va_Nw.warmF hW h | exact va_Nw.warmM hW h
/-- the constants: where they lie, what they hold -/
def mKF (cv : Nat → Value) (A : Nat → Prop) (X : Nat × (Nat → Int32)) (U : State) (H : Heap) : Prop :=
  (∀ r, cv r = .null ∨ ∃ a, cv r = .ref a) ∧
  (∃ t, cv 0 = .ref t ∧ va_T .int t X.1 (fun j => .int (X.2 j)) A U H) ∧
  (∀ q ∈ mCT, ∃ t, cv q.1 = .ref t ∧ va_T q.2.1 t q.2.2.length (fun j => mF cv (fun a => a) (q.2.2.getD j .null)) A U H) ∧
  (∀ q ∈ mStr, ∃ t, cv q.1 = .ref t ∧ va_O "java/lang/String" t A U H ∧ va_OF "java/lang/String" "value" "[B" (cv q.2.1) t A U H ∧ va_OF "java/lang/String" "coder" "B" (.int 0) t A U H ∧ vk_R q.2.2.1 q.2.2.2.1 q.2.2.2.2 t U) ∧
  (∀ q ∈ mStat, va_Z q.1 q.2.1 q.2.2.1 (mF cv (fun a => a) q.2.2.2) A U H) ∧
  (∀ q ∈ mSref, ∃ sa, vk_R q.1 q.2.1 q.2.2 sa U) ∧
  (∀ w ∈ lw_tbl, (mFace w = true ∨ mNest w = true) → va_Nw w U) ∧
  (∀ a ∈ mExc, ∀ b ∈ mExc, a ≠ b → va_Nc a b U) ∧
  vx_Zq Bundle.tN "UNASSIGNED_STACK" Bundle.steD A U H ∧ vx_Zq Bundle.tN "SUPPRESSED_SENTINEL" Bundle.listD A U H
theorem mKF.to {cv : Nat → Value} {A B : Nat → Prop} {X : Nat × (Nat → Int32)} {s U : State} {H H1 : Heap} (h : mKF cv A X s H) (hW : s.WarmedH U.vm) (hq : ∀ a : Nat, a < H.size → ¬ A a → H1[a]? = H[a]?) (hAB : ∀ q, B q → A q) : mKF cv B X U H1 := by
  obtain ⟨h0, ⟨t0, e0, h1⟩, h2, h3, h4, h5, h6, h7, h8, h9⟩ := h
  have ha := hW.alike
  refine ⟨h0, ⟨t0, e0, ((h1.kept hq).narrow hAB).moved ha⟩, fun q hm => ?_, fun q hm => ?_, fun q hm => (((h4 q hm).kept hq).narrow hAB).moved ha, fun q hm => ?_, fun w hw hf => ?_, fun a hna b hnb hne => (h7 a hna b hnb hne).moved ha, ((h8.kept hq).narrow hAB).moved ha, ((h9.kept hq).narrow hAB).moved ha⟩
  · obtain ⟨t, e, g⟩ := h2 q hm
    exact ⟨t, e, ((g.kept hq).narrow hAB).moved ha⟩
  · obtain ⟨t, e, g1, g2, g3, g4⟩ := h3 q hm
    exact ⟨t, e, ((g1.kept hq).narrow hAB).moved ha, ((g2.kept hq).narrow hAB).moved ha, ((g3.kept hq).narrow hAB).moved ha, g4.warm hW⟩
  · obtain ⟨sa, g⟩ := h5 q hm
    exact ⟨sa, g.warm hW⟩
  · rcases hf with hf | hf
    · exact mFace_warm hf hW (h6 w hw (Or.inl hf))
    · exact mNest_warm hf hW (h6 w hw (Or.inr hf))
/-! what is checked of the program's tables, an instruction at a time -/
def mLn : Instr → Nat
  | .bipush _ => 2 | .sipush _ => 3 | .iload _ => 2 | .lload _ => 2 | .aload _ => 2 | .dload _ => 2 | .istore _ => 2 | .lstore _ => 2 | .astore _ => 2 | .dstore _ => 2
  | .iinc .. => 0 | .goto _ => 3 | .ifCond .. => 3 | .if_icmp .. => 3 | .getfield _ => 3 | .putfield _ => 3 | .getstatic _ => 3 | .ldc _ => 2 | .ldc_w _ => 3 | .ldc2_w _ => 3
  | .newarray _ => 2 | .new _ => 3 | .invokevirtual _ => 3 | .invokestatic _ => 3 | .invokespecial _ => 3
  | .tableswitch .. => 0 | .lookupswitch .. => 0
  | _ => 1
def mW (p : Nat) (w : Cond) : Bool := decide (lw_tbl[p]? = some w) && goodWord w
def mWn (p : Nat) (w : Cond) : Bool := decide (lw_tbl[p]? = some w) && mNest w
def mHost : Nat → String
  | 1 => "MuseumGuide"
  | _ => "MuseumGuideModel"
def mFld (own : String) (idx ci k isref p nest : Nat) : Bool :=
  match vwCl[ci]? with
  | none => false
  | some (C, T, N) => decide (k < N) && decide ((T k).1 = C) && decide (mNf ci = N) && decide (mRf ci k = true ↔ isref = 1) &&
      (if nest = 0 then mW p (.fieldLink own idx C (T k).2.1 (T k).2.2.1) else mWn p (.fieldLinkNest own idx C (T k).2.1 (T k).2.2.1 (mHost nest)))
/-- a field's type, against what the small machine stores -/
def mFty (ci k z : Nat) : Bool :=
  match vwCl[ci]? with
  | none => false
  | some (_, T, _) => match parseFieldDescriptor (T k).2.2.1 with
    | some .int => decide (mRf ci k = false) && decide (z = 0)
    | some .boolean => decide (mRf ci k = false) && decide (z = 1)
    | some (.object _) => mRf ci k
    | some (.array _) => mRf ci k
    | _ => false
def mFin (own nm : String) (ci k f nest : Nat) : Bool :=
  match vwCl[ci]? with
  | none => false
  | some (_, T, _) => if (T k).2.2.2 = true then decide (f = 1) && decide (nm = "<init>") && decide ((T k).1 = own) && decide (nest = 0) else decide (f = 0)
def mNo (mid : Nat) (k : Nat) : Nat := (mPos.getD mid []).getD k 0
def mHh (mid : Nat) : List (Nat × Nat × Nat × Nat) := (mEx.getD mid []).map fun q => (q.getD 0 0, q.getD 1 0, q.getD 2 0, q.getD 4 0)
def mCw (mid : Nat) : Cond := if (mEx.getD mid []).isEmpty = true then .code (mNm mid) (mBy mid) (mMax mid) (mRetT mid) else .codeWith (mNm mid) (mBy mid) (mMax mid) (mRetT mid) (mHh mid)
/-- a call's words: 0 virtual, 1 static, 2 a constructor -/
def mCl (own : String) (idx k y n p nest : Nat) : Bool :=
  decide (y < 263) && decide ((parseMethodDescriptor (mNm y).desc).map (fun d => d.parameters.length) = some n) && decide ((mNm y).cls ≠ "java/lang/invoke/MethodHandle" ∧ (mNm y).cls ≠ "java/lang/invoke/VarHandle") &&
  (if nest = 0 then mW p (.methodLink own idx (mNm y)) else mWn p (.methodLinkNest own idx (mNm y) (mHost nest))) && mW (mNo y 4) (.initialized (mNm y).cls) &&
  (if k = 1 then mW (mNo y 2) (.static (mNm y)) && (decide (nest = 0) || (mEx.getD y []).isEmpty)
   else if k = 0 then mW (mNo y 2) (.instanceMethod (mNm y)) && mW (mNo y 3) (.selects (mNm y).cls (mNm y) (mNm y)) && decide (mEx.getD y [] = [])
   else decide (k = 2) && mW (mNo y 2) (.instanceMethod (mNm y)) && decide ((mNm y).name = "<init>") && decide (mRetT y = none) && decide (mEx.getD y [] = []))
/-- the exceptions that are made: the class's entry, the exception, its constructor's entry (all of MuseumGuide) -/
def mXs : List (Nat × Nat × Nat) := [(102, 0, 106), (205, 1, 209), (176, 2, 180)]
def mThr (own : String) (by_ : ByteArray) (pc idx e si ii w : Nat) : Bool :=
  match mExc[e]? with
  | none => false
  | some E => decide (decode by_ (pc + 3) = .ok (.dup, 1)) &&
      (if w = 0 then decide (decode by_ (pc + 4) = .ok (.ldc si, 2)) && decide (decode by_ (pc + 6) = .ok (.invokespecial ii, 3)) && decide (decode by_ (pc + 9) = .ok (.athrow, 1))
       else decide (w = 1) && decide (decode by_ (pc + 4) = .ok (.ldc_w si, 3)) && decide (decode by_ (pc + 7) = .ok (.invokespecial ii, 3)) && decide (decode by_ (pc + 10) = .ok (.athrow, 1))) &&
      Bundle.fit E && mSref.any (fun q => decide (q.1 = own) && decide (q.2.1 = si)) &&
      decide (own = "MuseumGuide") && mXs.contains (idx, e, ii)
def mOkI (mid pc : Nat) (i : Instr) (len : Nat) (r : List Nat) : Bool :=
  decide (decode (mBy mid) pc = .ok (i, len)) && (decide (mLn i = len) || decide (mLn i = 0)) &&
  (match i, r with
  | .getfield idx, [0, ci, k, f, p, nest] => mFld (mNm mid).cls idx ci k f p nest && decide (ci < 100)
  | .getfield idx, [1, key, p] => if key = 0 then mW p (.fieldLink (mNm mid).cls idx "java/lang/String" "value" "[B") else decide (key = 1) && mW p (.fieldLink (mNm mid).cls idx "java/lang/String" "coder" "B")
  | .putfield idx, [ci, k, f, z, fin, p, nest] => mFld (mNm mid).cls idx ci k f p nest && mFty ci k z && mFin (mNm mid).cls (mNm mid).name ci k fin nest && decide (ci < 100)
  | .getstatic idx, [j, p] => (match mStat[j]? with
    | none => false
    | some q => mW p (.fieldLink (mNm mid).cls idx q.1 q.2.1 q.2.2.1))
  | .ldc idx, [0, v, p] => mW p (.constant (mNm mid).cls idx (Int32.ofNat v))
  | .ldc idx, [1, c, _] => mStr.any (fun q => decide (q.1 = c) && decide (q.2.2.1 = (mNm mid).cls) && decide (q.2.2.2.1 = idx))
  | .ldc_w idx, [0, v, p] => mW p (.constant (mNm mid).cls idx (Int32.ofNat v))
  | .ldc2_w idx, [v, p] => mW p (.constantLong (mNm mid).cls idx (Int64.ofNat v))
  | .newarray t, [kd] => (decide (kd = 100) && decide (t = .int)) || (decide (kd = 101) && decide (t = .long))
  | .new idx, [0, ci, n, p, pi, pn] => (match vwCl[ci]? with
    | none => false
    | some (C, _, N) => decide (N = n) && mW p (.classLink (mNm mid).cls idx C) && mW pi (.instantiable C N) && mW pn (.initialized C) && decide (ci < 100))
  | .new idx, [1, e, si, ii, w] => mThr (mNm mid).cls (mBy mid) pc idx e si ii w && (mEx.getD mid []).isEmpty
  | .invokevirtual idx, [0, y, n, p, nest] => mCl (mNm mid).cls idx 0 y n p nest
  | .invokestatic idx, [1, y, n, p, nest] => mCl (mNm mid).cls idx 1 y n p nest
  | .invokespecial idx, [2, y, n, p, nest] => mCl (mNm mid).cls idx 2 y n p nest
  | .invokespecial idx, [3, _, _, p, _] => mW p (.methodLink (mNm mid).cls idx Lib.objectInit)
  | .invokestatic idx, [4, _, _, p, _] => mW p (.methodLink (mNm mid).cls idx arraycopyName)
  | i, [] => (match i with
    | .getfield _ => false | .putfield _ => false | .getstatic _ => false | .ldc _ => false | .ldc_w _ => false | .ldc2_w _ => false | .newarray _ => false | .new _ => false
    | .invokevirtual _ => false | .invokestatic _ => false | .invokespecial _ => false
    | .iinc _ _ => decide (len = 3) || decide (len = 6)
    | _ => true)
  | _, _ => false)
/-- what is checked of a method -/
def mOkM (mid : Nat) : Bool :=
  (plainName (mNm mid).cls || (plainFor (mNm mid) && (mEx.getD mid []).isEmpty)) && (decide (mid = 263) || mW (mNo mid 1) (mCw mid)) && decide (mMax mid ≤ 20) && (match vwCl[mCo mid]? with
    | some (C, _, _) => decide (C = (mNm mid).cls) && decide (mCo mid < 100)
    | none => decide (mCo mid = 300) || (decide (mCo mid = 200) && decide ((mNm mid).cls = "java/lang/String"))) &&
  (mEx.getD mid []).all (fun q => match q with
    | [_, _, hp, e, ct, p] => decide (ct ≠ 0) && (match mExc[e]? with
      | none => false
      | some E => mW p (.classLink (mNm mid).cls ct E)) && (match mIns mid hp with
      | some (i, _, _) => (match mSt i with
        | some (n, 2) => decide (n < mMax mid)
        | _ => false)
      | none => false)
    | _ => false)
def mChk (mid : Nat) : Bool := mOkM mid && (mAll.getD mid []).all (fun q => mOkI mid q.1 q.2.1 q.2.2.1 q.2.2.2)
theorem mFind_mem {l : List (Nat × Instr × Nat × List Nat)} {pc : Nat} {x : Instr × Nat × List Nat} (h : mFind l pc = some x) : (pc, x) ∈ l := by
  induction l with
  | nil => cases h
  | cons q t ih =>
    unfold mFind at h
    split at h
    · rename_i e
      cases h
      subst e
      exact List.mem_cons_self
    · exact List.mem_cons_of_mem _ (ih h)
