/-! THE CONSTRUCTORS: THE SMALLER MACHINE IS RIGHT -/
theorem s_hp {C' : Nat → List Value → mH → Option mO} {C : Nat → List Value → AS → Option AS} {mid pc len : Nat} {i : Instr} {r : List Nat} {lo : mLo} {st : List Value} {A : AS} {z : aY} (hC : cOK C' C) (hex : mEx.getD mid [] = []) (w : wfL A.1 A.2) (hi : mIns mid pc = some (i, len, r)) (h0 : mLd i = none) (hl : mSt i = none) (hk : mStk i st = none) (h : aHp C mid pc i len r lo st A = some z) : yOK C' mid pc lo st A z := by
  have go : ∀ {pc' : Nat} {lo' : mLo} {st' : List Value} {A' : AS}, wfL A'.1 A'.2 → (∀ X, mHp C' mid pc i len r lo st (conc X A.2) = mGo pc' lo' st' (conc X A'.2)) → yOK C' mid pc lo st A (.inl (pc', lo', st', A')) := fun w' hh => ⟨w', fun X => e_hp hi h0 hl hk (hh X)⟩
  have inv : (∃ k, i = .invokespecial k ∨ i = .invokevirtual k) → aInv C pc len r lo st A = some z → yOK C' mid pc lo st A z := by
    intro hk' h
    have hm : ∀ X, mStep C' mid pc lo st (conc X A.2) = mInv C' mid pc len r lo st (conc X A.2) := by
      intro X
      obtain ⟨k, rfl | rfl⟩ := hk' <;> exact mStep_at hi
    unfold aInv at h
    split at h
    · rename_i k y n q1 q2 h_old
      by_cases c3 : k = 3
      · rw [if_pos c3] at h
        split at h
        · rename_i a st2
          by_cases c : mSum st2 ≤ 8 ∧ mNC ≤ a
          · rw [if_pos c] at h
            cases h
            refine ⟨w, fun X => mExec_go ((hm X).trans ?_)⟩
            show (if k = 3 then (if mSum st2 ≤ 8 ∧ mNC ≤ a then mGo (pc + len) lo st2 (conc X A.2) else none) else _) = _
            rw [if_pos c3, if_pos c]
          · rw [if_neg c] at h; cases h
        · cases h
      · rw [if_neg c3] at h
        by_cases c4 : k = 4 ∨ k = 1
        · rw [if_pos c4] at h; cases h
        · rw [if_neg c4] at h
          by_cases cr : aRcv y A st[n]? = true ∧ n + 1 ≤ st.length ∧ mSum (st.drop (n + 1)) ≤ 8
          · rw [if_pos cr] at h
            obtain ⟨r1, r2, r3⟩ := cr
            cases hc : C y (st.take (n + 1)).reverse A with
            | none => rw [hc] at h; cases h
            | some A' =>
              rw [hc] at h
              cases h
              obtain ⟨w', e⟩ := hC _ _ _ _ hc w
              refine ⟨w', fun X => ?_⟩
              have hr : mRcv y (conc X A.2) st[n]? = true := by
                unfold aRcv at r1
                unfold mRcv
                split at r1
                · rename_i a ha
                  rw [ha]
                  rw [Bool.and_eq_true] at r1
                  dsimp only
                  rw [r1.1, c_is w, r1.2]
                  rfl
                · cases r1
              have e2 : ∀ nest : Nat, mCal C' mid pc len y (n + 1) nest lo st (conc X A.2) = mGo (pc + len) lo (st.drop (n + 1)) (conc X A'.2) := by
                intro nest
                unfold mCal
                rw [if_pos ⟨r2, r3⟩, e X]
                show (if nest = 0 ∨ true = true then mBack mid pc len lo (st.drop (n + 1)) (.inl none, conc X A'.2) else none) = _
                rw [if_pos (Or.inr rfl)]
                rfl
              refine mExec_go ((hm X).trans ?_)
              show (if k = 3 then _ else if k = 4 then _ else if k = 1 then _ else if mRcv y (conc X A.2) st[n]? = true then (if k = 0 then mCal C' mid pc len y (n + 1) q2 lo st (conc X A.2) else mCal C' mid pc len y (n + 1) 1 lo st (conc X A.2)) else none) = _
              rw [if_neg c3, if_neg (fun z => c4 (Or.inl z)), if_neg (fun z => c4 (Or.inr z)), if_pos hr]
              by_cases k0 : k = 0
              · rw [if_pos k0]; exact e2 _
              · rw [if_neg k0]; exact e2 _
          · rw [if_neg cr] at h; cases h
    · cases h
  unfold aHp at h
  split at h
  · unfold aNw at h
    split at h
    · cases h
      refine go ⟨rfl, w⟩ (fun X => ?_)
      show mGo (pc + len) lo (.ref (mN (conc X A.2)) :: st) (mNew (conc X A.2) _ _) = _
      rw [c_N w]
      rfl
    · cases h
  · unfold aNwa at h
    split at h
    · rename_i kd n st2
      by_cases c : ¬ n < 0 ∧ n.toNatClampNeg ≤ 65536
      · rw [if_pos c] at h
        cases h
        refine go ⟨rfl, w⟩ (fun X => ?_)
        show (if ¬ n < 0 ∧ n.toNatClampNeg ≤ 65536 then mGo (pc + len) lo (.ref (mN (conc X A.2)) :: st2) (mNew (conc X A.2) (kd, n.toNatClampNeg) n.toNatClampNeg) else none) = _
        rw [if_pos c, c_N w]
        rfl
      · rw [if_neg c] at h; cases h
    · cases h
  · unfold aPut at h
    split at h
    · rename_i ci k q1 zz q2 q3 q4 x a st2
      by_cases c : aIs A a ci = true ∧ mRf ci k = false ∧ (zz = 0 ∨ x = 0 ∨ x = 1)
      · rw [if_pos c] at h
        cases h
        refine go w (fun X => ?_)
        show (if mIs (conc X A.2) a ci = true ∧ mRf ci k = false ∧ (zz = 0 ∨ x = 0 ∨ x = 1) then mGo (pc + len) lo st2 (mSI (conc X A.2) a k x) else none) = _
        rw [c_is w, if_pos c]
        rfl
      · rw [if_neg c] at h; cases h
    · rename_i ci k q1 q5 q2 q3 q4 v a st2
      by_cases c : aIs A a ci = true ∧ mRf ci k = true
      · rw [if_pos c] at h
        cases h
        refine go w (fun X => ?_)
        show (if mIs (conc X A.2) a ci = true ∧ mRf ci k = true then mGo (pc + len) lo st2 (mSV (conc X A.2) a k (.ref v)) else none) = _
        rw [c_is w, if_pos c]
        rfl
      · rw [if_neg c] at h; cases h
    · cases h
  · unfold aGet at h
    split at h
    · rename_i ci k q1 q2 q3 a st2
      by_cases c : aIs A a ci = true
      · rw [if_pos c] at h
        by_cases cr : mRf ci k = true
        · rw [if_pos cr] at h
          cases hv : aV A.2 a k with
          | none => rw [hv] at h; cases h
          | some t =>
            rw [hv] at h
            cases h
            refine go w (fun X => ?_)
            show (if mIs (conc X A.2) a ci = true then mGo (pc + len) lo ((if mRf ci k = true then mV (conc X A.2) a k else .int (mI (conc X A.2) a k)) :: st2) (conc X A.2) else none) = _
            rw [c_is w, if_pos c, if_pos cr, c_V w, hv]
        · rw [if_neg cr] at h
          cases h
          refine go w (fun X => ?_)
          show (if mIs (conc X A.2) a ci = true then mGo (pc + len) lo ((if mRf ci k = true then mV (conc X A.2) a k else .int (mI (conc X A.2) a k)) :: st2) (conc X A.2) else none) = _
          rw [c_is w, if_pos c, if_neg cr, c_I w]
      · rw [if_neg c] at h; cases h
    · cases h
  · unfold aLen at h
    split at h
    · rename_i a st2
      by_cases c0 : a < mNC
      · rw [if_pos c0] at h; cases h
      · rw [if_neg c0] at h
        by_cases c : aIs A a 100 = true ∨ aIs A a 101 = true
        · rw [if_pos c] at h
          cases h
          refine go w (fun X => ?_)
          show (if a < mNC then _ else if mIs (conc X A.2) a 100 = true ∨ mIs (conc X A.2) a 101 = true then mGo (pc + len) lo (.int (Int32.ofNat (mK (conc X A.2) a).2) :: st2) (conc X A.2) else none) = _
          rw [if_neg c0, c_is w, c_is w, if_pos c, c_K w]
        · rw [if_neg c] at h; cases h
    · cases h
  · unfold aSto at h
    split at h
    · rename_i x j a st2
      by_cases c : aIs A a 100 = true ∧ mIn j (aK A.2 a).2 = true
      · rw [if_pos c] at h
        cases h
        refine go w (fun X => ?_)
        show (if mIs (conc X A.2) a 100 = true ∧ mIn j (mK (conc X A.2) a).2 = true then mGo (pc + len) lo st2 (mSI (conc X A.2) a j.toNatClampNeg x) else none) = _
        rw [c_is w, c_K w, if_pos c]
        rfl
      · rw [if_neg c] at h; cases h
    · cases h
  · exact inv ⟨_, Or.inl rfl⟩ h
  · exact inv ⟨_, Or.inr rfl⟩ h
  · rename_i off
    cases ht : mTo pc off with
    | none => rw [ht] at h; cases h
    | some t =>
      rw [ht] at h
      cases h
      refine go w (fun X => ?_)
      show (mTo pc off).bind (fun t => mGo t lo st (conc X A.2)) = _
      rw [ht]
      rfl
  · split at h
    · rename_i c off s_old x st2
      unfold aBr at h
      cases ht : mTo pc off with
      | none => rw [ht] at h; cases h
      | some t =>
        rw [ht] at h
        cases h
        refine go w (fun X => ?_)
        show mBr pc len off lo st2 (conc X A.2) (mIf c x 0) = _
        unfold mBr
        rw [ht]
        by_cases b : mIf c x 0 = true
        · rw [b]; rfl
        · rw [Bool.not_eq_true] at b
          rw [b]; rfl
    · cases h
  · split at h
    · rename_i c off s_old y x st2
      unfold aBr at h
      cases ht : mTo pc off with
      | none => rw [ht] at h; cases h
      | some t =>
        rw [ht] at h
        cases h
        refine go w (fun X => ?_)
        show mBr pc len off lo st2 (conc X A.2) (mIf c x y) = _
        unfold mBr
        rw [ht]
        by_cases b : mIf c x y = true
        · rw [b]; rfl
        · rw [Bool.not_eq_true] at b
          rw [b]; rfl
    · cases h
  · split at h
    · rename_i n c o_old x hg
      cases h
      refine go w (fun X => ?_)
      show (match mGet lo n with | some (.int x) => mGo (pc + len) (lo.set n (some (.int (x + Int32.ofInt c)))) st (conc X A.2) | _ => none) = _
      rw [hg]
    · cases h
  · by_cases c : st.isEmpty = true ∧ (mRetT mid).isNone = true
    · rw [if_pos c] at h
      cases h
      refine ⟨w, fun X => ?_⟩
      have es : st = [] := List.isEmpty_iff.mp c.1
      have er : mRetT mid = none := Option.isNone_iff_eq_none.mp c.2
      subst es
      exact e_en hi h0 hl hk (e_rv er)
    · rw [if_neg c] at h; cases h
  · cases h
theorem s_body {C' : Nat → List Value → mH → Option mO} {C : Nat → List Value → AS → Option AS} {mid pc : Nat} {lo : mLo} {st : List Value} {A : AS} {z : aY} (hC : cOK C' C) (hex : mEx.getD mid [] = []) (w : wfL A.1 A.2) (h : aStep C mid pc lo st A = some z) : yOK C' mid pc lo st A z := by
  unfold aStep at h
  cases hi : mIns mid pc with
  | none => rw [hi] at h; cases h
  | some q =>
    obtain ⟨i, len, r⟩ := q
    rw [hi] at h
    dsimp only at h
    unfold aBody at h
    cases h0 : mLd i with
    | some p =>
      obtain ⟨n, so⟩ := p
      rw [h0] at h
      dsimp only at h
      cases hg : mGet lo n with
      | none => rw [hg] at h; cases h
      | some v =>
        rw [hg, Option.bind_some] at h
        by_cases c : mSort v = so
        · rw [if_pos c] at h
          cases h
          exact ⟨w, fun X => e_ld hi h0 hg c⟩
        · rw [if_neg c] at h; cases h
    | none =>
      rw [h0] at h
      dsimp only at h
      cases hl : mSt i with
      | some p =>
        obtain ⟨n, so⟩ := p
        rw [hl] at h
        dsimp only at h
        cases st with
        | nil => cases h
        | cons v st =>
          dsimp only at h
          by_cases c : mSort v = so
          · rw [if_pos c] at h
            cases hp : mPut lo n v with
            | none => rw [hp] at h; cases h
            | some lo' =>
              rw [hp, Option.bind_some] at h
              cases h
              exact ⟨w, fun X => e_st hi h0 hl c hp⟩
          · rw [if_neg c] at h; cases h
      | none =>
        rw [hl] at h
        dsimp only at h
        cases hk : mStk i st with
        | some st' =>
          rw [hk] at h
          cases h
          exact ⟨w, fun X => e_sk hi h0 hl hk⟩
        | none =>
          rw [hk] at h
          exact s_hp hC hex w hi h0 hl hk h
theorem s_run {C' : Nat → List Value → mH → Option mO} {C : Nat → List Value → AS → Option AS} {mid : Nat} (hC : cOK C' C) (hex : mEx.getD mid [] = []) : ∀ (n pc : Nat) (lo : mLo) (st : List Value) (A A' : AS), aRun C mid n pc lo st A = some A' → wfL A.1 A.2 → wfL A'.1 A'.2 ∧ ∀ X, mExec C' mid pc lo st (conc X A.2) = some (.inl none, conc X A'.2)
  | 0, _, _, _, _, _, h, _ => by cases h
  | n + 1, pc, lo, st, A, A', h, w => by
    rw [aRun] at h
    cases hs : aStep C mid pc lo st A with
    | none => rw [hs] at h; cases h
    | some z =>
      rw [hs] at h
      have y := s_body hC hex w hs
      cases z with
      | inr B =>
        cases h
        exact y
      | inl q =>
        obtain ⟨pc', lo', st', B⟩ := q
        obtain ⟨y1, y2⟩ := y
        obtain ⟨z1, z2⟩ := s_run hC hex n pc' lo' st' B A' h y1
        exact ⟨z1, fun X => (y2 X).trans (z2 X)⟩
theorem s_call : ∀ d, cOK (mCall d) (aCall d)
  | 0 => fun _ _ _ _ h => by cases h
  | d + 1 => fun mid args A A' h w => by
    rw [aCall] at h
    by_cases c : mid < mNI ∧ (mEx.getD mid []).isEmpty = true ∧ (mEnt args).length ≤ mMax mid
    · rw [if_pos c] at h
      obtain ⟨y1, y2⟩ := s_run (s_call d) (List.isEmpty_iff.mp c.2.1) _ _ _ _ _ _ h w
      refine ⟨y1, fun X => ?_⟩
      rw [mCall_eq c.1 c.2.2]
      exact y2 X
    · rw [if_neg c] at h; cases h
theorem s_to {C' : Nat → List Value → mH → Option mO} {C : Nat → List Value → AS → Option AS} {mid : Nat} (hC : cOK C' C) (hex : mEx.getD mid [] = []) : ∀ (n pc : Nat) (lo : mLo) (st : List Value) (A : AS) (q : Nat × mLo × List Value × AS), aTo C mid n pc lo st A = some q → wfL A.1 A.2 → wfL q.2.2.2.1 q.2.2.2.2 ∧ ∀ X, mExec C' mid pc lo st (conc X A.2) = mExec C' mid q.1 q.2.1 q.2.2.1 (conc X q.2.2.2.2)
  | 0, _, _, _, _, q, h, w => by cases h; exact ⟨w, fun X => rfl⟩
  | n + 1, pc, lo, st, A, q, h, w => by
    rw [aTo] at h
    cases hs : aStep C mid pc lo st A with
    | none => rw [hs] at h; cases h
    | some z =>
      rw [hs] at h
      have y := s_body hC hex w hs
      cases z with
      | inr B => cases h
      | inl p =>
        obtain ⟨pc', lo', st', B⟩ := p
        obtain ⟨y1, y2⟩ := y
        obtain ⟨z1, z2⟩ := s_to hC hex n pc' lo' st' B q h y1
        exact ⟨z1, fun X => (y2 X).trans (z2 X)⟩
/-- the law's beginning, up to its loop -/
def aFin : Option (Nat × mLo × List Value × AS) := aTo (aCall 8) 263 15 0 [some (.ref 0), none, none, none, none, none, none, none, none] [] (200, [])
