/-! EVERY STEP KEEPS IT -/
theorem mGetf_good {pc len : Nat} {r : List Nat} {lo : mLo} {st : List Value} {h : mH} {y : mY} (e : mGetf pc len r lo st h = some y) (h1 : mIv h) (h2 : mLk (mN h) lo) (h3 : mSk (mN h) st) : mYk h y := by
  unfold mGetf at e
  split at e
  · split at e
    · refine mYk.go e h1 h2 (mSk.cons ?_ h3.tl) (mLe.rf h)
      split
      · exact h1.2 _ _
      · exact mVk.int
    · cases e
  · split at e
    · rename_i key _ c st' _
      cases hc : mCF c key with
      | none => rw [hc] at e; cases e
      | some v =>
        rw [hc] at e
        exact mYk.go e h1 h2 (mSk.cons (fun r hr => Nat.lt_of_lt_of_le (mCF_small hc r hr) h1.1) h3.tl) (mLe.rf h)
    · cases e
  · cases e
theorem mPutf_good {pc len : Nat} {r : List Nat} {lo : mLo} {st : List Value} {h : mH} {y : mY} (e : mPutf pc len r lo st h = some y) (h1 : mIv h) (h2 : mLk (mN h) lo) (h3 : mSk (mN h) st) : mYk h y := by
  unfold mPutf at e
  split at e
  · split at e
    · exact mYk.go e h1 h2 h3.tl.tl (mLe.rf h)
    · cases e
  · split at e
    · exact mYk.go e (h1.SV _ _ h3.hd) h2 h3.tl.tl (mLe.rf h)
    · cases e
  · cases e
theorem mLen_good {pc len : Nat} {lo : mLo} {st : List Value} {h : mH} {y : mY} (e : mLen pc len lo st h = some y) (h1 : mIv h) (h2 : mLk (mN h) lo) (h3 : mSk (mN h) st) : mYk h y := by
  unfold mLen at e
  split at e
  · split at e
    · rename_i a st' _
      cases hc : mCA h a with
      | none => rw [hc] at e; cases e
      | some q => rw [hc] at e; exact mYk.go e h1 h2 (mSk.cons mVk.int h3.tl) (mLe.rf h)
    · split at e
      · exact mYk.go e h1 h2 (mSk.cons mVk.int h3.tl) (mLe.rf h)
      · cases e
  · cases e
theorem mCAb_good {h : mH} {a pc : Nat} {lo : mLo} {st : List Value} {y : mY} {j : Nat} {P : FieldType × Nat × (Nat → Value) → Prop} [dp : ∀ q, Decidable (P q)] (e : (mCA h a).bind (fun q => if P q then mGo pc lo (q.2.2 j :: st) h else none) = some y) (h1 : mIv h) (h2 : mLk (mN h) lo) (h3 : mSk (mN h) st) : mYk h y := by
  cases hc : mCA h a with
  | none => rw [hc] at e; cases e
  | some q =>
    rw [hc] at e
    have e' : (if P q then mGo pc lo (q.2.2 j :: st) h else none) = some y := e
    split at e'
    · exact mYk.go e' h1 h2 (mSk.cons (fun r hr => Nat.lt_of_lt_of_le (mCA_small hc _ r hr) h1.1) h3) (mLe.rf h)
    · cases e'
theorem mAld_good {i : Instr} {pc len : Nat} {lo : mLo} {st : List Value} {h : mH} {y : mY} (e : mAld i pc len lo st h = some y) (h1 : mIv h) (h2 : mLk (mN h) lo) (h3 : mSk (mN h) st) : mYk h y := by
  unfold mAld at e
  split at e
  · split at e
    · exact mCAb_good e h1 h2 h3.tl.tl
    · split at e
      · exact mYk.go e h1 h2 (mSk.cons mVk.int h3.tl.tl) (mLe.rf h)
      · cases e
  · split at e
    · exact mCAb_good e h1 h2 h3.tl.tl
    · cases e
  · split at e
    · exact mCAb_good e h1 h2 h3.tl.tl
    · cases e
  · split at e
    · exact mYk.go e h1 h2 (mSk.cons mVk.long h3.tl.tl) (mLe.rf h)
    · cases e
  · cases e
theorem mAst_good {i : Instr} {pc len : Nat} {lo : mLo} {st : List Value} {h : mH} {y : mY} (e : mAst i pc len lo st h = some y) (h1 : mIv h) (h2 : mLk (mN h) lo) (h3 : mSk (mN h) st) : mYk h y := by
  unfold mAst at e
  split at e
  · split at e
    · exact mYk.go e h1 h2 h3.tl.tl.tl (mLe.rf h)
    · cases e
  · split at e
    · exact mYk.go e h1 h2 h3.tl.tl.tl (mLe.rf h)
    · cases e
  · cases e
theorem mNewa_good {pc len : Nat} {r : List Nat} {lo : mLo} {st : List Value} {h : mH} {y : mY} (e : mNewa pc len r lo st h = some y) (h1 : mIv h) (h2 : mLk (mN h) lo) (h3 : mSk (mN h) st) : mYk h y := by
  unfold mNewa at e
  split at e
  · split at e
    · exact mYk.go e (h1.new _ _) (h2.up (Nat.le_succ _)) (mSk.cons (fun r hr => by cases hr; exact Nat.lt_succ_self _) (h3.tl.up (Nat.le_succ _))) (mLe.new _ _ _)
    · cases e
  · cases e
theorem mBack_good {mid pc len : Nat} {lo : mLo} {st : List Value} {h : mH} {o : mO} {y : mY} (e : mBack mid pc len lo st o = some y) (ho : mOk o) (hl : mLe h o.2) (h2 : mLk (mN h) lo) (h3 : mSk (mN h) st) : mYk h y := by
  obtain ⟨o1, h'⟩ := o
  have h2' := h2.up hl.1
  have h3' := h3.up hl.1
  cases o1 with
  | inl v =>
    cases v with
    | none => exact mYk.go e ho.1 h2' h3' hl
    | some v => exact mYk.go e ho.1 h2' (mSk.cons (ho.2 v rfl) h3') hl
  | inr x =>
    unfold mBack at e
    dsimp only at e
    split at e
    · exact mYk.ed e ho.1 (fun v hv => by cases hv) hl
    · cases hh : mHand pc x (mEx.getD mid []) with
      | none => rw [hh] at e; cases e
      | some hp =>
        rw [hh] at e
        have e' : (match mIns mid hp with
          | some (i, l, _) => match mSt i with
            | some (n, 2) => if n < lo.length then mGo (hp + l) (List.replicate lo.length none) [] h' else none
            | _ => none
          | none => none) = some y := e
        split at e'
        · split at e'
          · split at e'
            · exact mYk.go e' ho.1 (fun r z => by have := List.eq_of_mem_replicate z; cases this) (fun r hr => by cases hr) hl
            · cases e'
          · cases e'
        · cases e'
theorem mCal_good {C : Nat → List Value → mH → Option mO} (hC : mCk C) {mid pc len y' m nest : Nat} {lo : mLo} {st : List Value} {h : mH} {y : mY} (e : mCal C mid pc len y' m nest lo st h = some y) (h1 : mIv h) (h2 : mLk (mN h) lo) (h3 : mSk (mN h) st) : mYk h y := by
  unfold mCal at e
  split at e
  · cases hc : C y' (st.take m).reverse h with
    | none => rw [hc] at e; cases e
    | some o =>
      rw [hc] at e
      have e' : (if nest = 0 ∨ o.1.isLeft = true then mBack mid pc len lo (st.drop m) o else none) = some y := e
      obtain ⟨g1, g2⟩ := hC _ _ _ _ hc h1 (fun r hr => h3 r (List.mem_of_mem_take (List.mem_reverse.mp hr)))
      split at e'
      · exact mBack_good e' g1 g2 h2 (fun r hr => h3 r (List.mem_of_mem_drop hr))
      · cases e'
  · cases e
theorem mInv_good {C : Nat → List Value → mH → Option mO} (hC : mCk C) {mid pc len : Nat} {r : List Nat} {lo : mLo} {st : List Value} {h : mH} {y : mY} (e : mInv C mid pc len r lo st h = some y) (h1 : mIv h) (h2 : mLk (mN h) lo) (h3 : mSk (mN h) st) : mYk h y := by
  unfold mInv at e
  split at e
  · split at e
    · split at e
      · split at e
        · exact mYk.go e h1 h2 h3.tl (mLe.rf h)
        · cases e
      · cases e
    · split at e
      · split at e
        · split at e
          · exact mYk.go e h1 h2 h3.tl.tl.tl.tl.tl (mLe.rf h)
          · cases e
        · cases e
      · split at e
        · exact mCal_good hC e h1 h2 h3
        · split at e
          · split at e
            · exact mCal_good hC e h1 h2 h3
            · exact mCal_good hC e h1 h2 h3
          · cases e
  · cases e
theorem mRtn_good {mid : Nat} {i : Instr} {st : List Value} {h : mH} {y : mY} (e : mRtn mid i st h = some y) (h1 : mIv h) (h3 : mSk (mN h) st) : mYk h y := by
  unfold mRtn at e
  split at e
  · split at e
    · exact mYk.ed e h1 (fun v hv => by cases hv) (mLe.rf h)
    · cases e
  · split at e
    · exact mYk.ed e h1 (fun v hv => by cases hv; exact mVk.int) (mLe.rf h)
    · cases e
  · split at e
    · exact mYk.ed e h1 (fun v hv => by cases hv; exact mVk.long) (mLe.rf h)
    · cases e
  · split at e
    · exact mYk.ed e h1 (fun v hv => by cases hv; exact mVk.double) (mLe.rf h)
    · cases e
  · split at e
    · exact mYk.ed e h1 (fun v hv => by cases hv; exact h3.hd) (mLe.rf h)
    · cases e
  · cases e
theorem mBr_good {pc len : Nat} {off : Int} {lo : mLo} {st : List Value} {h : mH} {b : Bool} {y : mY} (e : mBr pc len off lo st h b = some y) (h1 : mIv h) (h2 : mLk (mN h) lo) (h3 : mSk (mN h) st) : mYk h y := by
  unfold mBr at e
  split at e
  · cases e
  · split at e
    · exact mYk.go e h1 h2 h3 (mLe.rf h)
    · exact mYk.go e h1 h2 h3 (mLe.rf h)
theorem mGob_good {o : Option Nat} {lo : mLo} {st : List Value} {h : mH} {y : mY} (e : (o.bind fun t => mGo t lo st h) = some y) (h1 : mIv h) (h2 : mLk (mN h) lo) (h3 : mSk (mN h) st) : mYk h y := by
  cases o with
  | none => cases e
  | some t => exact mYk.go e h1 h2 h3 (mLe.rf h)
theorem mHp_good {C : Nat → List Value → mH → Option mO} (hC : mCk C) {mid pc len : Nat} {i : Instr} {r : List Nat} {lo : mLo} {st : List Value} {h : mH} {y : mY} (e : mHp C mid pc i len r lo st h = some y) (h1 : mIv h) (h2 : mLk (mN h) lo) (h3 : mSk (mN h) st) : mYk h y := by
  unfold mHp at e
  split at e
  · split at e
    · exact mYk.go e h1 (h2.set (fun r z => by cases z)) h3 (mLe.rf h)
    · cases e
  · exact mGob_good e h1 h2 h3
  · split at e
    · exact mBr_good e h1 h2 h3.tl
    · cases e
  · split at e
    · exact mBr_good e h1 h2 h3.tl.tl
    · cases e
  · split at e
    · exact mGob_good e h1 h2 h3.tl
    · cases e
  · split at e
    · exact mGob_good e h1 h2 h3.tl
    · cases e
  · exact mGetf_good e h1 h2 h3
  · exact mPutf_good e h1 h2 h3
  · split at e
    · rename_i j _
      cases hj : mStat[j]? with
      | none => rw [hj] at e; cases e
      | some q =>
        rw [hj] at e
        exact mYk.go e h1 h2 (mSk.cons (fun r hr => Nat.lt_of_lt_of_le (mStat_small q (List.mem_of_getElem? hj) r hr) h1.1) h3) (mLe.rf h)
    · cases e
  · split at e
    · exact mYk.go e h1 h2 (mSk.cons mVk.int h3) (mLe.rf h)
    · split at e
      · rename_i hc
        exact mYk.go e h1 h2 (mSk.cons (fun r hr => by cases hr; exact Nat.lt_of_lt_of_le hc h1.1) h3) (mLe.rf h)
      · cases e
    · cases e
  · split at e
    · exact mYk.go e h1 h2 (mSk.cons mVk.int h3) (mLe.rf h)
    · cases e
  · split at e
    · exact mYk.go e h1 h2 (mSk.cons mVk.long h3) (mLe.rf h)
    · cases e
  · exact mLen_good e h1 h2 h3
  · exact mAld_good e h1 h2 h3
  · exact mAld_good e h1 h2 h3
  · exact mAld_good e h1 h2 h3
  · exact mAld_good e h1 h2 h3
  · exact mAst_good e h1 h2 h3
  · exact mAst_good e h1 h2 h3
  · exact mNewa_good e h1 h2 h3
  · split at e
    · exact mYk.go e (h1.new _ _) (h2.up (Nat.le_succ _)) (mSk.cons (fun r hr => by cases hr; exact Nat.lt_succ_self _) (h3.up (Nat.le_succ _))) (mLe.new _ _ _)
    · split at e
      · exact mYk.ed e h1 (fun v hv => by cases hv) ⟨Nat.le_refl _, Nat.le_add_right _ _, Nat.le_add_right _ _, rfl, fun _ _ => rfl⟩
      · cases e
    · cases e
  · exact mInv_good hC e h1 h2 h3
  · exact mInv_good hC e h1 h2 h3
  · exact mInv_good hC e h1 h2 h3
  · exact mRtn_good e h1 h3
  · exact mRtn_good e h1 h3
  · exact mRtn_good e h1 h3
  · exact mRtn_good e h1 h3
  · exact mRtn_good e h1 h3
  · cases e
theorem mBody_good {C : Nat → List Value → mH → Option mO} (hC : mCk C) {mid pc len : Nat} {i : Instr} {r : List Nat} {lo : mLo} {st : List Value} {h : mH} {y : mY} (e : mBody C mid pc i len r lo st h = some y) (h1 : mIv h) (h2 : mLk (mN h) lo) (h3 : mSk (mN h) st) : mYk h y := by
  unfold mBody at e
  split at e
  · rename_i n so _
    cases hg : mGet lo n with
    | none => rw [hg] at e; cases e
    | some v =>
      rw [hg] at e
      have e' : (if mSort v = so then mGo (pc + len) lo (v :: st) h else none) = some y := e
      split at e'
      · exact mYk.go e' h1 h2 (mSk.cons (h2.get hg) h3) (mLe.rf h)
      · cases e'
  · split at e
    · rename_i n so _
      split at e
      · rename_i v st'
        split at e
        · cases hp : mPut lo n v with
          | none => rw [hp] at e; cases e
          | some lo' =>
            rw [hp] at e
            exact mYk.go e h1 (h2.put h3.hd hp) h3.tl (mLe.rf h)
        · cases e
      · cases e
    · split at e
      · rename_i st' hs
        exact mYk.go e h1 h2 (fun r hr => h3 r (mStk_ref hs r hr)) (mLe.rf h)
      · exact mHp_good hC e h1 h2 h3
theorem mStep_good {C : Nat → List Value → mH → Option mO} (hC : mCk C) {mid pc : Nat} {lo : mLo} {st : List Value} {h : mH} {y : mY} (e : mStep C mid pc lo st h = some y) (h1 : mIv h) (h2 : mLk (mN h) lo) (h3 : mSk (mN h) st) : mYk h y := by
  unfold mStep at e
  split at e
  · cases e
  · exact mBody_good hC e h1 h2 h3
theorem mRun_good {C : Nat → List Value → mH → Option mO} (hC : mCk C) {mid : Nat} {o : mO} : ∀ (n pc : Nat) (lo : mLo) (st : List Value) (h : mH), mRun C mid n pc lo st h = some o → mIv h → mLk (mN h) lo → mSk (mN h) st → mOk o ∧ mLe h o.2 := by
  intro n
  induction n with
  | zero => intro pc lo st h e; cases e
  | succ n ih =>
    intro pc lo st h e h1 h2 h3
    simp only [mRun] at e
    cases hs : mStep C mid pc lo st h with
    | none => rw [hs] at e; cases e
    | some y =>
      rw [hs] at e
      have hy := mStep_good hC hs h1 h2 h3
      cases y with
      | inr o' => cases e; exact hy
      | inl q =>
        obtain ⟨g1, g2, g3, g4⟩ := hy
        obtain ⟨k1, k2⟩ := ih _ _ _ _ e g1 g2 g3
        exact ⟨k1, g4.tr k2⟩
theorem mEnt_lk {n : Nat} {args : List Value} (h : mSk n args) : mLk n (mEnt args) := by
  induction args with
  | nil => intro r hr; cases hr
  | cons v l ih =>
    intro r hr
    unfold mEnt at hr
    split at hr
    · rcases List.mem_cons.mp hr with e | e
      · exact h.hd r (Option.some.inj e).symm
      · rcases List.mem_cons.mp e with e | e
        · cases e
        · exact ih h.tl r e
    · rcases List.mem_cons.mp hr with e | e
      · exact h.hd r (Option.some.inj e).symm
      · exact ih h.tl r e
theorem mCall_good : ∀ d, mCk (mCall d) := by
  intro d
  induction d with
  | zero => intro y args h o e; cases e
  | succ d ih =>
    intro y args h o e h1 h2
    unfold mCall at e
    split at e
    · obtain ⟨n, hn⟩ := mExec_iff.mp e
      refine mRun_good ih n 0 _ [] h hn h1 ?_ (fun r hr => by cases hr)
      intro r hr
      rcases List.mem_append.mp hr with z | z
      · exact mEnt_lk h2 r z
      · have := List.eq_of_mem_replicate z
        cases this
    · cases e
