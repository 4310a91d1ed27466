/-! WHAT EVERY STEP KEEPS: references lie among the cells that were made; cells are made, never lost; kinds stay -/
def mVk (n : Nat) (v : Value) : Prop := ∀ r, v = .ref r → r < n
def mSk (n : Nat) (st : List Value) : Prop := ∀ r, Value.ref r ∈ st → r < n
def mLk (n : Nat) (lo : mLo) : Prop := ∀ r, some (Value.ref r) ∈ lo → r < n
def mIv (h : mH) : Prop := mNC ≤ mN h ∧ ∀ a k, mVk (mN h) (mV h a k)
def mLe (h h' : mH) : Prop := mN h ≤ mN h' ∧ mC h ≤ mC h' ∧ mS h ≤ mS h' ∧ mX h' = mX h ∧ ∀ a, a < mN h → mK h' a = mK h a
def mOk (o : mO) : Prop := mIv o.2 ∧ ∀ v, o.1 = .inl (some v) → mVk (mN o.2) v
theorem mLe.rf (h : mH) : mLe h h := ⟨Nat.le_refl _, Nat.le_refl _, Nat.le_refl _, rfl, fun _ _ => rfl⟩
theorem mLe.tr {a b c : mH} (h1 : mLe a b) (h2 : mLe b c) : mLe a c := ⟨Nat.le_trans h1.1 h2.1, Nat.le_trans h1.2.1 h2.2.1, Nat.le_trans h1.2.2.1 h2.2.2.1, h2.2.2.2.1.trans h1.2.2.2.1, fun q hq => (h2.2.2.2.2 q (Nat.lt_of_lt_of_le hq h1.1)).trans (h1.2.2.2.2 q hq)⟩
theorem mSk.up {n n' : Nat} {st : List Value} (h : mSk n st) (hn : n ≤ n') : mSk n' st := fun r hr => Nat.lt_of_lt_of_le (h r hr) hn
theorem mLk.up {n n' : Nat} {lo : mLo} (h : mLk n lo) (hn : n ≤ n') : mLk n' lo := fun r hr => Nat.lt_of_lt_of_le (h r hr) hn
theorem mVk.up {n n' : Nat} {v : Value} (h : mVk n v) (hn : n ≤ n') : mVk n' v := fun r hr => Nat.lt_of_lt_of_le (h r hr) hn
theorem mSk.cons {n : Nat} {v : Value} {st : List Value} (hv : mVk n v) (h : mSk n st) : mSk n (v :: st) := by
  intro r hr
  rcases List.mem_cons.mp hr with e | e
  · exact hv r e.symm
  · exact h r e
theorem mSk.tl {n : Nat} {v : Value} {st : List Value} (h : mSk n (v :: st)) : mSk n st := fun r hr => h r (List.mem_cons_of_mem _ hr)
theorem mSk.hd {n : Nat} {v : Value} {st : List Value} (h : mSk n (v :: st)) : mVk n v := fun r hr => h r (by rw [hr]; exact List.mem_cons_self)
theorem mVk.int {n : Nat} {x : Int32} : mVk n (.int x) := fun r h => by cases h
theorem mVk.long {n : Nat} {x : Int64} : mVk n (.long x) := fun r h => by cases h
theorem mVk.double {n : Nat} {x : UInt64} : mVk n (.double x) := fun r h => by cases h
theorem mVk.null {n : Nat} : mVk n .null := fun r h => by cases h
theorem mBin_ref {f : Int32 → Int32 → Option Value} (hf : ∀ x y v, f x y = some v → ∀ r, v ≠ .ref r) {st st' : List Value} (h : mBin f st = some st') : ∀ r, Value.ref r ∈ st' → Value.ref r ∈ st := by
  unfold mBin at h
  split at h
  · rename_i y x t
    cases he : f x y with
    | none => rw [he] at h; cases h
    | some v =>
      rw [he] at h
      cases h
      intro r hr
      rcases List.mem_cons.mp hr with e | e
      · exact absurd e.symm (hf x y v he r)
      · exact List.mem_cons_of_mem _ (List.mem_cons_of_mem _ e)
  · cases h
theorem mBinL_ref {f : Int64 → Int64 → Option Value} (hf : ∀ x y v, f x y = some v → ∀ r, v ≠ .ref r) {st st' : List Value} (h : mBinL f st = some st') : ∀ r, Value.ref r ∈ st' → Value.ref r ∈ st := by
  unfold mBinL at h
  split at h
  · rename_i y x t
    cases he : f x y with
    | none => rw [he] at h; cases h
    | some v =>
      rw [he] at h
      cases h
      intro r hr
      rcases List.mem_cons.mp hr with e | e
      · exact absurd e.symm (hf x y v he r)
      · exact List.mem_cons_of_mem _ (List.mem_cons_of_mem _ e)
  · cases h
theorem mBinD_ref {f : UInt64 → UInt64 → Option Value} (hf : ∀ x y v, f x y = some v → ∀ r, v ≠ .ref r) {st st' : List Value} (h : mBinD f st = some st') : ∀ r, Value.ref r ∈ st' → Value.ref r ∈ st := by
  unfold mBinD at h
  split at h
  · rename_i y x t
    cases he : f x y with
    | none => rw [he] at h; cases h
    | some v =>
      rw [he] at h
      cases h
      intro r hr
      rcases List.mem_cons.mp hr with e | e
      · exact absurd e.symm (hf x y v he r)
      · exact List.mem_cons_of_mem _ (List.mem_cons_of_mem _ e)
  · cases h
theorem mUn_ref {f : Int32 → Value} (hf : ∀ x r, f x ≠ .ref r) {st st' : List Value} (h : mUn f st = some st') : ∀ r, Value.ref r ∈ st' → Value.ref r ∈ st := by
  unfold mUn at h
  split at h
  · cases h
    intro r hr
    rcases List.mem_cons.mp hr with e | e
    · exact absurd e.symm (hf _ r)
    · exact List.mem_cons_of_mem _ e
  · cases h
theorem mUnL_ref {f : Int64 → Value} (hf : ∀ x r, f x ≠ .ref r) {st st' : List Value} (h : mUnL f st = some st') : ∀ r, Value.ref r ∈ st' → Value.ref r ∈ st := by
  unfold mUnL at h
  split at h
  · cases h
    intro r hr
    rcases List.mem_cons.mp hr with e | e
    · exact absurd e.symm (hf _ r)
    · exact List.mem_cons_of_mem _ e
  · cases h
theorem mDup_ref {st st' : List Value} (h : mDup st = some st') : ∀ r, Value.ref r ∈ st' → Value.ref r ∈ st := by
  unfold mDup at h
  split at h
  · split at h
    · cases h
      intro r hr
      simpa using hr
    · cases h
  · cases h
theorem mDup2_ref {st st' : List Value} (h : mDup2 st = some st') : ∀ r, Value.ref r ∈ st' → Value.ref r ∈ st := by
  unfold mDup2 at h
  split at h
  · split at h
    · cases h
      intro r hr
      simp only [List.mem_cons] at hr ⊢
      rcases hr with e | e | e | e | e
      · exact Or.inl e
      · exact Or.inr (Or.inl e)
      · exact Or.inl e
      · exact Or.inr (Or.inl e)
      · exact Or.inr (Or.inr e)
    · cases h
  · cases h
theorem mDupX1_ref {st st' : List Value} (h : mDupX1 st = some st') : ∀ r, Value.ref r ∈ st' → Value.ref r ∈ st := by
  unfold mDupX1 at h
  split at h
  · split at h
    · cases h
      intro r hr
      simp only [List.mem_cons] at hr ⊢
      rcases hr with e | e | e | e
      · exact Or.inl e
      · exact Or.inr (Or.inl e)
      · exact Or.inl e
      · exact Or.inr (Or.inr e)
    · cases h
  · cases h
theorem mPop_ref {st st' : List Value} (h : mPop st = some st') : ∀ r, Value.ref r ∈ st' → Value.ref r ∈ st := by
  unfold mPop at h
  split at h
  · split at h
    · cases h
      intro r hr
      exact List.mem_cons_of_mem _ hr
    · cases h
  · cases h
theorem mPush_ref {v : Value} (hv : ∀ r, v ≠ .ref r) {st st' : List Value} (h : some (v :: st) = some st') : ∀ r, Value.ref r ∈ st' → Value.ref r ∈ st := by
  cases h
  intro r hr
  rcases List.mem_cons.mp hr with e | e
  · exact absurd e.symm (hv r)
  · exact e
theorem mStk_ref {i : Instr} {st st' : List Value} (h : mStk i st = some st') : ∀ r, Value.ref r ∈ st' → Value.ref r ∈ st := by
  unfold mStk at h
  split at h
  all_goals first
    | (cases h; done)
    | exact mPush_ref (by intro r z; cases z) h
    | exact mBin_ref (by intro x y v e r z; subst z; cases e) h
    | exact mBin_ref (by intro x y v e r z; subst z; split at e <;> cases e) h
    | exact mBinL_ref (by intro x y v e r z; subst z; cases e) h
    | exact mBinL_ref (by intro x y v e r z; subst z; split at e <;> cases e) h
    | exact mBinD_ref (by intro x y v e r z; subst z; cases e) h
    | exact mBinD_ref (by intro x y v e r z; subst z; split at e <;> cases e) h
    | exact mUn_ref (by intro x r z; cases z) h
    | exact mUnL_ref (by intro x r z; cases z) h
    | exact mDup_ref h
    | exact mDup2_ref h
    | exact mDupX1_ref h
    | exact mPop_ref h
    | (split at h
       · exact mPush_ref (by intro r z; cases z) h
       · cases h)
theorem mLk.set {n : Nat} {lo : mLo} {k : Nat} {v : Option Value} (h : mLk n lo) (hv : ∀ r, v = some (.ref r) → r < n) : mLk n (lo.set k v) := by
  intro r hr
  rcases List.mem_or_eq_of_mem_set hr with e | e
  · exact h r e
  · exact hv r e.symm
theorem mLk.get {n : Nat} {lo : mLo} {k : Nat} {v : Value} (h : mLk n lo) (hg : mGet lo k = some v) : mVk n v := by
  intro r hr
  subst hr
  exact h r (List.mem_of_getElem? (mGet_at hg).1)
theorem mLk.put {n : Nat} {lo lo' : mLo} {k : Nat} {v : Value} (h : mLk n lo) (hv : mVk n v) (hp : mPut lo k v = some lo') : mLk n lo' := by
  unfold mPut at hp
  split at hp
  · split at hp
    · cases hp
      exact (h.set (fun r e => hv r (Option.some.inj e))).set (fun r e => by cases e)
    · cases hp
  · split at hp
    · cases hp
      exact h.set (fun r e => hv r (Option.some.inj e))
    · cases hp
theorem mIv.SI {h : mH} (hi : mIv h) (a k : Nat) (x : Int32) : mIv (mSI h a k x) := hi
theorem mIv.SL {h : mH} (hi : mIv h) (a k : Nat) (x : Int64) : mIv (mSL h a k x) := hi
theorem mIv.SV {h : mH} (hi : mIv h) (a k : Nat) {x : Value} (hx : mVk (mN h) x) : mIv (mSV h a k x) := by
  refine ⟨hi.1, fun b j => ?_⟩
  rw [mV_SV]
  split
  · exact hx
  · exact hi.2 b j
theorem mIv.new {h : mH} (hi : mIv h) (kd : Nat × Nat) (s : Nat) : mIv (mNew h kd s) := by
  refine ⟨Nat.le_succ_of_le hi.1, fun b j => ?_⟩
  show mVk (mN h + 1) (if b = mN h then Value.null else h.2.2.1 b j)
  split
  · exact mVk.null
  · exact (hi.2 b j).up (Nat.le_succ _)
theorem mLe.new (h : mH) (kd : Nat × Nat) (s : Nat) : mLe h (mNew h kd s) := by
  refine ⟨Nat.le_succ _, Nat.le_succ _, Nat.le_add_right _ _, rfl, fun a ha => ?_⟩
  show (if a = mN h then kd else h.2.2.2.1 a) = h.2.2.2.1 a
  rw [if_neg (by omega)]
theorem mCT_small : ∀ q ∈ mCT, q.1 < mNC ∧ ∀ v ∈ q.2.2, ∀ r, v = .ref r → r < mNC := by
  have h : mCT.all (fun q => decide (q.1 < mNC) && q.2.2.all (fun v => match v with | .ref r => decide (r < mNC) | _ => true)) = true := by decide +kernel
  intro q hq
  have h1 := List.all_eq_true.mp h q hq
  rw [Bool.and_eq_true] at h1
  refine ⟨of_decide_eq_true h1.1, fun v hv r e => ?_⟩
  subst e
  exact of_decide_eq_true (List.all_eq_true.mp h1.2 _ hv)
theorem mStr_small : ∀ q ∈ mStr, q.1 < mNC ∧ q.2.1 < mNC := by decide +kernel
theorem mStat_small : ∀ q ∈ mStat, ∀ r, q.2.2.2 = .ref r → r < mNC := by
  have h : mStat.all (fun q => match q.2.2.2 with | .ref r => decide (r < mNC) | _ => true) = true := by decide +kernel
  intro q hq r e
  have h1 := List.all_eq_true.mp h q hq
  rw [e] at h1
  exact of_decide_eq_true h1
theorem mCA_small {h : mH} {c : Nat} {q : FieldType × Nat × (Nat → Value)} (hq : mCA h c = some q) (j : Nat) : ∀ r, q.2.2 j = .ref r → r < mNC := by
  unfold mCA at hq
  split at hq
  · cases hq
    intro r e
    cases e
  · cases hf : mCT.find? (fun q => q.1 == c) with
    | none => rw [hf] at hq; cases hq
    | some z =>
      rw [hf] at hq
      cases hq
      intro r e
      have hm := List.mem_of_find?_eq_some hf
      have e' : z.2.2.getD j .null = .ref r := e
      rw [List.getD_eq_getElem?_getD] at e'
      cases hz : z.2.2[j]? with
      | none => rw [hz] at e'; cases e'
      | some v =>
        rw [hz] at e'
        exact (mCT_small z hm).2 v (List.mem_of_getElem? hz) r e'
theorem mCF_small {c key : Nat} {v : Value} (hq : mCF c key = some v) : ∀ r, v = .ref r → r < mNC := by
  unfold mCF at hq
  cases hf : mStr.find? (fun q => q.1 == c) with
  | none => rw [hf] at hq; cases hq
  | some z =>
    rw [hf] at hq
    have hq' : (if key = 0 then some (Value.ref z.2.1) else if key = 1 then some (.int 0) else none) = some v := hq
    intro r e
    subst e
    split at hq'
    · cases hq'
      exact (mStr_small z (List.mem_of_find?_eq_some hf)).2
    · split at hq'
      · cases hq'
      · cases hq'
/-- what a callee keeps -/
def mCk (C : Nat → List Value → mH → Option mO) : Prop := ∀ y args h o, C y args h = some o → mIv h → mSk (mN h) args → mOk o ∧ mLe h o.2
/-- what one step keeps -/
def mYk (h : mH) : mY → Prop
  | .inl q => mIv q.2.2.2 ∧ mLk (mN q.2.2.2) q.2.1 ∧ mSk (mN q.2.2.2) q.2.2.1 ∧ mLe h q.2.2.2
  | .inr o => mOk o ∧ mLe h o.2
theorem mYk.go {h h' : mH} {pc : Nat} {lo : mLo} {st : List Value} {y : mY} (e : mGo pc lo st h' = some y) (h1 : mIv h') (h2 : mLk (mN h') lo) (h3 : mSk (mN h') st) (h4 : mLe h h') : mYk h y := by
  cases e
  exact ⟨h1, h2, h3, h4⟩
theorem mYk.ed {h h' : mH} {r : mR} {y : mY} (e : mEnd r h' = some y) (h1 : mIv h') (h2 : ∀ v, r = .inl (some v) → mVk (mN h') v) (h4 : mLe h h') : mYk h y := by
  cases e
  exact ⟨⟨h1, h2⟩, h4⟩
