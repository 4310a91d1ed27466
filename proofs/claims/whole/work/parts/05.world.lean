/-! FROM THE SMALL MACHINE'S STATE TO THE HEAP: which cells a state is -/
def mF (cv : Nat → Value) (ad : Nat → Nat) : Value → Value
  | .ref r => if r < mNC then cv r else .ref (ad r)
  | v => v
def mNf (ci : Nat) : Nat := ((vwCl[ci]?).map (fun q => q.2.2)).getD 0
def mFd (cv : Nat → Value) (ad : Nat → Nat) (h : mH) (a ci : Nat) : List Value := (List.range (mNf ci)).map (fun k => if mRf ci k = true then mF cv ad (mV h a k) else .int (mI h a k))
def mCell (cv : Nat → Value) (ad : Nat → Nat) (ca : Nat → ClassId) (h : mH) (a : Nat) : va_E :=
  if (mK h a).1 = 100 then .inl (ca a, (mK h a).2, .inl (mI h a))
  else if (mK h a).1 = 101 then .inl (ca a, (mK h a).2, .inr (.inl (mL h a)))
  else .inr ((mK h a).1, mFd cv ad h a (mK h a).1)
def mWs (cv : Nat → Value) (ad : Nat → Nat) (ca : Nat → ClassId) (h : mH) : va_W := (List.range (mN h - mNC)).map (fun j => (ad (mNC + j), mCell cv ad ca h (mNC + j)))
theorem mWs_len {cv : Nat → Value} {ad : Nat → Nat} {ca : Nat → ClassId} {h : mH} : (mWs cv ad ca h).length = mN h - mNC := by simp [mWs]
theorem mWs_at {cv : Nat → Value} {ad : Nat → Nat} {ca : Nat → ClassId} {h : mH} {a : Nat} (h1 : mNC ≤ a) (h2 : a < mN h) : (mWs cv ad ca h)[a - mNC]? = some (ad a, mCell cv ad ca h a) := by
  unfold mWs
  rw [List.getElem?_map, List.getElem?_range (by omega)]
  simp only [Option.map_some]
  rw [show mNC + (a - mNC) = a by omega]
theorem mWs_inv {cv : Nat → Value} {ad : Nat → Nat} {ca : Nat → ClassId} {h : mH} {j : Nat} {q : Nat × va_E} (hq : (mWs cv ad ca h)[j]? = some q) : j < mN h - mNC ∧ q = (ad (mNC + j), mCell cv ad ca h (mNC + j)) := by
  have hl : j < (mWs cv ad ca h).length := (List.getElem?_eq_some_iff.mp hq).1
  rw [mWs_len] at hl
  have e := mWs_at (cv := cv) (ad := ad) (ca := ca) (h := h) (a := mNC + j) (by omega) (by omega)
  rw [show mNC + j - mNC = j by omega, hq] at e
  exact ⟨hl, Option.some.inj e⟩
theorem mWs_ext {cv cv' : Nat → Value} {ad ad' : Nat → Nat} {ca ca' : Nat → ClassId} {h h' : mH} (hn : mN h' = mN h) (ho : ∀ b, mNC ≤ b → b < mN h → ad' b = ad b ∧ mCell cv' ad' ca' h' b = mCell cv ad ca h b) : mWs cv' ad' ca' h' = mWs cv ad ca h := by
  unfold mWs
  rw [hn]
  apply List.map_congr_left
  intro j hj
  have hj' := List.mem_range.mp hj
  obtain ⟨e1, e2⟩ := ho (mNC + j) (by omega) (by omega)
  rw [e1, e2]
set_option maxRecDepth 20000 in
theorem mWs_set {cv : Nat → Value} {ad : Nat → Nat} {ca : Nat → ClassId} {h h' : mH} {a : Nat} (h1 : mNC ≤ a) (h2 : a < mN h) (hn : mN h' = mN h) (ho : ∀ b, b ≠ a → mCell cv ad ca h' b = mCell cv ad ca h b) : (mWs cv ad ca h).set (a - mNC) (ad a, mCell cv ad ca h' a) = mWs cv ad ca h' := by
  apply List.ext_getElem?
  intro j
  by_cases hj : j = a - mNC
  · subst hj
    rw [List.getElem?_set_self (by rw [mWs_len]; omega), mWs_at h1 (by omega)]
  · rw [List.getElem?_set_ne (Ne.symm hj)]
    by_cases hl : j < mN h - mNC
    · have e1 := mWs_at (cv := cv) (ad := ad) (ca := ca) (h := h) (a := mNC + j) (by omega) (by omega)
      have e2 := mWs_at (cv := cv) (ad := ad) (ca := ca) (h := h') (a := mNC + j) (by omega) (by omega)
      rw [show mNC + j - mNC = j by omega] at e1 e2
      rw [e1, e2, ho (mNC + j) (by omega)]
    · rw [List.getElem?_eq_none (by rw [mWs_len]; omega), List.getElem?_eq_none (by rw [mWs_len]; omega)]
set_option maxRecDepth 20000 in
theorem mWs_push {cv : Nat → Value} {ad ad' : Nat → Nat} {ca ca' : Nat → ClassId} {h h' : mH} (h1 : mNC ≤ mN h) (hn : mN h' = mN h + 1) (ho : ∀ b, mNC ≤ b → b < mN h → ad' b = ad b ∧ mCell cv ad' ca' h' b = mCell cv ad ca h b) : mWs cv ad' ca' h' = mWs cv ad ca h ++ [(ad' (mN h), mCell cv ad' ca' h' (mN h))] := by
  unfold mWs
  rw [hn, show mN h + 1 - mNC = (mN h - mNC) + 1 by omega, List.range_succ, List.map_append]
  congr 1
  · apply List.map_congr_left
    intro j hj
    have hj' := List.mem_range.mp hj
    obtain ⟨e1, e2⟩ := ho (mNC + j) (by omega) (by omega)
    rw [e1, e2]
  · simp only [List.map_cons, List.map_nil]
    rw [show mNC + (mN h - mNC) = mN h by omega]
/-- a state whose cell b is as in another one -/
theorem mCell_eq {cv : Nat → Value} {ad ad' : Nat → Nat} {ca ca' : Nat → ClassId} {h h' : mH} {b : Nat} (hk : mK h' b = mK h b) (hi : mI h' b = mI h b) (hl : mL h' b = mL h b) (hv : ∀ k, mF cv ad' (mV h' b k) = mF cv ad (mV h b k)) (hc : ca' b = ca b) : mCell cv ad' ca' h' b = mCell cv ad ca h b := by
  unfold mCell mFd
  rw [hk, hi, hl, hc]
  simp only [hv]
theorem mCell_int {cv : Nat → Value} {ad : Nat → Nat} {ca : Nat → ClassId} {h : mH} {a : Nat} (hk : (mK h a).1 = 100) : mCell cv ad ca h a = .inl (ca a, (mK h a).2, .inl (mI h a)) := by unfold mCell; rw [if_pos hk]
theorem mCell_long {cv : Nat → Value} {ad : Nat → Nat} {ca : Nat → ClassId} {h : mH} {a : Nat} (hk : (mK h a).1 = 101) : mCell cv ad ca h a = .inl (ca a, (mK h a).2, .inr (.inl (mL h a))) := by
  unfold mCell; rw [if_neg (by omega), if_pos hk]
theorem mCell_obj {cv : Nat → Value} {ad : Nat → Nat} {ca : Nat → ClassId} {h : mH} {a ci : Nat} (hk : (mK h a).1 = ci) (hc : ci < 100) : mCell cv ad ca h a = .inr (ci, mFd cv ad h a ci) := by
  unfold mCell; rw [if_neg (by omega), if_neg (by omega), hk]
theorem mFd_len {cv : Nat → Value} {ad : Nat → Nat} {h : mH} {a ci : Nat} : (mFd cv ad h a ci).length = mNf ci := by simp [mFd]
theorem mFd_at {cv : Nat → Value} {ad : Nat → Nat} {h : mH} {a ci k : Nat} (hk : k < mNf ci) : (mFd cv ad h a ci)[k]? = some (if mRf ci k = true then mF cv ad (mV h a k) else .int (mI h a k)) := by
  unfold mFd
  rw [List.getElem?_map, List.getElem?_range hk]
  rfl
theorem mFd_set {cv : Nat → Value} {ad : Nat → Nat} {h h' : mH} {a ci k : Nat} {v : Value} (hk : k < mNf ci) (hv : (if mRf ci k = true then mF cv ad (mV h' a k) else .int (mI h' a k)) = v) (ho : ∀ j, j ≠ k → mI h' a j = mI h a j ∧ mV h' a j = mV h a j) : (mFd cv ad h a ci).set k v = mFd cv ad h' a ci := by
  apply List.ext_getElem?
  intro j
  by_cases hj : j = k
  · subst hj
    rw [List.getElem?_set_self (by rw [mFd_len]; omega), mFd_at hk, hv]
  · rw [List.getElem?_set_ne (Ne.symm hj)]
    by_cases hl : j < mNf ci
    · rw [mFd_at hl, mFd_at hl, (ho j hj).1, (ho j hj).2]
    · rw [List.getElem?_eq_none (by rw [mFd_len]; omega), List.getElem?_eq_none (by rw [mFd_len]; omega)]
theorem mI_SI_other {h : mH} {a k : Nat} {x : Int32} {b : Nat} (hb : b ≠ a) : mI (mSI h a k x) b = mI h b := by
  funext j
  rw [mI_SI, if_neg (fun z => hb z.1)]
theorem mI_SI_self {h : mH} {a k : Nat} {x : Int32} : mI (mSI h a k x) a = upd (mI h a) k x := by
  funext j
  rw [mI_SI]
  unfold upd
  by_cases hj : j = k
  · rw [if_pos ⟨rfl, hj⟩, if_pos hj]
  · rw [if_neg (fun z => hj z.2), if_neg hj]
theorem mL_SL_other {h : mH} {a k : Nat} {x : Int64} {b : Nat} (hb : b ≠ a) : mL (mSL h a k x) b = mL h b := by
  funext j
  rw [mL_SL, if_neg (fun z => hb z.1)]
theorem mL_SL_self {h : mH} {a k : Nat} {x : Int64} : mL (mSL h a k x) a = vp_updL (mL h a) k x := by
  funext j
  rw [mL_SL]
  unfold vp_updL
  by_cases hj : j = k
  · rw [if_pos ⟨rfl, hj⟩, if_pos hj]
  · rw [if_neg (fun z => hj z.2), if_neg hj]
theorem mV_SV_other {h : mH} {a k : Nat} {x : Value} {b : Nat} (hb : b ≠ a) : mV (mSV h a k x) b = mV h b := by
  funext j
  rw [mV_SV, if_neg (fun z => hb z.1)]
/-! locals -/
def mLs (F : Value → Value) (lo : mLo) : List (Nat × Value) := (List.range lo.length).filterMap (fun i => (mGet lo i).map (fun v => (i, F v)))
theorem mGet_lt {lo : mLo} {i : Nat} {v : Value} (h : mGet lo i = some v) : i < lo.length := by
  unfold mGet at h
  cases hl : lo[i]? with
  | none => rw [hl] at h; cases h
  | some w => exact (List.getElem?_eq_some_iff.mp hl).1
theorem mGet_at {lo : mLo} {i : Nat} {v : Value} (h : mGet lo i = some v) : lo[i]? = some (some v) ∧ (v.category = 2 → lo[i + 1]? = some none) := by
  unfold mGet at h
  cases hl : lo[i]? with
  | none => rw [hl] at h; cases h
  | some w =>
    rw [hl] at h
    cases w with
    | none => cases h
    | some v' =>
      dsimp only at h
      by_cases hc : v'.category = 2
      · rw [if_pos hc] at h
        by_cases hn : lo[i + 1]? = some none
        · rw [if_pos hn] at h
          cases h
          exact ⟨rfl, fun _ => hn⟩
        · rw [if_neg hn] at h
          cases h
      · rw [if_neg hc] at h
        cases h
        exact ⟨rfl, fun z => absurd z hc⟩
theorem mGet_of {lo : mLo} {i : Nat} {v : Value} (h1 : lo[i]? = some (some v)) (h2 : v.category = 2 → lo[i + 1]? = some none) : mGet lo i = some v := by
  unfold mGet
  rw [h1]
  dsimp only
  by_cases hc : v.category = 2
  · rw [if_pos hc, if_pos (h2 hc)]
  · rw [if_neg hc]
theorem mLs_mem {F : Value → Value} {lo : mLo} {i : Nat} {w : Value} : (i, w) ∈ mLs F lo ↔ ∃ v, mGet lo i = some v ∧ w = F v := by
  unfold mLs
  rw [List.mem_filterMap]
  constructor
  · rintro ⟨j, hj, e⟩
    cases hg : mGet lo j with
    | none => rw [hg] at e; cases e
    | some v =>
      rw [hg] at e
      cases e
      exact ⟨v, hg, rfl⟩
  · rintro ⟨v, hg, rfl⟩
    exact ⟨i, List.mem_range.mpr (mGet_lt hg), by rw [hg]; rfl⟩
theorem mLs_slot {F : Value → Value} {lo : mLo} {ls : Array Slot} {nL i : Nat} {v : Value} (h : lv_has ls nL (mLs F lo)) (hg : mGet lo i = some v) : ls[i]? = some (.val (F v)) := h.2.2 (i, F v) (mLs_mem.mpr ⟨v, hg, rfl⟩)
theorem lv_less {ls : Array Slot} {nL : Nat} {l l' : List (Nat × Value)} (h : lv_has ls nL l) (hs : ∀ q ∈ l', q ∈ l) : lv_has ls nL l' := ⟨h.1, h.2.1, fun q hq => h.2.2 q (hs q hq)⟩
theorem mLs_none {F : Value → Value} {lo : mLo} {ls : Array Slot} {nL n : Nat} (h : lv_has ls nL (mLs F lo)) : ∀ q ∈ mLs F (lo.set n none), q ∈ mLs F lo ∨ (∃ v, mGet (lo.set n none) q.1 = some v ∧ q.1 + 1 = n ∧ v.category = 2) := by
  rintro ⟨i, w⟩ hq
  obtain ⟨v, hg, rfl⟩ := mLs_mem.mp hq
  obtain ⟨e1, e2⟩ := mGet_at hg
  by_cases hi : i = n
  · subst hi
    rw [List.getElem?_set_self (by have := mGet_lt hg; simpa using this)] at e1
    cases e1
  · rw [List.getElem?_set_ne (Ne.symm hi)] at e1
    by_cases hc : v.category = 2
    · by_cases hn : i + 1 = n
      · exact Or.inr ⟨v, hg, hn, hc⟩
      · have e3 := e2 hc
        rw [List.getElem?_set_ne (fun z => hn z.symm)] at e3
        exact Or.inl (mLs_mem.mpr ⟨v, mGet_of e1 (fun _ => e3), rfl⟩)
    · exact Or.inl (mLs_mem.mpr ⟨v, mGet_of e1 (fun z => absurd z hc), rfl⟩)
theorem mLs_put1 {F : Value → Value} (hF : ∀ v, (F v).category = v.category) {lo : mLo} {n : Nat} {v : Value} (hc : ¬ v.category = 2) (hn : n < lo.length) : ∀ q ∈ mLs F (lo.set n (some v)), q ∈ (n, F v) :: (mLs F lo).filter (fun q => !(q.1 == n) && !(q.1 + 1 == n && q.2.category == 2)) := by
  rintro ⟨i, w⟩ hq
  obtain ⟨u, hg, rfl⟩ := mLs_mem.mp hq
  obtain ⟨e1, e2⟩ := mGet_at hg
  by_cases hi : i = n
  · subst hi
    rw [List.getElem?_set_self hn] at e1
    cases e1
    exact List.mem_cons_self
  · rw [List.getElem?_set_ne (Ne.symm hi)] at e1
    have hno : ¬ (i + 1 = n ∧ u.category = 2) := by
      rintro ⟨z1, z2⟩
      have e3 := e2 z2
      rw [z1, List.getElem?_set_self hn] at e3
      cases e3
    have hg' : mGet lo i = some u := mGet_of e1 (fun z => by
      have e3 := e2 z
      rw [List.getElem?_set_ne (fun y => hno ⟨y.symm, z⟩)] at e3
      exact e3)
    refine List.mem_cons_of_mem _ (List.mem_filter.mpr ⟨mLs_mem.mpr ⟨u, hg', rfl⟩, ?_⟩)
    simp only [hF, Bool.and_eq_true, Bool.not_eq_true', beq_eq_false_iff_ne, ne_eq, Bool.and_eq_false_iff]
    refine ⟨hi, ?_⟩
    by_cases z : i + 1 = n
    · exact Or.inr (fun y => hno ⟨z, y⟩)
    · exact Or.inl z
theorem mLs_put2 {F : Value → Value} (hF : ∀ v, (F v).category = v.category) {lo : mLo} {n : Nat} {v : Value} (hn : n + 1 < lo.length) : ∀ q ∈ mLs F ((lo.set n (some v)).set (n + 1) none), q ∈ (n, F v) :: (mLs F lo).filter (fun q => !(q.1 == n) && (!(q.1 == n + 1) && !(q.1 + 1 == n && q.2.category == 2))) := by
  rintro ⟨i, w⟩ hq
  obtain ⟨u, hg, rfl⟩ := mLs_mem.mp hq
  obtain ⟨e1, e2⟩ := mGet_at hg
  have hn1 : i ≠ n + 1 := by
    rintro rfl
    rw [List.getElem?_set_self (by simpa using hn)] at e1
    cases e1
  rw [List.getElem?_set_ne (Ne.symm hn1)] at e1
  by_cases hi : i = n
  · subst hi
    rw [List.getElem?_set_self (by omega)] at e1
    cases e1
    exact List.mem_cons_self
  · rw [List.getElem?_set_ne (Ne.symm hi)] at e1
    have hno : ¬ (i + 1 = n ∧ u.category = 2) := by
      rintro ⟨z1, z2⟩
      have e3 := e2 z2
      rw [z1, List.getElem?_set_ne (by omega), List.getElem?_set_self (by omega)] at e3
      cases e3
    have hg' : mGet lo i = some u := mGet_of e1 (fun z => by
      have e3 := e2 z
      rw [List.getElem?_set_ne (by omega), List.getElem?_set_ne (fun y => hno ⟨y.symm, z⟩)] at e3
      exact e3)
    refine List.mem_cons_of_mem _ (List.mem_filter.mpr ⟨mLs_mem.mpr ⟨u, hg', rfl⟩, ?_⟩)
    simp only [hF, Bool.and_eq_true, Bool.not_eq_true', beq_eq_false_iff_ne, ne_eq, Bool.and_eq_false_iff]
    refine ⟨hi, hn1, ?_⟩
    by_cases z : i + 1 = n
    · exact Or.inr (fun y => hno ⟨z, y⟩)
    · exact Or.inl z
theorem mEnt_map {F : Value → Value} (hF : ∀ v, (F v).category = v.category) (args : List Value) : (lg_sl (args.map F)).length = (mEnt args).length := by
  induction args with
  | nil => rfl
  | cons v l ih =>
    simp only [lg_sl, List.map_cons, List.flatMap_cons, List.length_append, mEnt, hF] at ih ⊢
    by_cases hc : v.category = 2
    · rw [if_pos hc, if_pos hc]
      simp only [List.length_cons, List.length_nil]
      omega
    · rw [if_neg hc, if_neg hc]
      simp only [List.length_cons, List.length_nil]
      omega
theorem mEnt_in {F : Value → Value} (hF : ∀ v, (F v).category = v.category) (args : List Value) : ∀ (k i : Nat) (v : Value), (mEnt args)[i]? = some (some v) → (k + i, F v) ∈ lv_args k (args.map F) := by
  induction args with
  | nil => intro k i v h; simp [mEnt] at h
  | cons u l ih =>
    intro k i v h
    simp only [List.map_cons, lv_args, hF]
    unfold mEnt at h
    by_cases hc : u.category = 2
    · rw [if_pos hc] at h ⊢
      match i, h with
      | 0, h => cases h; exact List.mem_cons_self
      | 1, h => simp at h
      | i + 2, h =>
        have h9 := ih (k + 2) i v (by simpa using h)
        rw [show k + 2 + i = k + (i + 2) by omega] at h9
        exact List.mem_cons_of_mem _ h9
    · rw [if_neg hc] at h ⊢
      match i, h with
      | 0, h => cases h; exact List.mem_cons_self
      | i + 1, h =>
        have h9 := ih (k + 1) i v (by simpa using h)
        rw [show k + 1 + i = k + (i + 1) by omega] at h9
        exact List.mem_cons_of_mem _ h9
theorem mLs_entry {F : Value → Value} (hF : ∀ v, (F v).category = v.category) (args : List Value) (n : Nat) (hn : (mEnt args).length ≤ n) : lv_has ((lg_sl (args.map F) ++ List.replicate (n - (lg_sl (args.map F)).length) Slot.unset).toArray) n (mLs F (mEnt args ++ List.replicate (n - (mEnt args).length) none)) := by
  refine lv_less (lv_entry (args.map F) (by rw [mEnt_map hF]; exact hn)) ?_
  rintro ⟨i, w⟩ hq
  obtain ⟨v, hg, rfl⟩ := mLs_mem.mp hq
  have e1 := (mGet_at hg).1
  by_cases hi : i < (mEnt args).length
  · rw [List.getElem?_append_left hi] at e1
    have h9 := mEnt_in hF args 0 i v e1
    rwa [Nat.zero_add] at h9
  · rw [List.getElem?_append_right (by omega), List.getElem?_replicate] at e1
    split at e1 <;> cases e1
