/-! A WHOLE METHOD OF THE SMALL MACHINE, OVER THE MACHINE: its contract -/
def mXw_0 : List Cond := Cond.classLink "MuseumGuide" 102 "java/lang/IllegalStateException" :: Cond.initialized "java/lang/IllegalStateException" :: vx_atS "MuseumGuide" 106 "java/lang/IllegalStateException" ["java/lang/RuntimeException", "java/lang/Exception"]
theorem mXp_0 : mXw_0 = [1146, 115, 112, 1037, 1046, 1050, 1053, 1055, 1038, 1039, 133, 134, 1040, 1045, 1051, 1071, 1027, 1072, 1029, 1073, 1031, 1041, 1043, 1033, 1067, 1068, 1070, 1033, 1157, 1158, 1159, 1061, 1019, 1061, 1062, 1063, 1064, 1021, 1064, 1065, 1066, 1067, 1023, 1156, 1147, 1148, 1149, 1049, 1150, 1151, 1152, 1153, 1036, 1035, 1154].filterMap (fun i => lw_tbl[i]?) := by decide +kernel
theorem mXg_0 : mXw_0.all (fun w => vx_ot w && (goodWord w || mFace w)) = true := by decide +kernel
def mXw_1 : List Cond := Cond.classLink "MuseumGuide" 205 "java/lang/IllegalArgumentException" :: Cond.initialized "java/lang/IllegalArgumentException" :: vx_atS "MuseumGuide" 209 "java/lang/IllegalArgumentException" ["java/lang/RuntimeException", "java/lang/Exception"]
theorem mXp_1 : mXw_1 = [1178, 116, 112, 1037, 1046, 1050, 1053, 1055, 1038, 1039, 133, 134, 1040, 1045, 1051, 1071, 1027, 1072, 1029, 1073, 1031, 1041, 1043, 1033, 1067, 1068, 1070, 1033, 1189, 1190, 1191, 1061, 1019, 1061, 1062, 1063, 1064, 1021, 1064, 1065, 1066, 1067, 1023, 1188, 1179, 1180, 1181, 1048, 1182, 1183, 1184, 1185, 1036, 1035, 1186].filterMap (fun i => lw_tbl[i]?) := by decide +kernel
theorem mXg_1 : mXw_1.all (fun w => vx_ot w && (goodWord w || mFace w)) = true := by decide +kernel
def mXw_2 : List Cond := Cond.classLink "MuseumGuide" 176 "java/lang/IndexOutOfBoundsException" :: Cond.initialized "java/lang/IndexOutOfBoundsException" :: vx_atS "MuseumGuide" 180 "java/lang/IndexOutOfBoundsException" ["java/lang/RuntimeException", "java/lang/Exception"]
theorem mXp_2 : mXw_2 = [1015, 125, 112, 1037, 1046, 1050, 1053, 1055, 1038, 1039, 133, 134, 1040, 1045, 1051, 1071, 1027, 1072, 1029, 1073, 1031, 1041, 1043, 1033, 1067, 1068, 1070, 1033, 1058, 1059, 1060, 1061, 1019, 1061, 1062, 1063, 1064, 1021, 1064, 1065, 1066, 1067, 1023, 1057, 1016, 1017, 1024, 1025, 1026, 1028, 1030, 1032, 1036, 1035, 1034].filterMap (fun i => lw_tbl[i]?) := by decide +kernel
theorem mXg_2 : mXw_2.all (fun w => vx_ot w && (goodWord w || mFace w)) = true := by decide +kernel
theorem mXw_ok {W : List Cond} (ps : List Nat) (h1 : W = ps.filterMap (fun i => lw_tbl[i]?)) (h2 : W.all (fun w => vx_ot w && (goodWord w || mFace w)) = true) : ∀ w ∈ W, w ∈ lw_tbl ∧ vx_ot w = true ∧ (goodWord w = true ∨ mFace w = true) := by
  intro w hw
  have h3 := List.all_eq_true.mp h2 w hw
  rw [Bool.and_eq_true, Bool.or_eq_true] at h3
  rw [h1] at hw
  obtain ⟨i, -, hi⟩ := List.mem_filterMap.mp hw
  exact ⟨List.mem_of_getElem? hi, h3⟩
theorem mXs_ok {idx e ii : Nat} {E : String} (h : mXs.contains (idx, e, ii) = true) (hE : mExc[e]? = some E) : ∀ w ∈ Cond.classLink "MuseumGuide" idx E :: Cond.initialized E :: vx_atS "MuseumGuide" ii E ["java/lang/RuntimeException", "java/lang/Exception"], w ∈ lw_tbl ∧ vx_ot w = true ∧ (goodWord w = true ∨ mFace w = true) := by
  have h1 : (idx, e, ii) ∈ mXs := by simpa using h
  unfold mXs at h1
  simp only [List.mem_cons, Prod.mk.injEq, List.not_mem_nil, or_false] at h1
  rcases h1 with ⟨rfl, rfl, rfl⟩ | ⟨rfl, rfl, rfl⟩ | ⟨rfl, rfl, rfl⟩
  · cases hE; exact mXw_ok _ mXp_0 mXg_0
  · cases hE; exact mXw_ok _ mXp_1 mXg_1
  · cases hE; exact mXw_ok _ mXp_2 mXg_2
section MSIM8
variable {p : Program} {l : Launch} {e : Env} {R : Room} {s : State} {m : MethodId} {args : Array Value} {below : List Frame} {meth : Method} {c : Code} {H : Heap} {locs : List Loc} {cells slots : Nat} {Q : State → Prop} {ls : Array Slot} {cv : Nat → Value} {ad : Nat → Nat} {ca : Nat → ClassId} {tys : List (ClassId × FieldType)}
variable {D : va_G} {A : Nat → Prop} {mid c0 s0 n0 d : Nat} {ad0 : Nat → Nat} {X : Nat × (Nat → Int32)} {h : mH} {lo : mLo} {st : List Value} {y : mY} {pc len : Nat}
/-- what is owed at the body's ends: a return; an exception of its own; a callee's -/
def mEndK (p : Program) (l : Launch) (e : Env) (R : Room) (s : State) (m : MethodId) (args : Array Value) (below : List Frame) (meth : Method) (c : Code) (Q : State → Prop) (D : va_G) (cv : Nat → Value) (A : Nat → Prop) (mid c0 s0 n0 : Nat) (ad0 : Nat → Nat) (X : Nat × (Nat → Int32)) (o : mO) : Prop :=
  (∀ (i : Instr) (pc : Nat) (lo : mLo) (st : List Value) (h : mH) (H : Heap) (locs : List Loc) (cells slots : Nat) (ls : Array Slot) (ad : Nat → Nat) (ca : Nat → ClassId) (tys : List (ClassId × FieldType)), decode (mBy mid) pc = .ok (i, 1) → mRtn mid i st h = some (.inr o) → mAt s D cv A mid c0 s0 n0 ad0 X lo st h H locs cells slots ls ad ca tys → W p l e R s m args below meth c H locs cells slots Q (F0 m pc ls (st.map (mF cv ad)))) ∧
  (∀ (pc idx x si ii w : Nat) (lo : mLo) (st : List Value) (h : mH) (H : Heap) (locs : List Loc) (cells slots : Nat) (ls : Array Slot) (ad : Nat → Nat) (ca : Nat → ClassId) (tys : List (ClassId × FieldType)), mOkI mid pc (.new idx) 3 [1, x, si, ii, w] = true → mSum st ≤ 8 → o = (.inr x, mUse h 1 6) → mAt s D cv A mid c0 s0 n0 ad0 X lo st h H locs cells slots ls ad ca tys → W p l e R s m args below meth c H locs cells slots Q (F0 m pc ls (st.map (mF cv ad)))) ∧
  mThrK p l e R s m args below meth c Q D cv A mid c0 s0 n0 ad0 X o
theorem mOkI_inv {i : Instr} {k y' n pp nest : Nat} (hok : mOkI mid pc i len [k, y', n, pp, nest] = true) (hi : (∃ idx, i = .invokevirtual idx) ∨ (∃ idx, i = .invokestatic idx) ∨ ∃ idx, i = .invokespecial idx) :
    (k = 0 ∧ ∃ idx, i = .invokevirtual idx) ∨ (k = 1 ∧ ∃ idx, i = .invokestatic idx) ∨ (k = 2 ∧ ∃ idx, i = .invokespecial idx) ∨ (k = 3 ∧ ∃ idx, i = .invokespecial idx) ∨ (k = 4 ∧ ∃ idx, i = .invokestatic idx) := by
  unfold mOkI at hok
  rw [Bool.and_eq_true] at hok
  have hok := hok.2
  rcases hi with ⟨idx, rfl⟩ | ⟨idx, rfl⟩ | ⟨idx, rfl⟩
  · match k, hok with
    | 0, _ => exact Or.inl ⟨rfl, _, rfl⟩
    | k + 1, hok => cases hok
  · match k, hok with
    | 0, hok => cases hok
    | 1, _ => exact Or.inr (Or.inl ⟨rfl, _, rfl⟩)
    | 2, hok => cases hok
    | 3, hok => cases hok
    | 4, _ => exact Or.inr (Or.inr (Or.inr (Or.inr ⟨rfl, _, rfl⟩)))
    | k + 5, hok => cases hok
  · match k, hok with
    | 0, hok => cases hok
    | 1, hok => cases hok
    | 2, _ => exact Or.inr (Or.inr (Or.inl ⟨rfl, _, rfl⟩))
    | 3, _ => exact Or.inr (Or.inr (Or.inr (Or.inl ⟨rfl, _, rfl⟩)))
    | k + 4, hok => cases hok
theorem mInv_sim (F : mFix p s m args meth c cv A mid X) (h0 : mAt s D cv A mid c0 s0 n0 ad0 X lo st h H locs cells slots ls ad ca tys) (hC : mCon l d) (hchk : ∀ k, k < mNI → mChk k = true) (hRf : d + 9 ≤ R.frames) (hRl : 40 * d + 340 ≤ R.locals)
    {i : Instr} {r : List Nat} (hi : (∃ idx, i = .invokevirtual idx) ∨ (∃ idx, i = .invokestatic idx) ∨ ∃ idx, i = .invokespecial idx) (hok : mOkI mid pc i len r = true) (hy : mInv (mCall d) mid pc len r lo st h = some y) (hkt : mKt p l e R s m args below meth c Q D cv A mid c0 s0 n0 ad0 X y) (hro : mRoomOk R c0 s0 y) (hend : ∀ o', y = .inr o' → mEndK p l e R s m args below meth c Q D cv A mid c0 s0 n0 ad0 X o') :
    W p l e R s m args below meth c H locs cells slots Q (F0 m pc ls (st.map (mF cv ad))) := by
  unfold mInv at hy
  split at hy
  · rename_i k y' n pp nest
    have hcase := mOkI_inv hok hi
    have hth : ∀ o', y = .inr o' → mThrK p l e R s m args below meth c Q D cv A mid c0 s0 n0 ad0 X o' := fun o' z => (hend o' z).2.2
    rcases hcase with ⟨rfl, hi⟩ | ⟨rfl, hi⟩ | ⟨rfl, hi⟩ | ⟨rfl, idx, rfl⟩ | ⟨rfl, idx, rfl⟩
    · rw [if_neg (by decide), if_neg (by decide), if_neg (by decide)] at hy
      split at hy
      · rename_i hr
        rw [if_pos rfl] at hy
        exact mCal_sim F h0 hC hchk hRf hRl hok (Or.inl ⟨rfl, rfl, hr, hi⟩) (fun z => ⟨z, by decide⟩) hy hkt hro hth
      · cases hy
    · rw [if_neg (by decide), if_neg (by decide), if_pos rfl] at hy
      exact mCal_sim F h0 hC hchk hRf hRl hok (Or.inr (Or.inl ⟨rfl, rfl, hi⟩)) (fun z => ⟨z, by decide⟩) hy hkt hro hth
    · rw [if_neg (by decide), if_neg (by decide), if_neg (by decide)] at hy
      split at hy
      · rename_i hr
        rw [if_neg (by decide)] at hy
        exact mCal_sim F h0 hC hchk hRf hRl hok (Or.inr (Or.inr ⟨rfl, rfl, hr, hi⟩)) (fun z => absurd z (by decide)) hy hkt hro hth
      · cases hy
    · rw [if_pos rfl] at hy
      split at hy
      · split at hy
        · rename_i hc
          exact mObj_sim F h0 hRf hRl rfl hc.2 hc.1 hok hy hkt
        · cases hy
      · cases hy
    · rw [if_neg (by decide), if_pos rfl] at hy
      split at hy
      · split at hy
        · rename_i hc
          exact mCpy_sim F h0 hRf hRl rfl hc hok hy hkt
        · cases hy
      · cases hy
  · cases hy
theorem mHp_sim (F : mFix p s m args meth c cv A mid X) (h0 : mAt s D cv A mid c0 s0 n0 ad0 X lo st h H locs cells slots ls ad ca tys) (hC : mCon l d) (hchk : ∀ k, k < mNI → mChk k = true) (hRf : d + 9 ≤ R.frames) (hRl : 40 * d + 340 ≤ R.locals)
    {i : Instr} {r : List Nat} (hok : mOkI mid pc i len r = true) (hy : mHp (mCall d) mid pc i len r lo st h = some y) (hkt : mKt p l e R s m args below meth c Q D cv A mid c0 s0 n0 ad0 X y) (hro : mRoomOk R c0 s0 y) (hend : ∀ o', y = .inr o' → mEndK p l e R s m args below meth c Q D cv A mid c0 s0 n0 ad0 X o') :
    W p l e R s m args below meth c H locs cells slots Q (F0 m pc ls (st.map (mF cv ad))) := by
  have F' := F
  obtain ⟨hx, hb, hml, hown, hts, hlk, hrt, hnm, hA, hKF, hmid, htab⟩ := F'
  have h0' := h0
  obtain ⟨hK, hP, hD, hS, hT, hl, hlen, hiv, hvl, hvs, hX, hcc, hss, hnn⟩ := h0'
  obtain ⟨hd, hln⟩ := mOk_dec hok
  have rtn : ∀ j : Instr, i = j → mLn j = 1 → mRtn mid j st h = some y → W p l e R s m args below meth c H locs cells slots Q (F0 m pc ls (st.map (mF cv ad))) := by
    intro j ej hj hr
    subst ej
    have hln1 : len = 1 := mLn_ok hln hj (by decide)
    subst hln1
    have hyr : ∃ o', y = .inr o' := by
      unfold mRtn at hr
      split at hr <;> (try split at hr) <;> first | (cases hr; done) | (cases hr; exact ⟨_, rfl⟩)
    obtain ⟨o', rfl⟩ := hyr
    exact (hend o' rfl).1 i pc lo st h H locs cells slots ls ad ca tys hd hr h0
  unfold mHp at hy
  split at hy
  · split at hy
    · rename_i x hg
      exact mInc_sim F h0 hg hok hy hkt
    · cases hy
  · rename_i off
    cases ht : mTo pc off with
    | none => rw [ht] at hy; cases hy
    | some t =>
      rw [ht] at hy
      have hln3 : len = 3 := mLn_ok hln rfl (by decide)
      subst hln3
      exact lv_goto hx hb hd (mTo_spec ht) (mAt.go h0 hy hvs hkt)
  · split at hy
    · exact mIf_sim F h0 rfl hok hy hkt
    · cases hy
  · split at hy
    · exact mIcmp_sim F h0 rfl hok hy hkt
    · cases hy
  · split at hy
    · exact mSw_sim F h0 rfl hok hy hkt
    · cases hy
  · split at hy
    · exact mSw_sim F h0 rfl hok hy hkt
    · cases hy
  · exact mGetf_sim F h0 hok hy hkt
  · exact mPutf_sim F h0 hok hy hkt
  · -- getstatic
    split at hy
    · rename_i j pp
      have hln3 : len = 3 := mLn_ok hln rfl (by decide)
      subst hln3
      cases hj : mStat[j]? with
      | none => rw [hj] at hy; cases hy
      | some q =>
        rw [hj] at hy
        have hq := List.mem_of_getElem? hj
        have hgo := mAt.go h0 hy (mSk.cons (fun r hr => Nat.lt_of_lt_of_le (mStat_small q hq r hr) hiv.1) hvs) hkt
        rw [List.map_cons, mF_const (ad' := ad) (ad := fun a => a) (mStat_small q hq)] at hgo
        unfold mOkI at hok
        rw [Bool.and_eq_true, Bool.and_eq_true] at hok
        have hok2 := hok.2
        dsimp only at hok2
        rw [hj] at hok2
        exact va_gets hx hb (hKF.2.2.2.2.1 q hq) hS hown (hts _ (mW_in hok2)) (fun _ z => z) hd hgo
    · cases hy
  · -- ldc
    have hln2 : len = 2 := mLn_ok hln rfl (by decide)
    subst hln2
    unfold mOkI at hok
    rw [Bool.and_eq_true, Bool.and_eq_true] at hok
    have hok2 := hok.2
    split at hy
    · exact lv_ldc hx hb hown (hts _ (mW_in hok2)) hd (mAt.go h0 hy (mSk.cons mVk.int hvs) hkt)
    · split at hy
      · rename_i cc _ hcc9
        have hgo := mAt.go h0 hy (mSk.cons (fun r hr => by cases hr; exact Nat.lt_of_lt_of_le hcc9 hiv.1) hvs) hkt
        obtain ⟨q, q1, q2⟩ := List.any_eq_true.mp hok2
        simp only [Bool.and_eq_true, decide_eq_true_eq] at q2
        obtain ⟨⟨q2, q3⟩, q4⟩ := q2
        obtain ⟨t, e1, e2, e3, e4, e5⟩ := hKF.2.2.2.1 q q1
        rw [q2] at e1
        rw [q3, q4] at e5
        rw [List.map_cons, mF_lo hcc9, e1] at hgo
        exact va_ldcS hx hb hown e5 hd hgo
      · cases hy
    · cases hy
  · -- ldc_w
    have hln3 : len = 3 := mLn_ok hln rfl (by decide)
    subst hln3
    unfold mOkI at hok
    rw [Bool.and_eq_true, Bool.and_eq_true] at hok
    have hok2 := hok.2
    split at hy
    · exact lv_ldcw hx hb hown (hts _ (mW_in hok2)) hd (mAt.go h0 hy (mSk.cons mVk.int hvs) hkt)
    · cases hy
  · -- ldc2_w
    have hln3 : len = 3 := mLn_ok hln rfl (by decide)
    subst hln3
    unfold mOkI at hok
    rw [Bool.and_eq_true, Bool.and_eq_true] at hok
    have hok2 := hok.2
    split at hy
    · exact lv_ldc2 hx hb hown (hts _ (mW_in hok2)) hd (mAt.go h0 hy (mSk.cons mVk.long hvs) hkt)
    · cases hy
  · exact mLen_sim F h0 hok hy hkt
  · exact mAld_sim F h0 hok hy hkt
  · exact mAld_sim F h0 hok hy hkt
  · exact mAld_sim F h0 hok hy hkt
  · exact mAld_sim F h0 hok hy hkt
  · exact mAst_sim F h0 hok hy hkt
  · exact mAst_sim F h0 hok hy hkt
  · exact mNewa_sim F h0 hok hy hkt
  · -- new
    split at hy
    · exact mNew_sim F h0 hok hy hkt
    · split at hy
      · rename_i hsum
        have hln3 : len = 3 := mLn_ok hln rfl (by decide)
        subst hln3
        cases hy
        exact (hend _ rfl).2.1 pc _ _ _ _ _ lo st h H locs cells slots ls ad ca tys hok hsum rfl h0
      · cases hy
    · cases hy
  · exact mInv_sim F h0 hC hchk hRf hRl (Or.inl ⟨_, rfl⟩) hok hy hkt hro hend
  · exact mInv_sim F h0 hC hchk hRf hRl (Or.inr (Or.inl ⟨_, rfl⟩)) hok hy hkt hro hend
  · exact mInv_sim F h0 hC hchk hRf hRl (Or.inr (Or.inr ⟨_, rfl⟩)) hok hy hkt hro hend
  all_goals first | (cases hy; done) | exact rtn _ rfl rfl hy
theorem mBody_sim (F : mFix p s m args meth c cv A mid X) (h0 : mAt s D cv A mid c0 s0 n0 ad0 X lo st h H locs cells slots ls ad ca tys) (hC : mCon l d) (hchk : ∀ k, k < mNI → mChk k = true) (hRf : d + 9 ≤ R.frames) (hRl : 40 * d + 340 ≤ R.locals)
    {i : Instr} {r : List Nat} (hok : mOkI mid pc i len r = true) (hy : mBody (mCall d) mid pc i len r lo st h = some y) (hkt : mKt p l e R s m args below meth c Q D cv A mid c0 s0 n0 ad0 X y) (hro : mRoomOk R c0 s0 y) (hend : ∀ o', y = .inr o' → mEndK p l e R s m args below meth c Q D cv A mid c0 s0 n0 ad0 X o') :
    W p l e R s m args below meth c H locs cells slots Q (F0 m pc ls (st.map (mF cv ad))) := by
  have F' := F
  obtain ⟨hx, hb, hml, hown, hts, hlk, hrt, hnm, hA, hKF, hmid, htab⟩ := F'
  have h0' := h0
  obtain ⟨hK, hP, hD, hS, hT, hl, hlen, hiv, hvl, hvs, hX, hcc, hss, hnn⟩ := h0'
  obtain ⟨hd, hln⟩ := mOk_dec hok
  have hnz : ∀ k, mLn i = k → k ≠ 0 → mLn i = len := fun k h1 h2 => h1.trans (mLn_ok hln h1 h2).symm
  unfold mBody at hy
  split at hy
  · rename_i n so hld
    cases hg : mGet lo n with
    | none => rw [hg] at hy; cases hy
    | some v =>
      rw [hg] at hy
      have hy' : (if mSort v = so then mGo (pc + len) lo (v :: st) h else none) = some y := hy
      split at hy'
      · rename_i hso
        have hl9 : mLn i = len := by
          have hld' := hld
          unfold mLd at hld'
          split at hld' <;> first | (cases hld'; done) | exact hnz 1 rfl (by decide) | exact hnz 2 rfl (by decide) | exact hnz 3 rfl (by decide)
        exact mSim_ld hx hb hKF.1 hd hl9 hld hg hso hl (mAt.go h0 hy' (mSk.cons (hvl.get hg) hvs) hkt)
      · cases hy'
  · split at hy
    · rename_i n so hst
      split at hy
      · rename_i v st'
        split at hy
        · rename_i hso
          cases hp : mPut lo n v with
          | none => rw [hp] at hy; cases hy
          | some lo' =>
            rw [hp] at hy
            have hl9 : mLn i = len := by
              have hst' := hst
              unfold mSt at hst'
              split at hst' <;> first | (cases hst'; done) | exact hnz 1 rfl (by decide) | exact hnz 2 rfl (by decide) | exact hnz 3 rfl (by decide)
            have hlen' : lo'.length = lo.length := by
              unfold mPut at hp
              split at hp
              · split at hp
                · cases hp; rw [List.length_set, List.length_set]
                · cases hp
              · split at hp
                · cases hp; rw [List.length_set]
                · cases hp
            cases hy
            exact mSim_st hx hb hKF.1 hd hl9 hst hso hp hl hlen (fun ls' hls' => hkt.2.2 _ _ _ _ _ _ _ _ ⟨hK, hP, hD, hS, hT, hls', hlen'.trans hlen, hiv, hvl.put hvs.hd hp, hvs.tl, hX, hcc, hss, hnn⟩)
        · cases hy
      · cases hy
    · split at hy
      · rename_i st' hs
        have hl9 : mLn i = len := by
          have hs' := hs
          unfold mStk at hs'
          split at hs' <;> first | (cases hs'; done) | exact hnz 1 rfl (by decide) | exact hnz 2 rfl (by decide) | exact hnz 3 rfl (by decide)
        exact mSim_stk hx hb hKF.1 hd hl9 hs (mAt.go h0 hy (fun r hr => hvs r (mStk_ref hs r hr)) hkt)
      · exact mHp_sim F h0 hC hchk hRf hRl hok hy hkt hro hend
theorem mRun_sim (F : mFix p s m args meth c cv A mid X) (hC : mCon l d) (hchk : ∀ k, k < mNI → mChk k = true) (hRf : d + 9 ≤ R.frames) (hRl : 40 * d + 340 ≤ R.locals) {o : mO} (hrc : mC o.2 - c0 ≤ R.cells) (hrs : mS o.2 - s0 ≤ R.slots) (hend : mEndK p l e R s m args below meth c Q D cv A mid c0 s0 n0 ad0 X o) :
    ∀ (n pc : Nat) (lo : mLo) (st : List Value) (h : mH) (H : Heap) (locs : List Loc) (cells slots : Nat) (ls : Array Slot) (ad : Nat → Nat) (ca : Nat → ClassId) (tys : List (ClassId × FieldType)), mRun (mCall d) mid n pc lo st h = some o → mAt s D cv A mid c0 s0 n0 ad0 X lo st h H locs cells slots ls ad ca tys →
      W p l e R s m args below meth c H locs cells slots Q (F0 m pc ls (st.map (mF cv ad))) := by
  intro n
  induction n with
  | zero => intro pc lo st h H locs cells slots ls ad ca tys e; cases e
  | succ n ih =>
    intro pc lo st h H locs cells slots ls ad ca tys e h0
    simp only [mRun] at e
    cases hs : mStep (mCall d) mid pc lo st h with
    | none => rw [hs] at e; cases e
    | some y =>
      rw [hs] at e
      have hs' := hs
      unfold mStep at hs'
      split at hs'
      · cases hs'
      · rename_i i len r hi
        have hok := (mProgOk hchk mid F.2.2.2.2.2.2.2.2.2.2.1).2 _ _ _ _ hi
        cases y with
        | inr o' =>
          cases e
          exact mBody_sim F h0 hC hchk hRf hRl hok hs' trivial ⟨hrc, hrs⟩ (fun o' z => by cases z; exact hend)
        | inl q =>
          have g1 := h0
          obtain ⟨-, -, -, -, -, -, -, hiv, hvl, hvs, -, -, -, -⟩ := g1
          have gy := mStep_good (mCall_good d) hs hiv hvl hvs
          obtain ⟨y1, y2, y3, y4⟩ := gy
          have gr := mRun_good (mCall_good d) n _ _ _ _ e y1 y2 y3
          have r1 : mC q.2.2.2 - c0 ≤ R.cells := by have := gr.2.2.1; omega
          have r2 : mS q.2.2.2 - s0 ≤ R.slots := by have := gr.2.2.2.1; omega
          exact mBody_sim F h0 hC hchk hRf hRl hok hs' ⟨r1, r2, fun H locs cells slots ls ad ca tys hat => ih _ _ _ _ H locs cells slots ls ad ca tys e hat⟩ ⟨r1, r2⟩ (fun o' z => by cases z)
end MSIM8
