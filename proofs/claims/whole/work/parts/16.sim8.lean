/-! A WHOLE METHOD OF THE SMALL MACHINE, OVER THE MACHINE: its contract -/
def mXw_0 : List Cond := Cond.classLink "MuseumGuide" 102 "java/lang/IllegalStateException" :: Cond.initialized "java/lang/IllegalStateException" :: vx_atS "MuseumGuide" 106 "java/lang/IllegalStateException" ["java/lang/RuntimeException", "java/lang/Exception"]
theorem mXp_0 : mXw_0 = [1146, 115, 112, 1037, 1046, 1050, 1053, 1055, 1038, 1039, 133, 134, 1040, 1045, 1051, 1071, 1027, 1072, 1029, 1073, 1031, 1041, 1043, 1033, 1067, 1068, 1070, 1033, 1157, 1158, 1159, 1061, 1019, 1061, 1062, 1063, 1064, 1021, 1064, 1065, 1066, 1067, 1023, 1156, 1147, 1148, 1149, 1049, 1150, 1151, 1152, 1153, 1036, 1035, 1154].filterMap (fun i => lw_tbl[i]?) := by decide +kernel
theorem mXg_0 : mXw_0.all (fun w => vx_ot w && (goodWord w || mFace w)) = true := by decide +kernel
def mXw_1 : List Cond := Cond.classLink "MuseumGuide" 205 "java/lang/IllegalArgumentException" :: Cond.initialized "java/lang/IllegalArgumentException" :: vx_atS "MuseumGuide" 209 "java/lang/IllegalArgumentException" ["java/lang/RuntimeException", "java/lang/Exception"]
theorem mXp_1 : mXw_1 = [1178, 116, 112, 1037, 1046, 1050, 1053, 1055, 1038, 1039, 133, 134, 1040, 1045, 1051, 1071, 1027, 1072, 1029, 1073, 1031, 1041, 1043, 1033, 1067, 1068, 1070, 1033, 1189, 1190, 1191, 1061, 1019, 1061, 1062, 1063, 1064, 1021, 1064, 1065, 1066, 1067, 1023, 1188, 1179, 1180, 1181, 1048, 1182, 1183, 1184, 1185, 1036, 1035, 1186].filterMap (fun i => lw_tbl[i]?) := by decide +kernel
theorem mXg_1 : mXw_1.all (fun w => vx_ot w && (goodWord w || mFace w)) = true := by decide +kernel
def mXw_2 : List Cond := Cond.classLink "MuseumGuide" 176 "java/lang/IndexOutOfBoundsException" :: Cond.initialized "java/lang/IndexOutOfBoundsException" :: vx_atS "MuseumGuide" 180 "java/lang/IndexOutOfBoundsException" ["java/lang/RuntimeException", "java/lang/Exception"]
theorem mXp_2 : mXw_2 = [1015, 125, 112, 1037, 1046, 1050, 1053, 1055, 1038, 1039, 133, 134, 1040, 1045, 1051, 1071, 1027, 1072, 1029, 1073, 1031, 1041, 1043, 1033, 1067, 1068, 1070, 1033, 1058, 1059, 1060, 1061, 1019, 1061, 1062, 1063, 1064, 1021, 1064, 1065, 1066, 1067, 1023, 1057, 1016, 1017, 1024, 1025, 1026, 1028, 1030, 1032, 1036, 1035, 1034].filterMap (fun i => lw_tbl[i]?) := by decide +kernel
theorem mXg_2 : mXw_2.all (fun w => vx_ot w && (goodWord w || mFace w)) = true := by decide +kernel
theorem mXw_ok {W : List Cond} (ps : List Nat) (h1 : W = ps.filterMap (fun i => lw_tbl[i]?)) (h2 : W.all (fun w => vx_ot w && (goodWord w || mFace w)) = true) : ∀ w ∈ W, w ∈ lw_tbl ∧ vx_ot w = true ∧ (goodWord w = true ∨ mFace w = true) := by
  intro w hw
  have h3 := List.all_eq_true.mp h2 w hw
  rw [Bool.and_eq_true, Bool.or_eq_true] at h3
  rw [h1] at hw
  obtain ⟨i, -, hi⟩ := List.mem_filterMap.mp hw
  exact ⟨List.mem_of_getElem? hi, h3⟩
theorem mXs_ok {idx e ii : Nat} {E : String} (h : mXs.contains (idx, e, ii) = true) (hE : mExc[e]? = some E) : ∀ w ∈ Cond.classLink "MuseumGuide" idx E :: Cond.initialized E :: vx_atS "MuseumGuide" ii E ["java/lang/RuntimeException", "java/lang/Exception"], w ∈ lw_tbl ∧ vx_ot w = true ∧ (goodWord w = true ∨ mFace w = true) := by
  have h1 : (idx, e, ii) ∈ mXs := by simpa using h
  unfold mXs at h1
  simp only [List.mem_cons, Prod.mk.injEq, List.not_mem_nil, or_false] at h1
  rcases h1 with ⟨rfl, rfl, rfl⟩ | ⟨rfl, rfl, rfl⟩ | ⟨rfl, rfl, rfl⟩
  · cases hE; exact mXw_ok _ mXp_0 mXg_0
  · cases hE; exact mXw_ok _ mXp_1 mXg_1
  · cases hE; exact mXw_ok _ mXp_2 mXg_2
section MSIM8
variable {p : Program} {l : Launch} {e : Env} {R : Room} {s : State} {m : MethodId} {args : Array Value} {below : List Frame} {meth : Method} {c : Code} {H : Heap} {locs : List Loc} {cells slots : Nat} {Q : State → Prop} {ls : Array Slot} {cv : Nat → Value} {ad : Nat → Nat} {ca : Nat → ClassId} {tys : List (ClassId × FieldType)}
variable {D : va_G} {A : Nat → Prop} {mid c0 s0 n0 d : Nat} {ad0 : Nat → Nat} {X : Nat × (Nat → Int32)} {h : mH} {lo : mLo} {st : List Value} {y : mY} {pc len : Nat}
/-- what is owed at the body's ends: a return; an exception of its own; a callee's -/
def mEndK (p : Program) (l : Launch) (e : Env) (R : Room) (s : State) (m : MethodId) (args : Array Value) (below : List Frame) (meth : Method) (c : Code) (Q : State → Prop) (D : va_G) (cv : Nat → Value) (A : Nat → Prop) (mid c0 s0 n0 : Nat) (ad0 : Nat → Nat) (X : Nat × (Nat → Int32)) (o : mO) : Prop :=
  (∀ (i : Instr) (pc : Nat) (lo : mLo) (st : List Value) (h : mH) (H : Heap) (locs : List Loc) (cells slots : Nat) (ls : Array Slot) (ad : Nat → Nat) (ca : Nat → ClassId) (tys : List (ClassId × FieldType)), decode (mBy mid) pc = .ok (i, 1) → mRtn mid i st h = some (.inr o) → mAt s D cv A mid c0 s0 n0 ad0 X lo st h H locs cells slots ls ad ca tys → W p l e R s m args below meth c H locs cells slots Q (F0 m pc ls (st.map (mF cv ad)))) ∧
  (∀ (pc idx x si ii w : Nat) (lo : mLo) (st : List Value) (h : mH) (H : Heap) (locs : List Loc) (cells slots : Nat) (ls : Array Slot) (ad : Nat → Nat) (ca : Nat → ClassId) (tys : List (ClassId × FieldType)), mOkI mid pc (.new idx) 3 [1, x, si, ii, w] = true → mSum st ≤ 8 → o = (.inr x, mUse h 1 6) → mAt s D cv A mid c0 s0 n0 ad0 X lo st h H locs cells slots ls ad ca tys → W p l e R s m args below meth c H locs cells slots Q (F0 m pc ls (st.map (mF cv ad)))) ∧
  mThrK p l e R s m args below meth c Q D cv A mid c0 s0 n0 ad0 X o
theorem mHp_sim (F : mFix p s m args meth c cv A mid X) (h0 : mAt s D cv A mid c0 s0 n0 ad0 X lo st h H locs cells slots ls ad ca tys) (hC : mCon l d) (hchk : ∀ k, k < mNI → mChk k = true) (hRf : d + 9 ≤ R.frames) (hRl : 40 * d + 340 ≤ R.locals)
    {i : Instr} {r : List Nat} (hok : mOkI mid pc i len r = true) (hy : mHp (mCall d) mid pc i len r lo st h = some y) (hkt : mKt p l e R s m args below meth c Q D cv A mid c0 s0 n0 ad0 X y) (hro : mRoomOk R c0 s0 y) (hend : ∀ o', y = .inr o' → mEndK p l e R s m args below meth c Q D cv A mid c0 s0 n0 ad0 X o') :
    W p l e R s m args below meth c H locs cells slots Q (F0 m pc ls (st.map (mF cv ad))) := by
  have F' := F
  obtain ⟨hx, hb, hml, hown, hts, hlk, hrt, hnm, hA, hKF, hmid, htab⟩ := F'
  have h0' := h0
  obtain ⟨hK, hP, hD, hS, hT, hl, hlen, hiv, hvl, hvs, hX, hcc, hss, hnn⟩ := h0'
  obtain ⟨hd, hln⟩ := mOk_dec hok
  have rtn : ∀ j : Instr, i = j → mLn j = 1 → mRtn mid j st h = some y → W p l e R s m args below meth c H locs cells slots Q (F0 m pc ls (st.map (mF cv ad))) := by
    intro j ej hj hr
    subst ej
    have hln1 : len = 1 := mLn_ok hln hj (by decide)
    subst hln1
    have hyr : ∃ o', y = .inr o' := by
      unfold mRtn at hr
      split at hr <;> (try split at hr) <;> first | (cases hr; done) | (cases hr; exact ⟨_, rfl⟩)
    obtain ⟨o', rfl⟩ := hyr
    exact (hend o' rfl).1 i pc lo st h H locs cells slots ls ad ca tys hd hr h0
  unfold mHp at hy
  split at hy
  · split at hy
    · rename_i x hg
      exact mInc_sim F h0 hg hok hy hkt
    · cases hy
  · rename_i off
    cases ht : mTo pc off with
    | none => rw [ht] at hy; cases hy
    | some t =>
      rw [ht] at hy
      have hln3 : len = 3 := mLn_ok hln rfl (by decide)
      subst hln3
      exact lv_goto hx hb hd (mTo_spec ht) (mAt.go h0 hy hvs hkt)
  · split at hy
    · exact mIf_sim F h0 rfl hok hy hkt
    · cases hy
  · split at hy
    · exact mIcmp_sim F h0 rfl hok hy hkt
    · cases hy
  · split at hy
    · exact mSw_sim F h0 rfl hok hy hkt
    · cases hy
  · split at hy
    · exact mSw_sim F h0 rfl hok hy hkt
    · cases hy
  · exact mGetf_sim F h0 hok hy hkt
  · exact mPutf_sim F h0 hok hy hkt
  · -- getstatic
    split at hy
    · rename_i j pp
      have hln3 : len = 3 := mLn_ok hln rfl (by decide)
      subst hln3
      cases hj : mStat[j]? with
      | none => rw [hj] at hy; cases hy
      | some q =>
        rw [hj] at hy
        have hq := List.mem_of_getElem? hj
        have hgo := mAt.go h0 hy (mSk.cons (fun r hr => Nat.lt_of_lt_of_le (mStat_small q hq r hr) hiv.1) hvs) hkt
        rw [List.map_cons, mF_const (ad' := ad) (ad := fun a => a) (mStat_small q hq)] at hgo
        unfold mOkI at hok
        rw [Bool.and_eq_true, Bool.and_eq_true] at hok
        have hok2 := hok.2
        dsimp only at hok2
        rw [hj] at hok2
        exact va_gets hx hb (hKF.2.2.2.2.1 q hq) hS hown (hts _ (mW_in hok2)) (fun _ z => z) hd hgo
    · cases hy
  · -- ldc
    have hln2 : len = 2 := mLn_ok hln rfl (by decide)
    subst hln2
    unfold mOkI at hok
    rw [Bool.and_eq_true, Bool.and_eq_true] at hok
    have hok2 := hok.2
    split at hy
    · exact lv_ldc hx hb hown (hts _ (mW_in hok2)) hd (mAt.go h0 hy (mSk.cons mVk.int hvs) hkt)
    · split at hy
      · rename_i cc _ hcc9
        have hgo := mAt.go h0 hy (mSk.cons (fun r hr => by cases hr; exact Nat.lt_of_lt_of_le hcc9 hiv.1) hvs) hkt
        obtain ⟨q, q1, q2⟩ := List.any_eq_true.mp hok2
        simp only [Bool.and_eq_true, decide_eq_true_eq] at q2
        obtain ⟨⟨q2, q3⟩, q4⟩ := q2
        obtain ⟨t, e1, e2, e3, e4, e5⟩ := hKF.2.2.2.1 q q1
        rw [q2] at e1
        rw [q3, q4] at e5
        rw [List.map_cons, mF_lo hcc9, e1] at hgo
        exact va_ldcS hx hb hown e5 hd hgo
      · cases hy
    · cases hy
  · -- ldc_w
    have hln3 : len = 3 := mLn_ok hln rfl (by decide)
    subst hln3
    unfold mOkI at hok
    rw [Bool.and_eq_true, Bool.and_eq_true] at hok
    have hok2 := hok.2
    split at hy
    · exact lv_ldcw hx hb hown (hts _ (mW_in hok2)) hd (mAt.go h0 hy (mSk.cons mVk.int hvs) hkt)
    · cases hy
  · -- ldc2_w
    have hln3 : len = 3 := mLn_ok hln rfl (by decide)
    subst hln3
    unfold mOkI at hok
    rw [Bool.and_eq_true, Bool.and_eq_true] at hok
    have hok2 := hok.2
    split at hy
    · exact lv_ldc2 hx hb hown (hts _ (mW_in hok2)) hd (mAt.go h0 hy (mSk.cons mVk.long hvs) hkt)
    · cases hy
  · exact mLen_sim F h0 hok hy hkt
  · exact mAld_sim F h0 hok hy hkt
  · exact mAld_sim F h0 hok hy hkt
  · exact mAld_sim F h0 hok hy hkt
  · exact mAld_sim F h0 hok hy hkt
  · exact mAst_sim F h0 hok hy hkt
  · exact mAst_sim F h0 hok hy hkt
  · exact mNewa_sim F h0 hok hy hkt
  · -- new
    split at hy
    · exact mNew_sim F h0 hok hy hkt
    · split at hy
      · rename_i hsum
        have hln3 : len = 3 := mLn_ok hln rfl (by decide)
        subst hln3
        cases hy
        exact (hend _ rfl).2.1 pc _ _ _ _ _ lo st h H locs cells slots ls ad ca tys hok hsum rfl h0
      · cases hy
    · cases hy
  all_goals first | (cases hy; done) | exact rtn _ rfl rfl hy | skip
  all_goals sorry
end MSIM8
