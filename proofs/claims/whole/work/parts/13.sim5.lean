/-! CALLS OF THE SMALL MACHINE, OVER THE MACHINE -/
def mRm (d mc ms : Nat) : Room := { frames := d + 8, cells := mc, slots := ms, locals := 40 * d + 300 }
def mWl (mid : Nat) : List Cond := mCw mid :: mWall
/-- a method's start, as the small machine has it -/
def mPre (D : va_G) (cv : Nat → Value) (ad : Nat → Nat) (ca : Nat → ClassId) (tys : List (ClassId × FieldType)) (sz : Nat) (h : mH) (U : State) : Prop :=
  U.heap.size = sz ∧ va_P D vwCl (mWs cv ad ca h) U.heap ∧ va_K D vwCl tys U ∧ va_D (fun _ => True) (mWs cv ad ca h) ∧ mTy h ca tys ∧ mKF cv (va_A (mWs cv ad ca h) sz) (mX h) U U.heap
/-- the world behind a method -/
def mBh (D : va_G) (cv : Nat → Value) (ad : Nat → Nat) (ca : Nat → ClassId) (sz : Nat) (h : mH) (o : mO) (ad' : Nat → Nat) (ca' : Nat → ClassId) (tys' : List (ClassId × FieldType)) (t : State) : Prop :=
  (∀ r, r < mN h → ad' r = ad r) ∧ va_P D vwCl (mWs cv ad' ca' o.2) t.heap ∧ va_K D vwCl tys' t ∧ va_D (va_A (mWs cv ad ca h) sz) (mWs cv ad' ca' o.2) ∧ mTy o.2 ca' tys'
def mPo (D : va_G) (cv : Nat → Value) (ad : Nat → Nat) (ca : Nat → ClassId) (sz : Nat) (h : mH) (o : mO) : Array Value → State → Outcome → State → Prop := fun _ st oc t =>
  (∃ (v : Option Value) (ad' : Nat → Nat) (ca' : Nat → ClassId) (tys' : List (ClassId × FieldType)), o.1 = .inl v ∧ oc = .returned (v.map (mF cv ad')) ∧ mBh D cv ad ca sz h o ad' ca' tys' t) ∧ va_F (va_A (mWs cv ad ca h) sz) st t
def mPx (D : va_G) (cv : Nat → Value) (ad : Nat → Nat) (ca : Nat → ClassId) (sz : Nat) (h : mH) (o : mO) : String → State → State → Prop := fun E st t =>
  (∃ (x : Nat) (ad' : Nat → Nat) (ca' : Nat → ClassId) (tys' : List (ClassId × FieldType)), o.1 = .inr x ∧ mExc[x]? = some E ∧ mBh D cv ad ca sz h o ad' ca' tys' t) ∧ va_F (va_A (mWs cv ad ca h) sz) st t
/-- the contracts of all methods, of a depth -/
def mCon (l : Launch) (d : Nat) : Prop := ∀ (mid : Nat) (av : List Value) (h : mH) (o : mO) (D : va_G) (cv : Nat → Value) (ad : Nat → Nat) (ca : Nat → ClassId) (tys : List (ClassId × FieldType)) (sz : Nat),
  mCall d mid av h = some o → mIv h → mSk (mN h) av →
  vx_Met l (mNm mid) (mWl mid) (mRm d (mC o.2 - mC h) (mS o.2 - mS h)) (va_Pc (av.map (mF cv ad)) (mPre D cv ad ca tys sz h)) (mPo D cv ad ca sz h o) (mPx D cv ad ca sz h o) (mC o.2 - mC h) (mS o.2 - mS h) (va_A (mWs cv ad ca h) sz)
theorem vx_toMet {l : Launch} {y : MethodName} {ws : List Cond} {rm : Room} {Pc : Array Value → State → Prop} {Qc : Array Value → State → Outcome → State → Prop} {XC : String → State → State → Prop} {mc ms : Nat} {free : Addr → Prop} (h : vx_Met l y ws rm Pc Qc XC mc ms free) (hno : ∀ E st t, ¬ XC E st t) : Met l y ws rm Pc Qc mc ms free := by
  intro p e ha hc hk s m args below hf happ hP hK
  obtain ⟨n, o, h1, h2, h3, h4⟩ := h p e ha hc hk s m args below hf happ hP hK
  refine ⟨n, o, h1, h2, h3, ?_⟩
  rcases h4 with h4 | ⟨q, -, E, ce, L, hx, -⟩
  · exact h4
  · exact absurd hx (hno _ _ _)
theorem mHand_spec {pc x t : Nat} : ∀ {l : List (List Nat)}, mHand pc x l = some t → ∃ (pre : List (List Nat)) (a b ct p : Nat) (suf : List (List Nat)), l = pre ++ [a, b, t, x, ct, p] :: suf ∧ a ≤ pc ∧ pc < b ∧ ∀ z ∈ pre, ∃ a' b' t' e' ct' p' : Nat, z = [a', b', t', e', ct', p'] ∧ ¬ (a' ≤ pc ∧ pc < b' ∧ e' = x) := by
  intro l
  induction l with
  | nil => intro h; cases h
  | cons z l ih =>
    intro h
    unfold mHand at h
    split at h
    · cases h
    · rename_i heq
      cases heq
      split at h
      · rename_i hc
        cases h
        obtain ⟨c1, c2, c3⟩ := hc
        subst c3
        exact ⟨[], _, _, _, _, _, rfl, c1, c2, fun z hz => by cases hz⟩
      · rename_i hc
        obtain ⟨pre, a', b', ct', p', suf, e1, e2, e3, e4⟩ := ih h
        refine ⟨_ :: pre, a', b', ct', p', suf, by rw [e1]; rfl, e2, e3, fun z hz => ?_⟩
        rcases List.mem_cons.mp hz with e5 | e5
        · exact ⟨_, _, _, _, _, _, e5, hc⟩
        · exact e4 z e5
    · cases h
set_option maxRecDepth 20000 in
theorem mArith {a d L : Nat} (h1 : a ≤ 20) (h2 : 40 * d + 340 ≤ L) : 8 + (a + 11) + (40 * d + 300) ≤ L := by omega
section MSIM5
variable {p : Program} {l : Launch} {e : Env} {R : Room} {s : State} {m : MethodId} {args : Array Value} {below : List Frame} {meth : Method} {c : Code} {H : Heap} {locs : List Loc} {cells slots : Nat} {Q : State → Prop} {ls : Array Slot} {cv : Nat → Value} {ad : Nat → Nat} {ca : Nat → ClassId} {tys : List (ClassId × FieldType)}
variable {D : va_G} {A : Nat → Prop} {mid c0 s0 n0 d : Nat} {ad0 : Nat → Nat} {X : Nat × (Nat → Int32)} {h : mH} {lo : mLo} {st : List Value} {y : mY} {pc len : Nat}
theorem mPre_blind {av : List Value} {sz : Nat} : FrameBlind (va_Pc av (mPre D cv ad ca tys sz h)) := by
  intro a U g mk q
  obtain ⟨q0, q1, q2, q3, q4, q5, q6⟩ := q
  exact ⟨q0, q1, q2, va_K.moved (u := U) (U := U.calling g mk a) (Vm.Alike.refl U.vm) q3, q4, q5, q6.to (U := U.calling g mk a) (State.WarmedH.refl U) (fun _ _ _ => rfl) (fun _ z => z)⟩
/-- the callee's start holds here -/
theorem mPre_here (F : mFix p s m args meth c cv A mid X) (h0 : mAt s D cv A mid c0 s0 n0 ad0 X lo st h H locs cells slots ls ad ca tys) {av : List Value} {U : State} (hU : U.heap = H) (hW : s.WarmedH U.vm) : va_Pc av (mPre D cv ad ca tys H.size h) av.toArray U := by
  obtain ⟨hx, hb, hml, hown, hts, hlk, hrt, hnm, hA, hKF, hmid, htab⟩ := F
  obtain ⟨hK, hP, hD, hS, hT, hl, hlen, hiv, hvl, hvs, hX, hcc, hss, hnn⟩ := h0
  refine ⟨rfl, by rw [hU], by rw [hU]; exact hP, va_K.moved hW.alike hK, hD.weaken (fun _ _ _ _ => trivial), hT, ?_⟩
  rw [hX, hU]
  refine hKF.to hW hS.2.1 (fun q hq => ?_)
  rcases hq with ⟨k, e, hk⟩ | hq
  · exact hD.2 k (q, e) hk
  · exact hA q (Nat.le_trans hS.1 hq)
theorem mRun_ofMet {mc ms : Nat} {g : JFrame} {rest : List Value} {Qa : State → Outcome → State → Prop} {XC : String → State → State → Prop} {free : Addr → Prop} (hr : va_Run p l e R s m args below meth c H locs cells slots mc ms g rest Qa free) : vx_Run p l e R s m args below meth c H locs cells slots mc ms g rest Qa XC free :=
  fun T hT X => Or.inl (hr T hT X)
/-- the run of a call of the program's own methods -/
theorem mCal_run (F : mFix p s m args meth c cv A mid X) (h0 : mAt s D cv A mid c0 s0 n0 ad0 X lo st h H locs cells slots ls ad ca tys) (hC : mCon l d) (hM : ∀ k, k < mNI → mOkM k = true) (hRf : d + 9 ≤ R.frames) (hRl : 40 * d + 340 ≤ R.locals)
    {i : Instr} {k y' n pp nest mm : Nat} (hok : mOkI mid pc i len [k, y', n, pp, nest] = true) {o : mO} (hk : (k = 0 ∧ mm = n + 1 ∧ mRcv y' h st[n]? = true ∧ ∃ idx, i = .invokevirtual idx) ∨ (k = 1 ∧ mm = n ∧ ∃ idx, i = .invokestatic idx) ∨ (k = 2 ∧ mm = n + 1 ∧ mRcv y' h st[n]? = true ∧ ∃ idx, i = .invokespecial idx))
    (hm : mm ≤ st.length) (hsum : mSum (st.drop mm) ≤ 8) (hc : mCall d y' (st.take mm).reverse h = some o) (hlf : (nest = 0 ∧ k ≠ 2) ∨ o.1.isLeft = true) (hrc : mC o.2 - c0 ≤ R.cells) (hrs : mS o.2 - s0 ≤ R.slots) :
    vx_Run p l e R s m args below meth c H locs cells slots (mC o.2 - mC h) (mS o.2 - mS h) (F0 m pc ls (st.map (mF cv ad))) ((st.drop mm).map (mF cv ad)) (mPo D cv ad ca H.size h o #[]) (mPx D cv ad ca H.size h o) (va_A (mWs cv ad ca h) H.size) := by
  have F' := F
  obtain ⟨hx, hb, hml, hown, hts, hlk, hrt, hnm, hA, hKF, hmid, htab⟩ := F'
  have h0' := h0
  obtain ⟨hK, hP, hD, hS, hT, hl, hlen, hiv, hvl, hvs, hX, hcc, hss, hnn⟩ := h0'
  obtain ⟨hd, hln⟩ := mOk_dec hok
  have hav : mSk (mN h) (st.take mm).reverse := fun r hr => hvs r (List.mem_of_mem_take (List.mem_reverse.mp hr))
  obtain ⟨go, gl⟩ := mCall_good d _ _ _ _ hc hiv hav
  have hMet := hC y' _ h o D cv ad ca tys H.size hc hiv hav
  have hMe : o.1.isLeft = true → Met l (mNm y') (mWl y') (mRm d (mC o.2 - mC h) (mS o.2 - mS h)) (va_Pc (((st.take mm).reverse).map (mF cv ad)) (mPre D cv ad ca tys H.size h)) (mPo D cv ad ca H.size h o) (mC o.2 - mC h) (mS o.2 - mS h) (va_A (mWs cv ad ca h) H.size) := by
    intro hL
    refine vx_toMet hMet (fun E st t hx => ?_)
    obtain ⟨⟨x, _, _, _, e1, -⟩, -⟩ := hx
    rw [e1] at hL
    cases hL
  have hcl : mCl (mNm mid).cls (match i with | .invokevirtual idx => idx | .invokestatic idx => idx | .invokespecial idx => idx | _ => 0) k y' n pp nest = true := by
    unfold mOkI at hok
    rw [Bool.and_eq_true, Bool.and_eq_true] at hok
    have hok := hok.2
    rcases hk with ⟨rfl, -, -, idx, rfl⟩ | ⟨rfl, -, idx, rfl⟩ | ⟨rfl, -, -, idx, rfl⟩ <;> exact hok
  unfold mCl at hcl
  simp only [Bool.and_eq_true] at hcl
  obtain ⟨⟨⟨⟨⟨w1, w2⟩, w3⟩, w4⟩, w5⟩, w6⟩ := hcl
  have w1 := of_decide_eq_true w1
  have w2 := of_decide_eq_true w2
  have w3 := of_decide_eq_true w3
  have hOk := hM y' (Nat.lt_succ_of_lt w1)
  unfold mOkM at hOk
  simp only [Bool.and_eq_true] at hOk
  obtain ⟨⟨⟨⟨v1, v2⟩, v3⟩, v4⟩, v5⟩ := hOk
  have v3 := of_decide_eq_true v3
  have v2 : mW (mNo y' 1) (mCw y') = true := by
    rw [Bool.or_eq_true] at v2
    rcases v2 with v2 | v2
    · exact absurd (of_decide_eq_true v2) (Nat.ne_of_lt w1)
    · exact v2
  have hG : GoodIn mWall (mWl y') := by
    intro w hw
    rcases List.mem_cons.mp hw with e1 | e1
    · rw [e1]; exact mWall_good _ (mW_in v2)
    · exact mWall_good _ e1
  have hS9 : CallFix p m c (mBy mid) (mMax mid) s args mWall (mNm mid).cls := ⟨hx, hb, hml, hown, hts⟩
  have hrm : (mRm d (mC o.2 - mC h) (mS o.2 - mS h)).frames + 1 ≤ R.frames ∧ 8 + (mMax y' + 11) + (mRm d (mC o.2 - mC h) (mS o.2 - mS h)).locals ≤ R.locals := by
    refine ⟨?_, ?_⟩
    · show d + 8 + 1 ≤ R.frames
      omega
    · exact mArith v3 hRl
  have hin : (Cond.initialized (mNm y').cls).before args s = true := hts _ (mW_in w5)
  have hWs : 2 * (F0 m pc ls (st.map (mF cv ad))).monitorRoom + ((((st.drop mm).map (mF cv ad)).map fun v => v.category).sum) ≤ 8 := by
    refine lv_room ?_
    rw [List.map_map]
    have e1 : ((fun v : Value => v.category) ∘ mF cv ad) = fun v => v.category := funext fun v => mF_cat hKF.1 v
    rw [e1]
    exact hsum
  have hf : cells + (mC o.2 - mC h) ≤ R.cells ∧ slots + (mS o.2 - mS h) ≤ R.slots := by
    have q1 := hcc.1
    have q2 := hcc.2
    have q3 := hss.1
    have q4 := hss.2
    have q5 := gl.2.1
    have q6 := gl.2.2.1
    refine ⟨?_, ?_⟩ <;> omega
  have hcode : (mEx.getD y' []).isEmpty = true → mWl y' = Cond.code (mNm y') (mBy y') (mMax y') (mRetT y') :: mWall := by
    intro z
    unfold mWl mCw
    rw [if_pos z]
  have hpre : ∀ (U : State), U.heap = H → s.WarmedH U.vm → va_Pc (((st.take mm).reverse).map (mF cv ad)) (mPre D cv ad ca tys H.size h) (((st.take mm).reverse).map (mF cv ad)).toArray U := fun U hU hW => mPre_here F h0 hU hW
  -- the receiver, and how the stack is cut
  have cut : ∀ v : Value, mm = n + 1 → st[n]? = some v → ((st.take mm).reverse).map (mF cv ad) = mF cv ad v :: ((st.take n).reverse).map (mF cv ad) ∧ st.map (mF cv ad) = (((st.take n).reverse).map (mF cv ad)).reverse ++ mF cv ad v :: (st.drop mm).map (mF cv ad) := by
    intro v e1 e2
    subst e1
    have e3 : st.take (n + 1) = st.take n ++ [v] := by rw [List.take_succ, e2]; rfl
    refine ⟨by rw [e3, List.reverse_append]; rfl, ?_⟩
    rw [← List.map_reverse, List.reverse_reverse]
    conv => lhs; rw [← List.take_append_drop (n + 1) st, e3]
    rw [List.map_append, List.map_append, List.append_assoc]
    rfl
  have hlenA : n ≤ st.length → (((st.take n).reverse).map (mF cv ad)).length = n := by
    intro z
    rw [List.length_map, List.length_reverse, List.length_take]
    omega
  -- a receiver
  have recv : mRcv y' h st[n]? = true → ∃ (a : Nat) (b : Addr), st[n]? = some (.ref a) ∧ mF cv ad (.ref a) = .ref b ∧ ∃ cellB : Cell, H[b]? = some cellB ∧ cellB.vm.isStatics = false ∧ s.vm.findClass (mNm y').cls = some cellB.cls := by
    intro hr
    unfold mRcv at hr
    split at hr
    · rename_i a ha
      rw [Bool.or_eq_true] at hr
      rcases hr with hr | hr
      · rw [Bool.and_eq_true] at hr
        obtain ⟨hr0, hr⟩ := hr
        have hr0 := of_decide_eq_true hr0
        obtain ⟨i1, i2, i3⟩ := mIs_spec hr
        have hcl9 := v4
        split at hcl9
        · rename_i C T N hv
          simp only [Bool.and_eq_true, decide_eq_true_eq] at hcl9
          have hce := h0.cell hr
          rw [mCell_obj i3 hcl9.2] at hce
          obtain ⟨cell, r1, r2, r3⟩ := va_recv hK hP hv hce
          exact ⟨a, ad a, ha, mF_hi i1, cell, r1, r2, by rw [← hcl9.1]; exact r3⟩
        · simp only [Bool.or_eq_true, Bool.and_eq_true, decide_eq_true_eq] at hcl9
          rcases hcl9 with z | z
          · omega
          · omega
      · simp only [Bool.and_eq_true, decide_eq_true_eq] at hr
        obtain ⟨⟨r1, r2⟩, r3⟩ := hr
        obtain ⟨q, q1, q2⟩ := List.any_eq_true.mp r3
        have q2 := of_decide_eq_true q2
        obtain ⟨t, e1, ⟨cell, f1, f2, f3, f4⟩, -⟩ := hKF.2.2.2.1 q q1
        rw [q2] at e1
        have hlt : t < s.heap.size := (Array.getElem?_eq_some_iff.mp f1).1
        have hnm9 : (mNm y').cls = "java/lang/String" := by
          have hcl9 := v4
          split at hcl9
          · rename_i C T N hv
            simp only [Bool.and_eq_true, decide_eq_true_eq] at hcl9
            omega
          · rw [r2] at hcl9
            simp only [Bool.or_eq_true, Bool.and_eq_true, decide_eq_true_eq] at hcl9
            rcases hcl9 with z | z
            · omega
            · exact z.2
        exact ⟨a, t, ha, by rw [mF_lo r1]; exact e1, cell, by rw [hS.2.1 t hlt f4]; exact f1, f2, by rw [hnm9]; exact f3⟩
    · cases hr
  rcases hk with ⟨rfl, rfl, hr, idx, rfl⟩ | ⟨rfl, rfl, idx, rfl⟩ | ⟨rfl, rfl, hr, idx, rfl⟩
  · -- virtual
    have hln3 : len = 3 := mLn_ok hln rfl (by decide)
    subst hln3
    rw [if_neg (by decide), if_pos rfl] at w6
    simp only [Bool.and_eq_true] at w6
    obtain ⟨⟨x1, x2⟩, x3⟩ := w6
    have x3 : (mEx.getD y' []).isEmpty = true := by rw [of_decide_eq_true x3]; rfl
    obtain ⟨a, b, ha, hab, hcell⟩ := recv hr
    obtain ⟨c1, c2⟩ := cut _ rfl ha
    rw [hab] at c1 c2
    have hp : PreV s H (mNm y').cls b (va_Pc (((st.take (n + 1)).reverse).map (mF cv ad)) (mPre D cv ad ca tys H.size h)) (((st.take n).reverse).map (mF cv ad)) := by
      refine ⟨mPre_blind, hcell, fun U hU hW => ?_⟩
      have z := hpre U hU hW
      rw [c1] at z ⊢
      exact z
    by_cases hne : nest = 0
    · rw [if_pos hne] at w4
      exact vx_runV hS9 hMet ⟨callB_of n hts hG (hcode x3) rfl rfl hin (hts _ (mW_in w4)) ⟨w3.1, w3.2, w2⟩ hrm, hts _ (mW_in x1), hts _ (mW_in x2)⟩ hp rfl (hlenA (by omega)) hl.1 c2 hWs hd hf
    · rw [if_neg hne] at w4
      unfold mWn at w4
      rw [Bool.and_eq_true] at w4
      have hw := hKF.2.2.2.2.2.2.1 _ (List.mem_of_getElem? (of_decide_eq_true w4.1)) (Or.inr w4.2)
      refine mRun_ofMet (va_runVN hS9 (hMe ?_) ⟨va_cnB n hts hG (hcode x3) rfl rfl hw hin ⟨w3.1, w3.2, w2⟩ hrm, hts _ (mW_in x1), hts _ (mW_in x2)⟩ hp rfl (hlenA (by omega)) hl.1 c2 hWs hd hf)
      rcases hlf with z | z
      · exact absurd z.1 hne
      · exact z
  · -- static
    have hln3 : len = 3 := mLn_ok hln rfl (by decide)
    subst hln3
    rw [if_pos rfl] at w6
    simp only [Bool.and_eq_true] at w6
    obtain ⟨x1, x2⟩ := w6
    have hst : st.map (mF cv ad) = (((st.take mm).reverse).map (mF cv ad)).reverse ++ (st.drop mm).map (mF cv ad) := by
      rw [← List.map_reverse, List.reverse_reverse, ← List.map_append, List.take_append_drop]
    have hp : PreS s H (va_Pc (((st.take mm).reverse).map (mF cv ad)) (mPre D cv ad ca tys H.size h)) (((st.take mm).reverse).map (mF cv ad)) := ⟨mPre_blind, hpre⟩
    by_cases hne : nest = 0
    case neg =>
      have hex : (mEx.getD y' []).isEmpty = true := by
        rw [Bool.or_eq_true, decide_eq_true_eq] at x2
        exact x2.resolve_left hne
      rw [if_neg hne] at w4
      unfold mWn at w4
      rw [Bool.and_eq_true] at w4
      have hw := hKF.2.2.2.2.2.2.1 _ (List.mem_of_getElem? (of_decide_eq_true w4.1)) (Or.inr w4.2)
      have hL : o.1.isLeft = true := by
        rcases hlf with z | z
        · exact absurd z.1 hne
        · exact z
      exact mRun_ofMet (va_runSN (As := ((st.take mm).reverse).map (mF cv ad)) hS9 (hMe hL) ⟨va_cnB mm hts hG (hcode hex) rfl rfl hw hin ⟨w3.1, w3.2, w2⟩ hrm, hts _ (mW_in x1), trivial⟩ hp rfl (hlenA hm) hl.1 hst hWs hd hf)
    rw [if_pos hne] at w4
    by_cases hex : (mEx.getD y' []).isEmpty = true
    · exact vx_runS (As := ((st.take mm).reverse).map (mF cv ad)) hS9 hMet ⟨callB_of mm hts hG (hcode hex) rfl rfl hin (hts _ (mW_in w4)) ⟨w3.1, w3.2, w2⟩ hrm, hts _ (mW_in x1)⟩ hp rfl (hlenA hm) hl.1 hst hWs hd hf
    · have hcw : mCw y' = .codeWith (mNm y') (mBy y') (mMax y') (mRetT y') (mHh y') := by
        unfold mCw
        rw [if_neg hex]
      have hmem : Cond.codeWith (mNm y') (mBy y') (mMax y') (mRetT y') (mHh y') ∈ mWl y' := by
        unfold mWl
        rw [hcw]
        exact List.mem_cons_self
      refine vx_runSX (As := ((st.take mm).reverse).map (mF cv ad)) (hh := mHh y') (bytes := mBy y') (maxL := mMax y') (ret := mRetT y') hS9 hMet ⟨⟨rfl, rfl, hrm.1, hrm.2, pay_in hts hG, hmem⟩, hts _ (hG _ hmem).1, hin, ⟨w3.1, w3.2⟩, fun sig z => ?_, hts _ (mW_in w4), hts _ (mW_in x1)⟩ hp rfl (hlenA hm) hl.1 hst hWs hd hf
      have z2 := w2
      rw [z] at z2
      exact (Option.some.inj z2).symm
  · -- a constructor
    have hln3 : len = 3 := mLn_ok hln rfl (by decide)
    subst hln3
    rw [if_neg (by decide), if_neg (by decide)] at w6
    simp only [Bool.and_eq_true] at w6
    obtain ⟨⟨⟨⟨x0, x1⟩, x2⟩, x4⟩, x3⟩ := w6
    have x3 : (mEx.getD y' []).isEmpty = true := by rw [of_decide_eq_true x3]; rfl
    have x2 := of_decide_eq_true x2
    have x4 := of_decide_eq_true x4
    obtain ⟨a, b, ha, hab, hcell⟩ := recv hr
    obtain ⟨c1, c2⟩ := cut _ rfl ha
    rw [hab] at c1 c2
    have hp : PreS s H (va_Pc (((st.take (n + 1)).reverse).map (mF cv ad)) (mPre D cv ad ca tys H.size h)) (.ref b :: ((st.take n).reverse).map (mF cv ad)) := by
      refine ⟨mPre_blind, fun U hU hW => ?_⟩
      have z := hpre U hU hW
      rw [c1] at z ⊢
      exact z
    have hL : o.1.isLeft = true := by
      rcases hlf with z | z
      · exact absurd rfl z.2
      · exact z
    have hcode2 := hcode x3
    rw [x4] at hcode2
    by_cases hne : nest = 0
    · rw [if_pos hne] at w4
      exact mRun_ofMet (va_runI hS9 (hMe hL) ⟨callB_of n hts hG hcode2 rfl rfl hin (hts _ (mW_in w4)) ⟨w3.1, w3.2, w2⟩ hrm, x2, hts _ (mW_in x1)⟩ hp rfl (hlenA (by omega)) hl.1 c2 hWs hd hf)
    · rw [if_neg hne] at w4
      unfold mWn at w4
      rw [Bool.and_eq_true] at w4
      have hw := hKF.2.2.2.2.2.2.1 _ (List.mem_of_getElem? (of_decide_eq_true w4.1)) (Or.inr w4.2)
      exact mRun_ofMet (va_runIN hS9 (hMe hL) ⟨va_cnB n hts hG hcode2 rfl rfl hw hin ⟨w3.1, w3.2, w2⟩ hrm, x2, hts _ (mW_in x1)⟩ hp rfl (hlenA (by omega)) hl.1 c2 hWs hd hf)
end MSIM5
