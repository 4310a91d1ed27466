/-! THE CONTRACT OF EVERY METHOD, BY THE SMALL MACHINE -/
theorem mRet_ty {mid : Nat} {i : Instr} {st : List Value} {h : mH} {o : mO} (hr : mRtn mid i st h = some (.inr o)) : ∃ v, o = (.inl v, h) := by
  unfold mRtn at hr
  split at hr <;> (try split at hr) <;> first | (cases hr; done) | (cases hr; exact ⟨_, rfl⟩)
theorem vx_ofWF {l : Launch} {y : MethodName} {ws ws' : List Cond} {rm : Room} {Pc : Array Value → State → Prop} {Qc : Array Value → State → Outcome → State → Prop} {XC : String → State → State → Prop} {mc ms : Nat} {free : Addr → Prop} {cc : ByteArray} {maxL : Nat} {ret : Option FieldType}
    (hy : plainFor y = true) (hw : ws = Cond.code y cc maxL ret :: ws')
    (body : ∀ p e s m args below meth c s₁, BodyLoose p l y (headSpec ws rm) cc maxL ret e s m args below meth c s₁ → c.maxLocals = maxL → (∀ x ∈ c.exceptionTable.toList, False) → Pc args s →
      W p l e (headSpec ws rm).room s m args below meth c s.heap [] 0 0 (vx_MQ below Qc XC args s mc ms free) (entryFrame m args maxL)) : vx_Met l y ws rm Pc Qc XC mc ms free := by
  refine MetFree.of_bodySF (code := cc) (maxLocals := maxL) (ret := ret) hy ?_ ?_
  · intro args s m h hn
    obtain ⟨meth, c, h1, h2, h3, h4, h5, h6, -, -⟩ := Cond.code_spec hn (atoms_spec (ws := ws) h _ (by rw [hw]; exact List.mem_cons_self))
    exact ⟨meth, c, h1, h2, h3, h4, h5, h6⟩
  · intro p e s m args below meth c s₁ B hml hP _
    have hh0 : s₁.heap = s.heap := by rw [B.state]; rfl
    have ht : ∀ x ∈ c.exceptionTable.toList, False := by
      obtain ⟨meth9, c9, h1, h2, -, -, -, -, h7, -⟩ := Cond.code_spec B.named (atoms_spec (ws := ws) B.pre _ (by rw [hw]; exact List.mem_cons_self))
      cases Option.some.inj (h1.symm.trans B.method)
      cases Option.some.inj (h2.symm.trans (Stand.of_body B).code)
      intro x hx
      rw [Array.isEmpty_iff.mp h7] at hx
      cases hx
    obtain ⟨t, a1, o, b1, b2, b3⟩ := body p e s m args below meth c s₁ B hml ht hP s₁ hh0 (Stand.of_body B)
    exact ⟨t, o, a1, b1, b2, b3⟩
set_option maxHeartbeats 4000000 in
theorem mCon_succ {l : Launch} {d : Nat} (hst : l.stackTraces = false) (hchk : ∀ k, k < mNI → mChk k = true) (hC : mCon l d) : mCon l (d + 1) := by
  intro mid av h o D cv ad ca tys sz hc hiv hav
  have hgood := mCall_good (d + 1) _ _ _ _ hc hiv hav
  unfold mCall at hc
  split at hc
  · rename_i hcond
    obtain ⟨n, hn⟩ := mExec_iff.mp hc
    obtain ⟨hmid, hlen⟩ := hcond
    obtain ⟨hOkM, hOkI⟩ := mProgOk hchk mid hmid
    have hOkM' := hOkM
    unfold mOkM at hOkM'
    simp only [Bool.and_eq_true] at hOkM'
    obtain ⟨⟨⟨⟨v1, v2⟩, v3⟩, v4⟩, v5⟩ := hOkM'
    -- the body, whatever its table
    have body : ∀ (p : Program) (e : Env) (s : State) (m : MethodId) (args : Array Value) (below : List Frame) (meth : Method) (c : Code), mFix p s m args meth c cv (va_A (mWs cv ad ca h) sz) mid (mX h) → c.exceptionTable.toList = tableOf (mHh mid) → args = (av.map (mF cv ad)).toArray → mPre D cv ad ca tys sz h s →
        W p l e (mRm (d + 1) (mC o.2 - mC h) (mS o.2 - mS h)) s m args below meth c s.heap [] 0 0 (vx_MQ below (mPo D cv ad ca sz h o) (mPx D cv ad ca sz h o) args s (mC o.2 - mC h) (mS o.2 - mS h) (va_A (mWs cv ad ca h) sz)) (entryFrame m args (mMax mid)) := by
      intro p e s m args below meth c F htab eargs hpre
      subst eargs
      obtain ⟨hsz, hP, hK, hD0, hT, hKF⟩ := hpre
      subst hsz
      have F' := F
      obtain ⟨hx, hb, hml, hown, hts, hlk, hrt, hnm, hA, hKF', hmid', -⟩ := F'
      rw [lg_entry_eq]
      have hl := mLs_entry (F := mF cv ad) (mF_cat hKF.1) av (mMax mid) hlen
      have hat : mAt s D cv (va_A (mWs cv ad ca h) s.heap.size) mid (mC h) (mS h) (mN h) ad (mX h) (mEnt av ++ List.replicate (mMax mid - (mEnt av).length) none) [] h s.heap [] 0 0 _ ad ca tys :=
        ⟨hK, hP, hD0.self, va_S.rf, hT, hl, by rw [List.length_append, List.length_replicate]; omega, hiv, fun r hr => (List.mem_append.mp hr).elim (fun z => mEnt_lk hav r z) (fun z => by have z := List.eq_of_mem_replicate z; cases z), (fun r hr => by cases hr), rfl, ⟨by omega, Nat.le_refl _⟩, ⟨by omega, Nat.le_refl _⟩, Nat.le_refl _, fun _ _ => rfl⟩
      refine mRun_sim F hC hchk (show d + 9 ≤ d + 1 + 8 by omega) (show 40 * d + 340 ≤ 40 * (d + 1) + 300 by omega) (o := o) (Nat.le_refl _) (Nat.le_refl _) ?_ n 0 _ [] h s.heap [] 0 0 _ ad ca tys hn hat
      -- what is behind the method
      have bh : ∀ (h' : mH) (H : Heap) (locs : List Loc) (ad' : Nat → Nat) (ca' : Nat → ClassId) (tys' : List (ClassId × FieldType)) (t : State), (∀ r, r < mN h → ad' r = ad r) → va_K D vwCl tys' s → va_P D vwCl (mWs cv ad' ca' h') H → va_D (va_A (mWs cv ad ca h) s.heap.size) (mWs cv ad' ca' h') → mTy h' ca' tys' → t.heap = H → s.vm.Alike t.vm → ∀ r : mR, (r, h').2 = o.2 → mBh D cv ad ca s.heap.size h o ad' ca' tys' t := by
        intro h' H locs ad' ca' tys' t g1 g2 g3 g4 g5 ht hv r e2
        refine ⟨g1, ?_, va_K.moved hv g2, ?_, ?_⟩
        · rw [← e2, ht]; exact g3
        · rw [← e2]; exact g4
        · rw [← e2]; exact g5
      refine ⟨?_, ?_, ?_⟩
      · -- a return
        intro i pc lo st h' H locs cells slots ls ad' ca' tys' hd hr hat
        obtain ⟨w, ew⟩ := mRet_ty hr
        obtain ⟨a1, a2, a3, a4, a5, a6, a7, a8, a9, a10, b1, b2, b3, b4⟩ := hat
        have ec : cells = mC o.2 - mC h := by rw [ew]; exact b2.1
        have es : slots = mS o.2 - mS h := by rw [ew]; exact b3.1
        subst ec; subst es
        have hq : ∀ (v : Option Value), w = v → ∀ t : State, t.heap = H → s.WarmedH t.vm → mPo D cv ad ca s.heap.size h o ((av.map (mF cv ad)).toArray) s (.returned (v.map (mF cv ad'))) t := by
          intro v ev t ht hW
          subst ev
          exact ⟨⟨w, ad', ca', tys', by rw [ew], rfl, bh h' H locs ad' ca' tys' t b4.2 a1 a2 a3 a5 ht hW.alike (.inl w) (by rw [ew])⟩, a4.F ht⟩
        have hf := a4.2.2
        refine vx_ret ?_
        unfold mRtn at hr
        split at hr
        · split at hr
          · rename_i h9
            cases hr
            cases ew
            exact W.vret hx hb (hrt.trans h9) (hq none rfl) hf hd hlk
          · cases hr
        · rename_i x
          split at hr
          · rename_i h9
            cases hr
            cases ew
            rcases h9 with h9 | ⟨h9, h8⟩ | ⟨h9, h8⟩ | ⟨h9, h8⟩
            · exact W.iret hx hb (hrt.trans h9) (hq (some (.int x)) rfl) hf hd hlk
            · exact W.zret hx hb (hrt.trans h9) (by rcases h8 with h8 | h8 <;> subst h8 <;> rfl) (hq (some (.int x)) rfl) hf hd hlk
            · exact W.zret hx hb (hrt.trans h9) h8 (hq (some (.int x)) rfl) hf hd hlk
            · exact W.zret hx hb (hrt.trans h9) h8 (hq (some (.int x)) rfl) hf hd hlk
          · cases hr
        · rename_i x
          split at hr
          · rename_i h9
            cases hr
            cases ew
            exact W.lret hx hb (hrt.trans h9) (hq (some (.long x)) rfl) hf hd hlk
          · cases hr
        · rename_i x
          split at hr
          · rename_i h9
            cases hr
            cases ew
            exact W.dret hx hb (hrt.trans h9) (hq (some (.double x)) rfl) hf hd hlk
          · cases hr
        · rename_i a
          split at hr
          · rename_i h9
            cases hr
            cases ew
            rcases h9 with h9 | h9
            · exact W.aret hx hb (hrt.trans h9) (Or.inr ⟨_, rfl⟩) (mF_ref hKF.1 a) (hq (some (.ref a)) rfl) hf hd hlk
            · exact W.aret hx hb (hrt.trans h9) (Or.inl ⟨_, rfl⟩) (mF_ref hKF.1 a) (hq (some (.ref a)) rfl) hf hd hlk
          · cases hr
        · cases hr
      · -- an exception of its own
        intro pc idx x si ii w lo st h' H locs cells slots ls ad' ca' tys' hok hsum eo hat
        obtain ⟨a1, a2, a3, a4, a5, a6, a7, a8, a9, a10, b1, b2, b3, b4⟩ := hat
        obtain ⟨hd, hln⟩ := mOk_dec hok
        unfold mOkI at hok
        rw [Bool.and_eq_true, Bool.and_eq_true] at hok
        have hok2 : (mThr (mNm mid).cls (mBy mid) pc idx x si ii w && (mEx.getD mid []).isEmpty) = true := hok.2
        rw [Bool.and_eq_true] at hok2
        obtain ⟨hthr, hemp⟩ := hok2
        have hnil : mHh mid = [] := by
          unfold mHh
          rw [List.isEmpty_iff.mp hemp]
          rfl
        have hout : ∀ k, ∀ z ∈ c.exceptionTable.toList, covers z k = false := by
          intro k z hz
          rw [htab, hnil] at hz
          cases hz
        unfold mThr at hthr
        split at hthr
        · cases hthr
        · rename_i E hE
          simp only [Bool.and_eq_true] at hthr
          obtain ⟨⟨⟨⟨⟨t1, t2⟩, t3⟩, t4⟩, t5⟩, t6⟩ := hthr
          have t1 := of_decide_eq_true t1
          have t5 := of_decide_eq_true t5
          obtain ⟨q, q1, q2⟩ := List.any_eq_true.mp t4
          simp only [Bool.and_eq_true, decide_eq_true_eq] at q2
          obtain ⟨sa, hsa⟩ := hKF.2.2.2.2.2.1 q q1
          rw [q2.1, q2.2] at hsa
          have hall := mXs_ok t6 hE
          rw [← t5] at hall
          have hbef : ∀ w ∈ Cond.classLink (mNm mid).cls idx E :: Cond.initialized E :: vx_atS (mNm mid).cls ii E ["java/lang/RuntimeException", "java/lang/Exception"], w.before (av.map (mF cv ad)).toArray s = true := by
            intro w hw
            obtain ⟨g1, g2, g3⟩ := hall w hw
            rcases g3 with g3 | g3
            · exact hts _ (List.mem_filter.mpr ⟨g1, g3⟩)
            · refine va_Nw.use ?_ (hKF.2.2.2.2.2.2.1 _ g1 (Or.inl g3))
              unfold mFace at g3
              rw [Bool.and_eq_true] at g3
              exact g3.1
          have hec : mC o.2 - mC h = cells + 1 := by
            rw [eo]
            show mC h' + 1 - mC h = cells + 1
            have := b2.1
            have := b2.2
            omega
          have hes : mS o.2 - mS h = slots + 6 := by
            rw [eo]
            show mS h' + 6 - mS h = slots + 6
            have := b3.1
            have := b3.2
            omega
          have hs2 : ((st.map (mF cv ad')).map fun v => v.category).sum ≤ 8 := by
            rw [List.map_map]
            have e1 : ((fun v : Value => v.category) ∘ mF cv ad') = fun v => v.category := funext fun v => mF_cat hKF.1 v
            rw [e1]
            exact hsum
          have hXC : ∀ t : State, s.vm.Alike t.vm → H.size ≤ t.heap.size → (∀ q : Nat, q < H.size → t.heap[q]? = H[q]?) → mPx D cv ad ca s.heap.size h o E s t := by
            intro t hv hz hq
            refine ⟨⟨x, ad', ca', tys', by rw [eo], hE, ?_⟩, ?_⟩
            · refine ⟨b4.2, ?_, va_K.moved hv a1, ?_, ?_⟩
              · rw [eo]
                exact va_P.kept (ws := mWs cv ad' ca' h') a2 (fun k q hk => hq q.1 (a2 k q hk).lt)
              · rw [eo]; exact a3
              · rw [eo]; exact a5
            · refine ⟨Nat.le_trans a4.1 hz, fun q g1 g2 => ?_⟩
              rw [hq q (Nat.lt_of_lt_of_le g1 a4.1)]
              exact a4.2.1 q g1 g2
          have hnm2 : ∀ n ∈ ["java/lang/RuntimeException", "java/lang/Exception"], Bundle.fit n = true := by decide +kernel
          have hRl2 : ((st.map (mF cv ad')).map fun v => v.category).sum + (13 * (2 + 1) + 43) ≤ 40 * (d + 1) + 300 := by omega
          by_cases hw0 : w = 0
          · rw [if_pos hw0] at t2
            simp only [Bool.and_eq_true, decide_eq_true_eq] at t2
            obtain ⟨⟨u1, u2⟩, u3⟩ := t2
            exact vx_throwS hx hb hst hown t3 hnm2 (hbef _ List.mem_cons_self) (hbef _ (List.mem_cons_of_mem _ List.mem_cons_self)) hsa (fun w hw => hbef w (List.mem_cons_of_mem _ (List.mem_cons_of_mem _ hw))) (fun w hw => (hall w hw).2.1)
              hKF.2.2.2.2.2.2.2.2.1 hKF.2.2.2.2.2.2.2.2.2 a4 (by rw [a6.1, hml]) hd t1 u1 u2 u3 (hout _) (show 2 + 3 < d + 1 + 8 by omega) hRl2 (show cells + 1 ≤ mC o.2 - mC h by omega) (show slots + 6 ≤ mS o.2 - mS h by omega) hlk hXC a4.2.2 (by omega) (by omega)
          · rw [if_neg hw0] at t2
            simp only [Bool.and_eq_true, decide_eq_true_eq] at t2
            obtain ⟨⟨⟨u0, u1⟩, u2⟩, u3⟩ := t2
            exact vx_throwSW hx hb hst hown t3 hnm2 (hbef _ List.mem_cons_self) (hbef _ (List.mem_cons_of_mem _ List.mem_cons_self)) hsa (fun w hw => hbef w (List.mem_cons_of_mem _ (List.mem_cons_of_mem _ hw))) (fun w hw => (hall w hw).2.1)
              hKF.2.2.2.2.2.2.2.2.1 hKF.2.2.2.2.2.2.2.2.2 a4 (by rw [a6.1, hml]) hd t1 u1 u2 u3 (hout _) (show 2 + 3 < d + 1 + 8 by omega) hRl2 (show cells + 1 ≤ mC o.2 - mC h by omega) (show slots + 6 ≤ mS o.2 - mS h by omega) hlk hXC a4.2.2 (by omega) (by omega)
      · -- a callee's exception
        intro x h' eo hnil pc lo rest H locs cells slots ls ad' ca' tys' E ce q9 hE hat hq9 hcv hcl
        obtain ⟨a1, a2, a3, a4, a5, a6, a7, a8, a9, a10, b1, b2, b3, b4⟩ := hat
        have hec : mC o.2 - mC h = cells := by rw [eo]; exact b2.1.symm
        have hes : mS o.2 - mS h = slots := by rw [eo]; exact b3.1.symm
        have hnil2 : mHh mid = [] := by
          unfold mHh
          rw [hnil]
          rfl
        refine vx_out (fun z hz => by rw [htab, hnil2] at hz; cases hz) hlk hq9 hcv hcl (fun t ht hv => ?_) a4.2.2 (by omega) (by omega)
        refine ⟨⟨x, ad', ca', tys', by rw [eo], hE, ?_⟩, a4.F ht⟩
        exact bh h' H locs ad' ca' tys' t b4.2 a1 a2 a3 a5 ht hv (.inr x) (by rw [eo])
    have hA : ∀ s : State, s.heap.size = sz → ∀ q, s.heap.size ≤ q → va_A (mWs cv ad ca h) sz q := fun s hs q hq => Or.inr (by omega)
    by_cases hex : (mEx.getD mid []).isEmpty = true
    · have hcw : mWl mid = Cond.code (mNm mid) (mBy mid) (mMax mid) (mRetT mid) :: mWall := by
        unfold mWl mCw
        rw [if_pos hex]
      have v1F : plainFor (mNm mid) = true := by
        rw [Bool.or_eq_true] at v1
        rcases v1 with v1 | v1
        · exact plainFor_of_name v1
        · rw [Bool.and_eq_true] at v1
          exact v1.1
      refine vx_ofWF v1F hcw ?_
      intro p e s m args below meth c s₁ B hml ht hP
      obtain ⟨eargs, hpre⟩ := hP
      have hpre' := hpre
      obtain ⟨hsz, -, -, -, -, hKF⟩ := hpre'
      have hts : ∀ w ∈ mWall, w.before args s = true := fun w hw => atoms_spec (ws := mWl mid) B.pre w (List.mem_cons_of_mem _ hw)
      suffices htab : c.exceptionTable.toList = tableOf (mHh mid) by
        exact body p e s m args below meth c ⟨B.exec, B.bytes, hml, findClass_of_methodNamed B.named, hts, B.notSynchronized, B.returns, fun z => (name_of_methodNamed B.named B.method).1.trans z, hA s hsz, hKF, hmid, fun _ => htab⟩ htab eargs hpre
      have e1 : c.exceptionTable.toList = [] := by
        cases hz : c.exceptionTable.toList with
        | nil => rfl
        | cons a b => exact (ht a (by rw [hz]; exact List.mem_cons_self)).elim
      rw [e1]
      unfold mHh
      rw [List.isEmpty_iff.mp hex]
      rfl
    · have hcw : mWl mid = Cond.codeWith (mNm mid) (mBy mid) (mMax mid) (mRetT mid) (mHh mid) :: mWall := by
        unfold mWl mCw
        rw [if_neg hex]
      have v1N : plainName (mNm mid).cls = true := by
        rw [Bool.or_eq_true] at v1
        rcases v1 with v1 | v1
        · exact v1
        · rw [Bool.and_eq_true] at v1
          exact absurd v1.2 hex
      refine vx_ofWH v1N hcw ?_
      intro p e s m args below meth c s₁ B hml hP
      obtain ⟨eargs, hpre⟩ := hP
      have hpre' := hpre
      obtain ⟨hsz, -, -, -, -, hKF⟩ := hpre'
      have hts : ∀ w ∈ mWall, w.before args s = true := fun w hw => atoms_spec (ws := mWl mid) B.pre w (List.mem_cons_of_mem _ hw)
      have htab : c.exceptionTable.toList = tableOf (mHh mid) := vx_table (x := mNm mid) B (atoms_spec (ws := mWl mid) B.pre _ (by rw [hcw]; exact List.mem_cons_self))
      exact body p e s m args below meth c ⟨B.exec, B.bytes, hml, findClass_of_methodNamed B.named, hts, B.notSynchronized, B.returns, fun z => (name_of_methodNamed B.named B.method).1.trans z, hA s hsz, hKF, hmid, fun _ => htab⟩ htab eargs hpre
  · cases hc
theorem mCon_all {l : Launch} (hst : l.stackTraces = false) (hchk : ∀ k, k < mNI → mChk k = true) : ∀ d, mCon l d := by
  intro d
  induction d with
  | zero => intro mid av h o D cv ad ca tys sz hc; cases hc
  | succ d ih => exact mCon_succ hst hchk ih
