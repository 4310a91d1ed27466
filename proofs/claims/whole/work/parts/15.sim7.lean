/-! A WHOLE BODY OF THE SMALL MACHINE, OVER THE MACHINE -/
theorem mProgOk (hchk : ∀ k, k < mNI → mChk k = true) : ∀ mid, mid < mNI → mOkM mid = true ∧ ∀ pc i len r, mIns mid pc = some (i, len, r) → mOkI mid pc i len r = true := by
  intro mid hm
  have h1 := hchk mid hm
  unfold mChk at h1
  rw [Bool.and_eq_true] at h1
  refine ⟨h1.1, fun pc i len r hi => ?_⟩
  have h2 := h1.2
  unfold mIns at hi
  generalize mAll.getD mid [] = L at h2 hi
  have h3 : mOkI mid (pc, i, len, r).1 (pc, i, len, r).2.1 (pc, i, len, r).2.2.1 (pc, i, len, r).2.2.2 = true := List.all_eq_true.mp h2 (pc, i, len, r) (mFind_mem hi)
  exact h3
theorem mExc_ne {i j : Nat} {a b : String} (hi : mExc[i]? = some a) (hj : mExc[j]? = some b) (h : i ≠ j) : a ≠ b := by
  intro e
  subst e
  have h1 : ∀ i, i < 3 → ∀ j, j < 3 → mExc[i]? = mExc[j]? → i = j := by decide +kernel
  have l1 : i < 3 := (List.getElem?_eq_some_iff.mp hi).1
  have l2 : j < 3 := (List.getElem?_eq_some_iff.mp hj).1
  exact h (h1 i l1 j l2 (hi.trans hj.symm))
theorem mCst_ok : Cond.castable "java/lang/IllegalStateException" "java/lang/IllegalStateException" ∈ lw_tbl ∧ Cond.castable "java/lang/IllegalArgumentException" "java/lang/IllegalArgumentException" ∈ lw_tbl ∧ Cond.castable "java/lang/IndexOutOfBoundsException" "java/lang/IndexOutOfBoundsException" ∈ lw_tbl := by decide +kernel
theorem mCst_of {x : Nat} {E : String} (h : mExc[x]? = some E) : Cond.castable E E ∈ lw_tbl := by
  have h2 : x < 3 := (List.getElem?_eq_some_iff.mp h).1
  match x, h2, h with
  | 0, _, h => cases h; exact mCst_ok.1
  | 1, _, h => cases h; exact mCst_ok.2.1
  | 2, _, h => cases h; exact mCst_ok.2.2
  | n + 3, h2, _ => omega
def mRoomOk (R : Room) (c0 s0 : Nat) : mY → Prop
  | .inl q => mC q.2.2.2 - c0 ≤ R.cells ∧ mS q.2.2.2 - s0 ≤ R.slots
  | .inr o => mC o.2 - c0 ≤ R.cells ∧ mS o.2 - s0 ≤ R.slots
section MSIM7
variable {p : Program} {l : Launch} {e : Env} {R : Room} {s : State} {m : MethodId} {args : Array Value} {below : List Frame} {meth : Method} {c : Code} {H : Heap} {locs : List Loc} {cells slots : Nat} {Q : State → Prop} {ls : Array Slot} {cv : Nat → Value} {ad : Nat → Nat} {ca : Nat → ClassId} {tys : List (ClassId × FieldType)}
variable {D : va_G} {A : Nat → Prop} {mid c0 s0 n0 d : Nat} {ad0 : Nat → Nat} {X : Nat × (Nat → Int32)} {h : mH} {lo : mLo} {st : List Value} {y : mY} {pc len : Nat}
/-- what is owed where a callee's exception leaves this method too -/
def mThrK (p : Program) (l : Launch) (e : Env) (R : Room) (s : State) (m : MethodId) (args : Array Value) (below : List Frame) (meth : Method) (c : Code) (Q : State → Prop) (D : va_G) (cv : Nat → Value) (A : Nat → Prop) (mid c0 s0 n0 : Nat) (ad0 : Nat → Nat) (X : Nat × (Nat → Int32)) (o : mO) : Prop :=
  ∀ (x : Nat) (h' : mH), o = (.inr x, h') → mEx.getD mid [] = [] → ∀ (pc : Nat) (lo : mLo) (rest : List Value) (H : Heap) (locs : List Loc) (cells slots : Nat) (ls : Array Slot) (ad : Nat → Nat) (ca : Nat → ClassId) (tys : List (ClassId × FieldType)) (E : String) (ce : Cell) (q9 : Addr), mExc[x]? = some E → mAt s D cv A mid c0 s0 n0 ad0 X lo rest h' H locs cells slots ls ad ca tys →
    H[q9]? = some ce → ce.vm = .none → s.vm.findClass E = some ce.cls → vx_W p l e R s m args below meth c H locs cells slots Q (F0 m pc ls (rest.map (mF cv ad))) q9
theorem mCal_sim (F : mFix p s m args meth c cv A mid X) (h0 : mAt s D cv A mid c0 s0 n0 ad0 X lo st h H locs cells slots ls ad ca tys) (hC : mCon l d) (hchk : ∀ k, k < mNI → mChk k = true) (hRf : d + 9 ≤ R.frames) (hRl : 40 * d + 340 ≤ R.locals)
    {i : Instr} {k y' n pp nest nest2 mm : Nat} (hok : mOkI mid pc i len [k, y', n, pp, nest] = true) (hk : (k = 0 ∧ mm = n + 1 ∧ mRcv y' h st[n]? = true ∧ ∃ idx, i = .invokevirtual idx) ∨ (k = 1 ∧ mm = n ∧ ∃ idx, i = .invokestatic idx) ∨ (k = 2 ∧ mm = n + 1 ∧ mRcv y' h st[n]? = true ∧ ∃ idx, i = .invokespecial idx)) (hn2 : nest2 = 0 → nest = 0 ∧ k ≠ 2)
    (hy : mCal (mCall d) mid pc len y' mm nest2 lo st h = some y) (hkt : mKt p l e R s m args below meth c Q D cv A mid c0 s0 n0 ad0 X y) (hro : mRoomOk R c0 s0 y) (hth : ∀ o', y = .inr o' → mThrK p l e R s m args below meth c Q D cv A mid c0 s0 n0 ad0 X o') :
    W p l e R s m args below meth c H locs cells slots Q (F0 m pc ls (st.map (mF cv ad))) := by
  have hA1 := mAt.free F h0
  have F' := F
  obtain ⟨hx, hb, hml, hown, hts, hlk, hrt, hnm, hA, hKF, hmid, htab⟩ := F'
  have h0' := h0
  obtain ⟨hK, hP, hD, hS, hT, hl, hlen, hiv, hvl, hvs, hX, hcc, hss, hnn⟩ := h0'
  obtain ⟨hd, hln⟩ := mOk_dec hok
  unfold mCal at hy
  split at hy
  · rename_i hm
    cases hc : mCall d y' (st.take mm).reverse h with
    | none => rw [hc] at hy; cases hy
    | some o =>
      rw [hc] at hy
      have hy' : (if nest2 = 0 ∨ o.1.isLeft = true then mBack mid pc len lo (st.drop mm) o else none) = some y := hy
      split at hy'
      · rename_i hl2
        have hav : mSk (mN h) (st.take mm).reverse := fun r hr => hvs r (List.mem_of_mem_take (List.mem_reverse.mp hr))
        have hdr : mSk (mN h) (st.drop mm) := fun r hr => hvs r (List.mem_of_mem_drop hr)
        obtain ⟨go, gl⟩ := mCall_good d _ _ _ _ hc hiv hav
        have hlf : (nest = 0 ∧ k ≠ 2) ∨ o.1.isLeft = true := by
          rcases hl2 with z | z
          · exact Or.inl (hn2 z)
          · exact Or.inr z
        have hln3 : len = 3 := by
          rcases hk with ⟨-, -, -, idx, rfl⟩ | ⟨-, -, idx, rfl⟩ | ⟨-, -, -, idx, rfl⟩ <;> exact mLn_ok hln rfl (by decide)
        subst hln3
        -- the room behind the call
        have hro2 : mC o.2 - c0 ≤ R.cells ∧ mS o.2 - s0 ≤ R.slots := by
          obtain ⟨o1, h'⟩ := o
          cases o1 with
          | inl v =>
            cases v with
            | none => cases hy'; exact hro
            | some v => cases hy'; exact hro
          | inr x =>
            unfold mBack at hy'
            dsimp only at hy'
            split at hy'
            · cases hy'; exact hro
            · cases hh : mHand pc x (mEx.getD mid []) with
              | none => rw [hh] at hy'; cases hy'
              | some hp =>
                rw [hh] at hy'
                have hz : (match mIns mid hp with
                  | some (i, l, _) => match mSt i with
                    | some (n, 2) => if n < lo.length then mGo (hp + l) (List.replicate lo.length none) [] h' else none
                    | _ => none
                  | none => none) = some y := hy'
                split at hz
                · split at hz
                  · split at hz
                    · cases hz; exact hro
                    · cases hz
                  · cases hz
                · cases hz
        refine mCall_W (mCal_run F h0 hC (fun k hk => (mProgOk hchk k hk).1) hRf hRl hok hk hm.1 hm.2 hc hlf hro2.1 hro2.2) hS hA1 ?_ ?_
        · -- it returned
          intro v ad' ca' tys' t H1 locs1 e1 hB ht hv hS1
          obtain ⟨o1, h'⟩ := o
          have e1 : o1 = .inl v := e1
          subst e1
          have hup : (st.drop mm).map (mF cv ad') = (st.drop mm).map (mF cv ad) := mFs_up hdr hB.1
          cases v with
          | none =>
            cases hy'
            have g1 := hkt.2.2 _ _ _ _ _ _ _ _ (h0.cal go gl hB ht hv hS1 hA1 (st' := st.drop mm) (hdr.up gl.1))
            have g1 : W p l e R s m args below meth c H1 locs1 (cells + (mC h' - mC h)) (slots + (mS h' - mS h)) Q (F0 m (pc + 3) ls ((st.drop mm).map (mF cv ad'))) := g1
            rw [hup] at g1
            exact g1
          | some v =>
            cases hy'
            have g1 := hkt.2.2 _ _ _ _ _ _ _ _ (h0.cal go gl hB ht hv hS1 hA1 (st' := v :: st.drop mm) (mSk.cons (go.2 v rfl) (hdr.up gl.1)))
            have g1 : W p l e R s m args below meth c H1 locs1 (cells + (mC h' - mC h)) (slots + (mS h' - mS h)) Q (F0 m (pc + 3) ls (mF cv ad' v :: (st.drop mm).map (mF cv ad'))) := g1
            rw [hup] at g1
            exact g1
        · -- it threw
          intro x E ce q9 ad' ca' tys' t H1 locs1 e1 hxE hB ht hv hS1 hq9 hcv hcl
          obtain ⟨o1, h'⟩ := o
          have e1 : o1 = .inr x := e1
          subst e1
          have hup : (st.drop mm).map (mF cv ad') = (st.drop mm).map (mF cv ad) := mFs_up hdr hB.1
          have hat := h0.cal go gl hB ht hv hS1 hA1 (st' := st.drop mm) (hdr.up gl.1)
          unfold mBack at hy'
          dsimp only at hy'
          split at hy'
          · rename_i hnil
            cases hy'
            have g1 := hth _ rfl x h' rfl hnil pc _ _ _ _ _ _ _ _ _ _ E ce q9 hxE hat hq9 hcv hcl
            rw [hup] at g1
            exact g1
          · cases hh : mHand pc x (mEx.getD mid []) with
            | none => rw [hh] at hy'; cases hy'
            | some hp =>
              rw [hh] at hy'
              have hz : (match mIns mid hp with
                | some (i, l, _) => match mSt i with
                  | some (n, 2) => if n < lo.length then mGo (hp + l) (List.replicate lo.length none) [] h' else none
                  | _ => none
                | none => none) = some y := hy'
              split at hz
              · rename_i i9 l9 r9 hi9
                split at hz
                · rename_i n9 hs9
                  split at hz
                  · rename_i hlt9
                    cases hz
                    have hok9 := (mProgOk hchk mid hmid).2 _ _ _ _ hi9
                    obtain ⟨hd9, hln9⟩ := mOk_dec hok9
                    obtain ⟨pre, a, b, ct, p9, suf, el, ea, eb, epre⟩ := mHand_spec hh
                    have hOkM := (mProgOk hchk mid hmid).1
                    unfold mOkM at hOkM
                    simp only [Bool.and_eq_true] at hOkM
                    have hall := List.all_eq_true.mp hOkM.2
                    have ent : ∀ a' b' t' e' ct' p' : Nat, [a', b', t', e', ct', p'] ∈ mEx.getD mid [] → ct' ≠ 0 ∧ ∃ E', mExc[e']? = some E' ∧ (Cond.classLink (mNm mid).cls ct' E').before args s = true := by
                      intro a' b' t' e' ct' p' hmem
                      have h9 := hall _ hmem
                      have h9 : (decide (ct' ≠ 0) && (match mExc[e']? with
                        | none => false
                        | some E => mW p' (.classLink (mNm mid).cls ct' E)) && (match mIns mid t' with
                        | some (i, _, _) => (match mSt i with
                          | some (n, 2) => decide (n < mMax mid)
                          | _ => false)
                        | none => false)) = true := h9
                      rw [Bool.and_eq_true, Bool.and_eq_true] at h9
                      refine ⟨of_decide_eq_true h9.1.1, ?_⟩
                      have h8 := h9.1.2
                      split at h8
                      · cases h8
                      · rename_i E' hE'
                        exact ⟨E', hE', hts _ (mW_in h8)⟩
                    have hne9 : mid ≠ 263 := by
                      intro z
                      subst z
                      have z2 : mEx.getD 263 [] = [] := by decide +kernel
                      rw [z2] at el
                      cases pre <;> cases el
                    have hmemx : [a, b, hp, x, ct, p9] ∈ mEx.getD mid [] := by rw [el]; exact List.mem_append_right _ List.mem_cons_self
                    obtain ⟨hct, E', hE', hlk'⟩ := ent _ _ _ _ _ _ hmemx
                    cases Option.some.inj (hxE.symm.trans hE')
                    have hsplit : c.exceptionTable.toList = (pre.map fun q => (⟨q.getD 0 0, q.getD 1 0, q.getD 2 0, q.getD 4 0⟩ : ExceptionTableEntry)) ++ (⟨a, b, hp, ct⟩ : ExceptionTableEntry) :: (suf.map fun q => (⟨q.getD 0 0, q.getD 1 0, q.getD 2 0, q.getD 4 0⟩ : ExceptionTableEntry)) := by
                      rw [htab hne9]
                      unfold mHh tableOf
                      rw [el, List.map_map, List.map_append, List.map_cons]
                      rfl
                    refine vx_catch hown _ ⟨a, b, hp, ct⟩ _ hsplit ?_ ?_ hct hlk' ?_ hq9 hcv hcl ?_
                    · intro z hz
                      obtain ⟨q, hq, rfl⟩ := List.mem_map.mp hz
                      obtain ⟨a', b', t', e', ct', p', rfl, hnot⟩ := epre q hq
                      by_cases hcov : a' ≤ pc ∧ pc < b'
                      · obtain ⟨hct', E2, hE2, hl2⟩ := ent a' b' t' e' ct' p' (by rw [el]; exact List.mem_append_left _ hq)
                        refine Or.inr ⟨hct', E2, hl2, ?_⟩
                        exact hKF.2.2.2.2.2.2.2.1 _ (List.mem_of_getElem? hxE) _ (List.mem_of_getElem? hE2) (mExc_ne hxE hE2 (fun z => hnot ⟨hcov.1, hcov.2, z.symm⟩))
                      · refine Or.inl ?_
                        show (decide (a' ≤ pc) && decide (pc < b')) = false
                        by_cases h7 : a' ≤ pc
                        · rw [decide_eq_true h7, decide_eq_false (fun z => hcov ⟨h7, z⟩)]; rfl
                        · rw [decide_eq_false h7]; rfl
                    · show (decide (a ≤ pc) && decide (pc < b)) = true
                      rw [decide_eq_true ea, decide_eq_true eb]; rfl
                    · have hw := hKF.2.2.2.2.2.2.1 _ (mCst_of hxE) (Or.inl rfl)
                      exact va_Nw.use rfl hw
                    · -- the handler's first instruction lays the exception aside
                      have hstk : ∀ ls', lv_has ls' (mMax mid) (mLs (mF cv ad') (List.replicate lo.length none)) → W p l e R s m args below meth c H1 locs1 (cells + (mC h' - mC h)) (slots + (mS h' - mS h)) Q (F0 m (hp + l9) ls' []) := by
                        intro ls' hls'
                        obtain ⟨a1, a2, a3, a4, a5, a6, a7, a8, a9, a10, b1, b2, b3, b4⟩ := hat
                        exact hkt.2.2 _ _ _ _ ls' ad' ca' tys' ⟨a1, a2, a3, a4, a5, hls', (by rw [List.length_replicate]; exact a7), a8, (fun r hr => by have z := List.eq_of_mem_replicate hr; cases z), (fun r hr => by cases hr), b1, b2, b3, b4⟩
                      have hnone : ∀ q ∈ mLs (mF cv ad') (List.replicate lo.length none), False := by
                        rintro ⟨j, w⟩ hq
                        obtain ⟨v, hg, -⟩ := mLs_mem.mp hq
                        have := (mGet_at hg).1
                        rw [List.getElem?_replicate] at this
                        split at this <;> cases this
                      have hl6 := hat.2.2.2.2.2.1
                      have hlen9 : n9 < mMax mid := by rw [← hlen]; exact hlt9
                      unfold mSt at hs9
                      split at hs9
                      all_goals first | (cases hs9; done) | skip
                      · cases hs9
                        have hln2 : l9 = 2 := mLn_ok hln9 rfl (by decide)
                        subst hln2
                        exact lv_astore hx hb hd9 hl6 hlen9 rfl (fun ls' h9 => hstk ls' (lv_less h9 (fun q hq => (hnone q hq).elim)))
                      · cases hs9
                        have hln1 : l9 = 1 := mLn_ok hln9 rfl (by decide)
                        subst hln1
                        exact lv_astore_n hx hb hd9 rfl hl6 hlen9 rfl (fun ls' h9 => hstk ls' (lv_less h9 (fun q hq => (hnone q hq).elim)))
                  · cases hz
                · cases hz
              · cases hz
      · cases hy'
  · cases hy
end MSIM7
