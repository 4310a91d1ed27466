/-! ONE INSTRUCTION OF THE SMALL MACHINE, OVER THE MACHINE: stores, rows, new cells, branches -/
theorem mArr_i : Cond.arrayClass .int ∈ mWall := mWall_of (p := 148) (by decide +kernel) (by decide +kernel)
theorem mArr_l : Cond.arrayClass .long ∈ mWall := mWall_of (p := 1591) (by decide +kernel) (by decide +kernel)
theorem mDef {ci : Nat} {C : String} {T : u_T} {N : Nat} (h : vwCl[ci]? = some (C, T, N)) : mNf ci = N ∧ (∀ w ∈ u_ws C T N, w ∈ mWall) ∧ ∃ ty : Nat → FieldType, (∀ k, k < N → parseFieldDescriptor (T k).2.2.1 = some (ty k)) ∧ ∀ k, k < N → defaultValue (ty k) = if mRf ci k = true then Value.null else .int 0 := by
  match ci, h with
  | 0, h => cases h; exact ⟨by decide +kernel, mUws_0, tyX0, tyX0_ok, by decide +kernel⟩
  | 1, h => cases h; exact ⟨by decide +kernel, mUws_1, tyX1, tyX1_ok, by decide +kernel⟩
  | 2, h => cases h; exact ⟨by decide +kernel, mUws_2, tyX2, tyX2_ok, by decide +kernel⟩
  | 3, h => cases h; exact ⟨by decide +kernel, mUws_3, tyX3, tyX3_ok, by decide +kernel⟩
  | 4, h => cases h; exact ⟨by decide +kernel, mUws_4, tyX4, tyX4_ok, by decide +kernel⟩
  | 5, h => cases h; exact ⟨by decide +kernel, mUws_5, tyX5, tyX5_ok, by decide +kernel⟩
  | 6, h => cases h; exact ⟨by decide +kernel, mUws_6, tyX6, tyX6_ok, by decide +kernel⟩
  | 7, h => cases h; exact ⟨by decide +kernel, mUws_7, tyX7, tyX7_ok, by decide +kernel⟩
  | 8, h => cases h; exact ⟨by decide +kernel, mUws_8, tyX8, tyX8_ok, by decide +kernel⟩
  | 9, h => cases h; exact ⟨by decide +kernel, mUws_9, tyX9, tyX9_ok, by decide +kernel⟩
  | 10, h => cases h; exact ⟨by decide +kernel, mUws_10, tyX10, tyX10_ok, by decide +kernel⟩
  | 11, h => cases h; exact ⟨by decide +kernel, mUws_11, tyX11, tyX11_ok, by decide +kernel⟩
  | 12, h => cases h; exact ⟨by decide +kernel, mUws_12, tyX12, tyX12_ok, by decide +kernel⟩
  | 13, h => cases h; exact ⟨by decide +kernel, mUws_13, tyX13, tyX13_ok, by decide +kernel⟩
  | n + 14, h => cases h
theorem mF_up {cv : Nat → Value} {ad ad' : Nat → Nat} {n : Nat} {v : Value} (hv : mVk n v) (ha : ∀ r, r < n → ad' r = ad r) : mF cv ad' v = mF cv ad v := by
  cases v with
  | ref r =>
    show (if r < mNC then cv r else Value.ref (ad' r)) = (if r < mNC then cv r else Value.ref (ad r))
    rw [ha r (hv r rfl)]
  | _ => rfl
theorem mF_const {cv : Nat → Value} {ad ad' : Nat → Nat} {v : Value} (hv : ∀ r, v = .ref r → r < mNC) : mF cv ad' v = mF cv ad v := by
  cases v with
  | ref r =>
    have h1 := hv r rfl
    show (if r < mNC then cv r else Value.ref (ad' r)) = (if r < mNC then cv r else Value.ref (ad r))
    rw [if_pos h1, if_pos h1]
  | _ => rfl
theorem mFs_up {cv : Nat → Value} {ad ad' : Nat → Nat} {n : Nat} {st : List Value} (hv : mSk n st) (ha : ∀ r, r < n → ad' r = ad r) : st.map (mF cv ad') = st.map (mF cv ad) :=
  List.map_congr_left fun v hm => mF_up (n := n) (fun r hr => hv r (by rw [← hr]; exact hm)) ha
theorem mLs_up {cv : Nat → Value} {ad ad' : Nat → Nat} {n : Nat} {lo : mLo} (hv : mLk n lo) (ha : ∀ r, r < n → ad' r = ad r) : mLs (mF cv ad') lo = mLs (mF cv ad) lo := by
  unfold mLs
  congr 1
  funext i
  cases hg : mGet lo i with
  | none => rfl
  | some v =>
    simp only [Option.map_some]
    rw [mF_up (hv.get hg) ha]
theorem mTo_spec {pc : Nat} {off : Int} {t : Nat} (h : mTo pc off = some t) : (pc : Int) + off = (t : Int) := by
  unfold mTo at h
  split at h
  · rename_i h0
    cases h
    exact (Int.toNat_of_nonneg h0).symm
  · cases h
theorem mCA_T {cv : Nat → Value} {ad : Nat → Nat} {A : Nat → Prop} {X : Nat × (Nat → Int32)} {s : State} {H : Heap} {h : mH} {a : Nat} {q : FieldType × Nat × (Nat → Value)} (hKF : mKF cv A X s H) (hX : mX h = X) (hc : mCA h a = some q) : ∃ t, cv a = .ref t ∧ va_T q.1 t q.2.1 (fun j => mF cv ad (q.2.2 j)) A s H := by
  have hsm := fun j => mCA_small hc j
  unfold mCA at hc
  split at hc
  · rename_i h0
    subst h0
    cases hc
    obtain ⟨t, e1, e2⟩ := hKF.2.1
    subst hX
    exact ⟨t, e1, e2⟩
  · cases hf : mCT.find? (fun q => q.1 == a) with
    | none => rw [hf] at hc; cases hc
    | some z =>
      rw [hf] at hc
      cases hc
      have hz1 : z.1 = a := by
        have := List.find?_some hf
        simpa using this
      obtain ⟨t, e1, e2⟩ := hKF.2.2.1 z (List.mem_of_find?_eq_some hf)
      rw [hz1] at e1
      refine ⟨t, e1, ?_⟩
      have e3 : (fun j => mF cv ad (z.2.2.getD j .null)) = (fun j => mF cv (fun a => a) (z.2.2.getD j .null)) := by
        funext j
        exact mF_const (hsm j)
      show va_T z.2.1 t z.2.2.length (fun j => mF cv ad (z.2.2.getD j .null)) A s H
      rw [e3]
      exact e2
theorem mIn_vp {i : Int32} {n : Nat} (h : mIn i n = true) : vp_in i n := of_decide_eq_true (p := ¬ (i < 0 ∨ n ≤ i.toNatClampNeg)) h
section MSIM3
variable {p : Program} {l : Launch} {e : Env} {R : Room} {s : State} {m : MethodId} {args : Array Value} {below : List Frame} {meth : Method} {c : Code} {H : Heap} {locs : List Loc} {cells slots : Nat} {Q : State → Prop} {ls : Array Slot} {cv : Nat → Value} {ad : Nat → Nat} {ca : Nat → ClassId} {tys : List (ClassId × FieldType)}
variable {D : va_G} {A : Nat → Prop} {mid c0 s0 n0 : Nat} {ad0 : Nat → Nat} {X : Nat × (Nat → Int32)} {h : mH} {lo : mLo} {st : List Value} {y : mY} {pc len : Nat}
theorem mAt.mv (h0 : mAt s D cv A mid c0 s0 n0 ad0 X lo st h H locs cells slots ls ad ca tys) {h' : mH} {H1 : Heap} {locs1 : List Loc} {st' : List Value} (hn : mN h' = mN h) (hk : mK h' = mK h) (hx : mX h' = mX h) (hc : mC h' = mC h) (hs : mS h' = mS h) (hi : mIv h') (hst : mSk (mN h) st') (hP : va_P D vwCl (mWs cv ad ca h') H1) (hD : va_D A (mWs cv ad ca h')) (hS : va_S A s.heap H1 locs1) : mAt s D cv A mid c0 s0 n0 ad0 X lo st' h' H1 locs1 cells slots ls ad ca tys := by
  obtain ⟨a1, -, -, -, a5, a6, a7, a8, a9, -, b1, b2, b3, b4⟩ := h0
  refine ⟨a1, hP, hD, hS, ?_, a6, a7, hi, by rw [hn]; exact a9, by rw [hn]; exact hst, by rw [hx]; exact b1, by rw [hc]; exact b2, by rw [hs]; exact b3, by rw [hn]; exact b4⟩
  intro a q1 q2
  rw [hk]
  exact a5 a q1 (by rw [← hn]; exact q2)
theorem mOk_dec {i : Instr} {r : List Nat} (hok : mOkI mid pc i len r = true) : decode (mBy mid) pc = .ok (i, len) ∧ (decide (mLn i = len) || decide (mLn i = 0)) = true := by
  unfold mOkI at hok
  rw [Bool.and_eq_true, Bool.and_eq_true] at hok
  exact ⟨of_decide_eq_true hok.1.1, hok.1.2⟩
theorem mPutf_sim (F : mFix p s m args meth c cv A mid X) (h0 : mAt s D cv A mid c0 s0 n0 ad0 X lo st h H locs cells slots ls ad ca tys) {idx : Nat} {r : List Nat} (hok : mOkI mid pc (.putfield idx) len r = true) (hy : mPutf pc len r lo st h = some y) (hk : mKt p l e R s m args below meth c Q D cv A mid c0 s0 n0 ad0 X y) :
    W p l e R s m args below meth c H locs cells slots Q (F0 m pc ls (st.map (mF cv ad))) := by
  have F' := F
  obtain ⟨hx, hb, hml, hown, hts, hlk, hrt, hnm, hA, hKF, hmid, htab⟩ := F'
  have h0' := h0
  obtain ⟨hK, hP, hD, hS, hT, hl, hlen, hiv, hvl, hvs, hX, hcc, hss, hnn⟩ := h0'
  obtain ⟨hd, hln⟩ := mOk_dec hok
  have hln3 : len = 3 := mLn_ok hln rfl (by decide)
  subst hln3
  unfold mOkI at hok
  rw [Bool.and_eq_true, Bool.and_eq_true] at hok
  have hok := hok.2
  -- what both kinds of store share
  have key : ∀ (ci k f z fin pp nest a : Nat) (v : Value) (st' : List Value) (h' : mH), r = [ci, k, f, z, fin, pp, nest] → mIs h a ci = true → st = v :: .ref a :: st' → y = .inl (pc + 3, lo, st', h') →
      mN h' = mN h → mK h' = mK h → mX h' = mX h → mC h' = mC h → mS h' = mS h → mIv h' → (∀ b, b ≠ a → mCell cv ad ca h' b = mCell cv ad ca h b) →
      (if mRf ci k = true then mF cv ad (mV h' a k) else .int (mI h' a k)) = mF cv ad v → (∀ j, j ≠ k → mI h' a j = mI h a j ∧ mV h' a j = mV h a j) →
      (∀ ty, mFty ci k z = true → (∃ C T N, vwCl[ci]? = some (C, T, N) ∧ parseFieldDescriptor (T k).2.2.1 = some ty) → narrow ty (mF cv ad v) = mF cv ad v ∧ fits ty (mF cv ad v) = true) →
      W p l e R s m args below meth c H locs cells slots Q (F0 m pc ls (st.map (mF cv ad))) := by
    intro ci k f z fin pp nest a v st' h' er hi es ey g1 g2 g3 g4 g5 g6 g7 g8 g9 g10
    subst er; subst es; subst ey
    have hok' : (mFld (mNm mid).cls idx ci k f pp nest && mFty ci k z && mFin (mNm mid).cls (mNm mid).name ci k fin nest && decide (ci < 100)) = true := hok
    simp only [Bool.and_eq_true] at hok'
    obtain ⟨⟨⟨w1, w2⟩, w3⟩, w4⟩ := hok'
    have hci := of_decide_eq_true w4
    obtain ⟨i1, i2, i3⟩ := mIs_spec hi
    have hce := h0.cell hi
    rw [mCell_obj i3 hci] at hce
    unfold mFld at w1
    split at w1
    · cases w1
    · rename_i C T N hcl
      simp only [Bool.and_eq_true, decide_eq_true_eq] at w1
      obtain ⟨⟨⟨⟨k1, k2⟩, k3⟩, k4⟩, k5⟩ := w1
      obtain ⟨u1, u2, ty, u3⟩ := mCls hcl
      have hd1 := u3 k k1
      obtain ⟨hn, hf⟩ := g10 (ty k) w2 ⟨C, T, N, hcl, hd1⟩
      have hw : (mWs cv ad ca h).set (a - mNC) (ad a, .inr (ci, (mFd cv ad h a ci).set k (mF cv ad v))) = mWs cv ad ca h' := by
        rw [mFd_set (h' := h') (by omega) g8 g9, ← mCell_obj (ca := ca) (by rw [g2]; exact i3) hci]
        exact mWs_set i1 i2 g1 g7
      have kk : ∀ (H1 : Heap) (locs1 : List Loc), va_P D vwCl ((mWs cv ad ca h).set (a - mNC) (ad a, .inr (ci, (mFd cv ad h a ci).set k (mF cv ad v)))) H1 → va_D A ((mWs cv ad ca h).set (a - mNC) (ad a, .inr (ci, (mFd cv ad h a ci).set k (mF cv ad v)))) → va_S A s.heap H1 locs1 → W p l e R s m args below meth c H1 locs1 cells slots Q (F0 m (pc + 3) ls (st'.map (mF cv ad))) := by
        intro H1 locs1 p1 p2 p3
        rw [hw] at p1 p2
        exact hk.2.2 _ _ _ _ _ _ _ _ (h0.mv g1 g2 g3 g4 g5 g6 hvs.tl.tl p1 p2 p3)
      rw [List.map_cons, List.map_cons, mF_hi i1]
      unfold mFin at w3
      rw [hcl] at w3
      dsimp only at w3
      split at w3
      · rename_i hfin
        simp only [Bool.and_eq_true, decide_eq_true_eq] at w3
        obtain ⟨⟨⟨v1, v2⟩, v3⟩, v4⟩ := w3
        rw [if_pos v4] at k5
        exact va_putF hx hb hts u1 ty u3 u2 hown hK hP hD hS (a - mNC) hce hcl k k1 (hts _ (by rw [← k2] at k5; exact mW_in k5)) (fun _ z => z) hfin (hnm v2) v3 hd1 hn hf (by rw [mFd_len]; omega) hd kk
      · rename_i hfin
        have hfin : (T k).2.2.2 = false := by simpa using hfin
        split at k5
        · exact va_put hx hb hts u1 ty u3 u2 hown hK hP hD hS (a - mNC) hce hcl k k1 (hts _ (by rw [← k2] at k5; exact mW_in k5)) (fun _ z => z) hfin hd1 hn hf (by rw [mFd_len]; omega) hd kk
        · unfold mWn at k5
          rw [Bool.and_eq_true] at k5
          have hw := hKF.2.2.2.2.2.2.1 _ (List.mem_of_getElem? (of_decide_eq_true k5.1)) (Or.inr k5.2)
          exact va_putN hx hb hts u1 ty u3 u2 hown hK hP hD hS (a - mNC) hce hcl k k1 (by have := va_Nw.use (A := args) rfl hw; rw [← k2] at this; exact this) (fun _ z => z) hfin hd1 hn hf (by rw [mFd_len]; omega) hd kk
  unfold mPutf at hy
  split at hy
  · rename_i ci k f z fin pp nest x a st' _
    split at hy
    · rename_i hi
      cases hy
      refine key ci k f z fin pp nest a (.int x) st' (mSI h a k x) rfl hi.1 rfl rfl rfl rfl rfl rfl rfl hiv ?_ ?_ ?_ ?_
      · intro b hb
        exact mCell_eq rfl (mI_SI_other hb) rfl (fun _ => rfl) rfl
      · rw [hi.2.1, if_neg (by decide), mI_SI, if_pos ⟨rfl, rfl⟩]
        rfl
      · intro j hj
        refine ⟨?_, rfl⟩
        rw [mI_SI, if_neg (fun q => hj q.2)]
      · intro ty ht hex
        obtain ⟨C, T, N, e1, e2⟩ := hex
        unfold mFty at ht
        rw [e1] at ht
        dsimp only at ht
        rw [e2, hi.2.1] at ht
        show narrow ty (.int x) = .int x ∧ fits ty (.int x) = true
        cases ty with
        | int => exact ⟨rfl, rfl⟩
        | boolean =>
          have hz : z = 1 := by simpa using ht
          rcases hi.2.2 with q | q | q
          · omega
          · subst q; exact ⟨rfl, rfl⟩
          · subst q; exact ⟨rfl, rfl⟩
        | _ => simp at ht
    · cases hy
  · rename_i ci k f z fin pp nest v a st' _
    split at hy
    · rename_i hi
      cases hy
      refine key ci k f z fin pp nest a (.ref v) st' (mSV h a k (.ref v)) rfl hi.1 rfl rfl rfl rfl rfl rfl rfl (hiv.SV _ _ hvs.hd) ?_ ?_ ?_ ?_
      · intro b hb
        exact mCell_eq rfl rfl rfl (fun j => by rw [mV_SV_other hb]) rfl
      · rw [hi.2, if_pos rfl, mV_SV, if_pos ⟨rfl, rfl⟩]
      · intro j hj
        refine ⟨rfl, ?_⟩
        rw [mV_SV, if_neg (fun q => hj q.2)]
      · intro ty ht hex
        obtain ⟨C, T, N, e1, e2⟩ := hex
        unfold mFty at ht
        rw [e1] at ht
        dsimp only at ht
        rw [e2, hi.2] at ht
        cases ty with
        | object o => rcases mF_ref (ad := ad) hKF.1 v with q | ⟨a, q⟩ <;> rw [q] <;> exact ⟨rfl, rfl⟩
        | array o => rcases mF_ref (ad := ad) hKF.1 v with q | ⟨a, q⟩ <;> rw [q] <;> exact ⟨rfl, rfl⟩
        | _ => simp at ht
    · cases hy
  · cases hy
theorem mLen_sim (F : mFix p s m args meth c cv A mid X) (h0 : mAt s D cv A mid c0 s0 n0 ad0 X lo st h H locs cells slots ls ad ca tys) {r : List Nat} (hok : mOkI mid pc .arraylength len r = true) (hy : mLen pc len lo st h = some y) (hk : mKt p l e R s m args below meth c Q D cv A mid c0 s0 n0 ad0 X y) :
    W p l e R s m args below meth c H locs cells slots Q (F0 m pc ls (st.map (mF cv ad))) := by
  have F' := F
  obtain ⟨hx, hb, hml, hown, hts, hlk, hrt, hnm, hA, hKF, hmid, htab⟩ := F'
  have h0' := h0
  obtain ⟨hK, hP, hD, hS, hT, hl, hlen, hiv, hvl, hvs, hX, hcc, hss, hnn⟩ := h0'
  obtain ⟨hd, hln⟩ := mOk_dec hok
  have hln1 : len = 1 := mLn_ok hln rfl (by decide)
  subst hln1
  unfold mLen at hy
  split at hy
  · rename_i a st'
    split at hy
    · rename_i hlt
      cases hc : mCA h a with
      | none => rw [hc] at hy; cases hy
      | some q =>
        rw [hc] at hy
        have hgo := mAt.go h0 hy (mSk.cons mVk.int hvs.tl) hk
        obtain ⟨t, e1, e2⟩ := mCA_T (ad := ad) hKF hX hc
        rw [List.map_cons] at hgo ⊢
        rw [mF_lo hlt, e1]
        exact va_tlen hx hb e2 hS rfl hd hgo
    · split at hy
      · rename_i hi
        have hgo := mAt.go h0 hy (mSk.cons mVk.int hvs.tl) hk
        rw [List.map_cons] at hgo ⊢
        rcases hi with hi | hi
        · obtain ⟨i1, i2, i3⟩ := mIs_spec hi
          have hce := h0.cell hi
          rw [mCell_int i3] at hce
          obtain ⟨t, ht⟩ := (hT a i1 i2).1 i3
          rw [mF_hi i1]
          exact va_alen hx hb hK hP (a - mNC) t hce ht rfl hd hgo
        · obtain ⟨i1, i2, i3⟩ := mIs_spec hi
          have hce := h0.cell hi
          rw [mCell_long i3] at hce
          obtain ⟨t, ht⟩ := (hT a i1 i2).2 i3
          rw [mF_hi i1]
          exact va_alen hx hb hK hP (a - mNC) t hce ht rfl hd hgo
      · cases hy
  · cases hy
theorem mAld_sim (F : mFix p s m args meth c cv A mid X) (h0 : mAt s D cv A mid c0 s0 n0 ad0 X lo st h H locs cells slots ls ad ca tys) {i : Instr} {r : List Nat} (hok : mOkI mid pc i len r = true) (hy : mAld i pc len lo st h = some y) (hk : mKt p l e R s m args below meth c Q D cv A mid c0 s0 n0 ad0 X y) :
    W p l e R s m args below meth c H locs cells slots Q (F0 m pc ls (st.map (mF cv ad))) := by
  have F' := F
  obtain ⟨hx, hb, hml, hown, hts, hlk, hrt, hnm, hA, hKF, hmid, htab⟩ := F'
  have h0' := h0
  obtain ⟨hK, hP, hD, hS, hT, hl, hlen, hiv, hvl, hvs, hX, hcc, hss, hnn⟩ := h0'
  obtain ⟨hd, hln⟩ := mOk_dec hok
  have cst : ∀ (a : Nat) (j : Int32) (st' : List Value) (P : FieldType → Prop) [dp : ∀ t, Decidable (P t)], st = .int j :: .ref a :: st' → a < mNC → ((mCA h a).bind (fun q => if P q.1 ∧ mIn j q.2.1 = true then mGo (pc + len) lo (q.2.2 j.toNatClampNeg :: st') h else none)) = some y →
      (∀ (ty : FieldType) (t N : Nat) (f : Nat → Value), P ty → va_T ty t N f A s s.heap → vp_in j N → W p l e R s m args below meth c H locs cells slots Q (F0 m (pc + len) ls (f j.toNatClampNeg :: st'.map (mF cv ad))) → W p l e R s m args below meth c H locs cells slots Q (F0 m pc ls (.int j :: .ref t :: st'.map (mF cv ad)))) →
      W p l e R s m args below meth c H locs cells slots Q (F0 m pc ls (st.map (mF cv ad))) := by
    intro a j st' P dp es hlt hz row
    subst es
    cases hc : mCA h a with
    | none => rw [hc] at hz; cases hz
    | some q =>
      rw [hc] at hz
      have hz' : (if P q.1 ∧ mIn j q.2.1 = true then mGo (pc + len) lo (q.2.2 j.toNatClampNeg :: st') h else none) = some y := hz
      split at hz'
      · rename_i hp
        have hgo := mAt.go h0 hz' (mSk.cons (fun r hr => Nat.lt_of_lt_of_le (mCA_small hc _ r hr) hiv.1) hvs.tl.tl) hk
        obtain ⟨t, e1, e2⟩ := mCA_T (ad := ad) hKF hX hc
        rw [List.map_cons] at hgo
        rw [List.map_cons, List.map_cons, mF_lo hlt, e1]
        exact row q.1 t q.2.1 _ hp.1 e2 (mIn_vp hp.2) hgo
      · cases hz'
  unfold mAld at hy
  split at hy
  · rename_i j a st'
    have hln1 : len = 1 := mLn_ok hln rfl (by decide)
    subst hln1
    split at hy
    · rename_i hlt
      exact cst a j st' (fun t => t = .int) rfl hlt hy (fun ty t N f e1 e2 e3 e4 => by subst e1; exact va_ti hx hb e2 hS e3 rfl hd e4)
    · split at hy
      · rename_i hi
        obtain ⟨i1, i2, i3⟩ := mIs_spec hi.1
        have hgo := mAt.go h0 hy (mSk.cons mVk.int hvs.tl.tl) hk
        have hce := h0.cell hi.1
        rw [mCell_int i3] at hce
        obtain ⟨t, ht⟩ := (hT a i1 i2).1 i3
        rw [List.map_cons] at hgo
        rw [List.map_cons, List.map_cons, mF_hi i1]
        exact va_iald hx hb hK hP (a - mNC) t hce ht (mIn_vp hi.2) hd hgo
      · cases hy
  · rename_i j a st'
    have hln1 : len = 1 := mLn_ok hln rfl (by decide)
    subst hln1
    split at hy
    · rename_i hlt
      exact cst a j st' (fun t => t = .byte) rfl hlt hy (fun ty t N f e1 e2 e3 e4 => by subst e1; exact va_tb hx hb e2 hS e3 rfl hd e4)
    · cases hy
  · rename_i j a st'
    have hln1 : len = 1 := mLn_ok hln rfl (by decide)
    subst hln1
    split at hy
    · rename_i hlt
      exact cst a j st' (fun t => t = .object "java/lang/String") rfl hlt hy (fun ty t N f e1 e2 e3 e4 => by subst e1; exact vb_tq hx hb e2 hS e3 rfl hd e4)
    · cases hy
  · rename_i j a st'
    have hln1 : len = 1 := mLn_ok hln rfl (by decide)
    subst hln1
    split at hy
    · rename_i hi
      obtain ⟨i1, i2, i3⟩ := mIs_spec hi.1
      have hgo := mAt.go h0 hy (mSk.cons mVk.long hvs.tl.tl) hk
      have hce := h0.cell hi.1
      rw [mCell_long i3] at hce
      obtain ⟨t, ht⟩ := (hT a i1 i2).2 i3
      rw [List.map_cons] at hgo
      rw [List.map_cons, List.map_cons, mF_hi i1]
      exact va_lald hx hb hK hP (a - mNC) t hce ht (mIn_vp hi.2) hd hgo
    · cases hy
  · cases hy
theorem mAst_sim (F : mFix p s m args meth c cv A mid X) (h0 : mAt s D cv A mid c0 s0 n0 ad0 X lo st h H locs cells slots ls ad ca tys) {i : Instr} {r : List Nat} (hok : mOkI mid pc i len r = true) (hy : mAst i pc len lo st h = some y) (hk : mKt p l e R s m args below meth c Q D cv A mid c0 s0 n0 ad0 X y) :
    W p l e R s m args below meth c H locs cells slots Q (F0 m pc ls (st.map (mF cv ad))) := by
  have F' := F
  obtain ⟨hx, hb, hml, hown, hts, hlk, hrt, hnm, hA, hKF, hmid, htab⟩ := F'
  have h0' := h0
  obtain ⟨hK, hP, hD, hS, hT, hl, hlen, hiv, hvl, hvs, hX, hcc, hss, hnn⟩ := h0'
  obtain ⟨hd, hln⟩ := mOk_dec hok
  unfold mAst at hy
  split at hy
  · rename_i x j a st'
    have hln1 : len = 1 := mLn_ok hln rfl (by decide)
    subst hln1
    split at hy
    · rename_i hi
      cases hy
      obtain ⟨i1, i2, i3⟩ := mIs_spec hi.1
      have hce := h0.cell hi.1
      rw [mCell_int i3] at hce
      obtain ⟨t, ht⟩ := (hT a i1 i2).1 i3
      rw [List.map_cons, List.map_cons, List.map_cons, mF_hi i1]
      have hw : (mWs cv ad ca h).set (a - mNC) (ad a, .inl (ca a, (mK h a).2, .inl (upd (mI h a) j.toNatClampNeg x))) = mWs cv ad ca (mSI h a j.toNatClampNeg x) := by
        rw [← mI_SI_self]
        have e1 := mCell_int (cv := cv) (ad := ad) (ca := ca) (h := mSI h a j.toNatClampNeg x) (a := a) i3
        rw [mK_SI] at e1
        rw [← e1]
        exact mWs_set i1 i2 rfl (fun b hb => mCell_eq rfl (mI_SI_other hb) rfl (fun _ => rfl) rfl)
      refine va_iast hx hb hK hP hD hS (a - mNC) t hce ht (mIn_vp hi.2) hd (fun H1 locs1 p1 p2 p3 => ?_)
      rw [hw] at p1 p2
      exact hk.2.2 _ _ _ _ _ _ _ _ (h0.mv rfl rfl rfl rfl rfl hiv hvs.tl.tl.tl p1 p2 p3)
    · cases hy
  · rename_i x j a st'
    have hln1 : len = 1 := mLn_ok hln rfl (by decide)
    subst hln1
    split at hy
    · rename_i hi
      cases hy
      obtain ⟨i1, i2, i3⟩ := mIs_spec hi.1
      have hce := h0.cell hi.1
      rw [mCell_long i3] at hce
      obtain ⟨t, ht⟩ := (hT a i1 i2).2 i3
      rw [List.map_cons, List.map_cons, List.map_cons, mF_hi i1]
      have hw : (mWs cv ad ca h).set (a - mNC) (ad a, .inl (ca a, (mK h a).2, .inr (.inl (vp_updL (mL h a) j.toNatClampNeg x)))) = mWs cv ad ca (mSL h a j.toNatClampNeg x) := by
        rw [← mL_SL_self]
        have e1 := mCell_long (cv := cv) (ad := ad) (ca := ca) (h := mSL h a j.toNatClampNeg x) (a := a) i3
        rw [mK_SL] at e1
        rw [← e1]
        exact mWs_set i1 i2 rfl (fun b hb => mCell_eq rfl rfl (mL_SL_other hb) (fun _ => rfl) rfl)
      refine va_last hx hb hK hP hD hS (a - mNC) t hce ht (mIn_vp hi.2) hd (fun H1 locs1 p1 p2 p3 => ?_)
      rw [hw] at p1 p2
      exact hk.2.2 _ _ _ _ _ _ _ _ (h0.mv rfl rfl rfl rfl rfl hiv hvs.tl.tl.tl p1 p2 p3)
    · cases hy
  · cases hy
end MSIM3
