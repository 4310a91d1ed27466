/-! CALLS OF THE SMALL MACHINE, OVER THE MACHINE: behind them; Object's constructor, arraycopy -/
theorem mOw_i : Cond.instanceMethod Lib.objectInit ∈ mWall := mWall_of (p := 133) (by decide +kernel) (by decide +kernel)
theorem mOw_c : Cond.code Lib.objectInit ⟨#[0xb1]⟩ 1 none ∈ mWall := mWall_of (p := 134) (by decide +kernel) (by decide +kernel)
theorem mAw_n : Cond.native arraycopyName ∈ lw_tbl ∧ (goodWord (Cond.native arraycopyName) = true ∨ mFace (Cond.native arraycopyName) = true) := ⟨List.mem_of_getElem? (i := 1830) (by decide +kernel), by decide +kernel⟩
theorem mAw_s : Cond.static arraycopyName ∈ mWall := mWall_of (p := 1829) (by decide +kernel) (by decide +kernel)
theorem mAw_d : Cond.initialized "java/lang/System" ∈ mWall := mWall_of (p := 123) (by decide +kernel) (by decide +kernel)
theorem mAw_w : nativeFrameWords "java/lang/System" "arraycopy" 5 ≤ 100 := by decide +kernel
section MSIM6
variable {p : Program} {l : Launch} {e : Env} {R : Room} {s : State} {m : MethodId} {args : Array Value} {below : List Frame} {meth : Method} {c : Code} {H : Heap} {locs : List Loc} {cells slots : Nat} {Q : State → Prop} {ls : Array Slot} {cv : Nat → Value} {ad : Nat → Nat} {ca : Nat → ClassId} {tys : List (ClassId × FieldType)}
variable {D : va_G} {A : Nat → Prop} {mid c0 s0 n0 d : Nat} {ad0 : Nat → Nat} {X : Nat × (Nat → Int32)} {h : mH} {lo : mLo} {st : List Value} {y : mY} {pc len : Nat}
theorem mCall_W {o : mO} {mc ms : Nat} {st0 rest : List Value} {a : Array Value} (hr : vx_Run p l e R s m args below meth c H locs cells slots mc ms (F0 m pc ls st0) rest (mPo D cv ad ca H.size h o a) (mPx D cv ad ca H.size h o) (va_A (mWs cv ad ca h) H.size)) (hS : va_S A s.heap H locs) (hA1 : ∀ q, va_A (mWs cv ad ca h) H.size q → A q)
    (kk : ∀ (v : Option Value) (ad' : Nat → Nat) (ca' : Nat → ClassId) (tys' : List (ClassId × FieldType)) (t : State) (H1 : Heap) (locs1 : List Loc), o.1 = .inl v → mBh D cv ad ca H.size h o ad' ca' tys' t → t.heap = H1 → s.vm.Alike t.vm → va_S A s.heap H1 locs1 → W p l e R s m args below meth c H1 locs1 (cells + mc) (slots + ms) Q (F0 m (pc + 3) ls ((v.map (mF cv ad')).toList ++ rest)))
    (kx : ∀ (x : Nat) (E : String) (ce : Cell) (q9 : Addr) (ad' : Nat → Nat) (ca' : Nat → ClassId) (tys' : List (ClassId × FieldType)) (t : State) (H1 : Heap) (locs1 : List Loc), o.1 = .inr x → mExc[x]? = some E → mBh D cv ad ca H.size h o ad' ca' tys' t → t.heap = H1 → s.vm.Alike t.vm → va_S A s.heap H1 locs1 → H1[q9]? = some ce → ce.vm = .none → s.vm.findClass E = some ce.cls → vx_W p l e R s m args below meth c H1 locs1 (cells + mc) (slots + ms) Q (F0 m pc ls rest) q9) :
    W p l e R s m args below meth c H locs cells slots Q (F0 m pc ls st0) := by
  intro T hT X
  rcases hr T hT X with ⟨v, st₀, t, T', L, h0, X', hL, e1, e2, ⟨⟨v1, ad', ca', tys', g1, g2, g3⟩, hF⟩, stp⟩ | ⟨q, st₀, t, T', L, E, ce, h0, X', hL, e1, e2, ⟨⟨x, ad', ca', tys', g1, g2, g3⟩, hF⟩, hce, hcv, hcl, stp⟩
  · cases g2
    obtain ⟨k1, k2, k3⟩ := vx_keep h0 e1 hS (fun q _ h => hA1 q h) hA1 hL hF
    obtain ⟨t2, a1, b1⟩ := kk v1 ad' ca' tys' t T'.heap (locs ++ L) g1 g3 e1.symm (by rw [← e2]; exact X'.warmed.alike) k3 T' rfl X'
    exact ⟨t2, stp t2 a1, b1⟩
  · obtain ⟨k1, k2, k3⟩ := vx_keep h0 e1 hS (fun q _ h => hA1 q h) hA1 hL hF
    obtain ⟨t2, a1, b1⟩ := kx x E ce q ad' ca' tys' t T'.heap (locs ++ L) g1 g2 g3 e1.symm (by rw [← e2]; exact X'.warmed.alike) k3 (by rw [e1]; exact hce) hcv hcl T' rfl X'
    exact ⟨t2, stp.trans a1, b1⟩
theorem mAt.cal (h0 : mAt s D cv A mid c0 s0 n0 ad0 X lo st h H locs cells slots ls ad ca tys) {o : mO} (go : mOk o) (gl : mLe h o.2) {ad' : Nat → Nat} {ca' : Nat → ClassId} {tys' : List (ClassId × FieldType)} {t : State} {H1 : Heap} {locs1 : List Loc} {st' : List Value}
    (hB : mBh D cv ad ca H.size h o ad' ca' tys' t) (ht : t.heap = H1) (hv : s.vm.Alike t.vm) (hS1 : va_S A s.heap H1 locs1) (hA1 : ∀ q, va_A (mWs cv ad ca h) H.size q → A q) (hst : mSk (mN o.2) st') :
    mAt s D cv A mid c0 s0 n0 ad0 X lo st' o.2 H1 locs1 (cells + (mC o.2 - mC h)) (slots + (mS o.2 - mS h)) ls ad' ca' tys' := by
  obtain ⟨-, -, -, -, a5, a6, a7, a8, a9, -, b1, b2, b3, b4⟩ := h0
  obtain ⟨g1, g2, g3, g4, g5⟩ := hB
  have q1 := b2.1
  have q2 := b2.2
  have q3 := b3.1
  have q4 := b3.2
  have q5 := gl.2.1
  have q6 := gl.2.2.1
  refine ⟨va_K.moved hv.symm g3, by rw [← ht]; exact g2, g4.weaken (fun _ _ _ z => hA1 _ z), hS1, g5, ?_, a7, go.1, a9.up gl.1, hst, gl.2.2.2.1.trans b1, ⟨by omega, by omega⟩, ⟨by omega, by omega⟩, Nat.le_trans b4.1 gl.1, fun r hr => ?_⟩
  · rw [mLs_up a9 g1]
    exact a6
  · rw [g1 r (Nat.lt_of_lt_of_le hr b4.1)]
    exact b4.2 r hr
theorem mAt.free (F : mFix p s m args meth c cv A mid X) (h0 : mAt s D cv A mid c0 s0 n0 ad0 X lo st h H locs cells slots ls ad ca tys) : ∀ q, va_A (mWs cv ad ca h) H.size q → A q := by
  obtain ⟨hx, hb, hml, hown, hts, hlk, hrt, hnm, hA, hKF, hmid, htab⟩ := F
  intro q hq
  rcases hq with ⟨k, e, hk⟩ | hq
  · exact h0.2.2.1.2 k (q, e) hk
  · exact hA q (Nat.le_trans h0.2.2.2.1.1 hq)
theorem mObj_sim (F : mFix p s m args meth c cv A mid X) (h0 : mAt s D cv A mid c0 s0 n0 ad0 X lo st h H locs cells slots ls ad ca tys) (hRf : d + 9 ≤ R.frames) (hRl : 40 * d + 340 ≤ R.locals) {idx y' n pp nest a : Nat} {st' : List Value} (es : st = .ref a :: st') (ha : mNC ≤ a) (hsum : mSum st' ≤ 8) (hok : mOkI mid pc (.invokespecial idx) len [3, y', n, pp, nest] = true) (hy : mGo (pc + len) lo st' h = some y) (hk : mKt p l e R s m args below meth c Q D cv A mid c0 s0 n0 ad0 X y) :
    W p l e R s m args below meth c H locs cells slots Q (F0 m pc ls (st.map (mF cv ad))) := by
  subst es
  have F' := F
  obtain ⟨hx, hb, hml, hown, hts, hlk, hrt, hnm, hA, hKF, hmid, htab⟩ := F'
  have h0' := h0
  obtain ⟨hK, hP, hD, hS, hT, hl, hlen, hiv, hvl, hvs, hX, hcc, hss, hnn⟩ := h0'
  obtain ⟨hd, hln⟩ := mOk_dec hok
  have hln3 : len = 3 := mLn_ok hln rfl (by decide)
  subst hln3
  unfold mOkI at hok
  rw [Bool.and_eq_true, Bool.and_eq_true] at hok
  have hok : mW pp (.methodLink (mNm mid).cls idx Lib.objectInit) = true := hok.2
  have hgo := mAt.go h0 hy hvs.tl hk
  rw [List.map_cons, mF_hi ha]
  have hs2 : ((st'.map (mF cv ad)).map fun v => v.category).sum ≤ 8 := by
    rw [List.map_map]
    have e1 : ((fun v : Value => v.category) ∘ mF cv ad) = fun v => v.category := funext fun v => mF_cat hKF.1 v
    rw [e1]
    exact hsum
  refine W.objInit hx hb hown (hts _ (mW_in hok)) (hts _ mOw_i) (hts _ mOw_c) (g := F0 m pc ls (.ref (ad a) :: st'.map (mF cv ad))) rfl (by show ls.size = c.maxLocals; rw [hl.1, hml]) rfl hd (by omega) ?_ hgo
  show 2 * 0 + ((st'.map (mF cv ad)).map fun v => v.category).sum + 12 ≤ R.locals
  omega
theorem mCpy_sim (F : mFix p s m args meth c cv A mid X) (h0 : mAt s D cv A mid c0 s0 n0 ad0 X lo st h H locs cells slots ls ad ca tys) (hRf : d + 9 ≤ R.frames) (hRl : 40 * d + 340 ≤ R.locals) {idx y' n' pp nest a b : Nat} {i j n : Int32} {st' : List Value} (es : st = .int n :: .int j :: .ref b :: .int i :: .ref a :: st')
    (hc : mSum st' ≤ 8 ∧ mIs h a 100 = true ∧ mIs h b 100 = true ∧ ¬ i < 0 ∧ ¬ j < 0 ∧ ¬ n < 0 ∧ i.toNatClampNeg + n.toNatClampNeg ≤ (mK h a).2 ∧ j.toNatClampNeg + n.toNatClampNeg ≤ (mK h b).2) (hok : mOkI mid pc (.invokestatic idx) len [4, y', n', pp, nest] = true) (hy : mGo (pc + len) lo st' (mCpy h a i.toNatClampNeg b j.toNatClampNeg n.toNatClampNeg) = some y) (hk : mKt p l e R s m args below meth c Q D cv A mid c0 s0 n0 ad0 X y) :
    W p l e R s m args below meth c H locs cells slots Q (F0 m pc ls (st.map (mF cv ad))) := by
  subst es
  have F' := F
  obtain ⟨hx, hb, hml, hown, hts, hlk, hrt, hnm, hA, hKF, hmid, htab⟩ := F'
  have h0' := h0
  obtain ⟨hK, hP, hD, hS, hT, hl, hlen, hiv, hvl, hvs, hX, hcc, hss, hnn⟩ := h0'
  obtain ⟨hd, hln⟩ := mOk_dec hok
  have hln3 : len = 3 := mLn_ok hln rfl (by decide)
  subst hln3
  unfold mOkI at hok
  rw [Bool.and_eq_true, Bool.and_eq_true] at hok
  have hok : mW pp (.methodLink (mNm mid).cls idx arraycopyName) = true := hok.2
  obtain ⟨z1, z2, z3, z4, z5, z6, z7, z8⟩ := hc
  obtain ⟨i1, i2, i3⟩ := mIs_spec z2
  obtain ⟨j1, j2, j3⟩ := mIs_spec z3
  have hca := h0.cell z2
  rw [mCell_int i3] at hca
  have hcb := h0.cell z3
  rw [mCell_int j3] at hcb
  obtain ⟨ta, hta⟩ := (hT a i1 i2).1 i3
  obtain ⟨tb, htb⟩ := (hT b j1 j2).1 j3
  have hnat : (Cond.native arraycopyName).before args s = true := by
    rcases mAw_n.2 with q | q
    · exact hts _ (List.mem_filter.mpr ⟨mAw_n.1, q⟩)
    · refine va_Nw.use ?_ (hKF.2.2.2.2.2.2.1 _ mAw_n.1 (Or.inl q))
      unfold mFace at q
      rw [Bool.and_eq_true] at q
      exact q.1
  have hs2 : ((st'.map (mF cv ad)).map fun v => v.category).sum ≤ 8 := by
    rw [List.map_map]
    have e1 : ((fun v : Value => v.category) ∘ mF cv ad) = fun v => v.category := funext fun v => mF_cat hKF.1 v
    rw [e1]
    exact z1
  cases hy
  have hmi : ∀ q, mI (mCpy h a i.toNatClampNeg b j.toNatClampNeg n.toNatClampNeg) q = if q = b then va_cpy (mI h a) (mI h b) i.toNatClampNeg j.toNatClampNeg n.toNatClampNeg else mI h q := by
    intro q
    funext k
    show (if q = b ∧ j.toNatClampNeg ≤ k ∧ k < j.toNatClampNeg + n.toNatClampNeg then h.1 a (i.toNatClampNeg + (k - j.toNatClampNeg)) else h.1 q k) = _
    by_cases hq : q = b
    · subst hq
      rw [if_pos rfl]
      unfold va_cpy
      by_cases hk2 : j.toNatClampNeg ≤ k ∧ k < j.toNatClampNeg + n.toNatClampNeg
      · rw [if_pos ⟨rfl, hk2⟩, if_pos hk2]; rfl
      · rw [if_neg (fun q => hk2 q.2), if_neg hk2]; rfl
    · rw [if_neg (fun z => hq z.1), if_neg hq]; rfl
  have hw : (mWs cv ad ca h).set (b - mNC) (ad b, .inl (ca b, (mK h b).2, .inl (va_cpy (mI h a) (mI h b) i.toNatClampNeg j.toNatClampNeg n.toNatClampNeg))) = mWs cv ad ca (mCpy h a i.toNatClampNeg b j.toNatClampNeg n.toNatClampNeg) := by
    have e1 := mCell_int (cv := cv) (ad := ad) (ca := ca) (h := mCpy h a i.toNatClampNeg b j.toNatClampNeg n.toNatClampNeg) (a := b) j3
    rw [hmi b, if_pos rfl] at e1
    rw [show (Sum.inl (ca b, (mK h b).2, Sum.inl (va_cpy (mI h a) (mI h b) i.toNatClampNeg j.toNatClampNeg n.toNatClampNeg)) : va_E) = mCell cv ad ca (mCpy h a i.toNatClampNeg b j.toNatClampNeg n.toNatClampNeg) b from e1.symm]
    exact mWs_set j1 j2 rfl (fun q hq => mCell_eq rfl (by rw [hmi q, if_neg hq]) rfl (fun _ => rfl) rfl)
  simp only [List.map_cons]
  rw [mF_hi i1, mF_hi j1]
  refine va_copyi hx hb (by rw [hl.1, hml]) hown (hts _ (mW_in hok)) hnat (hts _ mAw_s) (hts _ mAw_d) hK hP hD hS (a - mNC) (b - mNC) ta tb hca hcb hta htb rfl z4 z5 z6 z7 z8 (fun _ _ => rfl) (by omega) ?_ hd (fun H1 locs1 p1 p2 p3 => ?_)
  · have := mAw_w
    omega
  · rw [hw] at p1 p2
    exact hk.2.2 _ _ _ _ _ _ _ _ (h0.mv rfl rfl rfl rfl rfl hiv hvs.tl.tl.tl.tl.tl p1 p2 p3)
end MSIM6
