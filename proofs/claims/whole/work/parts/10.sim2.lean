/-! ONE INSTRUCTION OF THE SMALL MACHINE, OVER THE MACHINE: the heap -/
theorem mUws_of {ws : List Cond} (ps : List Nat) (h1 : ws = ps.filterMap (fun i => lw_tbl[i]?)) (h2 : ws.all goodWord = true) : ∀ w ∈ ws, w ∈ mWall := by
  intro w hw
  have h3 := List.all_eq_true.mp h2 w hw
  rw [h1] at hw
  obtain ⟨i, -, hi⟩ := List.mem_filterMap.mp hw
  exact mWall_of hi h3
theorem mUws_0 : ∀ w ∈ u_ws RX0 TX0 4, w ∈ mWall := mUws_of [484, 486, 488, 490] (by decide +kernel) (by decide +kernel)
theorem mUws_1 : ∀ w ∈ u_ws RX1 TX1 6, w ∈ mWall := mUws_of [200, 202, 204, 206, 208, 210] (by decide +kernel) (by decide +kernel)
theorem mUws_2 : ∀ w ∈ u_ws RX2 TX2 4, w ∈ mWall := mUws_of [225, 227, 229, 231] (by decide +kernel) (by decide +kernel)
theorem mUws_3 : ∀ w ∈ u_ws RX3 TX3 7, w ∈ mWall := mUws_of [339, 341, 343, 345, 347, 349, 351] (by decide +kernel) (by decide +kernel)
theorem mUws_4 : ∀ w ∈ u_ws RX4 TX4 2, w ∈ mWall := mUws_of [143, 145] (by decide +kernel) (by decide +kernel)
theorem mUws_5 : ∀ w ∈ u_ws RX5 TX5 6, w ∈ mWall := mUws_of [455, 457, 459, 461, 463, 465] (by decide +kernel) (by decide +kernel)
theorem mUws_6 : ∀ w ∈ u_ws RX6 TX6 8, w ∈ mWall := mUws_of [388, 390, 392, 394, 396, 398, 400, 402] (by decide +kernel) (by decide +kernel)
theorem mUws_7 : ∀ w ∈ u_ws RX7 TX7 14, w ∈ mWall := mUws_of [299, 301, 303, 305, 307, 309, 311, 313, 315, 317, 319, 321, 323, 325] (by decide +kernel) (by decide +kernel)
theorem mUws_8 : ∀ w ∈ u_ws RX8 TX8 6, w ∈ mWall := mUws_of [173, 175, 177, 179, 181, 183] (by decide +kernel) (by decide +kernel)
theorem mUws_9 : ∀ w ∈ u_ws RX9 TX9 10, w ∈ mWall := mUws_of [420, 422, 424, 426, 428, 430, 432, 434, 436, 438] (by decide +kernel) (by decide +kernel)
theorem mUws_10 : ∀ w ∈ u_ws RX10 TX10 14, w ∈ mWall := mUws_of [509, 511, 513, 515, 517, 519, 521, 523, 525, 527, 529, 531, 533, 535] (by decide +kernel) (by decide +kernel)
theorem mUws_11 : ∀ w ∈ u_ws RX11 TX11 21, w ∈ mWall := mUws_of [1548, 1550, 1552, 1554, 1556, 1558, 1560, 1562, 1564, 1566, 1568, 1570, 1572, 1574, 1576, 1578, 1580, 1582, 1584, 1586, 1588] (by decide +kernel) (by decide +kernel)
theorem mUws_12 : ∀ w ∈ u_ws RX12 TX12 22, w ∈ mWall := mUws_of [1633, 1635, 1637, 1639, 1641, 1643, 1645, 1647, 1649, 1651, 1653, 1655, 1657, 1659, 1661, 1663, 1665, 1667, 1669, 1671, 1673, 1675] (by decide +kernel) (by decide +kernel)
theorem mUws_13 : ∀ w ∈ u_ws RX13 TX13 16, w ∈ mWall := mUws_of [1698, 1700, 1702, 1704, 1706, 1708, 1710, 1712, 1714, 1716, 1718, 1720, 1722, 1724, 1726, 1728] (by decide +kernel) (by decide +kernel)
theorem mCls {ci : Nat} {C : String} {T : u_T} {N : Nat} (h : vwCl[ci]? = some (C, T, N)) : (∀ w ∈ u_ws C T N, w ∈ mWall) ∧ (∀ a, a < N → ∀ b, b < N → a ≠ b → (T a).2.1 ≠ (T b).2.1) ∧ ∃ ty : Nat → FieldType, ∀ k, k < N → parseFieldDescriptor (T k).2.2.1 = some (ty k) := by
  match ci, h with
  | 0, h => cases h; exact ⟨mUws_0, nmX0, tyX0, tyX0_ok⟩
  | 1, h => cases h; exact ⟨mUws_1, nmX1, tyX1, tyX1_ok⟩
  | 2, h => cases h; exact ⟨mUws_2, nmX2, tyX2, tyX2_ok⟩
  | 3, h => cases h; exact ⟨mUws_3, nmX3, tyX3, tyX3_ok⟩
  | 4, h => cases h; exact ⟨mUws_4, nmX4, tyX4, tyX4_ok⟩
  | 5, h => cases h; exact ⟨mUws_5, nmX5, tyX5, tyX5_ok⟩
  | 6, h => cases h; exact ⟨mUws_6, nmX6, tyX6, tyX6_ok⟩
  | 7, h => cases h; exact ⟨mUws_7, nmX7, tyX7, tyX7_ok⟩
  | 8, h => cases h; exact ⟨mUws_8, nmX8, tyX8, tyX8_ok⟩
  | 9, h => cases h; exact ⟨mUws_9, nmX9, tyX9, tyX9_ok⟩
  | 10, h => cases h; exact ⟨mUws_10, nmX10, tyX10, tyX10_ok⟩
  | 11, h => cases h; exact ⟨mUws_11, nmX11, tyX11, tyX11_ok⟩
  | 12, h => cases h; exact ⟨mUws_12, nmX12, tyX12, tyX12_ok⟩
  | 13, h => cases h; exact ⟨mUws_13, nmX13, tyX13, tyX13_ok⟩
  | n + 14, h => cases h
def mTy (h : mH) (ca : Nat → ClassId) (tys : List (ClassId × FieldType)) : Prop := ∀ a, mNC ≤ a → a < mN h → ((mK h a).1 = 100 → ∃ t : Nat, tys[t]? = some (ca a, .int)) ∧ ((mK h a).1 = 101 → ∃ t : Nat, tys[t]? = some (ca a, .long))
/-- what stands at an instruction: the world as the small machine's state, the locals, the room -/
def mAt (s : State) (D : va_G) (cv : Nat → Value) (A : Nat → Prop) (mid c0 s0 n0 : Nat) (ad0 : Nat → Nat) (X : Nat × (Nat → Int32)) (lo : mLo) (st : List Value) (h : mH) (H : Heap) (locs : List Loc) (cells slots : Nat) (ls : Array Slot) (ad : Nat → Nat) (ca : Nat → ClassId) (tys : List (ClassId × FieldType)) : Prop :=
  va_K D vwCl tys s ∧ va_P D vwCl (mWs cv ad ca h) H ∧ va_D A (mWs cv ad ca h) ∧ va_S A s.heap H locs ∧ mTy h ca tys ∧ lv_has ls (mMax mid) (mLs (mF cv ad) lo) ∧ lo.length = mMax mid ∧ mIv h ∧ mLk (mN h) lo ∧ mSk (mN h) st ∧ mX h = X ∧ (cells = mC h - c0 ∧ c0 ≤ mC h) ∧ (slots = mS h - s0 ∧ s0 ≤ mS h) ∧ (n0 ≤ mN h ∧ ∀ r, r < n0 → ad r = ad0 r)
/-- what stands in a method all the time -/
def mFix (p : Program) (s : State) (m : MethodId) (args : Array Value) (meth : Method) (c : Code) (cv : Nat → Value) (A : Nat → Prop) (mid : Nat) (X : Nat × (Nat → Int32)) : Prop :=
  p.tables.exec = Jvm.exec ∧ c.code = mBy mid ∧ c.maxLocals = mMax mid ∧ s.vm.findClass (mNm mid).cls = some m.cls ∧ (∀ w ∈ mWall, w.before args s = true) ∧ meth.locks = false ∧ meth.sig.returnType = mRetT mid ∧ ((mNm mid).name = "<init>" → meth.name = "<init>") ∧ (∀ q, s.heap.size ≤ q → A q) ∧ mKF cv A X s s.heap ∧ mid < mNI ∧ (mid ≠ 263 → c.exceptionTable.toList = tableOf (mHh mid))
theorem mLn_ok {i : Instr} {len k : Nat} (h : (decide (mLn i = len) || decide (mLn i = 0)) = true) (hk : mLn i = k) (h0 : k ≠ 0) : len = k := by
  rw [Bool.or_eq_true] at h
  rcases h with h | h
  · rw [← of_decide_eq_true h, hk]
  · exact absurd (hk.symm.trans (of_decide_eq_true h)) h0
theorem mIs_spec {h : mH} {a kd : Nat} (hi : mIs h a kd = true) : mNC ≤ a ∧ a < mN h ∧ (mK h a).1 = kd := of_decide_eq_true hi
theorem mW_in {p : Nat} {w : Cond} (h : mW p w = true) : w ∈ mWall := by
  unfold mW at h
  rw [Bool.and_eq_true] at h
  exact mWall_of (of_decide_eq_true h.1) h.2
section MSIM2
variable {p : Program} {l : Launch} {e : Env} {R : Room} {s : State} {m : MethodId} {args : Array Value} {below : List Frame} {meth : Method} {c : Code} {H : Heap} {locs : List Loc} {cells slots : Nat} {Q : State → Prop} {ls : Array Slot} {cv : Nat → Value} {ad : Nat → Nat} {ca : Nat → ClassId} {tys : List (ClassId × FieldType)}
variable {D : va_G} {A : Nat → Prop} {mid c0 s0 n0 : Nat} {ad0 : Nat → Nat} {X : Nat × (Nat → Int32)} {h : mH} {lo : mLo} {st : List Value} {y : mY} {pc len : Nat}
/-- how it goes on -/
def mKt (p : Program) (l : Launch) (e : Env) (R : Room) (s : State) (m : MethodId) (args : Array Value) (below : List Frame) (meth : Method) (c : Code) (Q : State → Prop) (D : va_G) (cv : Nat → Value) (A : Nat → Prop) (mid c0 s0 n0 : Nat) (ad0 : Nat → Nat) (X : Nat × (Nat → Int32)) : mY → Prop
  | .inl q => mC q.2.2.2 - c0 ≤ R.cells ∧ mS q.2.2.2 - s0 ≤ R.slots ∧ ∀ (H : Heap) (locs : List Loc) (cells slots : Nat) (ls : Array Slot) (ad : Nat → Nat) (ca : Nat → ClassId) (tys : List (ClassId × FieldType)), mAt s D cv A mid c0 s0 n0 ad0 X q.2.1 q.2.2.1 q.2.2.2 H locs cells slots ls ad ca tys →
      W p l e R s m args below meth c H locs cells slots Q (F0 m q.1 ls (q.2.2.1.map (mF cv ad)))
  | .inr _ => True
/-- one more value on the stack, or fewer: nothing else moves -/
theorem mAt.stk (h0 : mAt s D cv A mid c0 s0 n0 ad0 X lo st h H locs cells slots ls ad ca tys) {st' : List Value} (hs : mSk (mN h) st') : mAt s D cv A mid c0 s0 n0 ad0 X lo st' h H locs cells slots ls ad ca tys := by
  obtain ⟨a1, a2, a3, a4, a5, a6, a7, a8, a9, -, b1⟩ := h0
  exact ⟨a1, a2, a3, a4, a5, a6, a7, a8, a9, hs, b1⟩
theorem mAt.go (h0 : mAt s D cv A mid c0 s0 n0 ad0 X lo st h H locs cells slots ls ad ca tys) {st' : List Value} {pc' : Nat} (hy : mGo pc' lo st' h = some y) (hs : mSk (mN h) st') (hk : mKt p l e R s m args below meth c Q D cv A mid c0 s0 n0 ad0 X y) :
    W p l e R s m args below meth c H locs cells slots Q (F0 m pc' ls (st'.map (mF cv ad))) := by
  cases hy
  exact hk.2.2 _ _ _ _ _ _ _ _ (h0.stk hs)
/-- a cell of the world, by its number -/
theorem mAt.cell (h0 : mAt s D cv A mid c0 s0 n0 ad0 X lo st h H locs cells slots ls ad ca tys) {a kd : Nat} (hi : mIs h a kd = true) : (mWs cv ad ca h)[a - mNC]? = some (ad a, mCell cv ad ca h a) := mWs_at (mIs_spec hi).1 (mIs_spec hi).2.1
theorem mGetf_sim (F : mFix p s m args meth c cv A mid X) (h0 : mAt s D cv A mid c0 s0 n0 ad0 X lo st h H locs cells slots ls ad ca tys) {idx : Nat} {r : List Nat} (hok : mOkI mid pc (.getfield idx) len r = true) (hy : mGetf pc len r lo st h = some y) (hk : mKt p l e R s m args below meth c Q D cv A mid c0 s0 n0 ad0 X y) :
    W p l e R s m args below meth c H locs cells slots Q (F0 m pc ls (st.map (mF cv ad))) := by
  have F' := F
  obtain ⟨hx, hb, hml, hown, hts, hlk, hrt, hnm, hA, hKF, hmid, htab⟩ := F'
  have h0' := h0
  obtain ⟨hK, hP, hD, hS, hT, hl, hlen, hiv, hvl, hvs, hX, hcc, hss, hnn⟩ := h0'
  unfold mOkI at hok
  rw [Bool.and_eq_true, Bool.and_eq_true] at hok
  obtain ⟨⟨hd, hln⟩, hok⟩ := hok
  have hd := of_decide_eq_true hd
  unfold mGetf at hy
  split at hy
  · rename_i ci k f pp nest a st'
    split at hy
    · rename_i hi
      have hok' : (mFld (mNm mid).cls idx ci k f pp nest && decide (ci < 100)) = true := hok
      rw [Bool.and_eq_true] at hok'
      obtain ⟨hok', hci⟩ := hok'
      have hci := of_decide_eq_true hci
      have hln3 : len = 3 := mLn_ok hln rfl (by decide)
      subst hln3
      obtain ⟨i1, i2, i3⟩ := mIs_spec hi
      have hce := h0.cell hi
      rw [mCell_obj i3 hci] at hce
      unfold mFld at hok'
      split at hok'
      · cases hok'
      · rename_i C T N hcl
        simp only [Bool.and_eq_true, decide_eq_true_eq] at hok'
        obtain ⟨⟨⟨⟨k1, k2⟩, k3⟩, k4⟩, k5⟩ := hok'
        obtain ⟨u1, u2, ty, u3⟩ := mCls hcl
        have hv := mFd_at (cv := cv) (ad := ad) (h := h) (a := a) (ci := ci) (k := k) (by omega)
        have hgo := mAt.go h0 hy (mSk.cons (by split <;> first | exact hiv.2 _ _ | exact mVk.int) hvs.tl) hk
        rw [List.map_cons] at hgo ⊢
        rw [mF_hi i1]
        have hval : mF cv ad (if mRf ci k = true then mV h a k else .int (mI h a k)) = (if mRf ci k = true then mF cv ad (mV h a k) else .int (mI h a k)) := by split <;> rfl
        rw [hval] at hgo
        split at k5
        · exact va_get hx hb hts u1 hown hK hP (a - mNC) hce hcl k k1 (hts _ (by rw [← k2] at k5; exact mW_in k5)) (fun _ z => z) hv hd hgo
        · unfold mWn at k5
          rw [Bool.and_eq_true] at k5
          have hw := hKF.2.2.2.2.2.2.1 _ (List.mem_of_getElem? (of_decide_eq_true k5.1)) (Or.inr k5.2)
          exact va_getN hx hb hts u1 hown hK hP (a - mNC) hce hcl k k1 (by have := va_Nw.use (A := args) rfl hw; rw [← k2] at this; exact this) (fun _ z => z) hv hd hgo
    · cases hy
  · rename_i key pp cst st'
    split at hy
    · rename_i hlt
      cases hc : mCF cst key with
      | none => rw [hc] at hy; cases hy
      | some v =>
        rw [hc] at hy
        have hln3 : len = 3 := mLn_ok hln rfl (by decide)
        subst hln3
        have hgo := mAt.go h0 hy (mSk.cons (fun r hr => Nat.lt_of_lt_of_le (mCF_small hc r hr) hiv.1) hvs.tl) hk
        rw [List.map_cons] at hgo ⊢
        rw [mF_lo hlt]
        unfold mCF at hc
        cases hf : mStr.find? (fun q => q.1 == cst) with
        | none => rw [hf] at hc; cases hc
        | some z =>
          rw [hf] at hc
          have hc' : (if key = 0 then some (Value.ref z.2.1) else if key = 1 then some (.int 0) else none) = some v := hc
          have hz := List.mem_of_find?_eq_some hf
          have hz1 : z.1 = cst := by
            have := List.find?_some hf
            simpa using this
          obtain ⟨t, e1, e2, e3, e4, e5⟩ := hKF.2.2.2.1 z hz
          rw [hz1] at e1
          rw [e1]
          have hok' : (if key = 0 then mW pp (.fieldLink (mNm mid).cls idx "java/lang/String" "value" "[B") else decide (key = 1) && mW pp (.fieldLink (mNm mid).cls idx "java/lang/String" "coder" "B")) = true := hok
          split at hc'
          · rename_i hk0
            rw [if_pos hk0] at hok'
            cases hc'
            rw [mF_lo ((mStr_small z hz).2)] at hgo
            exact vk_getf hx hb e3 hS hown (hts _ (mW_in hok')) (fun _ z => z) hd hgo
          · rename_i hk0
            rw [if_neg hk0] at hok'
            split at hc'
            · cases hc'
              rw [Bool.and_eq_true] at hok'
              exact vk_getf hx hb e4 hS hown (hts _ (mW_in hok'.2)) (fun _ z => z) hd hgo
            · cases hc'
    · cases hy
  · cases hy
end MSIM2
