/-! THE LAW'S WRAPPERS -/
theorem mB_v {mid pc : Nat} {lo : mLo} {st : List Value} {v : Value} {H : mH} : mBack mid pc 3 lo st (.inl (some v), H) = mGo (pc + 3) lo (v :: st) H := rfl
theorem e_try {C : Nat → List Value → mH → Option mO} {mid pc : Nat} {lo : mLo} {h : mH} {i : Instr} {y n p : Nat} {st0 as st : List Value} {o : mO} {Z : Option mY} (hi : mIns mid pc = some (i, 3, [0, y, n, p, 0])) (hv : ∃ idx, i = .invokevirtual idx) (ha : (st0.take (n + 1)).reverse = as) (hd : st0.drop (n + 1) = st) (hl : n + 1 ≤ st0.length) (hs : mSum st ≤ 8) (hr : mRcv y h st0[n]? = true) (hc : C y as h = some o) (hb : mBack mid pc 3 lo st o = Z) : mStep C mid pc lo st0 h = Z := by
  have e : mStep C mid pc lo st0 h = mCal C mid pc 3 y (n + 1) 0 lo st0 h := by
    refine (mStep_at hi).trans ?_
    obtain ⟨idx, rfl⟩ := hv
    show (if mRcv y h st0[n]? = true then mCal C mid pc 3 y (n + 1) 0 lo st0 h else none) = _
    rw [if_pos hr]
  subst ha hd
  rw [e]
  unfold mCal
  rw [if_pos ⟨hl, hs⟩, hc]
  show (if 0 = 0 ∨ o.1.isLeft = true then mBack mid pc 3 lo (st0.drop (n + 1)) o else none) = Z
  rw [if_pos (Or.inl rfl)]
  exact hb
theorem mB_x {mid pc x hp l n' : Nat} {T : List (List Nat)} {i' : Instr} {r' : List Nat} {lo : mLo} {st : List Value} {H : mH} (hex : mEx.getD mid [] = T) (hT : ¬ T = []) (hh : mHand pc x T = some hp) (hi' : mIns mid hp = some (i', l, r')) (hs' : mSt i' = some (n', 2)) (hn' : n' < lo.length) : mBack mid pc 3 lo st (.inr x, H) = mGo (hp + l) (List.replicate lo.length none) [] H := by
  unfold mBack
  rw [hex]
  cases T with
  | nil => exact absurd rfl hT
  | cons a b =>
    show ((mHand pc x (a :: b)).bind fun hp => match mIns mid hp with | some (i, l, _) => (match mSt i with | some (n, 2) => if n < lo.length then mGo (hp + l) (List.replicate lo.length none) [] H else none | _ => none) | none => none) = _
    rw [hh]
    show (match mIns mid hp with | some (i, l, _) => (match mSt i with | some (n, 2) => if n < lo.length then mGo (hp + l) (List.replicate lo.length none) [] H else none | _ => none) | none => none) = _
    rw [hi']
    show (match mSt i' with | some (n, 2) => if n < lo.length then mGo (hp + l) (List.replicate lo.length none) [] H else none | _ => none) = _
    rw [hs']
    show (if n' < lo.length then mGo (hp + l) (List.replicate lo.length none) [] H else none) = _
    rw [if_pos hn']
theorem out_j {H : mH} (o : OUT H) : mIn 0 (mK H 360).2 = true := by rw [o.2]; decide
theorem sum_2 {a : Nat} : mSum [.int 0, .ref a] ≤ 8 := by show 1 + (1 + 0) ≤ 8; omega
def wB : Int32 ⊕ Nat → mH → mH
  | .inl v, H => mSL H 360 0 (if v = 0 then 0 else 1)
  | .inr _, H => H
theorem w_19 {d : Nat} {a b c e f : Int32} {h H : mH} {r : Int32 ⊕ Nat} (hk : kS h) (ho : OUT H) (hr : ∀ x, r = .inr x → x = 0) (e0 : mCall d 18 [.ref 200, .int a, .int b, .int c, .int e, .int f] h = some (rv r, H)) : mCall (d + 1) 19 [.ref 200, .int a, .int b, .int c, .int e, .int f, .ref 360] h = some (.inl (some (.int (cdm (fun _ => 1) r))), wH r H) := by
  have hR : mRcv 18 h (some (.ref 200)) = true := e_rcv (by decide +kernel) (by decide) (ki_200 hk)
  have st : mCall (d + 1) 19 [.ref 200, .int a, .int b, .int c, .int e, .int f, .ref 360] h = mExec (mCall d) 19 11 [some (.ref 200), some (.int a), some (.int b), some (.int c), some (.int e), some (.int f), some (.ref 360), none] [.int f, .int e, .int c, .int b, .int a, .ref 200, .int 0, .ref 360] h := by
    simp only [c_19, x_19_0, x_19_2, x_19_3, x_19_4, x_19_5, x_19_6, x_19_7, x_19_9]
  rw [st, mExec_step]
  have ho1 := ho.1
  have ho2 := out_j ho
  cases r with
  | inl v =>
    rw [e_try (lo := [some (.ref 200), some (.int a), some (.int b), some (.int c), some (.int e), some (.int f), some (.ref 360), none]) (st0 := [.int f, .int e, .int c, .int b, .int a, .ref 200, .int 0, .ref 360]) (as := [.ref 200, .int a, .int b, .int c, .int e, .int f]) (st := [.int 0, .ref 360]) (hi := show mIns 19 11 = some (.invokevirtual 7, 3, [0, 18, 5, 1142, 0]) by decide +kernel) ⟨_, rfl⟩ rfl rfl (Nat.le_add_left _ _) sum_2 hR e0 mB_v]
    show mExec (mCall d) 19 (11 + 3) [some (.ref 200), some (.int a), some (.int b), some (.int c), some (.int e), some (.int f), some (.ref 360), none] [.int v, .int 0, .ref 360] H = _
    simp only [x_19_14, x_19_15, x_19_16, x_19_19, x_19_21, x_19_22, x_19_23, x_19_24, Nat.reduceAdd, ho1, ho2]
    rfl
  | inr x =>
    have hx := hr x rfl
    subst hx
    rw [e_try (lo := [some (.ref 200), some (.int a), some (.int b), some (.int c), some (.int e), some (.int f), some (.ref 360), none]) (st0 := [.int f, .int e, .int c, .int b, .int a, .ref 200, .int 0, .ref 360]) (as := [.ref 200, .int a, .int b, .int c, .int e, .int f]) (st := [.int 0, .ref 360]) (hi := show mIns 19 11 = some (.invokevirtual 7, 3, [0, 18, 5, 1142, 0]) by decide +kernel) ⟨_, rfl⟩ rfl rfl (Nat.le_add_left _ _) sum_2 hR e0 (mB_x (lo := [some (.ref 200), some (.int a), some (.int b), some (.int c), some (.int e), some (.int f), some (.ref 360), none]) (T := [[0, 16, 19, 0, 13, 1141]]) (hp := 19) (by decide +kernel) (by decide) (by decide) (show mIns 19 19 = some (.astore 7, 2, []) by decide +kernel) (n' := 7) rfl (show 7 < 8 from by decide))]
    show mExec (mCall d) 19 (19 + 2) [none, none, none, none, none, none, none, none] [] H = _
    simp only [x_19_14, x_19_15, x_19_16, x_19_19, x_19_21, x_19_22, x_19_23, x_19_24, Nat.reduceAdd]
    rfl
theorem w_26 {d : Nat} {a : Int32} {h H : mH} {r : Int32 ⊕ Nat} (hk : kS h) (ho : OUT H) (hr : ∀ x, r = .inr x → x = 1) (e0 : mCall d 25 [.ref 200, .int a] h = some (rv r, H)) : mCall (d + 1) 26 [.ref 200, .int a, .ref 360] h = some (.inl (some (.int (cdm (fun _ => 1) r))), wH r H) := by
  have hR : mRcv 25 h (some (.ref 200)) = true := e_rcv (by decide +kernel) (by decide) (ki_200 hk)
  have st : mCall (d + 1) 26 [.ref 200, .int a, .ref 360] h = mExec (mCall d) 26 4 [some (.ref 200), some (.int a), some (.ref 360), none] [.int a, .ref 200, .int 0, .ref 360] h := by
    simp only [c_26, x_26_0, x_26_1, x_26_2, x_26_3]
  rw [st, mExec_step]
  have ho1 := ho.1
  have ho2 := out_j ho
  cases r with
  | inl v =>
    rw [e_try (lo := [some (.ref 200), some (.int a), some (.ref 360), none]) (st0 := [.int a, .ref 200, .int 0, .ref 360]) (as := [.ref 200, .int a]) (st := [.int 0, .ref 360]) (hi := show mIns 26 4 = some (.invokevirtual 15, 3, [0, 25, 1, 1171, 0]) by decide +kernel) ⟨_, rfl⟩ rfl rfl (Nat.le_add_left _ _) sum_2 hR e0 mB_v]
    show mExec (mCall d) 26 (4 + 3) [some (.ref 200), some (.int a), some (.ref 360), none] [.int v, .int 0, .ref 360] H = _
    simp only [x_26_7, x_26_8, x_26_9, x_26_12, x_26_13, x_26_14, x_26_15, x_26_16, Nat.reduceAdd, ho1, ho2]
    rfl
  | inr x =>
    have hx := hr x rfl
    subst hx
    rw [e_try (lo := [some (.ref 200), some (.int a), some (.ref 360), none]) (st0 := [.int a, .ref 200, .int 0, .ref 360]) (as := [.ref 200, .int a]) (st := [.int 0, .ref 360]) (hi := show mIns 26 4 = some (.invokevirtual 15, 3, [0, 25, 1, 1171, 0]) by decide +kernel) ⟨_, rfl⟩ rfl rfl (Nat.le_add_left _ _) sum_2 hR e0 (mB_x (lo := [some (.ref 200), some (.int a), some (.ref 360), none]) (T := [[0, 9, 12, 1, 19, 1170]]) (hp := 12) (by decide +kernel) (by decide) (by decide) (show mIns 26 12 = some (.astore_n 3, 1, []) by decide +kernel) (n' := 3) rfl (show 3 < 4 from by decide))]
    show mExec (mCall d) 26 (12 + 1) [none, none, none, none] [] H = _
    simp only [x_26_7, x_26_8, x_26_9, x_26_12, x_26_13, x_26_14, x_26_15, x_26_16, Nat.reduceAdd]
    rfl
theorem w_133 {d : Nat} {a : Int32} {h H : mH} {r : Int32 ⊕ Nat} (hk : kS h) (ho : OUT H) (hr : ∀ x, r = .inr x → x = 2) (e0 : mCall d 132 [.ref 200, .int a] h = some (rv r, H)) : mCall (d + 1) 133 [.ref 200, .int a, .ref 360] h = some (.inl (some (.int (cdm (fun _ => 1) r))), wH r H) := by
  have hR : mRcv 132 h (some (.ref 200)) = true := e_rcv (by decide +kernel) (by decide) (ki_200 hk)
  have st : mCall (d + 1) 133 [.ref 200, .int a, .ref 360] h = mExec (mCall d) 133 4 [some (.ref 200), some (.int a), some (.ref 360), none] [.int a, .ref 200, .int 0, .ref 360] h := by
    simp only [c_133, x_133_0, x_133_1, x_133_2, x_133_3]
  rw [st, mExec_step]
  have ho1 := ho.1
  have ho2 := out_j ho
  cases r with
  | inl v =>
    rw [e_try (lo := [some (.ref 200), some (.int a), some (.ref 360), none]) (st0 := [.int a, .ref 200, .int 0, .ref 360]) (as := [.ref 200, .int a]) (st := [.int 0, .ref 360]) (hi := show mIns 133 4 = some (.invokevirtual 21, 3, [0, 132, 1, 1198, 0]) by decide +kernel) ⟨_, rfl⟩ rfl rfl (Nat.le_add_left _ _) sum_2 hR e0 mB_v]
    show mExec (mCall d) 133 (4 + 3) [some (.ref 200), some (.int a), some (.ref 360), none] [.int v, .int 0, .ref 360] H = _
    simp only [x_133_7, x_133_8, x_133_9, x_133_12, x_133_13, x_133_14, x_133_15, x_133_16, Nat.reduceAdd, ho1, ho2]
    rfl
  | inr x =>
    have hx := hr x rfl
    subst hx
    rw [e_try (lo := [some (.ref 200), some (.int a), some (.ref 360), none]) (st0 := [.int a, .ref 200, .int 0, .ref 360]) (as := [.ref 200, .int a]) (st := [.int 0, .ref 360]) (hi := show mIns 133 4 = some (.invokevirtual 21, 3, [0, 132, 1, 1198, 0]) by decide +kernel) ⟨_, rfl⟩ rfl rfl (Nat.le_add_left _ _) sum_2 hR e0 (mB_x (lo := [some (.ref 200), some (.int a), some (.ref 360), none]) (T := [[0, 9, 12, 2, 24, 1197]]) (hp := 12) (by decide +kernel) (by decide) (by decide) (show mIns 133 12 = some (.astore_n 3, 1, []) by decide +kernel) (n' := 3) rfl (show 3 < 4 from by decide))]
    show mExec (mCall d) 133 (12 + 1) [none, none, none, none] [] H = _
    simp only [x_133_7, x_133_8, x_133_9, x_133_12, x_133_13, x_133_14, x_133_15, x_133_16, Nat.reduceAdd]
    rfl
theorem w_138 {d : Nat} {a b : Int32} {h H : mH} {r : Int32 ⊕ Nat} (hk : kS h) (ho : OUT H) (hr : ∀ x, r = .inr x → x = 2) (e0 : mCall d 137 [.ref 200, .int a, .int b] h = some (rv r, H)) : mCall (d + 1) 138 [.ref 200, .int a, .int b, .ref 360] h = some (.inl (some (.int (cdm (fun _ => 1) r))), wH r H) := by
  have hR : mRcv 137 h (some (.ref 200)) = true := e_rcv (by decide +kernel) (by decide) (ki_200 hk)
  have st : mCall (d + 1) 138 [.ref 200, .int a, .int b, .ref 360] h = mExec (mCall d) 138 5 [some (.ref 200), some (.int a), some (.int b), some (.ref 360), none] [.int b, .int a, .ref 200, .int 0, .ref 360] h := by
    simp only [c_138, x_138_0, x_138_1, x_138_2, x_138_3, x_138_4]
  rw [st, mExec_step]
  have ho1 := ho.1
  have ho2 := out_j ho
  cases r with
  | inl v =>
    rw [e_try (lo := [some (.ref 200), some (.int a), some (.int b), some (.ref 360), none]) (st0 := [.int b, .int a, .ref 200, .int 0, .ref 360]) (as := [.ref 200, .int a, .int b]) (st := [.int 0, .ref 360]) (hi := show mIns 138 5 = some (.invokevirtual 26, 3, [0, 137, 2, 1202, 0]) by decide +kernel) ⟨_, rfl⟩ rfl rfl (Nat.le_add_left _ _) sum_2 hR e0 mB_v]
    show mExec (mCall d) 138 (5 + 3) [some (.ref 200), some (.int a), some (.int b), some (.ref 360), none] [.int v, .int 0, .ref 360] H = _
    simp only [x_138_8, x_138_9, x_138_10, x_138_13, x_138_15, x_138_16, x_138_17, x_138_18, Nat.reduceAdd, ho1, ho2]
    rfl
  | inr x =>
    have hx := hr x rfl
    subst hx
    rw [e_try (lo := [some (.ref 200), some (.int a), some (.int b), some (.ref 360), none]) (st0 := [.int b, .int a, .ref 200, .int 0, .ref 360]) (as := [.ref 200, .int a, .int b]) (st := [.int 0, .ref 360]) (hi := show mIns 138 5 = some (.invokevirtual 26, 3, [0, 137, 2, 1202, 0]) by decide +kernel) ⟨_, rfl⟩ rfl rfl (Nat.le_add_left _ _) sum_2 hR e0 (mB_x (lo := [some (.ref 200), some (.int a), some (.int b), some (.ref 360), none]) (T := [[0, 10, 13, 2, 24, 1197]]) (hp := 13) (by decide +kernel) (by decide) (by decide) (show mIns 138 13 = some (.astore 4, 2, []) by decide +kernel) (n' := 4) rfl (show 4 < 5 from by decide))]
    show mExec (mCall d) 138 (13 + 2) [none, none, none, none, none] [] H = _
    simp only [x_138_8, x_138_9, x_138_10, x_138_13, x_138_15, x_138_16, x_138_17, x_138_18, Nat.reduceAdd]
    rfl
theorem w_145 {d : Nat} {a b c : Int32} {h H : mH} {r : Int32 ⊕ Nat} (hk : kS h) (ho : OUT H) (hr : ∀ x, r = .inr x → x = 2 ∨ x = 1 ∨ x = 0) (e0 : mCall d 144 [.ref 200, .int a, .int b, .int c] h = some (rv r, H)) : mCall (d + 1) 145 [.ref 200, .int a, .int b, .int c, .ref 360] h = some (.inl (some (.int (cdm mmI r))), wH r H) := by
  have hR : mRcv 144 h (some (.ref 200)) = true := e_rcv (by decide +kernel) (by decide) (ki_200 hk)
  have st : mCall (d + 1) 145 [.ref 200, .int a, .int b, .int c, .ref 360] h = mExec (mCall d) 145 7 [some (.ref 200), some (.int a), some (.int b), some (.int c), some (.ref 360), none] [.int c, .int b, .int a, .ref 200, .int 0, .ref 360] h := by
    simp only [c_145, x_145_0, x_145_2, x_145_3, x_145_4, x_145_5, x_145_6]
  rw [st, mExec_step]
  have ho1 := ho.1
  have ho2 := out_j ho
  cases r with
  | inl v =>
    rw [e_try (lo := [some (.ref 200), some (.int a), some (.int b), some (.int c), some (.ref 360), none]) (st0 := [.int c, .int b, .int a, .ref 200, .int 0, .ref 360]) (as := [.ref 200, .int a, .int b, .int c]) (st := [.int 0, .ref 360]) (hi := show mIns 145 7 = some (.invokevirtual 30, 3, [0, 144, 3, 1206, 0]) by decide +kernel) ⟨_, rfl⟩ rfl rfl (Nat.le_add_left _ _) sum_2 hR e0 mB_v]
    show mExec (mCall d) 145 (7 + 3) [some (.ref 200), some (.int a), some (.int b), some (.int c), some (.ref 360), none] [.int v, .int 0, .ref 360] H = _
    simp only [x_145_10, x_145_11, x_145_12, x_145_15, x_145_17, x_145_18, x_145_19, x_145_21, x_145_22, x_145_23, x_145_25, x_145_26, x_145_27, x_145_28, Nat.reduceAdd, ho1, ho2]
    rfl
  | inr x =>
    rcases hr x rfl with hx | hx | hx
    · subst hx
      rw [e_try (lo := [some (.ref 200), some (.int a), some (.int b), some (.int c), some (.ref 360), none]) (st0 := [.int c, .int b, .int a, .ref 200, .int 0, .ref 360]) (as := [.ref 200, .int a, .int b, .int c]) (st := [.int 0, .ref 360]) (hi := show mIns 145 7 = some (.invokevirtual 30, 3, [0, 144, 3, 1206, 0]) by decide +kernel) ⟨_, rfl⟩ rfl rfl (Nat.le_add_left _ _) sum_2 hR e0 (mB_x (lo := [some (.ref 200), some (.int a), some (.int b), some (.int c), some (.ref 360), none]) (T := [[0, 12, 15, 2, 24, 1197], [0, 12, 19, 1, 19, 1170], [0, 12, 23, 0, 13, 1141]]) (hp := 15) (by decide +kernel) (by decide) (by decide) (show mIns 145 15 = some (.astore 5, 2, []) by decide +kernel) (n' := 5) rfl (show 5 < 6 from by decide))]
      show mExec (mCall d) 145 (15 + 2) [none, none, none, none, none, none] [] H = _
      simp only [x_145_10, x_145_11, x_145_12, x_145_15, x_145_17, x_145_18, x_145_19, x_145_21, x_145_22, x_145_23, x_145_25, x_145_26, x_145_27, x_145_28, Nat.reduceAdd]
      rfl
    · subst hx
      rw [e_try (lo := [some (.ref 200), some (.int a), some (.int b), some (.int c), some (.ref 360), none]) (st0 := [.int c, .int b, .int a, .ref 200, .int 0, .ref 360]) (as := [.ref 200, .int a, .int b, .int c]) (st := [.int 0, .ref 360]) (hi := show mIns 145 7 = some (.invokevirtual 30, 3, [0, 144, 3, 1206, 0]) by decide +kernel) ⟨_, rfl⟩ rfl rfl (Nat.le_add_left _ _) sum_2 hR e0 (mB_x (lo := [some (.ref 200), some (.int a), some (.int b), some (.int c), some (.ref 360), none]) (T := [[0, 12, 15, 2, 24, 1197], [0, 12, 19, 1, 19, 1170], [0, 12, 23, 0, 13, 1141]]) (hp := 19) (by decide +kernel) (by decide) (by decide) (show mIns 145 19 = some (.astore 5, 2, []) by decide +kernel) (n' := 5) rfl (show 5 < 6 from by decide))]
      show mExec (mCall d) 145 (19 + 2) [none, none, none, none, none, none] [] H = _
      simp only [x_145_10, x_145_11, x_145_12, x_145_15, x_145_17, x_145_18, x_145_19, x_145_21, x_145_22, x_145_23, x_145_25, x_145_26, x_145_27, x_145_28, Nat.reduceAdd]
      rfl
    · subst hx
      rw [e_try (lo := [some (.ref 200), some (.int a), some (.int b), some (.int c), some (.ref 360), none]) (st0 := [.int c, .int b, .int a, .ref 200, .int 0, .ref 360]) (as := [.ref 200, .int a, .int b, .int c]) (st := [.int 0, .ref 360]) (hi := show mIns 145 7 = some (.invokevirtual 30, 3, [0, 144, 3, 1206, 0]) by decide +kernel) ⟨_, rfl⟩ rfl rfl (Nat.le_add_left _ _) sum_2 hR e0 (mB_x (lo := [some (.ref 200), some (.int a), some (.int b), some (.int c), some (.ref 360), none]) (T := [[0, 12, 15, 2, 24, 1197], [0, 12, 19, 1, 19, 1170], [0, 12, 23, 0, 13, 1141]]) (hp := 23) (by decide +kernel) (by decide) (by decide) (show mIns 145 23 = some (.astore 5, 2, []) by decide +kernel) (n' := 5) rfl (show 5 < 6 from by decide))]
      show mExec (mCall d) 145 (23 + 2) [none, none, none, none, none, none] [] H = _
      simp only [x_145_10, x_145_11, x_145_12, x_145_15, x_145_17, x_145_18, x_145_19, x_145_21, x_145_22, x_145_23, x_145_25, x_145_26, x_145_27, x_145_28, Nat.reduceAdd]
      rfl
theorem w_150 {d : Nat} {a : Int32} {h H : mH} {r : Int32 ⊕ Nat} (hk : kS h) (ho : OUT H) (hr : ∀ x, r = .inr x → x = 2) (e0 : mCall d 149 [.ref 200, .int a] h = some (rv r, H)) : mCall (d + 1) 150 [.ref 200, .int a, .ref 360] h = some (.inl (some (.int (cdm mmI r))), wH r H) := by
  have hR : mRcv 149 h (some (.ref 200)) = true := e_rcv (by decide +kernel) (by decide) (ki_200 hk)
  have st : mCall (d + 1) 150 [.ref 200, .int a, .ref 360] h = mExec (mCall d) 150 4 [some (.ref 200), some (.int a), some (.ref 360), none] [.int a, .ref 200, .int 0, .ref 360] h := by
    simp only [c_150, x_150_0, x_150_1, x_150_2, x_150_3]
  rw [st, mExec_step]
  have ho1 := ho.1
  have ho2 := out_j ho
  cases r with
  | inl v =>
    rw [e_try (lo := [some (.ref 200), some (.int a), some (.ref 360), none]) (st0 := [.int a, .ref 200, .int 0, .ref 360]) (as := [.ref 200, .int a]) (st := [.int 0, .ref 360]) (hi := show mIns 150 4 = some (.invokevirtual 34, 3, [0, 149, 1, 1226, 0]) by decide +kernel) ⟨_, rfl⟩ rfl rfl (Nat.le_add_left _ _) sum_2 hR e0 mB_v]
    show mExec (mCall d) 150 (4 + 3) [some (.ref 200), some (.int a), some (.ref 360), none] [.int v, .int 0, .ref 360] H = _
    simp only [x_150_7, x_150_8, x_150_9, x_150_12, x_150_13, x_150_14, x_150_15, x_150_16, Nat.reduceAdd, ho1, ho2]
    rfl
  | inr x =>
    have hx := hr x rfl
    subst hx
    rw [e_try (lo := [some (.ref 200), some (.int a), some (.ref 360), none]) (st0 := [.int a, .ref 200, .int 0, .ref 360]) (as := [.ref 200, .int a]) (st := [.int 0, .ref 360]) (hi := show mIns 150 4 = some (.invokevirtual 34, 3, [0, 149, 1, 1226, 0]) by decide +kernel) ⟨_, rfl⟩ rfl rfl (Nat.le_add_left _ _) sum_2 hR e0 (mB_x (lo := [some (.ref 200), some (.int a), some (.ref 360), none]) (T := [[0, 9, 12, 2, 24, 1197]]) (hp := 12) (by decide +kernel) (by decide) (by decide) (show mIns 150 12 = some (.astore_n 3, 1, []) by decide +kernel) (n' := 3) rfl (show 3 < 4 from by decide))]
    show mExec (mCall d) 150 (12 + 1) [none, none, none, none] [] H = _
    simp only [x_150_7, x_150_8, x_150_9, x_150_12, x_150_13, x_150_14, x_150_15, x_150_16, Nat.reduceAdd]
    rfl
theorem w_155 {d : Nat} {a b : Int32} {h H : mH} {r : Int32 ⊕ Nat} (hk : kS h) (ho : OUT H) (hr : ∀ x, r = .inr x → x = 2 ∨ x = 1) (e0 : mCall d 154 [.ref 200, .int a, .int b] h = some (rv r, H)) : mCall (d + 1) 155 [.ref 200, .int a, .int b, .ref 360] h = some (.inl (some (.int (cdm mmI r))), wB r H) := by
  have hR : mRcv 154 h (some (.ref 200)) = true := e_rcv (by decide +kernel) (by decide) (ki_200 hk)
  have st : mCall (d + 1) 155 [.ref 200, .int a, .int b, .ref 360] h = mExec (mCall d) 155 5 [some (.ref 200), some (.int a), some (.int b), some (.ref 360), none] [.int b, .int a, .ref 200, .int 0, .ref 360] h := by
    simp only [c_155, x_155_0, x_155_1, x_155_2, x_155_3, x_155_4]
  rw [st, mExec_step]
  have ho1 := ho.1
  have ho2 := out_j ho
  cases r with
  | inl v =>
    rw [e_try (lo := [some (.ref 200), some (.int a), some (.int b), some (.ref 360), none]) (st0 := [.int b, .int a, .ref 200, .int 0, .ref 360]) (as := [.ref 200, .int a, .int b]) (st := [.int 0, .ref 360]) (hi := show mIns 155 5 = some (.invokevirtual 37, 3, [0, 154, 2, 1237, 0]) by decide +kernel) ⟨_, rfl⟩ rfl rfl (Nat.le_add_left _ _) sum_2 hR e0 mB_v]
    show mExec (mCall d) 155 (5 + 3) [some (.ref 200), some (.int a), some (.int b), some (.ref 360), none] [.int v, .int 0, .ref 360] H = _
    by_cases c : v = 0
    · have c1 := eq_true c
      simp only [c1, x_155_8, x_155_11, x_155_12, x_155_15, x_155_16, x_155_17, x_155_20, x_155_22, x_155_23, x_155_24, x_155_26, x_155_27, x_155_28, x_155_29, Nat.reduceAdd, ho1, ho2, if_true]
      show _ = (some ((.inl (some (.int 0)) : mR), mSL H 360 0 (if v = 0 then 0 else 1)) : Option mO)
      rw [if_pos c]
      rfl
    · have c1 := eq_false c
      simp only [c1, x_155_8, x_155_11, x_155_12, x_155_15, x_155_16, x_155_17, x_155_20, x_155_22, x_155_23, x_155_24, x_155_26, x_155_27, x_155_28, x_155_29, Nat.reduceAdd, ho1, ho2, if_false]
      show _ = (some ((.inl (some (.int 0)) : mR), mSL H 360 0 (if v = 0 then 0 else 1)) : Option mO)
      rw [if_neg c]
      rfl
  | inr x =>
    rcases hr x rfl with hx | hx
    · subst hx
      rw [e_try (lo := [some (.ref 200), some (.int a), some (.int b), some (.ref 360), none]) (st0 := [.int b, .int a, .ref 200, .int 0, .ref 360]) (as := [.ref 200, .int a, .int b]) (st := [.int 0, .ref 360]) (hi := show mIns 155 5 = some (.invokevirtual 37, 3, [0, 154, 2, 1237, 0]) by decide +kernel) ⟨_, rfl⟩ rfl rfl (Nat.le_add_left _ _) sum_2 hR e0 (mB_x (lo := [some (.ref 200), some (.int a), some (.int b), some (.ref 360), none]) (T := [[0, 17, 20, 2, 24, 1197], [0, 17, 24, 1, 19, 1170]]) (hp := 20) (by decide +kernel) (by decide) (by decide) (show mIns 155 20 = some (.astore 4, 2, []) by decide +kernel) (n' := 4) rfl (show 4 < 5 from by decide))]
      show mExec (mCall d) 155 (20 + 2) [none, none, none, none, none] [] H = _
      simp only [x_155_8, x_155_11, x_155_12, x_155_15, x_155_16, x_155_17, x_155_20, x_155_22, x_155_23, x_155_24, x_155_26, x_155_27, x_155_28, x_155_29, Nat.reduceAdd]
      rfl
    · subst hx
      rw [e_try (lo := [some (.ref 200), some (.int a), some (.int b), some (.ref 360), none]) (st0 := [.int b, .int a, .ref 200, .int 0, .ref 360]) (as := [.ref 200, .int a, .int b]) (st := [.int 0, .ref 360]) (hi := show mIns 155 5 = some (.invokevirtual 37, 3, [0, 154, 2, 1237, 0]) by decide +kernel) ⟨_, rfl⟩ rfl rfl (Nat.le_add_left _ _) sum_2 hR e0 (mB_x (lo := [some (.ref 200), some (.int a), some (.int b), some (.ref 360), none]) (T := [[0, 17, 20, 2, 24, 1197], [0, 17, 24, 1, 19, 1170]]) (hp := 24) (by decide +kernel) (by decide) (by decide) (show mIns 155 24 = some (.astore 4, 2, []) by decide +kernel) (n' := 4) rfl (show 4 < 5 from by decide))]
      show mExec (mCall d) 155 (24 + 2) [none, none, none, none, none] [] H = _
      simp only [x_155_8, x_155_11, x_155_12, x_155_15, x_155_16, x_155_17, x_155_20, x_155_22, x_155_23, x_155_24, x_155_26, x_155_27, x_155_28, x_155_29, Nat.reduceAdd]
      rfl
theorem w_161 {d : Nat} {a b c : Int32} {h H : mH} {r : Int32 ⊕ Nat} (hk : kS h) (ho : OUT H) (hr : ∀ x, r = .inr x → x = 2 ∨ x = 1) (e0 : mCall d 160 [.ref 200, .int a, .int b, .int c] h = some (rv r, H)) : mCall (d + 1) 161 [.ref 200, .int a, .int b, .int c, .ref 360] h = some (.inl (some (.int (cdm mmI r))), wH r H) := by
  have hR : mRcv 160 h (some (.ref 200)) = true := e_rcv (by decide +kernel) (by decide) (ki_200 hk)
  have st : mCall (d + 1) 161 [.ref 200, .int a, .int b, .int c, .ref 360] h = mExec (mCall d) 161 7 [some (.ref 200), some (.int a), some (.int b), some (.int c), some (.ref 360), none] [.int c, .int b, .int a, .ref 200, .int 0, .ref 360] h := by
    simp only [c_161, x_161_0, x_161_2, x_161_3, x_161_4, x_161_5, x_161_6]
  rw [st, mExec_step]
  have ho1 := ho.1
  have ho2 := out_j ho
  cases r with
  | inl v =>
    rw [e_try (lo := [some (.ref 200), some (.int a), some (.int b), some (.int c), some (.ref 360), none]) (st0 := [.int c, .int b, .int a, .ref 200, .int 0, .ref 360]) (as := [.ref 200, .int a, .int b, .int c]) (st := [.int 0, .ref 360]) (hi := show mIns 161 7 = some (.invokevirtual 41, 3, [0, 160, 3, 1249, 0]) by decide +kernel) ⟨_, rfl⟩ rfl rfl (Nat.le_add_left _ _) sum_2 hR e0 mB_v]
    show mExec (mCall d) 161 (7 + 3) [some (.ref 200), some (.int a), some (.int b), some (.int c), some (.ref 360), none] [.int v, .int 0, .ref 360] H = _
    simp only [x_161_10, x_161_11, x_161_12, x_161_15, x_161_17, x_161_18, x_161_19, x_161_21, x_161_22, x_161_23, x_161_24, Nat.reduceAdd, ho1, ho2]
    rfl
  | inr x =>
    rcases hr x rfl with hx | hx
    · subst hx
      rw [e_try (lo := [some (.ref 200), some (.int a), some (.int b), some (.int c), some (.ref 360), none]) (st0 := [.int c, .int b, .int a, .ref 200, .int 0, .ref 360]) (as := [.ref 200, .int a, .int b, .int c]) (st := [.int 0, .ref 360]) (hi := show mIns 161 7 = some (.invokevirtual 41, 3, [0, 160, 3, 1249, 0]) by decide +kernel) ⟨_, rfl⟩ rfl rfl (Nat.le_add_left _ _) sum_2 hR e0 (mB_x (lo := [some (.ref 200), some (.int a), some (.int b), some (.int c), some (.ref 360), none]) (T := [[0, 12, 15, 2, 24, 1197], [0, 12, 19, 1, 19, 1170]]) (hp := 15) (by decide +kernel) (by decide) (by decide) (show mIns 161 15 = some (.astore 5, 2, []) by decide +kernel) (n' := 5) rfl (show 5 < 6 from by decide))]
      show mExec (mCall d) 161 (15 + 2) [none, none, none, none, none, none] [] H = _
      simp only [x_161_10, x_161_11, x_161_12, x_161_15, x_161_17, x_161_18, x_161_19, x_161_21, x_161_22, x_161_23, x_161_24, Nat.reduceAdd]
      rfl
    · subst hx
      rw [e_try (lo := [some (.ref 200), some (.int a), some (.int b), some (.int c), some (.ref 360), none]) (st0 := [.int c, .int b, .int a, .ref 200, .int 0, .ref 360]) (as := [.ref 200, .int a, .int b, .int c]) (st := [.int 0, .ref 360]) (hi := show mIns 161 7 = some (.invokevirtual 41, 3, [0, 160, 3, 1249, 0]) by decide +kernel) ⟨_, rfl⟩ rfl rfl (Nat.le_add_left _ _) sum_2 hR e0 (mB_x (lo := [some (.ref 200), some (.int a), some (.int b), some (.int c), some (.ref 360), none]) (T := [[0, 12, 15, 2, 24, 1197], [0, 12, 19, 1, 19, 1170]]) (hp := 19) (by decide +kernel) (by decide) (by decide) (show mIns 161 19 = some (.astore 5, 2, []) by decide +kernel) (n' := 5) rfl (show 5 < 6 from by decide))]
      show mExec (mCall d) 161 (19 + 2) [none, none, none, none, none, none] [] H = _
      simp only [x_161_10, x_161_11, x_161_12, x_161_15, x_161_17, x_161_18, x_161_19, x_161_21, x_161_22, x_161_23, x_161_24, Nat.reduceAdd]
      rfl
theorem w_165 {d : Nat} {a b c : Int32} {h H : mH} {r : Int32 ⊕ Nat} (hk : kS h) (ho : OUT H) (hr : ∀ x, r = .inr x → x = 1 ∨ x = 0) (e0 : mCall d 164 [.ref 200, .int a, .int b, .int c] h = some (rv r, H)) : mCall (d + 1) 165 [.ref 200, .int a, .int b, .int c, .ref 360] h = some (.inl (some (.int (cdm mmC r))), wH r H) := by
  have hR : mRcv 164 h (some (.ref 200)) = true := e_rcv (by decide +kernel) (by decide) (ki_200 hk)
  have st : mCall (d + 1) 165 [.ref 200, .int a, .int b, .int c, .ref 360] h = mExec (mCall d) 165 7 [some (.ref 200), some (.int a), some (.int b), some (.int c), some (.ref 360), none] [.int c, .int b, .int a, .ref 200, .int 0, .ref 360] h := by
    simp only [c_165, x_165_0, x_165_2, x_165_3, x_165_4, x_165_5, x_165_6]
  rw [st, mExec_step]
  have ho1 := ho.1
  have ho2 := out_j ho
  cases r with
  | inl v =>
    rw [e_try (lo := [some (.ref 200), some (.int a), some (.int b), some (.int c), some (.ref 360), none]) (st0 := [.int c, .int b, .int a, .ref 200, .int 0, .ref 360]) (as := [.ref 200, .int a, .int b, .int c]) (st := [.int 0, .ref 360]) (hi := show mIns 165 7 = some (.invokevirtual 44, 3, [0, 164, 3, 1256, 0]) by decide +kernel) ⟨_, rfl⟩ rfl rfl (Nat.le_add_left _ _) sum_2 hR e0 mB_v]
    show mExec (mCall d) 165 (7 + 3) [some (.ref 200), some (.int a), some (.int b), some (.int c), some (.ref 360), none] [.int v, .int 0, .ref 360] H = _
    simp only [x_165_10, x_165_11, x_165_12, x_165_15, x_165_17, x_165_18, x_165_19, x_165_21, x_165_22, x_165_23, x_165_24, Nat.reduceAdd, ho1, ho2]
    rfl
  | inr x =>
    rcases hr x rfl with hx | hx
    · subst hx
      rw [e_try (lo := [some (.ref 200), some (.int a), some (.int b), some (.int c), some (.ref 360), none]) (st0 := [.int c, .int b, .int a, .ref 200, .int 0, .ref 360]) (as := [.ref 200, .int a, .int b, .int c]) (st := [.int 0, .ref 360]) (hi := show mIns 165 7 = some (.invokevirtual 44, 3, [0, 164, 3, 1256, 0]) by decide +kernel) ⟨_, rfl⟩ rfl rfl (Nat.le_add_left _ _) sum_2 hR e0 (mB_x (lo := [some (.ref 200), some (.int a), some (.int b), some (.int c), some (.ref 360), none]) (T := [[0, 12, 15, 1, 19, 1170], [0, 12, 19, 0, 13, 1141]]) (hp := 15) (by decide +kernel) (by decide) (by decide) (show mIns 165 15 = some (.astore 5, 2, []) by decide +kernel) (n' := 5) rfl (show 5 < 6 from by decide))]
      show mExec (mCall d) 165 (15 + 2) [none, none, none, none, none, none] [] H = _
      simp only [x_165_10, x_165_11, x_165_12, x_165_15, x_165_17, x_165_18, x_165_19, x_165_21, x_165_22, x_165_23, x_165_24, Nat.reduceAdd]
      rfl
    · subst hx
      rw [e_try (lo := [some (.ref 200), some (.int a), some (.int b), some (.int c), some (.ref 360), none]) (st0 := [.int c, .int b, .int a, .ref 200, .int 0, .ref 360]) (as := [.ref 200, .int a, .int b, .int c]) (st := [.int 0, .ref 360]) (hi := show mIns 165 7 = some (.invokevirtual 44, 3, [0, 164, 3, 1256, 0]) by decide +kernel) ⟨_, rfl⟩ rfl rfl (Nat.le_add_left _ _) sum_2 hR e0 (mB_x (lo := [some (.ref 200), some (.int a), some (.int b), some (.int c), some (.ref 360), none]) (T := [[0, 12, 15, 1, 19, 1170], [0, 12, 19, 0, 13, 1141]]) (hp := 19) (by decide +kernel) (by decide) (by decide) (show mIns 165 19 = some (.astore 5, 2, []) by decide +kernel) (n' := 5) rfl (show 5 < 6 from by decide))]
      show mExec (mCall d) 165 (19 + 2) [none, none, none, none, none, none] [] H = _
      simp only [x_165_10, x_165_11, x_165_12, x_165_15, x_165_17, x_165_18, x_165_19, x_165_21, x_165_22, x_165_23, x_165_24, Nat.reduceAdd]
      rfl
theorem w_169 {d : Nat} {a b : Int32} {h H : mH} {r : Int32 ⊕ Nat} (hk : kS h) (ho : OUT H) (hr : ∀ x, r = .inr x → x = 2) (e0 : mCall d 168 [.ref 200, .int a, .int b] h = some (rv r, H)) : mCall (d + 1) 169 [.ref 200, .int a, .int b, .ref 360] h = some (.inl (some (.int (cdm (fun _ => 1) r))), wH r H) := by
  have hR : mRcv 168 h (some (.ref 200)) = true := e_rcv (by decide +kernel) (by decide) (ki_200 hk)
  have st : mCall (d + 1) 169 [.ref 200, .int a, .int b, .ref 360] h = mExec (mCall d) 169 5 [some (.ref 200), some (.int a), some (.int b), some (.ref 360), none] [.int b, .int a, .ref 200, .int 0, .ref 360] h := by
    simp only [c_169, x_169_0, x_169_1, x_169_2, x_169_3, x_169_4]
  rw [st, mExec_step]
  have ho1 := ho.1
  have ho2 := out_j ho
  cases r with
  | inl v =>
    rw [e_try (lo := [some (.ref 200), some (.int a), some (.int b), some (.ref 360), none]) (st0 := [.int b, .int a, .ref 200, .int 0, .ref 360]) (as := [.ref 200, .int a, .int b]) (st := [.int 0, .ref 360]) (hi := show mIns 169 5 = some (.invokevirtual 47, 3, [0, 168, 2, 1264, 0]) by decide +kernel) ⟨_, rfl⟩ rfl rfl (Nat.le_add_left _ _) sum_2 hR e0 mB_v]
    show mExec (mCall d) 169 (5 + 3) [some (.ref 200), some (.int a), some (.int b), some (.ref 360), none] [.int v, .int 0, .ref 360] H = _
    simp only [x_169_8, x_169_9, x_169_10, x_169_13, x_169_15, x_169_16, x_169_17, x_169_18, Nat.reduceAdd, ho1, ho2]
    rfl
  | inr x =>
    have hx := hr x rfl
    subst hx
    rw [e_try (lo := [some (.ref 200), some (.int a), some (.int b), some (.ref 360), none]) (st0 := [.int b, .int a, .ref 200, .int 0, .ref 360]) (as := [.ref 200, .int a, .int b]) (st := [.int 0, .ref 360]) (hi := show mIns 169 5 = some (.invokevirtual 47, 3, [0, 168, 2, 1264, 0]) by decide +kernel) ⟨_, rfl⟩ rfl rfl (Nat.le_add_left _ _) sum_2 hR e0 (mB_x (lo := [some (.ref 200), some (.int a), some (.int b), some (.ref 360), none]) (T := [[0, 10, 13, 2, 24, 1197]]) (hp := 13) (by decide +kernel) (by decide) (by decide) (show mIns 169 13 = some (.astore 4, 2, []) by decide +kernel) (n' := 4) rfl (show 4 < 5 from by decide))]
    show mExec (mCall d) 169 (13 + 2) [none, none, none, none, none] [] H = _
    simp only [x_169_8, x_169_9, x_169_10, x_169_13, x_169_15, x_169_16, x_169_17, x_169_18, Nat.reduceAdd]
    rfl
theorem w_197 {d : Nat} {a b c e f : Int32} {h H : mH} {r : Int32 ⊕ Nat} (hk : kS h) (ho : OUT H) (hr : ∀ x, r = .inr x → x = 2 ∨ x = 1) (e0 : mCall d 196 [.ref 200, .int a, .int b, .int c, .int e, .int f] h = some (rv r, H)) : mCall (d + 1) 197 [.ref 200, .int a, .int b, .int c, .int e, .int f, .ref 360] h = some (.inl (some (.int (cdm mmI r))), wH r H) := by
  have hR : mRcv 196 h (some (.ref 200)) = true := e_rcv (by decide +kernel) (by decide) (ki_200 hk)
  have st : mCall (d + 1) 197 [.ref 200, .int a, .int b, .int c, .int e, .int f, .ref 360] h = mExec (mCall d) 197 11 [some (.ref 200), some (.int a), some (.int b), some (.int c), some (.int e), some (.int f), some (.ref 360), none] [.int f, .int e, .int c, .int b, .int a, .ref 200, .int 0, .ref 360] h := by
    simp only [c_197, x_197_0, x_197_2, x_197_3, x_197_4, x_197_5, x_197_6, x_197_7, x_197_9]
  rw [st, mExec_step]
  have ho1 := ho.1
  have ho2 := out_j ho
  cases r with
  | inl v =>
    rw [e_try (lo := [some (.ref 200), some (.int a), some (.int b), some (.int c), some (.int e), some (.int f), some (.ref 360), none]) (st0 := [.int f, .int e, .int c, .int b, .int a, .ref 200, .int 0, .ref 360]) (as := [.ref 200, .int a, .int b, .int c, .int e, .int f]) (st := [.int 0, .ref 360]) (hi := show mIns 197 11 = some (.invokevirtual 50, 3, [0, 196, 5, 1268, 0]) by decide +kernel) ⟨_, rfl⟩ rfl rfl (Nat.le_add_left _ _) sum_2 hR e0 mB_v]
    show mExec (mCall d) 197 (11 + 3) [some (.ref 200), some (.int a), some (.int b), some (.int c), some (.int e), some (.int f), some (.ref 360), none] [.int v, .int 0, .ref 360] H = _
    simp only [x_197_14, x_197_15, x_197_16, x_197_19, x_197_21, x_197_22, x_197_23, x_197_25, x_197_26, x_197_27, x_197_28, Nat.reduceAdd, ho1, ho2]
    rfl
  | inr x =>
    rcases hr x rfl with hx | hx
    · subst hx
      rw [e_try (lo := [some (.ref 200), some (.int a), some (.int b), some (.int c), some (.int e), some (.int f), some (.ref 360), none]) (st0 := [.int f, .int e, .int c, .int b, .int a, .ref 200, .int 0, .ref 360]) (as := [.ref 200, .int a, .int b, .int c, .int e, .int f]) (st := [.int 0, .ref 360]) (hi := show mIns 197 11 = some (.invokevirtual 50, 3, [0, 196, 5, 1268, 0]) by decide +kernel) ⟨_, rfl⟩ rfl rfl (Nat.le_add_left _ _) sum_2 hR e0 (mB_x (lo := [some (.ref 200), some (.int a), some (.int b), some (.int c), some (.int e), some (.int f), some (.ref 360), none]) (T := [[0, 16, 19, 2, 24, 1197], [0, 16, 23, 1, 19, 1170]]) (hp := 19) (by decide +kernel) (by decide) (by decide) (show mIns 197 19 = some (.astore 7, 2, []) by decide +kernel) (n' := 7) rfl (show 7 < 8 from by decide))]
      show mExec (mCall d) 197 (19 + 2) [none, none, none, none, none, none, none, none] [] H = _
      simp only [x_197_14, x_197_15, x_197_16, x_197_19, x_197_21, x_197_22, x_197_23, x_197_25, x_197_26, x_197_27, x_197_28, Nat.reduceAdd]
      rfl
    · subst hx
      rw [e_try (lo := [some (.ref 200), some (.int a), some (.int b), some (.int c), some (.int e), some (.int f), some (.ref 360), none]) (st0 := [.int f, .int e, .int c, .int b, .int a, .ref 200, .int 0, .ref 360]) (as := [.ref 200, .int a, .int b, .int c, .int e, .int f]) (st := [.int 0, .ref 360]) (hi := show mIns 197 11 = some (.invokevirtual 50, 3, [0, 196, 5, 1268, 0]) by decide +kernel) ⟨_, rfl⟩ rfl rfl (Nat.le_add_left _ _) sum_2 hR e0 (mB_x (lo := [some (.ref 200), some (.int a), some (.int b), some (.int c), some (.int e), some (.int f), some (.ref 360), none]) (T := [[0, 16, 19, 2, 24, 1197], [0, 16, 23, 1, 19, 1170]]) (hp := 23) (by decide +kernel) (by decide) (by decide) (show mIns 197 23 = some (.astore 7, 2, []) by decide +kernel) (n' := 7) rfl (show 7 < 8 from by decide))]
      show mExec (mCall d) 197 (23 + 2) [none, none, none, none, none, none, none, none] [] H = _
      simp only [x_197_14, x_197_15, x_197_16, x_197_19, x_197_21, x_197_22, x_197_23, x_197_25, x_197_26, x_197_27, x_197_28, Nat.reduceAdd]
      rfl
theorem w_219 {d : Nat} {a : Int32} {h H : mH} {r : Int32 ⊕ Nat} (hk : kS h) (ho : OUT H) (hr : ∀ x, r = .inr x → x = 2 ∨ x = 0) (e0 : mCall d 218 [.ref 200, .int a] h = some (rv r, H)) : mCall (d + 1) 219 [.ref 200, .int a, .ref 360] h = some (.inl (some (.int (cdm mmC' r))), wH r H) := by
  have hR : mRcv 218 h (some (.ref 200)) = true := e_rcv (by decide +kernel) (by decide) (ki_200 hk)
  have st : mCall (d + 1) 219 [.ref 200, .int a, .ref 360] h = mExec (mCall d) 219 4 [some (.ref 200), some (.int a), some (.ref 360), none] [.int a, .ref 200, .int 0, .ref 360] h := by
    simp only [c_219, x_219_0, x_219_1, x_219_2, x_219_3]
  rw [st, mExec_step]
  have ho1 := ho.1
  have ho2 := out_j ho
  cases r with
  | inl v =>
    rw [e_try (lo := [some (.ref 200), some (.int a), some (.ref 360), none]) (st0 := [.int a, .ref 200, .int 0, .ref 360]) (as := [.ref 200, .int a]) (st := [.int 0, .ref 360]) (hi := show mIns 219 4 = some (.invokevirtual 53, 3, [0, 218, 1, 1390, 0]) by decide +kernel) ⟨_, rfl⟩ rfl rfl (Nat.le_add_left _ _) sum_2 hR e0 mB_v]
    show mExec (mCall d) 219 (4 + 3) [some (.ref 200), some (.int a), some (.ref 360), none] [.int v, .int 0, .ref 360] H = _
    simp only [x_219_7, x_219_8, x_219_9, x_219_12, x_219_13, x_219_14, x_219_15, x_219_16, x_219_17, x_219_18, x_219_19, Nat.reduceAdd, ho1, ho2]
    rfl
  | inr x =>
    rcases hr x rfl with hx | hx
    · subst hx
      rw [e_try (lo := [some (.ref 200), some (.int a), some (.ref 360), none]) (st0 := [.int a, .ref 200, .int 0, .ref 360]) (as := [.ref 200, .int a]) (st := [.int 0, .ref 360]) (hi := show mIns 219 4 = some (.invokevirtual 53, 3, [0, 218, 1, 1390, 0]) by decide +kernel) ⟨_, rfl⟩ rfl rfl (Nat.le_add_left _ _) sum_2 hR e0 (mB_x (lo := [some (.ref 200), some (.int a), some (.ref 360), none]) (T := [[0, 9, 12, 2, 24, 1197], [0, 9, 15, 0, 13, 1141]]) (hp := 12) (by decide +kernel) (by decide) (by decide) (show mIns 219 12 = some (.astore_n 3, 1, []) by decide +kernel) (n' := 3) rfl (show 3 < 4 from by decide))]
      show mExec (mCall d) 219 (12 + 1) [none, none, none, none] [] H = _
      simp only [x_219_7, x_219_8, x_219_9, x_219_12, x_219_13, x_219_14, x_219_15, x_219_16, x_219_17, x_219_18, x_219_19, Nat.reduceAdd]
      rfl
    · subst hx
      rw [e_try (lo := [some (.ref 200), some (.int a), some (.ref 360), none]) (st0 := [.int a, .ref 200, .int 0, .ref 360]) (as := [.ref 200, .int a]) (st := [.int 0, .ref 360]) (hi := show mIns 219 4 = some (.invokevirtual 53, 3, [0, 218, 1, 1390, 0]) by decide +kernel) ⟨_, rfl⟩ rfl rfl (Nat.le_add_left _ _) sum_2 hR e0 (mB_x (lo := [some (.ref 200), some (.int a), some (.ref 360), none]) (T := [[0, 9, 12, 2, 24, 1197], [0, 9, 15, 0, 13, 1141]]) (hp := 15) (by decide +kernel) (by decide) (by decide) (show mIns 219 15 = some (.astore_n 3, 1, []) by decide +kernel) (n' := 3) rfl (show 3 < 4 from by decide))]
      show mExec (mCall d) 219 (15 + 1) [none, none, none, none] [] H = _
      simp only [x_219_7, x_219_8, x_219_9, x_219_12, x_219_13, x_219_14, x_219_15, x_219_16, x_219_17, x_219_18, x_219_19, Nat.reduceAdd]
      rfl
theorem w_223 {d : Nat} {a b : Int32} {h H : mH} {r : Int32 ⊕ Nat} (hk : kS h) (ho : OUT H) (hr : ∀ x, r = .inr x → x = 2) (e0 : mCall d 222 [.ref 200, .int a, .int b] h = some (rv r, H)) : mCall (d + 1) 223 [.ref 200, .int a, .int b, .ref 360] h = some (.inl (some (.int (cdm (fun _ => 1) r))), wH r H) := by
  have hR : mRcv 222 h (some (.ref 200)) = true := e_rcv (by decide +kernel) (by decide) (ki_200 hk)
  have st : mCall (d + 1) 223 [.ref 200, .int a, .int b, .ref 360] h = mExec (mCall d) 223 5 [some (.ref 200), some (.int a), some (.int b), some (.ref 360), none] [.int b, .int a, .ref 200, .int 0, .ref 360] h := by
    simp only [c_223, x_223_0, x_223_1, x_223_2, x_223_3, x_223_4]
  rw [st, mExec_step]
  have ho1 := ho.1
  have ho2 := out_j ho
  cases r with
  | inl v =>
    rw [e_try (lo := [some (.ref 200), some (.int a), some (.int b), some (.ref 360), none]) (st0 := [.int b, .int a, .ref 200, .int 0, .ref 360]) (as := [.ref 200, .int a, .int b]) (st := [.int 0, .ref 360]) (hi := show mIns 223 5 = some (.invokevirtual 56, 3, [0, 222, 2, 1399, 0]) by decide +kernel) ⟨_, rfl⟩ rfl rfl (Nat.le_add_left _ _) sum_2 hR e0 mB_v]
    show mExec (mCall d) 223 (5 + 3) [some (.ref 200), some (.int a), some (.int b), some (.ref 360), none] [.int v, .int 0, .ref 360] H = _
    simp only [x_223_8, x_223_9, x_223_10, x_223_13, x_223_15, x_223_16, x_223_17, x_223_18, Nat.reduceAdd, ho1, ho2]
    rfl
  | inr x =>
    have hx := hr x rfl
    subst hx
    rw [e_try (lo := [some (.ref 200), some (.int a), some (.int b), some (.ref 360), none]) (st0 := [.int b, .int a, .ref 200, .int 0, .ref 360]) (as := [.ref 200, .int a, .int b]) (st := [.int 0, .ref 360]) (hi := show mIns 223 5 = some (.invokevirtual 56, 3, [0, 222, 2, 1399, 0]) by decide +kernel) ⟨_, rfl⟩ rfl rfl (Nat.le_add_left _ _) sum_2 hR e0 (mB_x (lo := [some (.ref 200), some (.int a), some (.int b), some (.ref 360), none]) (T := [[0, 10, 13, 2, 24, 1197]]) (hp := 13) (by decide +kernel) (by decide) (by decide) (show mIns 223 13 = some (.astore 4, 2, []) by decide +kernel) (n' := 4) rfl (show 4 < 5 from by decide))]
    show mExec (mCall d) 223 (13 + 2) [none, none, none, none, none] [] H = _
    simp only [x_223_8, x_223_9, x_223_10, x_223_13, x_223_15, x_223_16, x_223_17, x_223_18, Nat.reduceAdd]
    rfl
theorem w_226 {d : Nat} {a : Int32} {h H : mH} {r : Int32 ⊕ Nat} (hk : kS h) (ho : OUT H) (hr : ∀ x, r = .inr x → x = 2) (e0 : mCall d 225 [.ref 200, .int a] h = some (rv r, H)) : mCall (d + 1) 226 [.ref 200, .int a, .ref 360] h = some (.inl (some (.int (cdm (fun _ => 1) r))), wB r H) := by
  have hR : mRcv 225 h (some (.ref 200)) = true := e_rcv (by decide +kernel) (by decide) (ki_200 hk)
  have st : mCall (d + 1) 226 [.ref 200, .int a, .ref 360] h = mExec (mCall d) 226 4 [some (.ref 200), some (.int a), some (.ref 360), none] [.int a, .ref 200, .int 0, .ref 360] h := by
    simp only [c_226, x_226_0, x_226_1, x_226_2, x_226_3]
  rw [st, mExec_step]
  have ho1 := ho.1
  have ho2 := out_j ho
  cases r with
  | inl v =>
    rw [e_try (lo := [some (.ref 200), some (.int a), some (.ref 360), none]) (st0 := [.int a, .ref 200, .int 0, .ref 360]) (as := [.ref 200, .int a]) (st := [.int 0, .ref 360]) (hi := show mIns 226 4 = some (.invokevirtual 59, 3, [0, 225, 1, 1407, 0]) by decide +kernel) ⟨_, rfl⟩ rfl rfl (Nat.le_add_left _ _) sum_2 hR e0 mB_v]
    show mExec (mCall d) 226 (4 + 3) [some (.ref 200), some (.int a), some (.ref 360), none] [.int v, .int 0, .ref 360] H = _
    by_cases c : v = 0
    · have c1 := eq_true c
      simp only [c1, x_226_7, x_226_10, x_226_11, x_226_14, x_226_15, x_226_16, x_226_19, x_226_20, x_226_21, x_226_22, x_226_23, Nat.reduceAdd, ho1, ho2, if_true]
      show _ = (some ((.inl (some (.int 0)) : mR), mSL H 360 0 (if v = 0 then 0 else 1)) : Option mO)
      rw [if_pos c]
      rfl
    · have c1 := eq_false c
      simp only [c1, x_226_7, x_226_10, x_226_11, x_226_14, x_226_15, x_226_16, x_226_19, x_226_20, x_226_21, x_226_22, x_226_23, Nat.reduceAdd, ho1, ho2, if_false]
      show _ = (some ((.inl (some (.int 0)) : mR), mSL H 360 0 (if v = 0 then 0 else 1)) : Option mO)
      rw [if_neg c]
      rfl
  | inr x =>
    have hx := hr x rfl
    subst hx
    rw [e_try (lo := [some (.ref 200), some (.int a), some (.ref 360), none]) (st0 := [.int a, .ref 200, .int 0, .ref 360]) (as := [.ref 200, .int a]) (st := [.int 0, .ref 360]) (hi := show mIns 226 4 = some (.invokevirtual 59, 3, [0, 225, 1, 1407, 0]) by decide +kernel) ⟨_, rfl⟩ rfl rfl (Nat.le_add_left _ _) sum_2 hR e0 (mB_x (lo := [some (.ref 200), some (.int a), some (.ref 360), none]) (T := [[0, 16, 19, 2, 24, 1197]]) (hp := 19) (by decide +kernel) (by decide) (by decide) (show mIns 226 19 = some (.astore_n 3, 1, []) by decide +kernel) (n' := 3) rfl (show 3 < 4 from by decide))]
    show mExec (mCall d) 226 (19 + 1) [none, none, none, none] [] H = _
    simp only [x_226_7, x_226_10, x_226_11, x_226_14, x_226_15, x_226_16, x_226_19, x_226_20, x_226_21, x_226_22, x_226_23, Nat.reduceAdd]
    rfl
theorem w_229 {d : Nat} {a b c e f : Int32} {h H : mH} {r : Int32 ⊕ Nat} (hk : kS h) (ho : OUT H) (hr : ∀ x, r = .inr x → x = 2 ∨ x = 1) (e0 : mCall d 228 [.ref 200, .int a, .int b, .int c, .int e, .int f] h = some (rv r, H)) : mCall (d + 1) 229 [.ref 200, .int a, .int b, .int c, .int e, .int f, .ref 360] h = some (.inl (some (.int (cdm mmI r))), wH r H) := by
  have hR : mRcv 228 h (some (.ref 200)) = true := e_rcv (by decide +kernel) (by decide) (ki_200 hk)
  have st : mCall (d + 1) 229 [.ref 200, .int a, .int b, .int c, .int e, .int f, .ref 360] h = mExec (mCall d) 229 11 [some (.ref 200), some (.int a), some (.int b), some (.int c), some (.int e), some (.int f), some (.ref 360), none] [.int f, .int e, .int c, .int b, .int a, .ref 200, .int 0, .ref 360] h := by
    simp only [c_229, x_229_0, x_229_2, x_229_3, x_229_4, x_229_5, x_229_6, x_229_7, x_229_9]
  rw [st, mExec_step]
  have ho1 := ho.1
  have ho2 := out_j ho
  cases r with
  | inl v =>
    rw [e_try (lo := [some (.ref 200), some (.int a), some (.int b), some (.int c), some (.int e), some (.int f), some (.ref 360), none]) (st0 := [.int f, .int e, .int c, .int b, .int a, .ref 200, .int 0, .ref 360]) (as := [.ref 200, .int a, .int b, .int c, .int e, .int f]) (st := [.int 0, .ref 360]) (hi := show mIns 229 11 = some (.invokevirtual 63, 3, [0, 228, 5, 1415, 0]) by decide +kernel) ⟨_, rfl⟩ rfl rfl (Nat.le_add_left _ _) sum_2 hR e0 mB_v]
    show mExec (mCall d) 229 (11 + 3) [some (.ref 200), some (.int a), some (.int b), some (.int c), some (.int e), some (.int f), some (.ref 360), none] [.int v, .int 0, .ref 360] H = _
    simp only [x_229_14, x_229_15, x_229_16, x_229_19, x_229_21, x_229_22, x_229_23, x_229_25, x_229_26, x_229_27, x_229_28, Nat.reduceAdd, ho1, ho2]
    rfl
  | inr x =>
    rcases hr x rfl with hx | hx
    · subst hx
      rw [e_try (lo := [some (.ref 200), some (.int a), some (.int b), some (.int c), some (.int e), some (.int f), some (.ref 360), none]) (st0 := [.int f, .int e, .int c, .int b, .int a, .ref 200, .int 0, .ref 360]) (as := [.ref 200, .int a, .int b, .int c, .int e, .int f]) (st := [.int 0, .ref 360]) (hi := show mIns 229 11 = some (.invokevirtual 63, 3, [0, 228, 5, 1415, 0]) by decide +kernel) ⟨_, rfl⟩ rfl rfl (Nat.le_add_left _ _) sum_2 hR e0 (mB_x (lo := [some (.ref 200), some (.int a), some (.int b), some (.int c), some (.int e), some (.int f), some (.ref 360), none]) (T := [[0, 16, 19, 2, 24, 1197], [0, 16, 23, 1, 19, 1170]]) (hp := 19) (by decide +kernel) (by decide) (by decide) (show mIns 229 19 = some (.astore 7, 2, []) by decide +kernel) (n' := 7) rfl (show 7 < 8 from by decide))]
      show mExec (mCall d) 229 (19 + 2) [none, none, none, none, none, none, none, none] [] H = _
      simp only [x_229_14, x_229_15, x_229_16, x_229_19, x_229_21, x_229_22, x_229_23, x_229_25, x_229_26, x_229_27, x_229_28, Nat.reduceAdd]
      rfl
    · subst hx
      rw [e_try (lo := [some (.ref 200), some (.int a), some (.int b), some (.int c), some (.int e), some (.int f), some (.ref 360), none]) (st0 := [.int f, .int e, .int c, .int b, .int a, .ref 200, .int 0, .ref 360]) (as := [.ref 200, .int a, .int b, .int c, .int e, .int f]) (st := [.int 0, .ref 360]) (hi := show mIns 229 11 = some (.invokevirtual 63, 3, [0, 228, 5, 1415, 0]) by decide +kernel) ⟨_, rfl⟩ rfl rfl (Nat.le_add_left _ _) sum_2 hR e0 (mB_x (lo := [some (.ref 200), some (.int a), some (.int b), some (.int c), some (.int e), some (.int f), some (.ref 360), none]) (T := [[0, 16, 19, 2, 24, 1197], [0, 16, 23, 1, 19, 1170]]) (hp := 23) (by decide +kernel) (by decide) (by decide) (show mIns 229 23 = some (.astore 7, 2, []) by decide +kernel) (n' := 7) rfl (show 7 < 8 from by decide))]
      show mExec (mCall d) 229 (23 + 2) [none, none, none, none, none, none, none, none] [] H = _
      simp only [x_229_14, x_229_15, x_229_16, x_229_19, x_229_21, x_229_22, x_229_23, x_229_25, x_229_26, x_229_27, x_229_28, Nat.reduceAdd]
      rfl
theorem w_232 {d : Nat} {a b c e f : Int32} {h H : mH} {r : Int32 ⊕ Nat} (hk : kS h) (ho : OUT H) (hr : ∀ x, r = .inr x → x = 2 ∨ x = 1) (e0 : mCall d 231 [.ref 200, .int a, .int b, .int c, .int e, .int f] h = some (rv r, H)) : mCall (d + 1) 232 [.ref 200, .int a, .int b, .int c, .int e, .int f, .ref 360] h = some (.inl (some (.int (cdm mmI r))), wH r H) := by
  have hR : mRcv 231 h (some (.ref 200)) = true := e_rcv (by decide +kernel) (by decide) (ki_200 hk)
  have st : mCall (d + 1) 232 [.ref 200, .int a, .int b, .int c, .int e, .int f, .ref 360] h = mExec (mCall d) 232 11 [some (.ref 200), some (.int a), some (.int b), some (.int c), some (.int e), some (.int f), some (.ref 360), none] [.int f, .int e, .int c, .int b, .int a, .ref 200, .int 0, .ref 360] h := by
    simp only [c_232, x_232_0, x_232_2, x_232_3, x_232_4, x_232_5, x_232_6, x_232_7, x_232_9]
  rw [st, mExec_step]
  have ho1 := ho.1
  have ho2 := out_j ho
  cases r with
  | inl v =>
    rw [e_try (lo := [some (.ref 200), some (.int a), some (.int b), some (.int c), some (.int e), some (.int f), some (.ref 360), none]) (st0 := [.int f, .int e, .int c, .int b, .int a, .ref 200, .int 0, .ref 360]) (as := [.ref 200, .int a, .int b, .int c, .int e, .int f]) (st := [.int 0, .ref 360]) (hi := show mIns 232 11 = some (.invokevirtual 66, 3, [0, 231, 5, 1422, 0]) by decide +kernel) ⟨_, rfl⟩ rfl rfl (Nat.le_add_left _ _) sum_2 hR e0 mB_v]
    show mExec (mCall d) 232 (11 + 3) [some (.ref 200), some (.int a), some (.int b), some (.int c), some (.int e), some (.int f), some (.ref 360), none] [.int v, .int 0, .ref 360] H = _
    simp only [x_232_14, x_232_15, x_232_16, x_232_19, x_232_21, x_232_22, x_232_23, x_232_25, x_232_26, x_232_27, x_232_28, Nat.reduceAdd, ho1, ho2]
    rfl
  | inr x =>
    rcases hr x rfl with hx | hx
    · subst hx
      rw [e_try (lo := [some (.ref 200), some (.int a), some (.int b), some (.int c), some (.int e), some (.int f), some (.ref 360), none]) (st0 := [.int f, .int e, .int c, .int b, .int a, .ref 200, .int 0, .ref 360]) (as := [.ref 200, .int a, .int b, .int c, .int e, .int f]) (st := [.int 0, .ref 360]) (hi := show mIns 232 11 = some (.invokevirtual 66, 3, [0, 231, 5, 1422, 0]) by decide +kernel) ⟨_, rfl⟩ rfl rfl (Nat.le_add_left _ _) sum_2 hR e0 (mB_x (lo := [some (.ref 200), some (.int a), some (.int b), some (.int c), some (.int e), some (.int f), some (.ref 360), none]) (T := [[0, 16, 19, 2, 24, 1197], [0, 16, 23, 1, 19, 1170]]) (hp := 19) (by decide +kernel) (by decide) (by decide) (show mIns 232 19 = some (.astore 7, 2, []) by decide +kernel) (n' := 7) rfl (show 7 < 8 from by decide))]
      show mExec (mCall d) 232 (19 + 2) [none, none, none, none, none, none, none, none] [] H = _
      simp only [x_232_14, x_232_15, x_232_16, x_232_19, x_232_21, x_232_22, x_232_23, x_232_25, x_232_26, x_232_27, x_232_28, Nat.reduceAdd]
      rfl
    · subst hx
      rw [e_try (lo := [some (.ref 200), some (.int a), some (.int b), some (.int c), some (.int e), some (.int f), some (.ref 360), none]) (st0 := [.int f, .int e, .int c, .int b, .int a, .ref 200, .int 0, .ref 360]) (as := [.ref 200, .int a, .int b, .int c, .int e, .int f]) (st := [.int 0, .ref 360]) (hi := show mIns 232 11 = some (.invokevirtual 66, 3, [0, 231, 5, 1422, 0]) by decide +kernel) ⟨_, rfl⟩ rfl rfl (Nat.le_add_left _ _) sum_2 hR e0 (mB_x (lo := [some (.ref 200), some (.int a), some (.int b), some (.int c), some (.int e), some (.int f), some (.ref 360), none]) (T := [[0, 16, 19, 2, 24, 1197], [0, 16, 23, 1, 19, 1170]]) (hp := 23) (by decide +kernel) (by decide) (by decide) (show mIns 232 23 = some (.astore 7, 2, []) by decide +kernel) (n' := 7) rfl (show 7 < 8 from by decide))]
      show mExec (mCall d) 232 (23 + 2) [none, none, none, none, none, none, none, none] [] H = _
      simp only [x_232_14, x_232_15, x_232_16, x_232_19, x_232_21, x_232_22, x_232_23, x_232_25, x_232_26, x_232_27, x_232_28, Nat.reduceAdd]
      rfl
theorem w_241 {d : Nat} {a b c e : Int32} {h H : mH} {r : Int32 ⊕ Nat} (hk : kS h) (ho : OUT H) (hr : ∀ x, r = .inr x → x = 2 ∨ x = 1) (e0 : mCall d 240 [.ref 200, .int a, .int b, .int c, .int e] h = some (rv r, H)) : mCall (d + 1) 241 [.ref 200, .int a, .int b, .int c, .int e, .ref 360] h = some (.inl (some (.int (cdm mmI r))), wH r H) := by
  have hR : mRcv 240 h (some (.ref 200)) = true := e_rcv (by decide +kernel) (by decide) (ki_200 hk)
  have st : mCall (d + 1) 241 [.ref 200, .int a, .int b, .int c, .int e, .ref 360] h = mExec (mCall d) 241 9 [some (.ref 200), some (.int a), some (.int b), some (.int c), some (.int e), some (.ref 360), none] [.int e, .int c, .int b, .int a, .ref 200, .int 0, .ref 360] h := by
    simp only [c_241, x_241_0, x_241_2, x_241_3, x_241_4, x_241_5, x_241_6, x_241_7]
  rw [st, mExec_step]
  have ho1 := ho.1
  have ho2 := out_j ho
  cases r with
  | inl v =>
    rw [e_try (lo := [some (.ref 200), some (.int a), some (.int b), some (.int c), some (.int e), some (.ref 360), none]) (st0 := [.int e, .int c, .int b, .int a, .ref 200, .int 0, .ref 360]) (as := [.ref 200, .int a, .int b, .int c, .int e]) (st := [.int 0, .ref 360]) (hi := show mIns 241 9 = some (.invokevirtual 69, 3, [0, 240, 4, 1429, 0]) by decide +kernel) ⟨_, rfl⟩ rfl rfl (Nat.le_add_left _ _) sum_2 hR e0 mB_v]
    show mExec (mCall d) 241 (9 + 3) [some (.ref 200), some (.int a), some (.int b), some (.int c), some (.int e), some (.ref 360), none] [.int v, .int 0, .ref 360] H = _
    simp only [x_241_12, x_241_13, x_241_14, x_241_17, x_241_19, x_241_20, x_241_21, x_241_23, x_241_24, x_241_25, x_241_26, Nat.reduceAdd, ho1, ho2]
    rfl
  | inr x =>
    rcases hr x rfl with hx | hx
    · subst hx
      rw [e_try (lo := [some (.ref 200), some (.int a), some (.int b), some (.int c), some (.int e), some (.ref 360), none]) (st0 := [.int e, .int c, .int b, .int a, .ref 200, .int 0, .ref 360]) (as := [.ref 200, .int a, .int b, .int c, .int e]) (st := [.int 0, .ref 360]) (hi := show mIns 241 9 = some (.invokevirtual 69, 3, [0, 240, 4, 1429, 0]) by decide +kernel) ⟨_, rfl⟩ rfl rfl (Nat.le_add_left _ _) sum_2 hR e0 (mB_x (lo := [some (.ref 200), some (.int a), some (.int b), some (.int c), some (.int e), some (.ref 360), none]) (T := [[0, 14, 17, 2, 24, 1197], [0, 14, 21, 1, 19, 1170]]) (hp := 17) (by decide +kernel) (by decide) (by decide) (show mIns 241 17 = some (.astore 6, 2, []) by decide +kernel) (n' := 6) rfl (show 6 < 7 from by decide))]
      show mExec (mCall d) 241 (17 + 2) [none, none, none, none, none, none, none] [] H = _
      simp only [x_241_12, x_241_13, x_241_14, x_241_17, x_241_19, x_241_20, x_241_21, x_241_23, x_241_24, x_241_25, x_241_26, Nat.reduceAdd]
      rfl
    · subst hx
      rw [e_try (lo := [some (.ref 200), some (.int a), some (.int b), some (.int c), some (.int e), some (.ref 360), none]) (st0 := [.int e, .int c, .int b, .int a, .ref 200, .int 0, .ref 360]) (as := [.ref 200, .int a, .int b, .int c, .int e]) (st := [.int 0, .ref 360]) (hi := show mIns 241 9 = some (.invokevirtual 69, 3, [0, 240, 4, 1429, 0]) by decide +kernel) ⟨_, rfl⟩ rfl rfl (Nat.le_add_left _ _) sum_2 hR e0 (mB_x (lo := [some (.ref 200), some (.int a), some (.int b), some (.int c), some (.int e), some (.ref 360), none]) (T := [[0, 14, 17, 2, 24, 1197], [0, 14, 21, 1, 19, 1170]]) (hp := 21) (by decide +kernel) (by decide) (by decide) (show mIns 241 21 = some (.astore 6, 2, []) by decide +kernel) (n' := 6) rfl (show 6 < 7 from by decide))]
      show mExec (mCall d) 241 (21 + 2) [none, none, none, none, none, none, none] [] H = _
      simp only [x_241_12, x_241_13, x_241_14, x_241_17, x_241_19, x_241_20, x_241_21, x_241_23, x_241_24, x_241_25, x_241_26, Nat.reduceAdd]
      rfl
theorem w_249 {d : Nat} {a : Int32} {h H : mH} {r : Int32 ⊕ Nat} (hk : kS h) (ho : OUT H) (hr : ∀ x, r = .inr x → x = 2) (e0 : mCall d 248 [.ref 200, .int a] h = some (rv r, H)) : mCall (d + 1) 249 [.ref 200, .int a, .ref 360] h = some (.inl (some (.int (cdm (fun _ => 1) r))), wH r H) := by
  have hR : mRcv 248 h (some (.ref 200)) = true := e_rcv (by decide +kernel) (by decide) (ki_200 hk)
  have st : mCall (d + 1) 249 [.ref 200, .int a, .ref 360] h = mExec (mCall d) 249 4 [some (.ref 200), some (.int a), some (.ref 360), none] [.int a, .ref 200, .int 0, .ref 360] h := by
    simp only [c_249, x_249_0, x_249_1, x_249_2, x_249_3]
  rw [st, mExec_step]
  have ho1 := ho.1
  have ho2 := out_j ho
  cases r with
  | inl v =>
    rw [e_try (lo := [some (.ref 200), some (.int a), some (.ref 360), none]) (st0 := [.int a, .ref 200, .int 0, .ref 360]) (as := [.ref 200, .int a]) (st := [.int 0, .ref 360]) (hi := show mIns 249 4 = some (.invokevirtual 73, 3, [0, 248, 1, 1479, 0]) by decide +kernel) ⟨_, rfl⟩ rfl rfl (Nat.le_add_left _ _) sum_2 hR e0 mB_v]
    show mExec (mCall d) 249 (4 + 3) [some (.ref 200), some (.int a), some (.ref 360), none] [.int v, .int 0, .ref 360] H = _
    simp only [x_249_7, x_249_8, x_249_9, x_249_12, x_249_13, x_249_14, x_249_15, x_249_16, Nat.reduceAdd, ho1, ho2]
    rfl
  | inr x =>
    have hx := hr x rfl
    subst hx
    rw [e_try (lo := [some (.ref 200), some (.int a), some (.ref 360), none]) (st0 := [.int a, .ref 200, .int 0, .ref 360]) (as := [.ref 200, .int a]) (st := [.int 0, .ref 360]) (hi := show mIns 249 4 = some (.invokevirtual 73, 3, [0, 248, 1, 1479, 0]) by decide +kernel) ⟨_, rfl⟩ rfl rfl (Nat.le_add_left _ _) sum_2 hR e0 (mB_x (lo := [some (.ref 200), some (.int a), some (.ref 360), none]) (T := [[0, 9, 12, 2, 24, 1197]]) (hp := 12) (by decide +kernel) (by decide) (by decide) (show mIns 249 12 = some (.astore_n 3, 1, []) by decide +kernel) (n' := 3) rfl (show 3 < 4 from by decide))]
    show mExec (mCall d) 249 (12 + 1) [none, none, none, none] [] H = _
    simp only [x_249_7, x_249_8, x_249_9, x_249_12, x_249_13, x_249_14, x_249_15, x_249_16, Nat.reduceAdd]
    rfl
theorem w_254 {d : Nat} {a b c e : Int32} {h H : mH} {r : Int32 ⊕ Nat} (hk : kS h) (ho : OUT H) (hr : ∀ x, r = .inr x → x = 2 ∨ x = 1 ∨ x = 0) (e0 : mCall d 253 [.ref 200, .int a, .int b, .int c, .int e] h = some (rv r, H)) : mCall (d + 1) 254 [.ref 200, .int a, .int b, .int c, .int e, .ref 360] h = some (.inl (some (.int (cdm mmI r))), wH r H) := by
  have hR : mRcv 253 h (some (.ref 200)) = true := e_rcv (by decide +kernel) (by decide) (ki_200 hk)
  have st : mCall (d + 1) 254 [.ref 200, .int a, .int b, .int c, .int e, .ref 360] h = mExec (mCall d) 254 9 [some (.ref 200), some (.int a), some (.int b), some (.int c), some (.int e), some (.ref 360), none] [.int e, .int c, .int b, .int a, .ref 200, .int 0, .ref 360] h := by
    simp only [c_254, x_254_0, x_254_2, x_254_3, x_254_4, x_254_5, x_254_6, x_254_7]
  rw [st, mExec_step]
  have ho1 := ho.1
  have ho2 := out_j ho
  cases r with
  | inl v =>
    rw [e_try (lo := [some (.ref 200), some (.int a), some (.int b), some (.int c), some (.int e), some (.ref 360), none]) (st0 := [.int e, .int c, .int b, .int a, .ref 200, .int 0, .ref 360]) (as := [.ref 200, .int a, .int b, .int c, .int e]) (st := [.int 0, .ref 360]) (hi := show mIns 254 9 = some (.invokevirtual 76, 3, [0, 253, 4, 1487, 0]) by decide +kernel) ⟨_, rfl⟩ rfl rfl (Nat.le_add_left _ _) sum_2 hR e0 mB_v]
    show mExec (mCall d) 254 (9 + 3) [some (.ref 200), some (.int a), some (.int b), some (.int c), some (.int e), some (.ref 360), none] [.int v, .int 0, .ref 360] H = _
    simp only [x_254_12, x_254_13, x_254_14, x_254_17, x_254_19, x_254_20, x_254_21, x_254_23, x_254_24, x_254_25, x_254_27, x_254_28, x_254_29, x_254_30, Nat.reduceAdd, ho1, ho2]
    rfl
  | inr x =>
    rcases hr x rfl with hx | hx | hx
    · subst hx
      rw [e_try (lo := [some (.ref 200), some (.int a), some (.int b), some (.int c), some (.int e), some (.ref 360), none]) (st0 := [.int e, .int c, .int b, .int a, .ref 200, .int 0, .ref 360]) (as := [.ref 200, .int a, .int b, .int c, .int e]) (st := [.int 0, .ref 360]) (hi := show mIns 254 9 = some (.invokevirtual 76, 3, [0, 253, 4, 1487, 0]) by decide +kernel) ⟨_, rfl⟩ rfl rfl (Nat.le_add_left _ _) sum_2 hR e0 (mB_x (lo := [some (.ref 200), some (.int a), some (.int b), some (.int c), some (.int e), some (.ref 360), none]) (T := [[0, 14, 17, 2, 24, 1197], [0, 14, 21, 1, 19, 1170], [0, 14, 25, 0, 13, 1141]]) (hp := 17) (by decide +kernel) (by decide) (by decide) (show mIns 254 17 = some (.astore 6, 2, []) by decide +kernel) (n' := 6) rfl (show 6 < 7 from by decide))]
      show mExec (mCall d) 254 (17 + 2) [none, none, none, none, none, none, none] [] H = _
      simp only [x_254_12, x_254_13, x_254_14, x_254_17, x_254_19, x_254_20, x_254_21, x_254_23, x_254_24, x_254_25, x_254_27, x_254_28, x_254_29, x_254_30, Nat.reduceAdd]
      rfl
    · subst hx
      rw [e_try (lo := [some (.ref 200), some (.int a), some (.int b), some (.int c), some (.int e), some (.ref 360), none]) (st0 := [.int e, .int c, .int b, .int a, .ref 200, .int 0, .ref 360]) (as := [.ref 200, .int a, .int b, .int c, .int e]) (st := [.int 0, .ref 360]) (hi := show mIns 254 9 = some (.invokevirtual 76, 3, [0, 253, 4, 1487, 0]) by decide +kernel) ⟨_, rfl⟩ rfl rfl (Nat.le_add_left _ _) sum_2 hR e0 (mB_x (lo := [some (.ref 200), some (.int a), some (.int b), some (.int c), some (.int e), some (.ref 360), none]) (T := [[0, 14, 17, 2, 24, 1197], [0, 14, 21, 1, 19, 1170], [0, 14, 25, 0, 13, 1141]]) (hp := 21) (by decide +kernel) (by decide) (by decide) (show mIns 254 21 = some (.astore 6, 2, []) by decide +kernel) (n' := 6) rfl (show 6 < 7 from by decide))]
      show mExec (mCall d) 254 (21 + 2) [none, none, none, none, none, none, none] [] H = _
      simp only [x_254_12, x_254_13, x_254_14, x_254_17, x_254_19, x_254_20, x_254_21, x_254_23, x_254_24, x_254_25, x_254_27, x_254_28, x_254_29, x_254_30, Nat.reduceAdd]
      rfl
    · subst hx
      rw [e_try (lo := [some (.ref 200), some (.int a), some (.int b), some (.int c), some (.int e), some (.ref 360), none]) (st0 := [.int e, .int c, .int b, .int a, .ref 200, .int 0, .ref 360]) (as := [.ref 200, .int a, .int b, .int c, .int e]) (st := [.int 0, .ref 360]) (hi := show mIns 254 9 = some (.invokevirtual 76, 3, [0, 253, 4, 1487, 0]) by decide +kernel) ⟨_, rfl⟩ rfl rfl (Nat.le_add_left _ _) sum_2 hR e0 (mB_x (lo := [some (.ref 200), some (.int a), some (.int b), some (.int c), some (.int e), some (.ref 360), none]) (T := [[0, 14, 17, 2, 24, 1197], [0, 14, 21, 1, 19, 1170], [0, 14, 25, 0, 13, 1141]]) (hp := 25) (by decide +kernel) (by decide) (by decide) (show mIns 254 25 = some (.astore 6, 2, []) by decide +kernel) (n' := 6) rfl (show 6 < 7 from by decide))]
      show mExec (mCall d) 254 (25 + 2) [none, none, none, none, none, none, none] [] H = _
      simp only [x_254_12, x_254_13, x_254_14, x_254_17, x_254_19, x_254_20, x_254_21, x_254_23, x_254_24, x_254_25, x_254_27, x_254_28, x_254_29, x_254_30, Nat.reduceAdd]
      rfl
