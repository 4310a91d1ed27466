/-! ONE INSTRUCTION OF THE SMALL MACHINE, OVER THE MACHINE: new cells, constants, branches -/
section MSIM4
variable {p : Program} {l : Launch} {e : Env} {R : Room} {s : State} {m : MethodId} {args : Array Value} {below : List Frame} {meth : Method} {c : Code} {H : Heap} {locs : List Loc} {cells slots : Nat} {Q : State → Prop} {ls : Array Slot} {cv : Nat → Value} {ad : Nat → Nat} {ca : Nat → ClassId} {tys : List (ClassId × FieldType)}
variable {D : va_G} {A : Nat → Prop} {mid c0 s0 n0 : Nat} {ad0 : Nat → Nat} {X : Nat × (Nat → Int32)} {h : mH} {lo : mLo} {st : List Value} {y : mY} {pc len : Nat}
theorem mI_new {kd : Nat × Nat} {sl b : Nat} (hb : b ≠ mN h) : mI (mNew h kd sl) b = mI h b := by
  funext j
  show (if b = mN h then (0 : Int32) else h.1 b j) = h.1 b j
  rw [if_neg hb]
theorem mL_new {kd : Nat × Nat} {sl b : Nat} (hb : b ≠ mN h) : mL (mNew h kd sl) b = mL h b := by
  funext j
  show (if b = mN h then (0 : Int64) else h.2.1 b j) = h.2.1 b j
  rw [if_neg hb]
theorem mV_new {kd : Nat × Nat} {sl b : Nat} (hb : b ≠ mN h) : mV (mNew h kd sl) b = mV h b := by
  funext j
  show (if b = mN h then Value.null else h.2.2.1 b j) = h.2.2.1 b j
  rw [if_neg hb]
theorem mK_new {kd : Nat × Nat} {sl b : Nat} (hb : b ≠ mN h) : mK (mNew h kd sl) b = mK h b := by
  show (if b = mN h then kd else h.2.2.2.1 b) = h.2.2.2.1 b
  rw [if_neg hb]
theorem mI_newS {kd : Nat × Nat} {sl : Nat} : mI (mNew h kd sl) (mN h) = fun _ => 0 := by
  funext j
  show (if mN h = mN h then (0 : Int32) else h.1 (mN h) j) = 0
  rw [if_pos rfl]
theorem mL_newS {kd : Nat × Nat} {sl : Nat} : mL (mNew h kd sl) (mN h) = fun _ => 0 := by
  funext j
  show (if mN h = mN h then (0 : Int64) else h.2.1 (mN h) j) = 0
  rw [if_pos rfl]
theorem mV_newS {kd : Nat × Nat} {sl : Nat} : mV (mNew h kd sl) (mN h) = fun _ => .null := by
  funext j
  show (if mN h = mN h then Value.null else h.2.2.1 (mN h) j) = .null
  rw [if_pos rfl]
theorem mK_newS {kd : Nat × Nat} {sl : Nat} : mK (mNew h kd sl) (mN h) = kd := by
  show (if mN h = mN h then kd else h.2.2.2.1 (mN h)) = kd
  rw [if_pos rfl]
/-- behind a new cell -/
theorem mAt.nw (h0 : mAt s D cv A mid c0 s0 n0 ad0 X lo st h H locs cells slots ls ad ca tys) {kd : Nat × Nat} {sl q : Nat} {cA : ClassId} {H1 : Heap} {st' : List Value} {tys' : List (ClassId × FieldType)} {ce : va_E}
    (hst : mSk (mN h) st')
    (hce : mCell cv (fun r => if r = mN h then q else ad r) (fun r => if r = mN h then cA else ca r) (mNew h kd sl) (mN h) = ce)
    (hty : (kd.1 = 100 → ∃ t : Nat, tys'[t]? = some (cA, .int)) ∧ (kd.1 = 101 → ∃ t : Nat, tys'[t]? = some (cA, .long))) (hsub : ∀ (t : Nat) (x : ClassId × FieldType), tys[t]? = some x → tys'[t]? = some x)
    (hK : va_K D vwCl tys' s) (hP : va_P D vwCl (mWs cv ad ca h ++ [(q, ce)]) H1) (hD : va_D A (mWs cv ad ca h ++ [(q, ce)])) (hS : va_S A s.heap H1 locs) :
    mAt s D cv A mid c0 s0 n0 ad0 X lo (.ref (mN h) :: st') (mNew h kd sl) H1 locs (cells + 1) (slots + sl) ls (fun r => if r = mN h then q else ad r) (fun r => if r = mN h then cA else ca r) tys' ∧
    (Value.ref (mN h) :: st').map (mF cv (fun r => if r = mN h then q else ad r)) = .ref q :: st'.map (mF cv ad) := by
  obtain ⟨-, -, -, -, a5, a6, a7, a8, a9, -, b1, b2, b3, b4⟩ := h0
  have had : ∀ r, r < mN h → (fun r => if r = mN h then q else ad r) r = ad r := fun r hr => if_neg (Nat.ne_of_lt hr)
  have hw : mWs cv (fun r => if r = mN h then q else ad r) (fun r => if r = mN h then cA else ca r) (mNew h kd sl) = mWs cv ad ca h ++ [(q, ce)] := by
    rw [mWs_push (cv := cv) (ad := ad) (ca := ca) (h := h) a8.1 rfl, hce]
    · rw [if_pos rfl]
    · intro b q1 q2
      have hb : b ≠ mN h := Nat.ne_of_lt q2
      refine ⟨if_neg hb, mCell_eq (mK_new hb) (mI_new hb) (mL_new hb) (fun k => ?_) (if_neg hb)⟩
      rw [mV_new hb]
      exact mF_up (a8.2 b k) had
  refine ⟨⟨hK, by rw [hw]; exact hP, by rw [hw]; exact hD, hS, ?_, ?_, a7, a8.new _ _, a9.up (Nat.le_succ _), mSk.cons (fun r hr => by cases hr; exact Nat.lt_succ_self _) (hst.up (Nat.le_succ _)), b1, ?_, ?_, ?_⟩, ?_⟩
  · intro a q1 q2
    by_cases ha : a = mN h
    · subst ha
      rw [mK_newS]
      dsimp only
      rw [if_pos rfl]
      exact hty
    · have q3 : a < mN h := by
        have : a < mN h + 1 := q2
        omega
      rw [mK_new ha]
      dsimp only
      rw [if_neg ha]
      obtain ⟨z1, z2⟩ := a5 a q1 q3
      exact ⟨fun z => by obtain ⟨t, ht⟩ := z1 z; exact ⟨t, hsub t _ ht⟩, fun z => by obtain ⟨t, ht⟩ := z2 z; exact ⟨t, hsub t _ ht⟩⟩
  · rw [mLs_up a9 had]
    exact a6
  · refine ⟨?_, Nat.le_succ_of_le b2.2⟩
    show cells + 1 = (mC h + 1) - c0
    have := b2.1
    have := b2.2
    omega
  · refine ⟨?_, Nat.le_trans b3.2 (Nat.le_add_right _ _)⟩
    show slots + sl = (mS h + sl) - s0
    have := b3.1
    have := b3.2
    omega
  · refine ⟨Nat.le_succ_of_le b4.1, fun r hr => ?_⟩
    dsimp only
    rw [if_neg (by have := b4.1; omega)]
    exact b4.2 r hr
  · rw [List.map_cons, mF_hi a8.1, mFs_up hst had, if_pos rfl]
theorem mNewa_sim (F : mFix p s m args meth c cv A mid X) (h0 : mAt s D cv A mid c0 s0 n0 ad0 X lo st h H locs cells slots ls ad ca tys) {t : ArrayType} {r : List Nat} (hok : mOkI mid pc (.newarray t) len r = true) (hy : mNewa pc len r lo st h = some y) (hk : mKt p l e R s m args below meth c Q D cv A mid c0 s0 n0 ad0 X y) :
    W p l e R s m args below meth c H locs cells slots Q (F0 m pc ls (st.map (mF cv ad))) := by
  have F' := F
  obtain ⟨hx, hb, hml, hown, hts, hlk, hrt, hnm, hA, hKF, hmid, htab⟩ := F'
  have h0' := h0
  obtain ⟨hK, hP, hD, hS, hT, hl, hlen, hiv, hvl, hvs, hX, hcc, hss, hnn⟩ := h0'
  obtain ⟨hd, hln⟩ := mOk_dec hok
  have hln2 : len = 2 := mLn_ok hln rfl (by decide)
  subst hln2
  unfold mOkI at hok
  rw [Bool.and_eq_true, Bool.and_eq_true] at hok
  have hok := hok.2
  unfold mNewa at hy
  split at hy
  · rename_i kd n st' _
    split at hy
    · rename_i hn
      cases hy
      obtain ⟨r1, r2, r3⟩ := hk
      have r1 : mC h + 1 - c0 ≤ R.cells := r1
      have r2 : mS h + n.toNatClampNeg - s0 ≤ R.slots := r2
      have q1 := hcc.1
      have q2 := hcc.2
      have q3 := hss.1
      have q4 := hss.2
      have hok' : ((decide (kd = 100) && decide (t = .int)) || (decide (kd = 101) && decide (t = .long))) = true := hok
      simp only [Bool.or_eq_true, Bool.and_eq_true, decide_eq_true_eq] at hok'
      rw [List.map_cons]
      rcases hok' with ⟨e1, e2⟩ | ⟨e1, e2⟩
      · subst e1; subst e2
        refine va_newa hx hb (atype := .int) (hts _ mArr_i) (ty := .int) rfl hK hP hD hS hA (N' := n.toNatClampNeg) (a0 := (n.toNatClampNeg, .inl (fun _ => 0))) (fun _ => rfl) hn.1 rfl (by show n.toNatClampNeg * 4 ≤ 536870912; have := hn.2; omega) (by omega) (by omega) hd (fun q cA H1 k1 k2 k3 k4 => ?_)
        obtain ⟨g1, g2⟩ := h0.nw (kd := (100, n.toNatClampNeg)) (sl := n.toNatClampNeg) (q := q) (cA := cA) (H1 := H1) (st' := st') (tys' := tys ++ [(cA, .int)]) (ce := .inl (cA, n.toNatClampNeg, .inl (fun _ => 0))) hvs.tl
          (by rw [mCell_int (by rw [mK_newS]), mK_newS, mI_newS]; dsimp only; rw [if_pos rfl])
          ⟨fun _ => ⟨tys.length, by rw [List.getElem?_append_right (Nat.le_refl _), Nat.sub_self]; rfl⟩, fun z => by cases z⟩ (fun t x ht => by rw [List.getElem?_append_left (List.getElem?_eq_some_iff.mp ht).1]; exact ht) k1 k2 k3 k4
        have g3 := r3 _ _ _ _ _ _ _ _ g1
        rw [g2] at g3
        exact g3
      · subst e1; subst e2
        refine va_newa hx hb (atype := .long) (hts _ mArr_l) (ty := .long) rfl hK hP hD hS hA (N' := n.toNatClampNeg) (a0 := (n.toNatClampNeg, .inr (.inl (fun _ => 0)))) (fun _ => rfl) hn.1 rfl (by show n.toNatClampNeg * 8 ≤ 536870912; have := hn.2; omega) (by omega) (by omega) hd (fun q cA H1 k1 k2 k3 k4 => ?_)
        obtain ⟨g1, g2⟩ := h0.nw (kd := (101, n.toNatClampNeg)) (sl := n.toNatClampNeg) (q := q) (cA := cA) (H1 := H1) (st' := st') (tys' := tys ++ [(cA, .long)]) (ce := .inl (cA, n.toNatClampNeg, .inr (.inl (fun _ => 0)))) hvs.tl
          (by rw [mCell_long (by rw [mK_newS]), mK_newS, mL_newS]; dsimp only; rw [if_pos rfl])
          ⟨fun z => by (have z : (101 : Nat) = 100 := z); omega, fun _ => ⟨tys.length, by rw [List.getElem?_append_right (Nat.le_refl _), Nat.sub_self]; rfl⟩⟩ (fun t x ht => by rw [List.getElem?_append_left (List.getElem?_eq_some_iff.mp ht).1]; exact ht) k1 k2 k3 k4
        have g3 := r3 _ _ _ _ _ _ _ _ g1
        rw [g2] at g3
        exact g3
    · cases hy
  · cases hy
theorem mNew_sim (F : mFix p s m args meth c cv A mid X) (h0 : mAt s D cv A mid c0 s0 n0 ad0 X lo st h H locs cells slots ls ad ca tys) {idx ci n pp pi pn : Nat} (hok : mOkI mid pc (.new idx) len [0, ci, n, pp, pi, pn] = true) (hy : mGo (pc + len) lo (.ref (mN h) :: st) (mNew h (ci, 0) n) = some y) (hk : mKt p l e R s m args below meth c Q D cv A mid c0 s0 n0 ad0 X y) :
    W p l e R s m args below meth c H locs cells slots Q (F0 m pc ls (st.map (mF cv ad))) := by
  have F' := F
  obtain ⟨hx, hb, hml, hown, hts, hlk, hrt, hnm, hA, hKF, hmid, htab⟩ := F'
  have h0' := h0
  obtain ⟨hK, hP, hD, hS, hT, hl, hlen, hiv, hvl, hvs, hX, hcc, hss, hnn⟩ := h0'
  obtain ⟨hd, hln⟩ := mOk_dec hok
  have hln3 : len = 3 := mLn_ok hln rfl (by decide)
  subst hln3
  unfold mOkI at hok
  rw [Bool.and_eq_true, Bool.and_eq_true] at hok
  have hok := hok.2
  have hok' : (match vwCl[ci]? with
    | none => false
    | some (C, _, N) => decide (N = n) && mW pp (.classLink (mNm mid).cls idx C) && mW pi (.instantiable C N) && mW pn (.initialized C) && decide (ci < 100)) = true := hok
  split at hok'
  · cases hok'
  · rename_i C T N hcl
    simp only [Bool.and_eq_true, decide_eq_true_eq] at hok'
    obtain ⟨⟨⟨⟨e1, w1⟩, w2⟩, w3⟩, hci⟩ := hok'
    subst e1
    cases hy
    obtain ⟨r1, r2, r3⟩ := hk
    have r1 : mC h + 1 - c0 ≤ R.cells := r1
    have r2 : mS h + N - s0 ≤ R.slots := r2
    have q1 := hcc.1
    have q2 := hcc.2
    have q3 := hss.1
    have q4 := hss.2
    obtain ⟨u0, u1, ty, u2, u3⟩ := mDef hcl
    refine va_new hx hb hts u1 ty u2 hown (hts _ (mW_in w1)) (hts _ (mW_in w2)) (hts _ (mW_in w3)) hK hP hD hS hA hcl (fs := mFd cv ad (mNew h (ci, 0) N) (mN h) ci) (fun j hj => ?_) (by omega) (by omega) hd (fun q H1 k2 k3 k4 => ?_)
    · rw [u3 j hj]
      unfold vp_V
      rw [List.getD_eq_getElem?_getD, mFd_at (by omega), mV_newS, mI_newS]
      dsimp only [Option.getD]
      split <;> rfl
    · obtain ⟨g1, g2⟩ := h0.nw (kd := (ci, 0)) (sl := N) (q := q) (cA := 0) (H1 := H1) (st' := st) (tys' := tys) (ce := .inr (ci, mFd cv ad (mNew h (ci, 0) N) (mN h) ci)) hvs
        (by
          rw [mCell_obj (by rw [mK_newS]) hci]
          unfold mFd
          rw [mV_newS]
          rfl)
        ⟨fun z => by (have z : ci = 100 := z); omega, fun z => by (have z : ci = 101 := z); omega⟩ (fun t x ht => ht) hK k2 k3 k4
      have g3 := r3 _ _ _ _ _ _ _ _ g1
      rw [g2] at g3
      exact g3
theorem mBr_sim (F : mFix p s m args meth c cv A mid X) (h0 : mAt s D cv A mid c0 s0 n0 ad0 X lo st h H locs cells slots ls ad ca tys) {off : Int} {st' : List Value} {b : Bool} (hs : mSk (mN h) st') (hy : mBr pc 3 off lo st' h b = some y) (hk : mKt p l e R s m args below meth c Q D cv A mid c0 s0 n0 ad0 X y) :
    ∃ t : Nat, (pc : Int) + off = (t : Int) ∧ (b = true → W p l e R s m args below meth c H locs cells slots Q (F0 m t ls (st'.map (mF cv ad)))) ∧ (¬ b = true → W p l e R s m args below meth c H locs cells slots Q (F0 m (pc + 3) ls (st'.map (mF cv ad)))) := by
  unfold mBr at hy
  split at hy
  · cases hy
  · rename_i t ht
    refine ⟨t, mTo_spec ht, fun hb => ?_, fun hb => ?_⟩
    · rw [if_pos hb] at hy
      exact mAt.go h0 hy hs hk
    · rw [if_neg hb] at hy
      exact mAt.go h0 hy hs hk
theorem mIf_sim (F : mFix p s m args meth c cv A mid X) (h0 : mAt s D cv A mid c0 s0 n0 ad0 X lo st h H locs cells slots ls ad ca tys) {cd : ClassFile.Cond} {off : Int} {r : List Nat} {x : Int32} {st' : List Value} (es : st = .int x :: st') (hok : mOkI mid pc (.ifCond cd off) len r = true) (hy : mBr pc len off lo st' h (mIf cd x 0) = some y) (hk : mKt p l e R s m args below meth c Q D cv A mid c0 s0 n0 ad0 X y) :
    W p l e R s m args below meth c H locs cells slots Q (F0 m pc ls (st.map (mF cv ad))) := by
  subst es
  obtain ⟨hx, hb, -⟩ := id F
  obtain ⟨hd, hln⟩ := mOk_dec hok
  have hln3 : len = 3 := mLn_ok hln rfl (by decide)
  subst hln3
  obtain ⟨t, ht, k1, k2⟩ := mBr_sim F h0 (h0.2.2.2.2.2.2.2.2.2.1).tl hy hk
  rw [List.map_cons]
  cases cd with
  | eq => exact lv_if_eq hx hb hd ht (fun z => k1 (decide_eq_true z)) (fun z => k2 (fun w => z (of_decide_eq_true w)))
  | ne => exact lv_if_ne hx hb hd ht (fun z => k1 (decide_eq_true z)) (fun z => k2 (fun w => (of_decide_eq_true (p := ¬ x = 0) w) z))
  | lt => exact lv_if_lt hx hb hd ht (fun z => k1 (decide_eq_true z)) (fun z => k2 (fun w => z (of_decide_eq_true w)))
  | ge => exact lv_if_ge hx hb hd ht (fun z => k1 (decide_eq_true z)) (fun z => k2 (fun w => z (of_decide_eq_true w)))
  | gt => exact lv_if_gt hx hb hd ht (fun z => k1 (decide_eq_true z)) (fun z => k2 (fun w => z (of_decide_eq_true w)))
  | le => exact lv_if_le hx hb hd ht (fun z => k1 (decide_eq_true z)) (fun z => k2 (fun w => z (of_decide_eq_true w)))
theorem mIcmp_sim (F : mFix p s m args meth c cv A mid X) (h0 : mAt s D cv A mid c0 s0 n0 ad0 X lo st h H locs cells slots ls ad ca tys) {cd : ClassFile.Cond} {off : Int} {r : List Nat} {x z9 : Int32} {st' : List Value} (es : st = .int z9 :: .int x :: st') (hok : mOkI mid pc (.if_icmp cd off) len r = true) (hy : mBr pc len off lo st' h (mIf cd x z9) = some y) (hk : mKt p l e R s m args below meth c Q D cv A mid c0 s0 n0 ad0 X y) :
    W p l e R s m args below meth c H locs cells slots Q (F0 m pc ls (st.map (mF cv ad))) := by
  subst es
  obtain ⟨hx, hb, -⟩ := id F
  obtain ⟨hd, hln⟩ := mOk_dec hok
  have hln3 : len = 3 := mLn_ok hln rfl (by decide)
  subst hln3
  obtain ⟨t, ht, k1, k2⟩ := mBr_sim F h0 (h0.2.2.2.2.2.2.2.2.2.1).tl.tl hy hk
  rw [List.map_cons, List.map_cons]
  cases cd with
  | eq => exact lv_icmp_eq hx hb hd ht (fun z => k1 (decide_eq_true z)) (fun z => k2 (fun w => z (of_decide_eq_true w)))
  | ne => exact lv_icmp_ne hx hb hd ht (fun z => k1 (decide_eq_true z)) (fun z => k2 (fun w => (of_decide_eq_true (p := ¬ x = z9) w) z))
  | lt => exact lv_icmp_lt hx hb hd ht (fun z => k1 (decide_eq_true z)) (fun z => k2 (fun w => z (of_decide_eq_true w)))
  | ge => exact lv_icmp_ge hx hb hd ht (fun z => k1 (decide_eq_true z)) (fun z => k2 (fun w => z (of_decide_eq_true w)))
  | gt => exact lv_icmp_gt hx hb hd ht (fun z => k1 (decide_eq_true z)) (fun z => k2 (fun w => z (of_decide_eq_true w)))
  | le => exact lv_icmp_le hx hb hd ht (fun z => k1 (decide_eq_true z)) (fun z => k2 (fun w => z (of_decide_eq_true w)))
theorem mSw_sim (F : mFix p s m args meth c cv A mid X) (h0 : mAt s D cv A mid c0 s0 n0 ad0 X lo st h H locs cells slots ls ad ca tys) {i : Instr} {r : List Nat} {x : Int32} {st' : List Value} (es : st = .int x :: st') (hok : mOkI mid pc i len r = true) (hy : ((mSw pc i x).bind fun t => mGo t lo st' h) = some y) (hk : mKt p l e R s m args below meth c Q D cv A mid c0 s0 n0 ad0 X y) :
    W p l e R s m args below meth c H locs cells slots Q (F0 m pc ls (st.map (mF cv ad))) := by
  subst es
  obtain ⟨hx, hb, -⟩ := id F
  obtain ⟨hd, hln⟩ := mOk_dec hok
  cases ht : mSw pc i x with
  | none => rw [ht] at hy; cases hy
  | some t =>
    rw [ht] at hy
    have hgo := mAt.go h0 hy (h0.2.2.2.2.2.2.2.2.2.1).tl hk
    rw [List.map_cons]
    unfold mSw at ht
    split at ht
    · split at ht
      · rename_i hc
        exact lv_tableOut hx hb hd hc (mTo_spec ht) hgo
      · rename_i d lo' hi offs hc
        cases ho : offs[(x.toInt - lo').toNat]? with
        | none => rw [ho] at ht; cases ht
        | some off =>
          rw [ho] at ht
          exact lv_tableIn hx hb hd (fun z => hc (Or.inl z)) (fun z => hc (Or.inr z)) ho (mTo_spec ht) hgo
    · split at ht
      · rename_i hc
        exact lv_lookup hx hb hd hc rfl (mTo_spec ht) hgo
      · cases ht
    · cases ht
theorem mInc_sim (F : mFix p s m args meth c cv A mid X) (h0 : mAt s D cv A mid c0 s0 n0 ad0 X lo st h H locs cells slots ls ad ca tys) {n : Nat} {d : Int} {r : List Nat} {x : Int32} (hg : mGet lo n = some (.int x)) (hok : mOkI mid pc (.iinc n d) len r = true) (hy : mGo (pc + len) (lo.set n (some (.int (x + Int32.ofInt d)))) st h = some y) (hk : mKt p l e R s m args below meth c Q D cv A mid c0 s0 n0 ad0 X y) :
    W p l e R s m args below meth c H locs cells slots Q (F0 m pc ls (st.map (mF cv ad))) := by
  have F' := F
  obtain ⟨hx, hb, hml, hown, hts, hlk, hrt, hnm, hA, hKF, hmid, htab⟩ := F'
  have h0' := h0
  obtain ⟨hK, hP, hD, hS, hT, hl, hlen, hiv, hvl, hvs, hX, hcc, hss, hnn⟩ := h0'
  obtain ⟨hd, hln⟩ := mOk_dec hok
  have hln3 : len = 3 ∨ len = 6 := by
    unfold mOkI at hok
    rw [Bool.and_eq_true] at hok
    have hok2 := hok.2
    cases r with
    | nil =>
      have hok3 : (decide (len = 3) || decide (len = 6)) = true := hok2
      rw [Bool.or_eq_true, decide_eq_true_eq, decide_eq_true_eq] at hok3
      exact hok3
    | cons a t => cases hok2
  cases hy
  have hn := mGet_lt hg
  obtain ⟨k, hk1⟩ := List.getElem?_of_mem (mLs_mem (F := mF cv ad) (lo := lo) (i := n) (w := .int x) |>.mpr ⟨.int x, hg, rfl⟩)
  rcases hln3 with hln3 | hln3 <;> subst hln3
  · refine lv_iinc hx hb hd hl hk1 rfl (by omega) rfl (fun ls' hl' => ?_)
    have hl2 := lv_less hl' (mLs_put1 (F := mF cv ad) (mF_cat hKF.1) (v := .int (x + Int32.ofInt d)) (by show ¬ (1 : Nat) = 2; decide) hn)
    refine hk.2.2 _ _ _ _ _ _ _ _ ⟨hK, hP, hD, hS, hT, hl2, by simpa using hlen, hiv, hvl.set (fun r z => by cases z), hvs, hX, hcc, hss, hnn⟩
  · refine lv_iincW hx hb hd hl hk1 rfl (by omega) rfl (fun ls' hl' => ?_)
    have hl2 := lv_less hl' (mLs_put1 (F := mF cv ad) (mF_cat hKF.1) (v := .int (x + Int32.ofInt d)) (by show ¬ (1 : Nat) = 2; decide) hn)
    refine hk.2.2 _ _ _ _ _ _ _ _ ⟨hK, hP, hD, hS, hT, hl2, by simpa using hlen, hiv, hvl.set (fun r z => by cases z), hvs, hX, hcc, hss, hnn⟩
end MSIM4
