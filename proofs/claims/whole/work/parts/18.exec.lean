/-! EQUATIONS OF mExec, AN INSTRUCTION AT A TIME -/
section MEX
variable {C : Nat → List Value → mH → Option mO} {mid pc len : Nat} {r : List Nat} {lo : mLo} {st : List Value} {h : mH}
theorem mExec_b {i : Instr} {pc' : Nat} {lo' : mLo} {st' : List Value} {h' : mH} (hi : mIns mid pc = some (i, len, r)) (hb : mBody C mid pc i len r lo st h = mGo pc' lo' st' h') : mExec C mid pc lo st h = mExec C mid pc' lo' st' h' := mExec_go ((mStep_at hi).trans hb)
theorem e_ld {i : Instr} {n so : Nat} {v : Value} (hi : mIns mid pc = some (i, len, r)) (hl : mLd i = some (n, so)) (hg : mGet lo n = some v) (hs : mSort v = so) : mExec C mid pc lo st h = mExec C mid (pc + len) lo (v :: st) h := by
  refine mExec_b hi ?_
  unfold mBody
  rw [hl]
  dsimp only
  rw [hg, Option.bind_some, if_pos hs]
theorem e_st {i : Instr} {n so : Nat} {v : Value} {lo' : mLo} (hi : mIns mid pc = some (i, len, r)) (h0 : mLd i = none) (hl : mSt i = some (n, so)) (hs : mSort v = so) (hp : mPut lo n v = some lo') : mExec C mid pc lo (v :: st) h = mExec C mid (pc + len) lo' st h := by
  refine mExec_b hi ?_
  unfold mBody
  rw [h0, hl]
  dsimp only
  rw [if_pos hs, hp, Option.bind_some]
theorem e_sk {i : Instr} {st' : List Value} (hi : mIns mid pc = some (i, len, r)) (h0 : mLd i = none) (hl : mSt i = none) (hs : mStk i st = some st') : mExec C mid pc lo st h = mExec C mid (pc + len) lo st' h := by
  refine mExec_b hi ?_
  unfold mBody
  rw [h0, hl, hs]
theorem e_hp {i : Instr} {pc' : Nat} {lo' : mLo} {st' : List Value} {h' : mH} (hi : mIns mid pc = some (i, len, r)) (h0 : mLd i = none) (hl : mSt i = none) (hs : mStk i st = none) (hp : mHp C mid pc i len r lo st h = mGo pc' lo' st' h') : mExec C mid pc lo st h = mExec C mid pc' lo' st' h' := by
  refine mExec_b hi ?_
  unfold mBody
  rw [h0, hl, hs]
  exact hp
theorem e_en {i : Instr} {q : mR} {h' : mH} (hi : mIns mid pc = some (i, len, r)) (h0 : mLd i = none) (hl : mSt i = none) (hs : mStk i st = none) (hp : mHp C mid pc i len r lo st h = mEnd q h') : mExec C mid pc lo st h = some (q, h') := by
  refine mExec_end ((mStep_at hi).trans ?_)
  unfold mBody
  rw [h0, hl, hs]
  exact hp
theorem e_if {cd : ClassFile.Cond} {off : Int} {t : Nat} {x : Int32} (hi : mIns mid pc = some (.ifCond cd off, 3, r)) (ht : mTo pc off = some t) : mExec C mid pc lo (.int x :: st) h = if mIf cd x 0 = true then mExec C mid t lo st h else mExec C mid (pc + 3) lo st h := by
  have hs : mStep C mid pc lo (.int x :: st) h = mBr pc 3 off lo st h (mIf cd x 0) := mStep_at hi
  rw [mExec_step, hs]
  unfold mBr
  rw [ht]
  by_cases hb : mIf cd x 0 = true
  · rw [if_pos hb]; dsimp only; rw [if_pos hb]; rfl
  · rw [if_neg hb]; dsimp only; rw [if_neg hb]; rfl
theorem e_ic {cd : ClassFile.Cond} {off : Int} {t : Nat} {x y : Int32} (hi : mIns mid pc = some (.if_icmp cd off, 3, r)) (ht : mTo pc off = some t) : mExec C mid pc lo (.int y :: .int x :: st) h = if mIf cd x y = true then mExec C mid t lo st h else mExec C mid (pc + 3) lo st h := by
  have hs : mStep C mid pc lo (.int y :: .int x :: st) h = mBr pc 3 off lo st h (mIf cd x y) := mStep_at hi
  rw [mExec_step, hs]
  unfold mBr
  rw [ht]
  by_cases hb : mIf cd x y = true
  · rw [if_pos hb]; dsimp only; rw [if_pos hb]; rfl
  · rw [if_neg hb]; dsimp only; rw [if_neg hb]; rfl
theorem f_eq {x y : Int32} {α : Type} {a b : α} : (if mIf .eq x y = true then a else b) = if x = y then a else b := by simp [mIf]
theorem f_ne {x y : Int32} {α : Type} {a b : α} : (if mIf .ne x y = true then a else b) = if x = y then b else a := by
  by_cases h : x = y <;> simp [mIf, h]
theorem f_lt {x y : Int32} {α : Type} {a b : α} : (if mIf .lt x y = true then a else b) = if x < y then a else b := by simp [mIf]
theorem f_ge {x y : Int32} {α : Type} {a b : α} : (if mIf .ge x y = true then a else b) = if y ≤ x then a else b := by simp [mIf]
theorem f_gt {x y : Int32} {α : Type} {a b : α} : (if mIf .gt x y = true then a else b) = if y < x then a else b := by simp [mIf]
theorem f_le {x y : Int32} {α : Type} {a b : α} : (if mIf .le x y = true then a else b) = if x ≤ y then a else b := by simp [mIf]
theorem e_go {off : Int} {t : Nat} (hi : mIns mid pc = some (.goto off, 3, r)) (ht : mTo pc off = some t) : mExec C mid pc lo st h = mExec C mid t lo st h := by
  refine e_hp hi rfl rfl rfl ?_
  show (mTo pc off).bind (fun t => mGo t lo st h) = _
  rw [ht]
  rfl
theorem e_gi {a ci k f p q idx : Nat} (hi : mIns mid pc = some (.getfield idx, 3, [0, ci, k, f, p, q])) (hf : mRf ci k = false) (hc : mIs h a ci = true) : mExec C mid pc lo (.ref a :: st) h = mExec C mid (pc + 3) lo (.int (mI h a k) :: st) h := by
  refine e_hp hi rfl rfl rfl ?_
  show (if mIs h a ci = true then mGo (pc + 3) lo ((if mRf ci k = true then mV h a k else .int (mI h a k)) :: st) h else none) = _
  rw [if_pos hc, hf]
  rfl
theorem e_gr {a ci k f p q idx : Nat} (hi : mIns mid pc = some (.getfield idx, 3, [0, ci, k, f, p, q])) (hf : mRf ci k = true) (hc : mIs h a ci = true) : mExec C mid pc lo (.ref a :: st) h = mExec C mid (pc + 3) lo (mV h a k :: st) h := by
  refine e_hp hi rfl rfl rfl ?_
  show (if mIs h a ci = true then mGo (pc + 3) lo ((if mRf ci k = true then mV h a k else .int (mI h a k)) :: st) h else none) = _
  rw [if_pos hc, hf]
  rfl
theorem e_gc {a key p idx : Nat} {v : Value} (hi : mIns mid pc = some (.getfield idx, 3, [1, key, p])) (hc : a < mNC) (hv : mCF a key = some v) : mExec C mid pc lo (.ref a :: st) h = mExec C mid (pc + 3) lo (v :: st) h := by
  refine e_hp hi rfl rfl rfl ?_
  show (if a < mNC then (mCF a key).bind (fun v => mGo (pc + 3) lo (v :: st) h) else none) = _
  rw [if_pos hc, hv]
  rfl
theorem e_pi {a ci k f z fin p q idx : Nat} {x : Int32} (hi : mIns mid pc = some (.putfield idx, 3, [ci, k, f, z, fin, p, q])) (hf : mRf ci k = false) (hc : mIs h a ci = true) (hz : z = 0 ∨ x = 0 ∨ x = 1) : mExec C mid pc lo (.int x :: .ref a :: st) h = mExec C mid (pc + 3) lo st (mSI h a k x) := by
  refine e_hp hi rfl rfl rfl ?_
  show (if mIs h a ci = true ∧ mRf ci k = false ∧ (z = 0 ∨ x = 0 ∨ x = 1) then mGo (pc + 3) lo st (mSI h a k x) else none) = _
  rw [if_pos ⟨hc, hf, hz⟩]
theorem e_pr {a ci k f z fin p q idx v : Nat} (hi : mIns mid pc = some (.putfield idx, 3, [ci, k, f, z, fin, p, q])) (hf : mRf ci k = true) (hc : mIs h a ci = true) : mExec C mid pc lo (.ref v :: .ref a :: st) h = mExec C mid (pc + 3) lo st (mSV h a k (.ref v)) := by
  refine e_hp hi rfl rfl rfl ?_
  show (if mIs h a ci = true ∧ mRf ci k = true then mGo (pc + 3) lo st (mSV h a k (.ref v)) else none) = _
  rw [if_pos ⟨hc, hf⟩]
theorem e_ia {a : Nat} {j : Int32} (hi : mIns mid pc = some (.iaload, 1, r)) (hc : mIs h a 100 = true) (hj : mIn j (mK h a).2 = true) : mExec C mid pc lo (.int j :: .ref a :: st) h = mExec C mid (pc + 1) lo (.int (mI h a j.toNatClampNeg) :: st) h := by
  refine e_hp hi rfl rfl rfl ?_
  show (if a < mNC then _ else if mIs h a 100 = true ∧ mIn j (mK h a).2 = true then mGo (pc + 1) lo (.int (mI h a j.toNatClampNeg) :: st) h else none) = _
  rw [if_neg (by have := (mIs_spec hc).1; omega), if_pos ⟨hc, hj⟩]
theorem e_la {a : Nat} {j : Int32} (hi : mIns mid pc = some (.laload, 1, r)) (hc : mIs h a 101 = true) (hj : mIn j (mK h a).2 = true) : mExec C mid pc lo (.int j :: .ref a :: st) h = mExec C mid (pc + 1) lo (.long (mL h a j.toNatClampNeg) :: st) h := by
  refine e_hp hi rfl rfl rfl ?_
  show (if mIs h a 101 = true ∧ mIn j (mK h a).2 = true then mGo (pc + 1) lo (.long (mL h a j.toNatClampNeg) :: st) h else none) = _
  rw [if_pos ⟨hc, hj⟩]
/-- a load out of a constant row -/
theorem e_ca {a : Nat} {j : Int32} {i : Instr} {q : FieldType × Nat × (Nat → Value)} {ty : FieldType} (hi : mIns mid pc = some (i, 1, r)) (ht : (i = .iaload ∧ ty = .int) ∨ (i = .baload ∧ ty = .byte) ∨ (i = .aaload ∧ ty = .object "java/lang/String")) (hc : a < mNC) (hq : mCA h a = some q) (hty : q.1 = ty) (hj : mIn j q.2.1 = true) : mExec C mid pc lo (.int j :: .ref a :: st) h = mExec C mid (pc + 1) lo (q.2.2 j.toNatClampNeg :: st) h := by
  rcases ht with ⟨rfl, rfl⟩ | ⟨rfl, rfl⟩ | ⟨rfl, rfl⟩
  · refine e_hp hi rfl rfl rfl ?_
    show (if a < mNC then (mCA h a).bind (fun q => if q.1 = .int ∧ mIn j q.2.1 = true then mGo (pc + 1) lo (q.2.2 j.toNatClampNeg :: st) h else none) else _) = _
    rw [if_pos hc, hq, Option.bind_some, if_pos ⟨hty, hj⟩]
  · refine e_hp hi rfl rfl rfl ?_
    show (if a < mNC then (mCA h a).bind (fun q => if q.1 = .byte ∧ mIn j q.2.1 = true then mGo (pc + 1) lo (q.2.2 j.toNatClampNeg :: st) h else none) else _) = _
    rw [if_pos hc, hq, Option.bind_some, if_pos ⟨hty, hj⟩]
  · refine e_hp hi rfl rfl rfl ?_
    show (if a < mNC then (mCA h a).bind (fun q => if q.1 = .object "java/lang/String" ∧ mIn j q.2.1 = true then mGo (pc + 1) lo (q.2.2 j.toNatClampNeg :: st) h else none) else _) = _
    rw [if_pos hc, hq, Option.bind_some, if_pos ⟨hty, hj⟩]
theorem e_is {a : Nat} {j x : Int32} (hi : mIns mid pc = some (.iastore, 1, r)) (hc : mIs h a 100 = true) (hj : mIn j (mK h a).2 = true) : mExec C mid pc lo (.int x :: .int j :: .ref a :: st) h = mExec C mid (pc + 1) lo st (mSI h a j.toNatClampNeg x) := by
  refine e_hp hi rfl rfl rfl ?_
  show (if mIs h a 100 = true ∧ mIn j (mK h a).2 = true then mGo (pc + 1) lo st (mSI h a j.toNatClampNeg x) else none) = _
  rw [if_pos ⟨hc, hj⟩]
theorem e_ls {a : Nat} {j : Int32} {x : Int64} (hi : mIns mid pc = some (.lastore, 1, r)) (hc : mIs h a 101 = true) (hj : mIn j (mK h a).2 = true) : mExec C mid pc lo (.long x :: .int j :: .ref a :: st) h = mExec C mid (pc + 1) lo st (mSL h a j.toNatClampNeg x) := by
  refine e_hp hi rfl rfl rfl ?_
  show (if mIs h a 101 = true ∧ mIn j (mK h a).2 = true then mGo (pc + 1) lo st (mSL h a j.toNatClampNeg x) else none) = _
  rw [if_pos ⟨hc, hj⟩]
theorem e_al {a : Nat} (hi : mIns mid pc = some (.arraylength, 1, r)) (hc : mIs h a 100 = true ∨ mIs h a 101 = true) : mExec C mid pc lo (.ref a :: st) h = mExec C mid (pc + 1) lo (.int (Int32.ofNat (mK h a).2) :: st) h := by
  refine e_hp hi rfl rfl rfl ?_
  show (if a < mNC then _ else if mIs h a 100 = true ∨ mIs h a 101 = true then mGo (pc + 1) lo (.int (Int32.ofNat (mK h a).2) :: st) h else none) = _
  rw [if_neg (by rcases hc with z | z <;> (have := (mIs_spec z).1; omega)), if_pos hc]
theorem e_cl {a : Nat} {q : FieldType × Nat × (Nat → Value)} (hi : mIns mid pc = some (.arraylength, 1, r)) (hc : a < mNC) (hq : mCA h a = some q) : mExec C mid pc lo (.ref a :: st) h = mExec C mid (pc + 1) lo (.int (Int32.ofNat q.2.1) :: st) h := by
  refine e_hp hi rfl rfl rfl ?_
  show (if a < mNC then (mCA h a).bind (fun q => mGo (pc + 1) lo (.int (Int32.ofNat q.2.1) :: st) h) else _) = _
  rw [if_pos hc, hq]
  rfl
theorem e_na {kd : Nat} {n : Int32} {t : ArrayType} (hi : mIns mid pc = some (.newarray t, 2, [kd])) (hn : ¬ n < 0 ∧ n.toNatClampNeg ≤ 65536) : mExec C mid pc lo (.int n :: st) h = mExec C mid (pc + 2) lo (.ref (mN h) :: st) (mNew h (kd, n.toNatClampNeg) n.toNatClampNeg) := by
  refine e_hp hi rfl rfl rfl ?_
  show (if ¬ n < 0 ∧ n.toNatClampNeg ≤ 65536 then mGo (pc + 2) lo (.ref (mN h) :: st) (mNew h (kd, n.toNatClampNeg) n.toNatClampNeg) else none) = _
  rw [if_pos hn]
/-- behind a call, in a method without handlers -/
noncomputable def mAft (C : Nat → List Value → mH → Option mO) (mid pc : Nat) (lo : mLo) (st : List Value) : mO → Option mO
  | (.inl none, h) => mExec C mid pc lo st h
  | (.inl (some v), h) => mExec C mid pc lo (v :: st) h
  | (.inr x, h) => some (.inr x, h)
theorem mAft_n {h : mH} : mAft C mid pc lo st (.inl none, h) = mExec C mid pc lo st h := rfl
theorem mAft_v {v : Value} {h : mH} : mAft C mid pc lo st (.inl (some v), h) = mExec C mid pc lo (v :: st) h := rfl
theorem mAft_x {x : Nat} {h : mH} : mAft C mid pc lo st (.inr x, h) = some (.inr x, h) := rfl
theorem mExec_cal {y m nest : Nat} {st0 : List Value} (hex : mEx.getD mid [] = []) (hs : mStep C mid pc lo st0 h = mCal C mid pc 3 y m nest lo st0 h) (hm : m ≤ st0.length ∧ mSum (st0.drop m) ≤ 8) (hn : nest = 0 ∨ ∀ o, C y (st0.take m).reverse h = some o → o.1.isLeft = true) :
    mExec C mid pc lo st0 h = (C y (st0.take m).reverse h).bind (mAft C mid (pc + 3) lo (st0.drop m)) := by
  rw [mExec_step, hs]
  unfold mCal
  rw [if_pos hm]
  cases hc : C y (st0.take m).reverse h with
  | none => rfl
  | some o =>
    simp only [Option.bind_some]
    have hl : nest = 0 ∨ o.1.isLeft = true := by
      rcases hn with z | z
      · exact Or.inl z
      · exact Or.inr (z o hc)
    rw [if_pos hl]
    obtain ⟨o1, h'⟩ := o
    cases o1 with
    | inl v => cases v <;> rfl
    | inr x =>
      unfold mBack
      dsimp only
      rw [hex]
      rfl
theorem mCall_eq {d : Nat} {args : List Value} (hm : mid < mNI) (hl : (mEnt args).length ≤ mMax mid) : mCall (d + 1) mid args h = mExec (mCall d) mid 0 (mEnt args ++ List.replicate (mMax mid - (mEnt args).length) none) [] h := by
  rw [mCall, if_pos ⟨hm, hl⟩]
theorem e_sw {i : Instr} {x : Int32} {t : Nat} (hs : mSw pc i x = some t) : ((mSw pc i x).bind fun t => mGo t lo st h) = mGo t lo st h := by rw [hs]; rfl
theorem e_ts {d lw hg : Int} {offs : Array Int} {x : Int32} {t : Nat} (hi : mIns mid pc = some (.tableswitch d lw hg offs, len, r)) (hs : mSw pc (.tableswitch d lw hg offs) x = some t) : mExec C mid pc lo (.int x :: st) h = mExec C mid t lo st h := e_hp hi rfl rfl rfl (e_sw hs)
theorem e_ls' {d : Int} {ps : Array (Int × Int)} {x : Int32} {t : Nat} (hi : mIns mid pc = some (.lookupswitch d ps, len, r)) (hs : mSw pc (.lookupswitch d ps) x = some t) : mExec C mid pc lo (.int x :: st) h = mExec C mid t lo st h := e_hp hi rfl rfl rfl (e_sw hs)
theorem e_std {d lw hg : Int} {offs : Array Int} {x : Int32} {t : Nat} (hx : x.toInt < lw ∨ hg < x.toInt) (ht : mTo pc d = some t) : mSw pc (.tableswitch d lw hg offs) x = some t := by
  show (if x.toInt < lw ∨ hg < x.toInt then mTo pc d else _) = _
  rw [if_pos hx, ht]
theorem e_sld {d : Int} {ps : Array (Int × Int)} {x : Int32} {t : Nat} (ho : (ps.toList.zip (ps.toList.drop 1)).all (fun (a, next) => a.1 < next.1) = true) (hx : ∀ p ∈ ps.toList, ¬ p.1 = x.toInt) (ht : mTo pc d = some t) : mSw pc (.lookupswitch d ps) x = some t := by
  have h2 : ∀ (l : List (Int × Int)), (∀ p ∈ l, ¬ p.1 = x.toInt) → Op.lookupswitch.offset l d x.toInt = d := by
    intro l
    induction l with
    | nil => intro _; rfl
    | cons p l ih =>
      intro hq
      obtain ⟨a, o⟩ := p
      rw [Op.lookupswitch.offset_cons, if_neg (hq (a, o) (List.mem_cons_self ..)), ih (fun p hp => hq p (List.mem_cons_of_mem _ hp))]
  show (if (ps.toList.zip (ps.toList.drop 1)).all (fun (a, next) => a.1 < next.1) = true then _ else _) = _
  rw [if_pos ho, h2 _ hx, ht]
theorem i_ne {x c : Int32} (h : ¬ x = c) : ¬ x.toInt = c.toInt := fun e => h (Int32.toInt_inj.1 e)
theorem e_rv (hm : mRetT mid = none) : mRtn mid .return_ [] h = mEnd (.inl none) h := if_pos hm
theorem e_ri {x : Int32} (hm : mRetT mid = some .int) : mRtn mid .ireturn [.int x] h = mEnd (.inl (some (.int x))) h := if_pos (Or.inl hm)
theorem e_rz {x : Int32} (hm : mRetT mid = some .boolean) (hx : x = 0 ∨ x = 1) : mRtn mid .ireturn [.int x] h = mEnd (.inl (some (.int x))) h := if_pos (Or.inr (Or.inl ⟨hm, hx⟩))
theorem e_rc {x : Int32} (hm : mRetT mid = some .char) (hx : narrow .char (.int x) = .int x) : mRtn mid .ireturn [.int x] h = mEnd (.inl (some (.int x))) h := if_pos (Or.inr (Or.inr (Or.inl ⟨hm, hx⟩)))
theorem e_rb {x : Int32} (hm : mRetT mid = some .byte) (hx : narrow .byte (.int x) = .int x) : mRtn mid .ireturn [.int x] h = mEnd (.inl (some (.int x))) h := if_pos (Or.inr (Or.inr (Or.inr ⟨hm, hx⟩)))
theorem e_rl {x : Int64} (hm : mRetT mid = some .long) : mRtn mid .lreturn [.long x] h = mEnd (.inl (some (.long x))) h := if_pos hm
theorem e_rd {x : UInt64} (hm : mRetT mid = some .double) : mRtn mid .dreturn [.double x] h = mEnd (.inl (some (.double x))) h := if_pos hm
theorem e_ra {a : Nat} (hm : mRetT mid = some (.array .int) ∨ mRetT mid = some (.object "MuseumGuide$Text")) : mRtn mid .areturn [.ref a] h = mEnd (.inl (some (.ref a))) h := if_pos hm
theorem e_c1 {idx y n p nest : Nat} {st0 as : List Value} (hi : mIns mid pc = some (.invokestatic idx, 3, [1, y, n, p, nest])) (hex : mEx.getD mid [] = []) (ha : (st0.take n).reverse = as) (hd : st0.drop n = st) (hl : n ≤ st0.length) (hs : mSum st ≤ 8) (hn : nest = 0 ∨ ∀ o, C y as h = some o → o.1.isLeft = true) : mExec C mid pc lo st0 h = (C y as h).bind (mAft C mid (pc + 3) lo st) := by
  have e : mStep C mid pc lo st0 h = mCal C mid pc 3 y n nest lo st0 h := mStep_at hi
  subst ha hd
  exact mExec_cal hex e ⟨hl, hs⟩ hn
theorem e_c0 {i : Instr} {y n p nest : Nat} {st0 as : List Value} (hi : mIns mid pc = some (i, 3, [0, y, n, p, nest])) (hv : (∃ idx, i = .invokevirtual idx) ∨ ∃ idx, i = .invokespecial idx) (hex : mEx.getD mid [] = []) (ha : (st0.take (n + 1)).reverse = as) (hd : st0.drop (n + 1) = st) (hl : n + 1 ≤ st0.length) (hs : mSum st ≤ 8) (hr : mRcv y h st0[n]? = true) (hn : nest = 0 ∨ ∀ o, C y as h = some o → o.1.isLeft = true) : mExec C mid pc lo st0 h = (C y as h).bind (mAft C mid (pc + 3) lo st) := by
  have e : mStep C mid pc lo st0 h = mCal C mid pc 3 y (n + 1) nest lo st0 h := by
    refine (mStep_at hi).trans ?_
    rcases hv with ⟨idx, rfl⟩ | ⟨idx, rfl⟩
    · show (if mRcv y h st0[n]? = true then mCal C mid pc 3 y (n + 1) nest lo st0 h else none) = _
      rw [if_pos hr]
    · show (if mRcv y h st0[n]? = true then mCal C mid pc 3 y (n + 1) nest lo st0 h else none) = _
      rw [if_pos hr]
  subst ha hd
  exact mExec_cal hex e ⟨hl, hs⟩ hn
theorem e_c2 {idx y n p nest : Nat} {st0 as : List Value} (hi : mIns mid pc = some (.invokespecial idx, 3, [2, y, n, p, nest])) (hex : mEx.getD mid [] = []) (ha : (st0.take (n + 1)).reverse = as) (hd : st0.drop (n + 1) = st) (hl : n + 1 ≤ st0.length) (hs : mSum st ≤ 8) (hr : mRcv y h st0[n]? = true) (hn : ∀ o, C y as h = some o → o.1.isLeft = true) : mExec C mid pc lo st0 h = (C y as h).bind (mAft C mid (pc + 3) lo st) := by
  have e : mStep C mid pc lo st0 h = mCal C mid pc 3 y (n + 1) 1 lo st0 h := by
    refine (mStep_at hi).trans ?_
    show (if mRcv y h st0[n]? = true then mCal C mid pc 3 y (n + 1) 1 lo st0 h else none) = _
    rw [if_pos hr]
  subst ha hd
  exact mExec_cal hex e ⟨hl, hs⟩ (Or.inr hn)
theorem e_rcv {y k a : Nat} (hy : mCo y = k) (hk : k < 100) (hr : mIs h a k = true) : mRcv y h (some (.ref a)) = true := by
  subst hy
  show ((decide (mCo y < 100) && mIs h a (mCo y)) || _) = true
  rw [hr, decide_eq_true hk]
  rfl
theorem r_v (hi : mIns mid pc = some (.return_, 1, r)) (hm : mRetT mid = none) : mExec C mid pc lo [] h = some (.inl none, h) := e_en hi rfl rfl rfl (e_rv hm)
theorem r_i {x : Int32} (hi : mIns mid pc = some (.ireturn, 1, r)) (hm : mRetT mid = some .int) : mExec C mid pc lo [.int x] h = some (.inl (some (.int x)), h) := e_en hi rfl rfl rfl (e_ri hm)
theorem r_z {x : Int32} (hi : mIns mid pc = some (.ireturn, 1, r)) (hm : mRetT mid = some .boolean) (hx : x = 0 ∨ x = 1) : mExec C mid pc lo [.int x] h = some (.inl (some (.int x)), h) := e_en hi rfl rfl rfl (e_rz hm hx)
theorem r_c {x : Int32} (hi : mIns mid pc = some (.ireturn, 1, r)) (hm : mRetT mid = some .char) (hx : narrow .char (.int x) = .int x) : mExec C mid pc lo [.int x] h = some (.inl (some (.int x)), h) := e_en hi rfl rfl rfl (e_rc hm hx)
theorem r_b {x : Int32} (hi : mIns mid pc = some (.ireturn, 1, r)) (hm : mRetT mid = some .byte) (hx : narrow .byte (.int x) = .int x) : mExec C mid pc lo [.int x] h = some (.inl (some (.int x)), h) := e_en hi rfl rfl rfl (e_rb hm hx)
theorem r_l {x : Int64} (hi : mIns mid pc = some (.lreturn, 1, r)) (hm : mRetT mid = some .long) : mExec C mid pc lo [.long x] h = some (.inl (some (.long x)), h) := e_en hi rfl rfl rfl (e_rl hm)
theorem r_d {x : UInt64} (hi : mIns mid pc = some (.dreturn, 1, r)) (hm : mRetT mid = some .double) : mExec C mid pc lo [.double x] h = some (.inl (some (.double x)), h) := e_en hi rfl rfl rfl (e_rd hm)
theorem r_a {a : Nat} (hi : mIns mid pc = some (.areturn, 1, r)) (hm : mRetT mid = some (.array .int) ∨ mRetT mid = some (.object "MuseumGuide$Text")) : mExec C mid pc lo [.ref a] h = some (.inl (some (.ref a)), h) := e_en hi rfl rfl rfl (e_ra hm)
theorem mCall_at {d n : Nat} {args : List Value} (hm : mid < mNI) (hx : mMax mid = n) (hl : (mEnt args).length ≤ n) : mCall (d + 1) mid args h = mExec (mCall d) mid 0 (mEnt args ++ List.replicate (n - (mEnt args).length) none) [] h := by
  subst hx; exact mCall_eq hm hl
end MEX
